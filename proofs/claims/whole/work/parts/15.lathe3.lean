/-! THE LATHE'S CALLS, second half: places, walls, the plate -/
/-- the first place from t on -/
def thT (b : Nat → Bool) : Nat → Nat → Option Nat
  | 0, _ => none
  | d + 1, t => if b t = true then some t else thT b d (t + 1)
def thK (b : Nat → Nat → Bool) : Nat → Nat → Option (Nat × Nat)
  | 0, _ => none
  | d + 1, k => match thT (b k) 48 0 with
    | some t => some (k, t)
    | none => thK b d (k + 1)
def mnT (w : Nat → Int32) : Nat → Nat → Int32 → Int32
  | 0, _, m => m
  | d + 1, t, m => mnT w d (t + 1) (if w t < m then w t else m)
def mnK (w : Nat → Nat → Int32) : Nat → Nat → Int32 → Int32
  | 0, _, m => m
  | d + 1, k, m => mnK w d (k + 1) (mnT (w k) 48 0 m)
/-- the rounds till 48 times so many are whole periods -/
def clo (pe : Nat) : Nat → Nat → Nat
  | 0, r => r
  | d + 1, r => if r * 48 % pe = 0 then r else clo pe d (r + 1)
/-- the wall between rings k and k + 1 -/
def wal (n : Nat) (l o s : Nat → Int32) (k t : Nat) : Int32 := plS n l o s (k + 1) (nI t) - plS n l o s k (nI t)
def ans (r : Option (Nat × Nat)) : Int32 := match r with
  | some (k, t) => nI (100 * k + t)
  | none => -4
noncomputable def resB (p : Prop) : Bool := @decide p (Classical.propDecidable p)
theorem resB_t {p : Prop} (h : p) : resB p = true := @decide_eq_true p (Classical.propDecidable p) h
theorem resB_f {p : Prop} (h : ¬ p) : resB p = false := @decide_eq_false p (Classical.propDecidable p) h
theorem resB_iff {p : Prop} : resB p = true ↔ p := ⟨fun h => Classical.byContradiction fun hn => Bool.false_ne_true ((resB_f hn).symm.trans h), resB_t⟩
theorem resB_c {p q : Prop} (h : p ↔ q) : resB p = resB q := by rw [propext h]
section LC3
variable {n : Nat → Nat} {l : Nat → Nat → Int32} {o s p : Nat → Int32} {sz : Nat} {f : ZH} {P : Option ZVal → Nat → ZH → Prop}
theorem c_place_bad {r x : Int32} (hC : CP f n l o s p) (hb : ¬ (inR r 0 11 ∧ inR x 0 10000)) (h : P (some (zi (-100000))) sz f) : Zv none 48 0 [some (zr 0), some (zi r), some (zi x)] [] sz f 0 0 P := by
  have hT := hC.1
  have hT0 := hT.1
  refine rX5_place_0 ?_
  refine rX5_place_1  ?_
  refine s_X5_isRing ?_
  refine rX5_place_4b (fun _ => ?_) (fun hc => ?_)
  · refine rX5_place_18 ?_
    refine rX5_place_20 ?_
    exact h
  · refine rX5_place_7 ?_
    refine rX5_place_8 ?_
    refine rX5_place_9 ?_
    refine rX5_place_12  ?_
    refine s_X5_within ?_
    refine rX5_place_15b (fun hbb => absurd hbb (fun z => hb ⟨hc, z⟩)) (fun _ => ?_)
    refine rX5_place_18 ?_
    refine rX5_place_20 ?_
    exact h
theorem c_place_ok {q r : Nat} {x : Int32} (hC : CP f n l o s p) (hI : Inv n l o s p) (hq : q < 4) (ho : o 0 = nI q) (hr : r < 12) (hx : inR x 0 10000) (h : P (some (zi (plS (n q) (l q) o s r x))) sz f) : Zv none 48 0 [some (zr 0), some (zi (nI r)), some (zi x)] [] sz f 0 0 P := by
  have hT := hC.1
  have hT0 := hT.1
  have hS := hC.2.2.1
  have hSl := hC.2.2.2.2.1
  have hRq := hC.2.1 q hq
  obtain ⟨hn, hn2⟩ := hI.1 q hq
  refine rX5_place_0 ?_
  refine rX5_place_1  ?_
  refine s_X5_isRing ?_
  refine rX5_place_4b (fun hbb => absurd ⟨nI_pos' (by omega), nI_le (b := 11) (by omega) (by decide)⟩ hbb) (fun _ => ?_)
  refine rX5_place_7 ?_
  refine rX5_place_8 ?_
  refine rX5_place_9 ?_
  refine rX5_place_12  ?_
  refine s_X5_within ?_
  refine rX5_place_15b (fun _ => ?_) (fun hbb => absurd hx hbb)
  refine rX5_place_21 ?_
  refine rX5_place_22 ?_
  refine rX5_place_23 ?_
  refine rX5_place_24 (by repeat first | assumption | exact zup_eq | refine (zup_ne (by first | decide | omega)).trans ?_) ?_
  refine s_X5_slippedPlace hT hS hSl hq ho hRq hn hn2 hr ?_
  refine rX5_place_27 ?_
  exact h
theorem zper_pos {n : Nat} {l : Nat → Int32} : ∀ (d t : Nat), 0 < t → 0 < n → t + d ≤ n → 0 < zper n l d t ∧ zper n l d t ≤ n
  | 0, t, h, hn, _ => ⟨hn, Nat.le_refl _⟩
  | d + 1, t, h, hn, hd => by
    rw [zper]
    split
    · exact ⟨h, by omega⟩
    · exact zper_pos d (t + 1) (by omega) hn (by omega)
theorem per_pos {n : Nat} {l : Nat → Int32} (hn : 0 < n) : 0 < per n l ∧ per n l ≤ n := zper_pos (n - 1) 1 (by decide) hn (by omega)
theorem c_closes {q : Nat} (hC : CP f n l o s p) (hI : Inv n l o s p) (hq : q < 4) (ho : o 0 = nI q) (h : P (some (zi (nI (clo (per (n q) (l q)) (per (n q) (l q) - 1) 1)))) sz f) : Zv none 49 0 [some (zr 0), none, none, none] [] sz f 0 0 P := by
  have hT := hC.1
  have hT0 := hT.1
  have hS := hC.2.2.1
  unfold isSet at hS
  have hRq := hC.2.1 q hq
  have hRq1 := hRq.1
  obtain ⟨hn, hn2⟩ := hI.1 q hq
  obtain ⟨hp0, hp1⟩ := per_pos (l := l q) hn
  refine rX5_closes_0 ?_
  refine rX5_closes_1 ?_
  refine rX5_closes_2 (by repeat first | assumption | exact zup_eq | refine (zup_ne (by first | decide | omega)).trans ?_) ?_
  refine rX5_closes_5 (by repeat first | assumption | exact zup_eq | refine (zup_ne (by first | decide | omega)).trans ?_) ?_
  rw [ho]
  refine rX5_closes_8 (by repeat first | assumption | exact zup_eq | refine (zup_ne (by first | decide | omega)).trans ?_) ?_
  first | refine s_X5_rosetteOf_in (by assumption) (by assumption) ?_ | refine s_X5_rosetteOf_out (by assumption) (by assumption) ?_
  first | refine rX5_closes_11 ?_ | refine rX5_closes_11n ?_
  first | refine rX5_closes_12 ?_ | refine rX5_closes_12n ?_
  first | refine rX5_closes_13 ?_ | refine rX5_closes_13n ?_
  first | refine rX5_closes_20 ?_ | refine rX5_closes_20n ?_
  refine rX5_closes_21 (by repeat first | assumption | exact zup_eq | refine (zup_ne (by first | decide | omega)).trans ?_) ?_
  refine s_X1_period (by assumption) (by assumption) (by assumption) ?_
  refine rX5_closes_24 ?_
  refine rX5_closes_25 ?_
  refine rX5_closes_26 ?_
  generalize hpe : per (n q) (l q) = pe at h hp0 hp1 ⊢
  have key : ∀ (d r : Nat), 0 < r → r + d = pe → P (some (zi (nI (clo pe d r)))) sz f → Zv none 49 27 [some (zr 0), some (zr (17 + 5 * q)), some (zi (nI pe)), some (zi (nI r))] [] sz f 0 0 P := by
    intro d
    induction d with
    | zero =>
      intro r hr hd h
      obtain rfl : r = pe := by omega
      rw [clo] at h
      refine rX5_closes_27 ?_
      refine rX5_closes_28 ?_
      refine rX5_closes_29 (fun _ => ?_) (fun hbb => absurd (nI_le (by omega) (by omega)) hbb)
      refine rX5_closes_49 ?_
      refine rX5_closes_50 ?_
      refine rX5_closes_51  ?_
      refine s_J9_max ?_
      rw [if_neg (show ¬ nI r < (1 : Int32) from nI_nlt (b := 1) (by omega) (by omega))]
      refine rX5_closes_54 ?_
      exact h
    | succ d ih =>
      intro r hr hd h
      have hy : ¬ nI pe = 0 := nI_ne hp0 (by omega)
      rw [clo] at h
      refine rX5_closes_27 ?_
      refine rX5_closes_28 ?_
      refine rX5_closes_29 (fun hbb => absurd hbb (nI_ge (by omega) (by omega))) (fun _ => ?_)
      refine rX5_closes_32 ?_
      refine rX5_closes_33 ?_
      refine rX5_closes_35 ?_
      rw [show nI r * 48 = nI (r * 48) from pk_mul r 48]
      refine rX5_closes_36 ?_
      refine rX5_closes_37 (by first | assumption | decide) ?_
      rw [pk_rem (by omega) hp0 (by omega)]
      by_cases hc : r * 48 % pe = 0
      · rw [if_pos hc] at h
        refine rX5_closes_38 (fun hbb => absurd (by rw [hc]; rfl) hbb) (fun _ => ?_)
        refine rX5_closes_41 ?_
        refine rX5_closes_42 ?_
        exact h
      · rw [if_neg hc] at h
        refine rX5_closes_38 (fun _ => ?_) (fun hbb => absurd hbb (nI_ne (by omega) (by have := Nat.mod_lt (r * 48) hp0; omega)))
        refine rX5_closes_43 ?_
        refine rX5_closes_46 ?_
        rw [nI_1]
        exact ih (r + 1) (by omega) (by omega) h
  exact key (pe - 1) 1 (by decide) (by omega) h
theorem c_thin_bad {x w : Int32} (hC : CP f n l o s p) (hb : ¬ (inR x 2 12 ∧ inR w (-1000) 1000)) (h : P (some (zi (-1))) sz f) : Zv none 50 0 [some (zr 0), some (zi x), some (zi w), none, none] [] sz f 0 0 P := by
  refine rX5_thin_0 ?_
  refine rX5_thin_1 ?_
  refine rX5_thin_2 ?_
  refine rX5_thin_4  ?_
  refine s_X5_within ?_
  refine rX5_thin_7b (fun _ => ?_) (fun hc => ?_)
  · refine rX5_thin_23 ?_
    refine rX5_thin_24 ?_
    exact h
  · refine rX5_thin_10 ?_
    refine rX5_thin_11 ?_
    refine rX5_thin_14 ?_
    refine rX5_thin_17  ?_
    refine s_X5_within ?_
    refine rX5_thin_20b (fun hbb => absurd hbb (fun z => hb ⟨hc, z⟩)) (fun _ => ?_)
    refine rX5_thin_23 ?_
    refine rX5_thin_24 ?_
    exact h
theorem c_thin_ok {q m : Nat} {w : Int32} (hC : CP f n l o s p) (hI : Inv n l o s p) (hq : q < 4) (ho : o 0 = nI q) (hm : 2 ≤ m) (hm2 : m ≤ 12) (hw : inR w (-1000) 1000) (h : P (some (zi (ans (thK (fun k t => decide (wal (n q) (l q) o s k t < w)) (m - 1) 0)))) sz f) : Zv none 50 0 [some (zr 0), some (zi (nI m)), some (zi w), none, none] [] sz f 0 0 P := by
  have hT := hC.1
  have hT0 := hT.1
  have hS := hC.2.2.1
  have hSl := hC.2.2.2.2.1
  have hRq := hC.2.1 q hq
  obtain ⟨hn, hn2⟩ := hI.1 q hq
  refine rX5_thin_0 ?_
  refine rX5_thin_1 ?_
  refine rX5_thin_2 ?_
  refine rX5_thin_4  ?_
  refine s_X5_within ?_
  refine rX5_thin_7b (fun hbb => absurd ⟨nI_le (a := 2) hm (by omega), nI_le (b := 12) hm2 (by decide)⟩ hbb) (fun _ => ?_)
  refine rX5_thin_10 ?_
  refine rX5_thin_11 ?_
  refine rX5_thin_14 ?_
  refine rX5_thin_17  ?_
  refine s_X5_within ?_
  refine rX5_thin_20b (fun _ => ?_) (fun hbb => absurd hw hbb)
  refine rX5_thin_25 ?_
  refine rX5_thin_26 ?_
  have inner : ∀ (d t k : Nat), t + d = 48 → k + 1 < 12 → (∀ t', thT (fun t => decide (wal (n q) (l q) o s k t < w)) d t = some t' → P (some (zi (nI (100 * k + t')))) sz f) → (thT (fun t => decide (wal (n q) (l q) o s k t < w)) d t = none → Zv none 50 69 [some (zr 0), some (zi (nI m)), some (zi w), some (zi (nI k)), some (zi (nI 48))] [] sz f 0 0 P) → Zv none 50 37 [some (zr 0), some (zi (nI m)), some (zi w), some (zi (nI k)), some (zi (nI t))] [] sz f 0 0 P := by
    intro d
    induction d with
    | zero =>
      intro t k ht hk h1 h2
      obtain rfl : t = 48 := by omega
      refine rX5_thin_37 ?_
      refine rX5_thin_39 ?_
      refine rX5_thin_41 (fun _ => ?_) (fun hbb => absurd (by decide) hbb)
      exact h2 rfl
    | succ d ih =>
      intro t k ht hk h1 h2
      rw [thT] at h1 h2
      refine rX5_thin_37 ?_
      refine rX5_thin_39 ?_
      refine rX5_thin_41 (fun hbb => absurd hbb (nI_ge (b := 48) (by omega) (by decide))) (fun _ => ?_)
      refine rX5_thin_44 ?_
      refine rX5_thin_45 ?_
      refine rX5_thin_46 ?_
      refine rX5_thin_48 (by repeat first | assumption | exact zup_eq | refine (zup_ne (by first | decide | omega)).trans ?_) ?_
      refine s_X5_wallAt hT hS hSl hq ho hRq hn hn2 hk ?_
      refine rX5_thin_51 ?_
      refine rX5_thin_52 (fun hb => ?_) (fun hb => ?_)
      · have hd : ¬ decide (wal (n q) (l q) o s k t < w) = true := fun z => absurd (of_decide_eq_true z) (Int32.not_lt.mpr hb)
        rw [if_neg hd] at h1 h2
        refine rX5_thin_63 ?_
        refine rX5_thin_66 ?_
        rw [nI_1]
        exact ih (t + 1) k (by omega) hk h1 h2
      · have hd : decide (wal (n q) (l q) o s k t < w) = true := decide_eq_true (Int32.not_le.mp hb)
        rw [if_pos hd] at h1
        refine rX5_thin_55 ?_
        refine rX5_thin_57 ?_
        refine rX5_thin_58 ?_
        refine rX5_thin_59 ?_
        refine rX5_thin_61 ?_
        rw [show (100 : Int32) * nI k + nI t = nI (100 * k + t) by rw [show (100 : Int32) = nI 100 from rfl, pk_mul, nI_add]]
        refine rX5_thin_62 ?_
        exact h1 t rfl
  have outer : ∀ (d k : Nat) (l4 : Option ZVal), k + d + 1 = m → P (some (zi (ans (thK (fun k t => decide (wal (n q) (l q) o s k t < w)) d k)))) sz f → Zv none 50 27 [some (zr 0), some (zi (nI m)), some (zi w), some (zi (nI k)), l4] [] sz f 0 0 P := by
    intro d
    induction d with
    | zero =>
      intro k l4 hk h
      refine rX5_thin_27 ?_
      refine rX5_thin_28 ?_
      refine rX5_thin_29 ?_
      refine rX5_thin_30 ?_
      rw [nI_1]
      refine rX5_thin_31 (fun _ => ?_) (fun hbb => absurd (nI_le (by omega) (by omega)) hbb)
      refine rX5_thin_75 ?_
      refine rX5_thin_77 ?_
      exact h
    | succ d ih =>
      intro k l4 hk h
      rw [thK] at h
      refine rX5_thin_27 ?_
      refine rX5_thin_28 ?_
      refine rX5_thin_29 ?_
      refine rX5_thin_30 ?_
      rw [nI_1]
      refine rX5_thin_31 (fun hbb => absurd hbb (nI_ge (by omega) (by omega))) (fun _ => ?_)
      refine rX5_thin_34 ?_
      refine rX5_thin_35 ?_
      refine inner 48 0 k rfl (by omega) (fun t' ht' => ?_) (fun hn' => ?_)
      · rw [ht'] at h
        exact h
      · rw [hn'] at h
        refine rX5_thin_69 ?_
        refine rX5_thin_72 ?_
        rw [nI_1]
        exact ih (k + 1) _ (by omega) h
  exact outer (m - 1) 0 none (by omega) h
theorem c_wall_bad {x : Int32} (hC : CP f n l o s p) (hb : ¬ inR x 2 12) (h : P (some (zi (-100000))) sz f) : Zv none 51 0 [some (zr 0), some (zi x), none, none, none] [] sz f 0 0 P := by
  refine rX5_wall_0 ?_
  refine rX5_wall_1 ?_
  refine rX5_wall_2 ?_
  refine rX5_wall_4  ?_
  refine s_X5_within ?_
  refine rX5_wall_7b (fun hbb => absurd hbb hb) (fun _ => ?_)
  refine rX5_wall_10 ?_
  refine rX5_wall_12 ?_
  exact h
theorem c_wall_ok {q m : Nat} (hC : CP f n l o s p) (hI : Inv n l o s p) (hq : q < 4) (ho : o 0 = nI q) (hm : 2 ≤ m) (hm2 : m ≤ 12) (h : P (some (zi (mnK (wal (n q) (l q) o s) (m - 1) 0 (wal (n q) (l q) o s 0 0)))) sz f) : Zv none 51 0 [some (zr 0), some (zi (nI m)), none, none, none] [] sz f 0 0 P := by
  have hT := hC.1
  have hT0 := hT.1
  have hS := hC.2.2.1
  have hSl := hC.2.2.2.2.1
  have hRq := hC.2.1 q hq
  obtain ⟨hn, hn2⟩ := hI.1 q hq
  refine rX5_wall_0 ?_
  refine rX5_wall_1 ?_
  refine rX5_wall_2 ?_
  refine rX5_wall_4  ?_
  refine s_X5_within ?_
  refine rX5_wall_7b (fun _ => ?_) (fun hbb => absurd ⟨nI_le (a := 2) hm (by omega), nI_le (b := 12) hm2 (by decide)⟩ hbb)
  refine rX5_wall_13 ?_
  refine rX5_wall_14 ?_
  refine rX5_wall_15 ?_
  refine rX5_wall_16 (by repeat first | assumption | exact zup_eq | refine (zup_ne (by first | decide | omega)).trans ?_) ?_
  refine s_X5_wallAt (r := 0) hT hS hSl hq ho hRq hn hn2 (by decide) ?_
  have inner : ∀ (d t k : Nat) (x : Int32), t + d = 48 → k + 1 < 12 → Zv none 51 57 [some (zr 0), some (zi (nI m)), some (zi (mnT (wal (n q) (l q) o s k) d t x)), some (zi (nI k)), some (zi (nI 48))] [] sz f 0 0 P → Zv none 51 32 [some (zr 0), some (zi (nI m)), some (zi x), some (zi (nI k)), some (zi (nI t))] [] sz f 0 0 P := by
    intro d
    induction d with
    | zero =>
      intro t k x ht hk h
      obtain rfl : t = 48 := by omega
      refine rX5_wall_32 ?_
      refine rX5_wall_34 ?_
      refine rX5_wall_36 (fun _ => ?_) (fun hbb => absurd (by decide) hbb)
      exact h
    | succ d ih =>
      intro t k x ht hk h
      rw [mnT] at h
      refine rX5_wall_32 ?_
      refine rX5_wall_34 ?_
      refine rX5_wall_36 (fun hbb => absurd hbb (nI_ge (b := 48) (by omega) (by decide))) (fun _ => ?_)
      refine rX5_wall_39 ?_
      refine rX5_wall_40 ?_
      refine rX5_wall_41 ?_
      refine rX5_wall_42 ?_
      refine rX5_wall_44 (by repeat first | assumption | exact zup_eq | refine (zup_ne (by first | decide | omega)).trans ?_) ?_
      refine s_X5_wallAt hT hS hSl hq ho hRq hn hn2 hk ?_
      refine rX5_wall_47  ?_
      refine s_J9_min ?_
      refine rX5_wall_50 ?_
      refine rX5_wall_51 ?_
      refine rX5_wall_54 ?_
      rw [nI_1]
      exact ih (t + 1) k _ (by omega) hk h
  have outer : ∀ (d k : Nat) (l4 : Option ZVal) (x : Int32), k + d + 1 = m → P (some (zi (mnK (wal (n q) (l q) o s) d k x))) sz f → Zv none 51 22 [some (zr 0), some (zi (nI m)), some (zi x), some (zi (nI k)), l4] [] sz f 0 0 P := by
    intro d
    induction d with
    | zero =>
      intro k l4 x hk h
      refine rX5_wall_22 ?_
      refine rX5_wall_23 ?_
      refine rX5_wall_24 ?_
      refine rX5_wall_25 ?_
      rw [nI_1]
      refine rX5_wall_26 (fun _ => ?_) (fun hbb => absurd (nI_le (by omega) (by omega)) hbb)
      refine rX5_wall_63 ?_
      refine rX5_wall_64 ?_
      exact h
    | succ d ih =>
      intro k l4 x hk h
      rw [mnK] at h
      refine rX5_wall_22 ?_
      refine rX5_wall_23 ?_
      refine rX5_wall_24 ?_
      refine rX5_wall_25 ?_
      rw [nI_1]
      refine rX5_wall_26 (fun hbb => absurd hbb (nI_ge (by omega) (by omega))) (fun _ => ?_)
      refine rX5_wall_29 ?_
      refine rX5_wall_30 ?_
      refine inner 48 0 k x rfl (by omega) ?_
      refine rX5_wall_57 ?_
      refine rX5_wall_60 ?_
      rw [nI_1]
      exact ih (k + 1) _ _ (by omega) h
  refine rX5_wall_19 ?_
  refine rX5_wall_20 ?_
  refine rX5_wall_21 ?_
  exact outer (m - 1) 0 none _ (by omega) h
theorem c_meets_bad {r x c w : Int32} (hC : CP f n l o s p) (hb : ¬ (inR r 0 11 ∧ inR x 0 10000 ∧ inR c 0 47 ∧ inR w 0 100)) (h : P (some (zi (-1))) sz f) : Zv none 52 0 [some (zr 0), some (zi r), some (zi x), some (zi c), some (zi w)] [] sz f 0 0 P := by
  refine rX5_meets_0 ?_
  refine rX5_meets_1  ?_
  refine s_X5_isRing ?_
  refine rX5_meets_4b (fun _ => ?_) (fun h1 => ?_)
  · refine rX5_meets_39 ?_
    refine rX5_meets_40 ?_
    exact h
  refine rX5_meets_7 ?_
  refine rX5_meets_8 ?_
  refine rX5_meets_9 ?_
  refine rX5_meets_12  ?_
  refine s_X5_within ?_
  refine rX5_meets_15b (fun _ => ?_) (fun h2 => ?_)
  · refine rX5_meets_39 ?_
    refine rX5_meets_40 ?_
    exact h
  refine rX5_meets_18 ?_
  refine rX5_meets_19 ?_
  refine rX5_meets_20 ?_
  refine rX5_meets_22  ?_
  refine s_X5_within ?_
  refine rX5_meets_25b (fun _ => ?_) (fun h3 => ?_)
  · refine rX5_meets_39 ?_
    refine rX5_meets_40 ?_
    exact h
  refine rX5_meets_28 ?_
  refine rX5_meets_30 ?_
  refine rX5_meets_31 ?_
  refine rX5_meets_33  ?_
  refine s_X5_within ?_
  refine rX5_meets_36b (fun hbb => absurd hbb (fun z => hb ⟨h1, h2, h3, z⟩)) (fun _ => ?_)
  refine rX5_meets_39 ?_
  refine rX5_meets_40 ?_
  exact h
def absI (x : Int32) : Int32 := if x < 0 then -x else x
theorem c_meets_ok {q r : Nat} {x c w : Int32} (hC : CP f n l o s p) (hI : Inv n l o s p) (hq : q < 4) (ho : o 0 = nI q) (hr : r < 12) (hx : inR x 0 10000) (hc : inR c 0 47) (hw : inR w 0 100) (h : P (some (zi (absI (plS (n q) (l q) o s r (x + c) - w - plS (n q) (l q) o s r x)))) sz f) : Zv none 52 0 [some (zr 0), some (zi (nI r)), some (zi x), some (zi c), some (zi w)] [] sz f 0 0 P := by
  have hT := hC.1
  have hT0 := hT.1
  have hS := hC.2.2.1
  have hSl := hC.2.2.2.2.1
  have hRq := hC.2.1 q hq
  obtain ⟨hn, hn2⟩ := hI.1 q hq
  refine rX5_meets_0 ?_
  refine rX5_meets_1  ?_
  refine s_X5_isRing ?_
  refine rX5_meets_4b (fun hbb => absurd ⟨nI_pos' (by omega), nI_le (b := 11) (by omega) (by decide)⟩ hbb) (fun _ => ?_)
  refine rX5_meets_7 ?_
  refine rX5_meets_8 ?_
  refine rX5_meets_9 ?_
  refine rX5_meets_12  ?_
  refine s_X5_within ?_
  refine rX5_meets_15b (fun hbb => absurd hx hbb) (fun _ => ?_)
  refine rX5_meets_18 ?_
  refine rX5_meets_19 ?_
  refine rX5_meets_20 ?_
  refine rX5_meets_22  ?_
  refine s_X5_within ?_
  refine rX5_meets_25b (fun hbb => absurd hc hbb) (fun _ => ?_)
  refine rX5_meets_28 ?_
  refine rX5_meets_30 ?_
  refine rX5_meets_31 ?_
  refine rX5_meets_33  ?_
  refine s_X5_within ?_
  refine rX5_meets_36b (fun _ => ?_) (fun hbb => absurd hw hbb)
  refine rX5_meets_41 ?_
  refine rX5_meets_42 ?_
  refine rX5_meets_43 ?_
  refine rX5_meets_44 ?_
  refine rX5_meets_45 ?_
  refine rX5_meets_46 (by repeat first | assumption | exact zup_eq | refine (zup_ne (by first | decide | omega)).trans ?_) ?_
  refine s_X5_slippedPlace hT hS hSl hq ho hRq hn hn2 hr ?_
  refine rX5_meets_49 ?_
  refine rX5_meets_51 ?_
  refine rX5_meets_52 ?_
  refine rX5_meets_53 ?_
  refine rX5_meets_54 ?_
  refine rX5_meets_55 (by repeat first | assumption | exact zup_eq | refine (zup_ne (by first | decide | omega)).trans ?_) ?_
  refine s_X5_slippedPlace hT hS hSl hq ho hRq hn hn2 hr ?_
  refine rX5_meets_58 ?_
  refine rX5_meets_59  ?_
  refine s_J9_abs ?_
  refine rX5_meets_62 ?_
  exact h
theorem c_overlaid_bad {x r ga ba st ph mo : Int32} (hC : CP f n l o s p) (hb : ¬ (inR x 1 12 ∧ okS n r ga ba st ph mo)) (h : P (some (zi (-1))) sz f) : Zv none 53 0 [some (zr 0), some (zi x), some (zi r), some (zi ga), some (zi ba), some (zi st), some (zi ph), some (zi mo), none, none, none] [] sz f 0 0 P := by
  have hT := hC.1
  have hT0 := hT.1
  refine rX5_overlaid_0 ?_
  refine rX5_overlaid_1 ?_
  refine rX5_overlaid_2 ?_
  refine rX5_overlaid_4  ?_
  refine s_X5_within ?_
  refine rX5_overlaid_7b (fun _ => ?_) (fun hc => ?_)
  · refine rX5_overlaid_27 ?_
    refine rX5_overlaid_28 ?_
    exact h
  · refine rX5_overlaid_10 ?_
    refine rX5_overlaid_11 ?_
    refine rX5_overlaid_12 ?_
    refine rX5_overlaid_13 ?_
    refine rX5_overlaid_15 ?_
    refine rX5_overlaid_17 ?_
    refine rX5_overlaid_19 ?_
    refine rX5_overlaid_21 (by repeat first | assumption | exact zup_eq | refine (zup_ne (by first | decide | omega)).trans ?_) ?_
    refine s_X5_mayBeSet hT hC.2.1 ?_
    refine rX5_overlaid_24b (fun hbb => absurd hbb (fun z => hb ⟨hc, z⟩)) (fun _ => ?_)
    refine rX5_overlaid_27 ?_
    refine rX5_overlaid_28 ?_
    exact h
/-- places alike without slips -/
def ovl (n1 : Nat) (l1 o1 : Nat → Int32) (n2 : Nat) (l2 o2 : Nat → Int32) (k t : Nat) : Bool := decide (plc n1 l1 o1 (nI k) (nI t) = plc n2 l2 o2 (nI k) (nI t))
theorem c_overlaid_ok {q q2 m : Nat} {ga ba st ph mo : Int32} (hC : CP f n l o s p) (hI : Inv n l o s p) (hq : q < 4) (ho : o 0 = nI q) (hq2 : q2 < 4) (hm : 1 ≤ m) (hm2 : m ≤ 12) (hok : okS n (nI q2) ga ba st ph mo) (h : ∀ f', CP f' n l o s p → hi f f' → P (some (zi (nI (sumN (fun k => cntB (ovl (n q) (l q) o (n q2) (l q2) (six (nI q2) ga ba st ph mo) k) 48) m)))) sz f') : Zv none 53 0 [some (zr 0), some (zi (nI m)), some (zi (nI q2)), some (zi ga), some (zi ba), some (zi st), some (zi ph), some (zi mo), none, none, none] [] sz f 0 0 P := by
  have hT := hC.1
  have hT0 := hT.1
  obtain ⟨oo, hS3⟩ := hC.2.2.2.1
  unfold isSet at hS3
  refine rX5_overlaid_0 ?_
  refine rX5_overlaid_1 ?_
  refine rX5_overlaid_2 ?_
  refine rX5_overlaid_4  ?_
  refine s_X5_within ?_
  refine rX5_overlaid_7b (fun hbb => absurd ⟨nI_le (a := 1) hm (by omega), nI_le (b := 12) hm2 (by decide)⟩ hbb) (fun _ => ?_)
  refine rX5_overlaid_10 ?_
  refine rX5_overlaid_11 ?_
  refine rX5_overlaid_12 ?_
  refine rX5_overlaid_13 ?_
  refine rX5_overlaid_15 ?_
  refine rX5_overlaid_17 ?_
  refine rX5_overlaid_19 ?_
  refine rX5_overlaid_21 (by repeat first | assumption | exact zup_eq | refine (zup_ne (by first | decide | omega)).trans ?_) ?_
  refine s_X5_mayBeSet hT hC.2.1 ?_
  refine rX5_overlaid_24b (fun _ => ?_) (fun hbb => absurd hok hbb)
  refine rX5_overlaid_29 ?_
  refine rX5_overlaid_30 (by repeat first | assumption | exact zup_eq | refine (zup_ne (by first | decide | omega)).trans ?_) ?_
  refine rX5_overlaid_33 ?_
  refine rX5_overlaid_34 ?_
  refine rX5_overlaid_35 ?_
  refine rX5_overlaid_37 ?_
  refine rX5_overlaid_39 ?_
  refine rX5_overlaid_41 ?_
  refine rX5_overlaid_43 (by repeat first | assumption | exact zup_eq | refine (zup_ne (by first | decide | omega)).trans ?_) ?_
  refine s_X4_become hS3 (fun f1 hS1 hf1 => ?_)
  have hS31 : isSet f1 3 (six (nI q2) ga ba st ph mo) := hS1
  have hC1 : CP f1 n l o s p := hC.other (fun j hj => hf1 j (by simpa using hj)) hS31
  have h := h f1 hC1 (fun j hj => hf1 j (by omega))
  have hT1 := hC1.1
  have hT10 := hT1.1
  have hS2 := hC1.2.2.1
  have hRq := hC1.2.1 q hq
  have hR2 := hC1.2.1 q2 hq2
  obtain ⟨hn, hn2⟩ := hI.1 q hq
  obtain ⟨hk1, hk2⟩ := hI.1 q2 hq2
  generalize hcc : (fun k => ovl (n q) (l q) o (n q2) (l q2) (six (nI q2) ga ba st ph mo) k) = bb at h
  have hbb : ∀ k t, bb k t = decide (plc (n q) (l q) o (nI k) (nI t) = plc (n q2) (l q2) (six (nI q2) ga ba st ph mo) (nI k) (nI t)) := fun k t => by rw [← hcc]; rfl
  have inner : ∀ (d t k c : Nat), t + d = 48 → Zv none 53 104 [some (zr 0), some (zi (nI m)), some (zi (nI q2)), some (zi ga), some (zi ba), some (zi st), some (zi ph), some (zi mo), some (zi (nI (c + cntB (bb k) 48))), some (zi (nI k)), some (zi (nI 48))] [] sz f1 0 0 P → Zv none 53 61 [some (zr 0), some (zi (nI m)), some (zi (nI q2)), some (zi ga), some (zi ba), some (zi st), some (zi ph), some (zi mo), some (zi (nI (c + cntB (bb k) t))), some (zi (nI k)), some (zi (nI t))] [] sz f1 0 0 P := by
    intro d
    induction d with
    | zero =>
      intro t k c ht h
      obtain rfl : t = 48 := by omega
      refine rX5_overlaid_61 ?_
      refine rX5_overlaid_63 ?_
      refine rX5_overlaid_65 (fun _ => ?_) (fun hbb => absurd (by decide) hbb)
      exact h
    | succ d ih =>
      intro t k c ht h
      have ih := ih (t + 1) k c (by omega) h
      rw [cntB, hbb] at ih
      refine rX5_overlaid_61 ?_
      refine rX5_overlaid_63 ?_
      refine rX5_overlaid_65 (fun hbb => absurd hbb (nI_ge (b := 48) (by omega) (by decide))) (fun _ => ?_)
      refine rX5_overlaid_68 ?_
      refine rX5_overlaid_69 ?_
      refine rX5_overlaid_70 (by repeat first | assumption | exact zup_eq | refine (zup_ne (by first | decide | omega)).trans ?_) ?_
      refine rX5_overlaid_73 ?_
      refine rX5_overlaid_75 ?_
      refine rX5_overlaid_77 (by repeat first | assumption | exact zup_eq | refine (zup_ne (by first | decide | omega)).trans ?_) ?_
      refine s_X5_placeOf hT1 hS2 hq ho hRq hn hn2 ?_
      refine rX5_overlaid_80 ?_
      refine rX5_overlaid_81 ?_
      refine rX5_overlaid_82 (by repeat first | assumption | exact zup_eq | refine (zup_ne (by first | decide | omega)).trans ?_) ?_
      refine rX5_overlaid_85 ?_
      refine rX5_overlaid_87 ?_
      refine rX5_overlaid_89 (by repeat first | assumption | exact zup_eq | refine (zup_ne (by first | decide | omega)).trans ?_) ?_
      refine s_X5_placeOf hT1 hS31 hq2 rfl hR2 hk1 hk2 ?_
      refine rX5_overlaid_92 (fun hb => ?_) (fun hb => ?_)
      · rw [if_neg (by rw [decide_eq_false hb]; exact Bool.false_ne_true)] at ih
        refine rX5_overlaid_98 ?_
        refine rX5_overlaid_101 ?_
        rw [nI_1]
        exact ih
      · rw [if_pos (by rw [decide_eq_true hb])] at ih
        refine rX5_overlaid_95 ?_
        refine rX5_overlaid_98 ?_
        refine rX5_overlaid_101 ?_
        rw [nI_1, nI_1]
        exact ih
  have outer : ∀ (d k : Nat) (l4 : Option ZVal), k + d = m → Zv none 53 52 [some (zr 0), some (zi (nI m)), some (zi (nI q2)), some (zi ga), some (zi ba), some (zi st), some (zi ph), some (zi mo), some (zi (nI (sumN (fun k => cntB (bb k) 48) k))), some (zi (nI k)), l4] [] sz f1 0 0 P := by
    intro d
    induction d with
    | zero =>
      intro k l4 hk
      obtain rfl : k = m := by omega
      refine rX5_overlaid_52 ?_
      refine rX5_overlaid_54 ?_
      refine rX5_overlaid_55 (fun _ => ?_) (fun hbb => absurd (nI_le (by omega) (by omega)) hbb)
      refine rX5_overlaid_110 ?_
      refine rX5_overlaid_112 ?_
      rw [← hcc] at *
      exact h
    | succ d ih =>
      intro k l4 hk
      have ih := fun l4 => ih (k + 1) l4 (by omega)
      rw [sumN] at ih
      refine rX5_overlaid_52 ?_
      refine rX5_overlaid_54 ?_
      refine rX5_overlaid_55 (fun hbb => absurd hbb (nI_ge (by omega) (by omega))) (fun _ => ?_)
      refine rX5_overlaid_58 ?_
      refine rX5_overlaid_59 ?_
      refine inner 48 0 k _ rfl ?_
      refine rX5_overlaid_104 ?_
      refine rX5_overlaid_107 ?_
      rw [nI_1]
      exact ih _
  refine rX5_overlaid_46 ?_
  refine rX5_overlaid_47 ?_
  refine rX5_overlaid_49 ?_
  refine rX5_overlaid_50 ?_
  exact outer m 0 none (by omega)
end LC3
