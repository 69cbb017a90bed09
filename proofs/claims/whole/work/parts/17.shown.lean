/-! THE SLIP THAT IS SHOWN: rings' turns as bits -/
def bt (x : Int32) (k : Nat) : Bool := x.toBitVec.getLsbD k
theorem bt_or (x y : Int32) (k : Nat) : bt (x ||| y) k = (bt x k || bt y k) := by
  unfold bt; rw [Int32.toBitVec_or, BitVec.getLsbD_or]
theorem bt_and (x y : Int32) (k : Nat) : bt (x &&& y) k = (bt x k && bt y k) := by
  unfold bt; rw [Int32.toBitVec_and, BitVec.getLsbD_and]
theorem bt_shl : ∀ t, t < 24 → ∀ k, k < 32 → bt ((1 : Int32) <<< (nI t &&& 31)) k = decide (k = t) := by decide +kernel
theorem bt_m1 : ∀ k, k < 32 → bt (-1) k = true := by decide +kernel
theorem bt_zero (k : Nat) : bt 0 k = false := by
  unfold bt
  show (0#32).getLsbD k = false
  exact BitVec.getLsbD_zero
theorem sm32 : ∀ t, t < 24 → ((nI t &&& 31).toBitVec.smod 32#32).toNat = t := by decide +kernel
theorem bt_shr (x : Int32) (t : Nat) (ht : t < 24) : bt (x >>> (nI t &&& 31)) 0 = bt x t := by
  unfold bt
  rw [Int32.toBitVec_shiftRight]
  show (x.toBitVec.sshiftRight ((nI t &&& 31).toBitVec.smod 32#32).toNat).getLsbD 0 = _
  rw [sm32 t ht, BitVec.getLsbD_sshiftRight]
  have h1 : ¬ 32 ≤ 0 := by decide
  have h2 : t + 0 < 32 := by omega
  simp [h2]
  omega
theorem bt_and1 (x : Int32) : (x &&& 1 = 1 ∧ bt x 0 = true) ∨ (x &&& 1 = 0 ∧ bt x 0 = false) := by
  have e : ∀ k, bt (x &&& 1) k = (bt x k && decide (k = 0)) := fun k => by
    rw [bt_and]
    by_cases hk : k < 32
    · congr 1
      revert hk k
      decide +kernel
    · have : bt x k = false := by
        unfold bt
        exact BitVec.getLsbD_of_ge _ _ (by omega)
      rw [this, Bool.false_and, Bool.false_and]
  cases hb : bt x 0 with
  | true =>
    refine Or.inl ⟨Int32.toBitVec_inj.mp (BitVec.eq_of_getLsbD_eq fun k hk => ?_), rfl⟩
    have h1 := e k
    unfold bt at h1 hb
    rw [h1]
    by_cases hk0 : k = 0
    · subst hk0; rw [hb]; rfl
    · rw [decide_eq_false hk0, Bool.and_false]
      clear h1
      revert hk0 hk k
      decide +kernel
  | false =>
    refine Or.inr ⟨Int32.toBitVec_inj.mp (BitVec.eq_of_getLsbD_eq fun k hk => ?_), rfl⟩
    have h1 := e k
    unfold bt at h1 hb
    rw [h1]
    show _ = (0#32).getLsbD k
    rw [BitVec.getLsbD_zero]
    by_cases hk0 : k = 0
    · subst hk0; rw [hb]; rfl
    · rw [decide_eq_false hk0, Bool.and_false]
/-- the turns below t as bits -/
def fbits (b : Nat → Bool) : Nat → Int32
  | 0 => 0
  | t + 1 => if b t = true then fbits b t ||| ((1 : Int32) <<< (nI t &&& 31)) else fbits b t
theorem bt_fbits (b : Nat → Bool) : ∀ t, t ≤ 24 → ∀ k, k < 32 → bt (fbits b t) k = (decide (k < t) && b k)
  | 0, _, k, hk => by rw [fbits, bt_zero, decide_eq_false (by omega)]; rfl
  | t + 1, ht, k, hk => by
    rw [fbits]
    have ih := bt_fbits b t (by omega) k hk
    by_cases hb : b t = true
    · rw [if_pos hb, bt_or, ih, bt_shl t (by omega) k hk]
      by_cases hkt : k = t
      · subst hkt
        rw [decide_eq_true (show k = k from rfl), Bool.or_true, decide_eq_true (by omega), hb]; rfl
      · rw [decide_eq_false hkt, Bool.or_false]
        by_cases hlt : k < t
        · rw [decide_eq_true hlt, decide_eq_true (by omega)]
        · rw [decide_eq_false hlt, decide_eq_false (by omega)]
    · rw [if_neg hb, ih]
      by_cases hkt : k = t
      · subst hkt
        rw [decide_eq_false (by omega), Bool.false_and]
        cases hbk : b k with
        | true => exact absurd hbk hb
        | false => rw [Bool.and_false]
      · by_cases hlt : k < t
        · rw [decide_eq_true hlt, decide_eq_true (by omega)]
        · rw [decide_eq_false hlt, decide_eq_false (by omega)]
/-- what is seen in ring k is made with c clicks slipped -/
def fitc (n : Nat) (l o p : Nat → Int32) (k : Nat) (c : Int32) : Prop := ∀ t, t < 48 → p (k * 48 + t) = -1 ∨ p (k * 48 + t) = plc n l o (nI k) (c + nI t)
noncomputable def fitB (n : Nat) (l o p : Nat → Int32) (k t : Nat) : Bool := resB (fitc n l o p k (nI t))
section LC5
variable {n : Nat} {l o p : Nat → Int32} {q sz : Nat} {P : Option ZVal → Nat → ZH → Prop}
theorem s_X5_ringFits {f : ZH} {k : Nat} {c : Int32} (hT : isTop f) (hS : isSet f 2 o) (hq : q < 4) (ho : o 0 = nI q) (hR : isRos f (17 + 5 * q) n l) (hn : 0 < n) (hn2 : n ≤ 24) (hPl : isPl f p) (hk : k < 12) (h : P (some (zi (zb (fitc n l o p k c)))) sz f) : Zv none 68 0 [some (zr 0), some (zi (nI k)), some (zi c), none, none] [] sz f 0 0 P := by
  have hT0 := hT.1
  have hPl0 := hPl.1
  refine rX5_ringFits_0 ?_
  refine rX5_ringFits_1 ?_
  have key : ∀ (d t : Nat) (l4 : Option ZVal), t + d = 48 → (∀ u, u < t → p (k * 48 + u) = -1 ∨ p (k * 48 + u) = plc n l o (nI k) (c + nI u)) → Zv none 68 2 [some (zr 0), some (zi (nI k)), some (zi c), some (zi (nI t)), l4] [] sz f 0 0 P := by
    intro d
    induction d with
    | zero =>
      intro t l4 ht hu
      obtain rfl : t = 48 := by omega
      rw [zb_t (p := fitc n l o p k c) hu] at h
      refine rX5_ringFits_2 ?_
      refine rX5_ringFits_3 ?_
      refine rX5_ringFits_5 (fun _ => ?_) (fun hbb => absurd (by decide) hbb)
      refine rX5_ringFits_50 ?_
      first | refine rX5_ringFits_51b ?_ | refine rX5_ringFits_51 (Or.inl rfl) ?_ | refine rX5_ringFits_51 (Or.inr rfl) ?_
      exact h
    | succ d ih =>
      intro t l4 ht hu
      refine rX5_ringFits_2 ?_
      refine rX5_ringFits_3 ?_
      refine rX5_ringFits_5 (fun hbb => absurd hbb (nI_ge (b := 48) (by omega) (by decide))) (fun _ => ?_)
      refine rX5_ringFits_8 ?_
      refine rX5_ringFits_9 (by repeat first | assumption | exact zup_eq | refine (zup_ne (by first | decide | omega)).trans ?_) ?_
      refine rX5_ringFits_12 ?_
      refine rX5_ringFits_13 ?_
      refine rX5_ringFits_14 (by repeat first | assumption | exact zup_eq | refine (zup_ne (by first | decide | omega)).trans ?_) ?_
      refine s_X0_look (by assumption) (by first | assumption | omega) (by first | assumption | omega) ?_
      refine rX5_ringFits_17 ?_
      refine rX5_ringFits_19 ?_
      refine rX5_ringFits_21 ?_
      have go : (p (k * 48 + t) = -1 ∨ p (k * 48 + t) = plc n l o (nI k) (c + nI t)) → ∀ l4, Zv none 68 44 [some (zr 0), some (zi (nI k)), some (zi c), some (zi (nI t)), l4] [] sz f 0 0 P := by
        intro hb l4
        refine rX5_ringFits_44 ?_
        refine rX5_ringFits_47 ?_
        rw [nI_1]
        refine ih (t + 1) _ (by omega) (fun u hut => ?_)
        by_cases hu2 : u = t
        · rw [hu2]; exact hb
        · exact hu u (by omega)
      refine rX5_ringFits_22 (fun h1 => ?_) (fun h1 => ?_)
      · exact go (Or.inl h1) _
      · refine rX5_ringFits_25 ?_
        refine rX5_ringFits_27 ?_
        refine rX5_ringFits_28 ?_
        refine rX5_ringFits_29 (by repeat first | assumption | exact zup_eq | refine (zup_ne (by first | decide | omega)).trans ?_) ?_
        refine rX5_ringFits_32 ?_
        refine rX5_ringFits_33 ?_
        refine rX5_ringFits_34 ?_
        refine rX5_ringFits_35 ?_
        refine rX5_ringFits_36 (by repeat first | assumption | exact zup_eq | refine (zup_ne (by first | decide | omega)).trans ?_) ?_
        refine s_X5_placeOf hT hS hq ho hR hn hn2 ?_
        refine rX5_ringFits_39 (fun h2 => ?_) (fun h2 => ?_)
        · exact go (Or.inr h2) _
        · rw [zb_f (p := fitc n l o p k c) (fun z => (z t (by omega)).elim h1 h2)] at h
          refine rX5_ringFits_42 ?_
          first | refine rX5_ringFits_43b ?_ | refine rX5_ringFits_43 (Or.inl rfl) ?_ | refine rX5_ringFits_43 (Or.inr rfl) ?_
          exact h
  exact key 48 0 none rfl (fun u hu => absurd hu (by omega))
theorem isArr10 {f : ZH} (h : isFit f) : ∃ g, f 16 = some (zA 12 g) := h.2
theorem s_X5_noteFitting {f : ZH} (hT : isTop f) (hS : isSet f 2 o) (hq : q < 4) (ho : o 0 = nI q) (hR : isRos f (17 + 5 * q) n l) (hn : 0 < n) (hn2 : n ≤ 24) (hPl : isPl f p) (hF : isFit f) (h : ∀ g, (∀ k, k < 12 → g k = fbits (fitB n l o p k) n) → P none sz (zup f 16 (zA 12 g))) : Zv none 67 0 [some (zr 0), some (zi (nI n)), none, none, none] [] sz f 0 0 P := by
  obtain ⟨h9, g0, h10⟩ := hF
  refine rX5_noteFitting_0 ?_
  refine rX5_noteFitting_1 ?_
  have inner : ∀ (f1 : ZH), (∀ j, j ≠ 16 → f1 j = f j) → ∀ (d t k : Nat), t + d = n → k < 12 → Zv none 67 42 [some (zr 0), some (zi (nI n)), some (zi (nI k)), some (zi (fbits (fitB n l o p k) n)), some (zi (nI n))] [] sz f1 0 0 P → Zv none 67 13 [some (zr 0), some (zi (nI n)), some (zi (nI k)), some (zi (fbits (fitB n l o p k) t)), some (zi (nI t))] [] sz f1 0 0 P := by
    intro f1 hf1
    have hT1 : isTop f1 := hT.keep (hf1 _ (by omega)) (hf1 _ (by omega))
    have hT0 := hT1.1
    have hS1 : isSet f1 2 o := hS.keep (hf1 _ (by omega))
    have hR1 : isRos f1 (17 + 5 * q) n l := hR.keep (hf1 _ (by omega)) (hf1 _ (by omega)) (hf1 _ (by omega)) (hf1 _ (by omega)) (hf1 _ (by omega))
    have hPl1 : isPl f1 p := hPl.keep (hf1 _ (by omega)) (hf1 _ (by omega)) (hf1 _ (by omega))
    intro d
    induction d with
    | zero =>
      intro t k ht hk h
      obtain rfl : t = n := by omega
      refine rX5_noteFitting_13 ?_
      refine rX5_noteFitting_15 ?_
      refine rX5_noteFitting_16 (fun _ => ?_) (fun hbb => absurd (nI_le (by omega) (by omega)) hbb)
      exact h
    | succ d ih =>
      intro t k ht hk h
      have ih := ih (t + 1) k (by omega) hk h
      rw [fbits] at ih
      refine rX5_noteFitting_13 ?_
      refine rX5_noteFitting_15 ?_
      refine rX5_noteFitting_16 (fun hbb => absurd hbb (nI_ge (by omega) (by omega))) (fun _ => ?_)
      refine rX5_noteFitting_19 ?_
      refine rX5_noteFitting_20 ?_
      refine rX5_noteFitting_21 ?_
      refine rX5_noteFitting_23 (by repeat first | assumption | exact zup_eq | refine (zup_ne (by first | decide | omega)).trans ?_) ?_
      refine s_X5_ringFits hT1 hS1 hq ho hR1 hn hn2 hPl1 hk ?_
      refine rX5_noteFitting_26b (fun hb => ?_) (fun hb => ?_)
      · rw [if_neg (by rw [show fitB n l o p k t = false from resB_f hb]; exact Bool.false_ne_true)] at ih
        refine rX5_noteFitting_36 ?_
        refine rX5_noteFitting_39 ?_
        rw [nI_1]
        exact ih
      · rw [if_pos (show fitB n l o p k t = true from resB_t hb)] at ih
        refine rX5_noteFitting_29 ?_
        refine rX5_noteFitting_30 ?_
        refine rX5_noteFitting_31 ?_
        refine rX5_noteFitting_33 ?_
        refine rX5_noteFitting_34 ?_
        refine rX5_noteFitting_35 ?_
        refine rX5_noteFitting_36 ?_
        refine rX5_noteFitting_39 ?_
        rw [nI_1]
        exact ih
  have outer : ∀ (d k : Nat) (g : Nat → Int32) (l3 l4 : Option ZVal), k + d = 12 → (∀ i, i < k → g i = fbits (fitB n l o p i) n) → Zv none 67 2 [some (zr 0), some (zi (nI n)), some (zi (nI k)), l3, l4] [] sz (zup f 16 (zA 12 g)) 0 0 P := by
    intro d
    induction d with
    | zero =>
      intro k g l3 l4 hk hg
      refine rX5_noteFitting_2 ?_
      refine rX5_noteFitting_3 ?_
      refine rX5_noteFitting_5 (fun _ => ?_) (fun hbb => absurd (by rw [show k = 12 by omega]; decide) hbb)
      refine rX5_noteFitting_57 ?_
      exact h g (fun i hi => hg i (by omega))
    | succ d ih =>
      intro k g l3 l4 hk hg
      have hT0 : zup f 16 (zA 12 g) 0 = some (zO 5 [zr 1, zr 2, zr 3, zr 4, zr 6, zr 9, zr 15]) := (zup_ne (by omega)).trans hT.1
      refine rX5_noteFitting_2 ?_
      refine rX5_noteFitting_3 ?_
      refine rX5_noteFitting_5 (fun hbb => absurd hbb (nI_ge (b := 12) (by omega) (by decide))) (fun _ => ?_)
      refine rX5_noteFitting_8 ?_
      refine rX5_noteFitting_9 ?_
      refine rX5_noteFitting_10 ?_
      refine rX5_noteFitting_11 ?_
      refine inner _ (fun j hj => zup_ne hj) n 0 k (by omega) (by omega) ?_
      refine rX5_noteFitting_42 ?_
      refine rX5_noteFitting_43 (by repeat first | assumption | exact zup_eq | refine (zup_ne (by first | decide | omega)).trans ?_) ?_
      refine rX5_noteFitting_46 ?_
      refine rX5_noteFitting_47 ?_
      refine rX5_noteFitting_48 (by repeat first | assumption | exact zup_eq | refine (zup_ne (by first | decide | omega)).trans ?_) ?_
      refine s_X2_put (by repeat first | assumption | exact zup_eq | refine (zup_ne (by first | decide | omega)).trans ?_) (by repeat first | assumption | exact zup_eq | refine (zup_ne (by first | decide | omega)).trans ?_) (by first | assumption | decide | omega) (by first | assumption | decide | omega) ?_
      refine rX5_noteFitting_51 ?_
      refine rX5_noteFitting_54 ?_
      rw [nI_1, zup_zup]
      refine ih (k + 1) _ _ _ (by omega) (fun i hi => ?_)
      by_cases hik : i = k
      · rw [hik, upd_s]
      · rw [upd_n hik, hg i (by omega)]
  have := outer 12 0 g0 none none rfl (fun i hi => absurd hi (by omega))
  rw [zup_id h10] at this
  exact this
/-- the first ring whose turn 0 doesn't fit -/
noncomputable def fOff (n : Nat) (l o p : Nat → Int32) : Option Nat := thT (fun k => !fitB n l o p k 0) 12 0
theorem s_X5_firstRingOff {f : ZH} {g : Nat → Int32} (hT : isTop f) (hn : 0 < n) (hn2 : n ≤ 24) (h9 : f 15 = some (zO 2 [zr 16])) (h10 : f 16 = some (zA 12 g)) (hg : ∀ k, k < 12 → g k = fbits (fitB n l o p k) n) (h : P (some (zi (nI ((fOff n l o p).getD 12)))) sz f) : Zv none 69 0 [some (zr 0), none] [] sz f 0 0 P := by
  have hT0 := hT.1
  have key : ∀ (d k : Nat), k + d = 12 → P (some (zi (nI ((thT (fun k => !fitB n l o p k 0) d k).getD 12)))) sz f → Zv none 69 2 [some (zr 0), some (zi (nI k))] [] sz f 0 0 P := by
    intro d
    induction d with
    | zero =>
      intro k hk h
      obtain rfl : k = 12 := by omega
      refine rX5_firstRingOff_2 ?_
      refine rX5_firstRingOff_3 ?_
      refine rX5_firstRingOff_5 (fun _ => ?_) (fun hbb => absurd (by decide) hbb)
      refine rX5_firstRingOff_29 ?_
      refine rX5_firstRingOff_31 ?_
      exact h
    | succ d ih =>
      intro k hk h
      rw [thT] at h
      refine rX5_firstRingOff_2 ?_
      refine rX5_firstRingOff_3 ?_
      refine rX5_firstRingOff_5 (fun hbb => absurd hbb (nI_ge (b := 12) (by omega) (by decide))) (fun _ => ?_)
      refine rX5_firstRingOff_8 ?_
      refine rX5_firstRingOff_9 (by repeat first | assumption | exact zup_eq | refine (zup_ne (by first | decide | omega)).trans ?_) ?_
      refine rX5_firstRingOff_12 ?_
      refine rX5_firstRingOff_13 (by repeat first | assumption | exact zup_eq | refine (zup_ne (by first | decide | omega)).trans ?_) ?_
      refine s_X2_get (by repeat first | assumption | exact zup_eq | refine (zup_ne (by first | decide | omega)).trans ?_) (by repeat first | assumption | exact zup_eq | refine (zup_ne (by first | decide | omega)).trans ?_) (by first | assumption | decide | omega) (by first | assumption | decide | omega) ?_
      rw [hg k (by omega)]
      have hb := bt_fbits (fitB n l o p k) n hn2 0 (by decide)
      rw [decide_eq_true (by omega : 0 < n), Bool.true_and] at hb
      refine rX5_firstRingOff_16 ?_
      refine rX5_firstRingOff_17 ?_
      rcases bt_and1 (fbits (fitB n l o p k) n) with ⟨e1, e2⟩ | ⟨e1, e2⟩
      · rw [e1]
        rw [e2] at hb
        rw [← hb, if_neg (by decide)] at h
        refine rX5_firstRingOff_18 (fun _ => ?_) (fun hbb => absurd hbb (by decide))
        refine rX5_firstRingOff_23 ?_
        refine rX5_firstRingOff_26 ?_
        rw [nI_1]
        exact ih (k + 1) (by omega) h
      · rw [e1]
        rw [e2] at hb
        rw [← hb, if_pos (by decide)] at h
        refine rX5_firstRingOff_18 (fun hbb => absurd (by decide) hbb) (fun _ => ?_)
        refine rX5_firstRingOff_21 ?_
        refine rX5_firstRingOff_22 ?_
        exact h
  refine rX5_firstRingOff_0 ?_
  refine rX5_firstRingOff_1 ?_
  exact key 12 0 rfl h
/-- the bits of the rings from r on, together -/
def band (g : Nat → Int32) : Nat → Nat → Int32 → Int32
  | 0, _, x => x
  | d + 1, k, x => band g d (k + 1) (x &&& g k)
theorem bt_band (g : Nat → Int32) (b : Nat) : ∀ (d k : Nat) (x : Int32), (bt (band g d k x) b = true) ↔ (bt x b = true ∧ ∀ i, k ≤ i → i < k + d → bt (g i) b = true)
  | 0, k, x => ⟨fun h => ⟨h, fun i h1 h2 => absurd h2 (by omega)⟩, fun h => h.1⟩
  | d + 1, k, x => by
    rw [band, bt_band g b d (k + 1), bt_and, Bool.and_eq_true]
    refine ⟨fun ⟨⟨h1, h2⟩, h3⟩ => ⟨h1, fun i h4 h5 => ?_⟩, fun ⟨h1, h2⟩ => ⟨⟨h1, h2 k (Nat.le_refl _) (by omega)⟩, fun i h3 h4 => h2 i (by omega) (by omega)⟩⟩
    rcases Nat.eq_or_lt_of_le h4 with rfl | h6
    · exact h2
    · exact h3 i h6 (by omega)
theorem s_X5_fittingFrom {f : ZH} {g : Nat → Int32} {r : Nat} (hT : isTop f) (hr : r ≤ 12) (h9 : f 15 = some (zO 2 [zr 16])) (h10 : f 16 = some (zA 12 g)) (h : P (some (zi (band g (12 - r) r (-1)))) sz f) : Zv none 70 0 [some (zr 0), some (zi (nI r)), none, none] [] sz f 0 0 P := by
  have hT0 := hT.1
  have key : ∀ (d k : Nat) (x : Int32), k + d = 12 → P (some (zi (band g d k x))) sz f → Zv none 70 4 [some (zr 0), some (zi (nI r)), some (zi x), some (zi (nI k))] [] sz f 0 0 P := by
    intro d
    induction d with
    | zero =>
      intro k x hk h
      obtain rfl : k = 12 := by omega
      refine rX5_fittingFrom_4 ?_
      refine rX5_fittingFrom_5 ?_
      refine rX5_fittingFrom_7 (fun _ => ?_) (fun hbb => absurd (by decide) hbb)
      refine rX5_fittingFrom_27 ?_
      refine rX5_fittingFrom_28 ?_
      exact h
    | succ d ih =>
      intro k x hk h
      rw [band] at h
      refine rX5_fittingFrom_4 ?_
      refine rX5_fittingFrom_5 ?_
      refine rX5_fittingFrom_7 (fun hbb => absurd hbb (nI_ge (b := 12) (by omega) (by decide))) (fun _ => ?_)
      refine rX5_fittingFrom_10 ?_
      refine rX5_fittingFrom_11 ?_
      refine rX5_fittingFrom_12 (by repeat first | assumption | exact zup_eq | refine (zup_ne (by first | decide | omega)).trans ?_) ?_
      refine rX5_fittingFrom_15 ?_
      refine rX5_fittingFrom_16 (by repeat first | assumption | exact zup_eq | refine (zup_ne (by first | decide | omega)).trans ?_) ?_
      refine s_X2_get (by repeat first | assumption | exact zup_eq | refine (zup_ne (by first | decide | omega)).trans ?_) (by repeat first | assumption | exact zup_eq | refine (zup_ne (by first | decide | omega)).trans ?_) (by first | assumption | decide | omega) (by first | assumption | decide | omega) ?_
      refine rX5_fittingFrom_19 ?_
      refine rX5_fittingFrom_20 ?_
      refine rX5_fittingFrom_21 ?_
      refine rX5_fittingFrom_24 ?_
      rw [nI_1]
      exact ih (k + 1) _ (by omega) h
  refine rX5_fittingFrom_0 ?_
  refine rX5_fittingFrom_1 ?_
  refine rX5_fittingFrom_2 ?_
  refine rX5_fittingFrom_3 ?_
  exact key (12 - r) r (-1) (by omega) h
theorem s_X5_hasTurn {f : ZH} {x c : Int32} (hn : 0 < n) (hn2 : n ≤ 24) (h : P (some (zi (zb (bt x (fm c n) = true)))) sz f) : Zv none 72 0 [some (zi x), some (zi c), some (zi (nI n))] [] sz f 0 0 P := by
  have hf := fm_lt (x := c) hn
  refine rX5_hasTurn_0 ?_
  refine rX5_hasTurn_1 (fun hbb => absurd hbb (nI_nle hn (by omega))) (fun _ => ?_)
  refine rX5_hasTurn_4 ?_
  refine rX5_hasTurn_5 ?_
  refine rX5_hasTurn_6 ?_
  refine rX5_hasTurn_7  ?_
  refine s_J9_floorMod hn (by omega) ?_
  have hs := bt_shr x (fm c n) (by omega)
  refine rX5_hasTurn_10 ?_
  refine rX5_hasTurn_11 ?_
  refine rX5_hasTurn_12 ?_
  refine rX5_hasTurn_13 ?_
  rcases bt_and1 (x >>> (nI (fm c n) &&& 31)) with ⟨e1, e2⟩ | ⟨e1, e2⟩
  · rw [e1]
    rw [zb_t (hs.symm.trans e2)] at h
    refine rX5_hasTurn_14 (fun hbb => absurd (by decide) hbb) (fun _ => ?_)
    refine rX5_hasTurn_17 ?_
    refine rX5_hasTurn_18 ?_
    first | refine rX5_hasTurn_22b ?_ | refine rX5_hasTurn_22 (Or.inl rfl) ?_ | refine rX5_hasTurn_22 (Or.inr rfl) ?_
    exact h
  · rw [e1]
    rw [zb_f (fun z => Bool.false_ne_true (e2.symm.trans (hs.trans z)))] at h
    refine rX5_hasTurn_14 (fun _ => ?_) (fun hbb => absurd hbb (by decide))
    refine rX5_hasTurn_21 ?_
    first | refine rX5_hasTurn_22b ?_ | refine rX5_hasTurn_22 (Or.inl rfl) ?_ | refine rX5_hasTurn_22 (Or.inr rfl) ?_
    exact h
/-- the first of s, -s, s + 1, .. -/
def fcl (b : Int32 → Bool) : Nat → Nat → Option Int32
  | 0, _ => none
  | d + 1, s => if b (nI s) = true then some (nI s) else if s < 24 ∧ b (-nI s) = true then some (-nI s) else fcl b d (s + 1)
theorem s_X5_firstClicks {f : ZH} {x : Int32} (hn : 0 < n) (hn2 : n ≤ 24) (h : P (some (zi ((fcl (fun c => bt x (fm c n)) 24 1).getD 0))) sz f) : Zv none 71 0 [some (zi x), some (zi (nI n)), none] [] sz f 0 0 P := by
  have key : ∀ (d s : Nat), s + d = 25 → P (some (zi ((fcl (fun c => bt x (fm c n)) d s).getD 0))) sz f → Zv none 71 2 [some (zi x), some (zi (nI n)), some (zi (nI s))] [] sz f 0 0 P := by
    intro d
    induction d with
    | zero =>
      intro s hs h
      obtain rfl : s = 25 := by omega
      refine rX5_firstClicks_2 ?_
      refine rX5_firstClicks_3 ?_
      refine rX5_firstClicks_5 (fun _ => ?_) (fun hbb => absurd (by decide) hbb)
      refine rX5_firstClicks_44 ?_
      refine rX5_firstClicks_45 ?_
      exact h
    | succ d ih =>
      intro s hs h
      rw [fcl] at h
      refine rX5_firstClicks_2 ?_
      refine rX5_firstClicks_3 ?_
      refine rX5_firstClicks_5 (fun hbb => absurd hbb (nI_nlt (a := 24) (b := s) (by omega) (by decide))) (fun _ => ?_)
      refine rX5_firstClicks_8 ?_
      refine rX5_firstClicks_9 ?_
      refine rX5_firstClicks_10 ?_
      refine rX5_firstClicks_11  ?_
      refine s_X5_hasTurn hn hn2 ?_
      refine rX5_firstClicks_14b (fun hb => ?_) (fun hb => ?_)
      · rw [if_neg hb] at h
        refine rX5_firstClicks_19 ?_
        refine rX5_firstClicks_20 ?_
        by_cases hs24 : s < 24
        · refine rX5_firstClicks_22 (fun hbb => absurd hbb (nI_ge (b := 24) hs24 (by decide))) (fun _ => ?_)
          refine rX5_firstClicks_25 ?_
          refine rX5_firstClicks_26 ?_
          refine rX5_firstClicks_27 ?_
          refine rX5_firstClicks_28 ?_
          refine rX5_firstClicks_29  ?_
          refine s_X5_hasTurn hn hn2 ?_
          refine rX5_firstClicks_32b (fun hc => ?_) (fun hc => ?_)
          · rw [if_neg (fun z => hc z.2)] at h
            refine rX5_firstClicks_38 ?_
            refine rX5_firstClicks_41 ?_
            rw [nI_1]
            exact ih (s + 1) (by omega) h
          · rw [if_pos ⟨hs24, hc⟩] at h
            refine rX5_firstClicks_35 ?_
            refine rX5_firstClicks_36 ?_
            refine rX5_firstClicks_37 ?_
            exact h
        · rw [if_neg (fun z => hs24 z.1)] at h
          refine rX5_firstClicks_22 (fun _ => ?_) (fun hbb => absurd (by rw [show s = 24 by omega]; decide) hbb)
          refine rX5_firstClicks_38 ?_
          refine rX5_firstClicks_41 ?_
          rw [nI_1]
          exact ih (s + 1) (by omega) h
      · rw [if_pos hb] at h
        refine rX5_firstClicks_17 ?_
        refine rX5_firstClicks_18 ?_
        exact h
  refine rX5_firstClicks_0 ?_
  refine rX5_firstClicks_1 ?_
  exact key 24 1 rfl h
/-- the first ring and clicks -/
def shw (b : Nat → Int32 → Bool) : Nat → Nat → Option (Nat × Int32)
  | 0, _ => none
  | d + 1, r => match fcl (b r) 24 1 with
    | some c => some (r, c)
    | none => shw b d (r + 1)
def ans2 (r : Option (Nat × Int32)) : Int32 := match r with
  | some (k, c) => 100 * nI k + c + 50
  | none => -4
theorem fcl_ne0 (b : Int32 → Bool) : ∀ (d s : Nat) (c : Int32), 0 < s → s + d ≤ 25 → fcl b d s = some c → ¬ c = 0
  | 0, s, c, _, _, h => by cases h
  | d + 1, s, c, hs, hd, h => by
    rw [fcl] at h
    have h1 : ¬ nI s = 0 := nI_ne hs (by omega)
    split at h
    · cases h; exact h1
    · split at h
      · cases h
        intro h2
        have h3 := congrArg (fun x : Int32 => -x) h2
        simp at h3
        exact h1 h3
      · exact fcl_ne0 b d (s + 1) c (by omega) (by omega) h
theorem s_X5_shown {f : ZH} (hT : isTop f) (hS : isSet f 2 o) (hq : q < 4) (ho : o 0 = nI q) (hR : isRos f (17 + 5 * q) n l) (hn : 0 < n) (hn2 : n ≤ 24) (hPl : isPl f p) (hF : isFit f) (h : ∀ g, (∀ k, k < 12 → g k = fbits (fitB n l o p k) n) → P (some (zi (match fOff n l o p with | none => -4 | some F => ans2 (shw (fun r c => bt (band g (12 - r) r (-1)) (fm c n)) (F + 1) 0)))) sz (zup f 16 (zA 12 g))) : Zv none 62 0 [some (zr 0), none, none, none, none] [] sz f 0 0 P := by
  have hT0 := hT.1
  refine rX5_shown_0 ?_
  refine rX5_shown_1 (by repeat first | assumption | exact zup_eq | refine (zup_ne (by first | decide | omega)).trans ?_) ?_
  refine s_X5_currentLength hT hS hq ho hR ?_
  refine rX5_shown_4 ?_
  refine rX5_shown_5 ?_
  refine rX5_shown_6 ?_
  refine rX5_shown_7 (by repeat first | assumption | exact zup_eq | refine (zup_ne (by first | decide | omega)).trans ?_) ?_
  refine s_X5_noteFitting hT hS hq ho hR hn hn2 hPl hF (fun g hg => ?_)
  have h := h g hg
  have hT1 : isTop (zup f 16 (zA 12 g)) := hT.keep (zup_ne (by omega)) (zup_ne (by omega))
  have hT10 := hT1.1
  have h9 : zup f 16 (zA 12 g) 15 = some (zO 2 [zr 16]) := (zup_ne (by omega)).trans hF.1
  have h10 : zup f 16 (zA 12 g) 16 = some (zA 12 g) := zup_eq
  generalize hf1 : zup f 16 (zA 12 g) = f1 at h hT1 hT10 h9 h10 ⊢
  refine rX5_shown_10 ?_
  refine rX5_shown_11 (by repeat first | assumption | exact zup_eq | refine (zup_ne (by first | decide | omega)).trans ?_) ?_
  refine s_X5_firstRingOff hT1 hn hn2 h9 h10 hg ?_
  refine rX5_shown_14 ?_
  refine rX5_shown_15 ?_
  refine rX5_shown_16 ?_
  cases hoff : fOff n l o p with
  | none =>
    rw [hoff] at h
    refine rX5_shown_18 (fun hbb => absurd (by decide) hbb) (fun _ => ?_)
    refine rX5_shown_21 ?_
    refine rX5_shown_23 ?_
    exact h
  | some F =>
    rw [hoff] at h
    dsimp only at h
    have hF12 : F < 12 := by
      have hlt : ∀ (b : Nat → Bool) (d t u : Nat), thT b d t = some u → u < t + d := by
        intro b d
        induction d with
        | zero => intro t u h; cases h
        | succ d ih =>
          intro t u h
          rw [thT] at h
          split at h
          · cases h; omega
          · have := ih (t + 1) u h; omega
      have := hlt _ _ _ _ hoff
      omega
    refine rX5_shown_18 (fun _ => ?_) (fun hbb => absurd hbb (fun z => absurd ((nI_eq (a := F) (b := 12) (by omega) (by decide)).mp z) (by omega)))
    refine rX5_shown_24 ?_
    refine rX5_shown_25 ?_
    have key : ∀ (d r : Nat) (l4 : Option ZVal), r + d = F + 1 → P (some (zi (ans2 (shw (fun r c => bt (band g (12 - r) r (-1)) (fm c n)) d r)))) sz f1 → Zv none 62 26 [some (zr 0), some (zi (nI n)), some (zi (nI F)), some (zi (nI r)), l4] [] sz f1 0 0 P := by
      intro d
      induction d with
      | zero =>
        intro r l4 hr h
        refine rX5_shown_26 ?_
        refine rX5_shown_27 ?_
        refine rX5_shown_28 (fun _ => ?_) (fun hbb => absurd (nI_lt (by omega) (by omega)) hbb)
        refine rX5_shown_64 ?_
        refine rX5_shown_66 ?_
        exact h
      | succ d ih =>
        intro r l4 hr h
        rw [shw] at h
        refine rX5_shown_26 ?_
        refine rX5_shown_27 ?_
        refine rX5_shown_28 (fun hbb => absurd hbb (nI_nlt (by omega) (by omega))) (fun _ => ?_)
        refine rX5_shown_31 ?_
        refine rX5_shown_32 ?_
        refine rX5_shown_33 (by repeat first | assumption | exact zup_eq | refine (zup_ne (by first | decide | omega)).trans ?_) ?_
        refine s_X5_fittingFrom hT1 (by omega) h9 h10 ?_
        refine rX5_shown_36 ?_
        refine rX5_shown_37  ?_
        refine s_X5_firstClicks hn hn2 ?_
        refine rX5_shown_40 ?_
        refine rX5_shown_42 ?_
        cases hc : fcl (fun c => bt (band g (12 - r) r (-1)) (fm c n)) 24 1 with
        | none =>
          rw [hc] at h
          refine rX5_shown_44 (fun _ => ?_) (fun hbb => absurd rfl hbb)
          refine rX5_shown_58 ?_
          refine rX5_shown_61 ?_
          rw [nI_1]
          exact ih (r + 1) _ (by omega) h
        | some c =>
          rw [hc] at h
          refine rX5_shown_44 (fun hbb => absurd hbb (fcl_ne0 _ 24 1 c (by decide) (by decide) hc)) (fun _ => ?_)
          refine rX5_shown_47 ?_
          refine rX5_shown_49 ?_
          refine rX5_shown_50 ?_
          refine rX5_shown_51 ?_
          refine rX5_shown_53 ?_
          refine rX5_shown_54 ?_
          refine rX5_shown_56 ?_
          refine rX5_shown_57 ?_
          exact h
    exact key (F + 1) 0 none (by omega) h
end LC5
