/-! THE REFERENCE: places, walls, the plate -/
section MR4
variable {n : Nat → Nat} {l : Nat → Nat → Int32} {o s p : Nat → Int32} {sz : Nat} {P : Option ZVal → Nat → ZH → Prop}
theorem m_slipAt {f : ZH} {r : Nat} (hM : MP f n l o s p) (hr : r < 12) (h : P (some (zi (isum s (r + 1)))) sz f) : Zv none 96 0 [some (zr 37), some (zi (nI r)), none, none] [] sz f 0 0 P := by
  obtain ⟨h37, -, -, -, -, ⟨g, h42, hg⟩, -⟩ := id hM
  have key : ∀ (d k : Nat), k + d = r + 1 → Zv none 96 4 [some (zr 37), some (zi (nI r)), some (zi (isum s k)), some (zi (nI k))] [] sz f 0 0 P := by
    intro d
    induction d with
    | zero =>
      intro k hk
      obtain rfl : k = r + 1 := by omega
      refine rX6_slipAt_4 ?_
      refine rX6_slipAt_5 ?_
      refine rX6_slipAt_6 (fun _ => ?_) (fun hbb => absurd (nI_lt (by omega) (by omega)) hbb)
      refine rX6_slipAt_24 ?_
      refine rX6_slipAt_25 ?_
      exact h
    | succ d ih =>
      intro k hk
      have ih := ih (k + 1) (by omega)
      rw [isum] at ih
      refine rX6_slipAt_4 ?_
      refine rX6_slipAt_5 ?_
      refine rX6_slipAt_6 (fun hbb => absurd hbb (nI_nlt (by omega) (by omega))) (fun _ => ?_)
      refine rX6_slipAt_9 ?_
      refine rX6_slipAt_10 ?_
      refine rX6_slipAt_11 (by repeat first | assumption | exact zup_eq | refine (zup_ne (by first | decide | omega)).trans ?_) ?_
      refine rX6_slipAt_14 ?_
      first | refine rX6_slipAt_15N (by repeat first | assumption | exact zup_eq | refine (zup_ne (by first | decide | omega)).trans ?_) (by first | assumption | decide | omega) (by first | decide | omega) ?_ | refine rX6_slipAt_15 (by repeat first | assumption | exact zup_eq | refine (zup_ne (by first | decide | omega)).trans ?_) (by first | assumption | decide) ?_
      rw [hg k (by omega)]
      refine rX6_slipAt_16 ?_
      refine rX6_slipAt_17 ?_
      refine rX6_slipAt_18 ?_
      refine rX6_slipAt_21 ?_
      rw [nI_1]
      exact ih
  refine rX6_slipAt_0 ?_
  refine rX6_slipAt_1 ?_
  refine rX6_slipAt_2 ?_
  refine rX6_slipAt_3 ?_
  exact key (r + 1) 0 (by omega)
theorem m_lifted {f : ZH} {k q : Nat} {os : Nat → Int32} {ring x y : Int32} (hM : MP f n l o s p) (hk : isArr f k 6 os) (hq : q < 4) (ho : os 0 = nI q) (hn : 0 < n q) (hn2 : n q ≤ 24) (h : P (some (zi (os 1 * lft (n q) (l q) (os 4 + ring * os 5 + (y + x))))) sz f) : Zv none 97 0 [some (zr 37), some (zr k), some (zi ring), some (zi x), some (zi y)] [] sz f 0 0 P := by
  obtain ⟨g, hkk, hg⟩ := hk
  have h37 := hM.1
  rw [← Int32.add_assoc] at h
  first | refine rX6_lifted_0 ?_ | refine rX6_lifted_0n ?_
  refine rX6_lifted_1 ?_
  refine rX6_lifted_2N (q := 1) (by repeat first | assumption | exact zup_eq | refine (zup_ne (by first | decide | omega)).trans ?_) (by decide) (by decide) ?_
  rw [hg 1 (by decide)]
  refine rX6_lifted_3 ?_
  first | refine rX6_lifted_4 ?_ | refine rX6_lifted_4n ?_
  refine rX6_lifted_5 ?_
  refine rX6_lifted_6N (q := 0) (by repeat first | assumption | exact zup_eq | refine (zup_ne (by first | decide | omega)).trans ?_) (by decide) (by decide) ?_
  rw [hg 0 (by decide), ho]
  first | refine rX6_lifted_7 ?_ | refine rX6_lifted_7n ?_
  refine rX6_lifted_8 ?_
  refine rX6_lifted_9N (q := 4) (by repeat first | assumption | exact zup_eq | refine (zup_ne (by first | decide | omega)).trans ?_) (by decide) (by decide) ?_
  rw [hg 4 (by decide)]
  refine rX6_lifted_10 ?_
  first | refine rX6_lifted_11 ?_ | refine rX6_lifted_11n ?_
  refine rX6_lifted_12 ?_
  refine rX6_lifted_13N (q := 5) (by repeat first | assumption | exact zup_eq | refine (zup_ne (by first | decide | omega)).trans ?_) (by decide) (by decide) ?_
  rw [hg 5 (by decide)]
  refine rX6_lifted_14 ?_
  refine rX6_lifted_15 ?_
  refine rX6_lifted_16 ?_
  refine rX6_lifted_18 ?_
  refine rX6_lifted_19 ?_
  refine rX6_lifted_20 ?_
  refine rX6_lifted_21 (by repeat first | assumption | exact zup_eq | refine (zup_ne (by first | decide | omega)).trans ?_) ?_
  refine m_liftAt (by assumption) (by assumption) (by assumption) (by assumption) ?_
  refine rX6_lifted_24 ?_
  refine rX6_lifted_25 ?_
  exact h
theorem m_placed {f : ZH} {k q : Nat} {os : Nat → Int32} {ring x y : Int32} (hM : MP f n l o s p) (hk : isArr f k 6 os) (hq : q < 4) (ho : os 0 = nI q) (hn : 0 < n q) (hn2 : n q ≤ 24) (h : P (some (zi (plc (n q) (l q) os ring (y + x)))) sz f) : Zv none 98 0 [some (zr 37), some (zr k), some (zi ring), some (zi x), some (zi y)] [] sz f 0 0 P := by
  obtain ⟨g, hkk, hg⟩ := id hk
  have h37 := hM.1
  first | refine rX6_placed_0 ?_ | refine rX6_placed_0n ?_
  refine rX6_placed_1 ?_
  refine rX6_placed_2N (q := 2) (by repeat first | assumption | exact zup_eq | refine (zup_ne (by first | decide | omega)).trans ?_) (by decide) (by decide) ?_
  rw [hg 2 (by decide)]
  refine rX6_placed_3 ?_
  first | refine rX6_placed_4 ?_ | refine rX6_placed_4n ?_
  refine rX6_placed_5 ?_
  refine rX6_placed_6N (q := 3) (by repeat first | assumption | exact zup_eq | refine (zup_ne (by first | decide | omega)).trans ?_) (by decide) (by decide) ?_
  rw [hg 3 (by decide)]
  refine rX6_placed_7 ?_
  refine rX6_placed_8 ?_
  refine rX6_placed_9 ?_
  first | refine rX6_placed_10 ?_ | refine rX6_placed_10n ?_
  refine rX6_placed_11 ?_
  refine rX6_placed_12 ?_
  refine rX6_placed_13 ?_
  refine rX6_placed_15 (by repeat first | assumption | exact zup_eq | refine (zup_ne (by first | decide | omega)).trans ?_) ?_
  refine m_lifted hM hk hq ho hn hn2 ?_
  refine rX6_placed_18 ?_
  refine rX6_placed_19 ?_
  exact h
theorem m_placeAt {f : ZH} {q r : Nat} {x : Int32} (hM : MP f n l o s p) (hq : q < 4) (ho : o 0 = nI q) (hn : 0 < n q) (hn2 : n q ≤ 24) (hr : r < 12) (h : P (some (zi (plS (n q) (l q) o s r x))) sz f) : Zv none 99 0 [some (zr 37), some (zi (nI r)), some (zi x)] [] sz f 0 0 P := by
  have h37 := hM.1
  refine rX6_placeAt_0 ?_
  refine rX6_placeAt_1 ?_
  refine rX6_placeAt_2 (by repeat first | assumption | exact zup_eq | refine (zup_ne (by first | decide | omega)).trans ?_) ?_
  refine rX6_placeAt_5 ?_
  refine rX6_placeAt_6 ?_
  refine rX6_placeAt_7 ?_
  refine rX6_placeAt_8 ?_
  refine rX6_placeAt_9 (by repeat first | assumption | exact zup_eq | refine (zup_ne (by first | decide | omega)).trans ?_) ?_
  refine m_slipAt (by assumption) (by first | assumption | omega) ?_
  refine rX6_placeAt_12 (by repeat first | assumption | exact zup_eq | refine (zup_ne (by first | decide | omega)).trans ?_) ?_
  refine m_placed hM hM.2.2.2.1 hq ho hn hn2 ?_
  refine rX6_placeAt_15 ?_
  exact h
theorem m_place_bad {f : ZH} {r x : Int32} (hb : ¬ (inR r 0 11 ∧ inR x 0 10000)) (h : P (some (zi (-100000))) sz f) : Zv none 100 0 [some (zr 37), some (zi r), some (zi x)] [] sz f 0 0 P := by
  refine rX6_place_0 ?_
  refine rX6_place_1 ?_
  refine rX6_place_2 ?_
  refine rX6_place_4  ?_
  refine m_in ?_
  refine rX6_place_7b (fun _ => ?_) (fun hc => ?_)
  · refine rX6_place_30 ?_
    refine rX6_place_32 ?_
    exact h
  · refine rX6_place_10 ?_
    refine rX6_place_11 ?_
    refine rX6_place_12 ?_
    refine rX6_place_15  ?_
    refine m_in ?_
    refine rX6_place_18b (fun _ => ?_) (fun hbb => absurd hbb (fun z => hb ⟨hc, z⟩))
    refine rX6_place_30 ?_
    refine rX6_place_32 ?_
    exact h
theorem m_place_ok {f : ZH} {q r : Nat} {x : Int32} (hM : MP f n l o s p) (hq : q < 4) (ho : o 0 = nI q) (hn : 0 < n q) (hn2 : n q ≤ 24) (hr : r < 12) (hx : inR x 0 10000) (h : P (some (zi (plS (n q) (l q) o s r x))) sz f) : Zv none 100 0 [some (zr 37), some (zi (nI r)), some (zi x)] [] sz f 0 0 P := by
  have h37 := hM.1
  refine rX6_place_0 ?_
  refine rX6_place_1 ?_
  refine rX6_place_2 ?_
  refine rX6_place_4  ?_
  refine m_in ?_
  refine rX6_place_7b (fun hbb => absurd (inR011 hr) hbb) (fun _ => ?_)
  refine rX6_place_10 ?_
  refine rX6_place_11 ?_
  refine rX6_place_12 ?_
  refine rX6_place_15  ?_
  refine m_in ?_
  refine rX6_place_18b (fun hbb => absurd hx hbb) (fun _ => ?_)
  refine rX6_place_21 ?_
  refine rX6_place_22 ?_
  refine rX6_place_23 ?_
  refine rX6_place_24 (by repeat first | assumption | exact zup_eq | refine (zup_ne (by first | decide | omega)).trans ?_) ?_
  refine m_placeAt (q := q) (by assumption) (by assumption) (by assumption) (by assumption) (by assumption) (by first | assumption | omega) ?_
  refine rX6_place_27 ?_
  refine rX6_place_32 ?_
  exact h
theorem m_closes {f : ZH} {q : Nat} (hM : MP f n l o s p) (hq : q < 4) (ho : o 0 = nI q) (hn : 0 < n q) (hn2 : n q ≤ 24) (h : P (some (zi (nI (clo (per (n q) (l q)) (per (n q) (l q) - 1) 1)))) sz f) : Zv none 101 0 [some (zr 37), none, none] [] sz f 0 0 P := by
  obtain ⟨h37, -, -, ⟨go, h40, hgo⟩, -⟩ := id hM
  obtain ⟨hp0, hp1⟩ := per_pos (l := l q) hn
  refine rX6_closes_0 ?_
  refine rX6_closes_1 ?_
  refine rX6_closes_2 (by repeat first | assumption | exact zup_eq | refine (zup_ne (by first | decide | omega)).trans ?_) ?_
  refine rX6_closes_5 ?_
  refine rX6_closes_6N (q := 0) (by repeat first | assumption | exact zup_eq | refine (zup_ne (by first | decide | omega)).trans ?_) (by decide) (by decide) ?_
  rw [hgo 0 (by decide), ho]
  refine rX6_closes_7 (by repeat first | assumption | exact zup_eq | refine (zup_ne (by first | decide | omega)).trans ?_) ?_
  refine m_period hM hq hn hn2 ?_
  refine rX6_closes_10 ?_
  refine rX6_closes_11 ?_
  refine rX6_closes_12 ?_
  generalize hpe : per (n q) (l q) = pe at h hp0 hp1 ⊢
  have hy : ¬ nI pe = 0 := nI_ne hp0 (by omega)
  have key : ∀ (d r : Nat), 0 < r → r + d = pe → P (some (zi (nI (clo pe d r)))) sz f → Zv none 101 13 [some (zr 37), some (zi (nI pe)), some (zi (nI r))] [] sz f 0 0 P := by
    intro d
    induction d with
    | zero =>
      intro r hr hd h
      obtain rfl : r = pe := by omega
      refine rX6_closes_13 ?_
      refine rX6_closes_15 ?_
      refine rX6_closes_16 ?_
      rw [show (48 : Int32) * nI r = nI (48 * r) from pk_mul 48 r]
      refine rX6_closes_17 ?_
      refine rX6_closes_18 (by first | assumption | decide) ?_
      rw [pk_rem (by omega) hp0 (by omega), Nat.mul_mod_left]
      refine rX6_closes_19 (fun _ => ?_) (fun hbb => absurd rfl hbb)
      refine rX6_closes_28 ?_
      refine rX6_closes_29 ?_
      exact h
    | succ d ih =>
      intro r hr hd h
      rw [clo, Nat.mul_comm] at h
      refine rX6_closes_13 ?_
      refine rX6_closes_15 ?_
      refine rX6_closes_16 ?_
      rw [show (48 : Int32) * nI r = nI (48 * r) from pk_mul 48 r]
      refine rX6_closes_17 ?_
      refine rX6_closes_18 (by first | assumption | decide) ?_
      rw [pk_rem (by omega) hp0 (by omega)]
      by_cases hc : 48 * r % pe = 0
      · rw [if_pos hc] at h
        refine rX6_closes_19 (fun _ => ?_) (fun hbb => absurd (by rw [hc]; rfl) hbb)
        refine rX6_closes_28 ?_
        refine rX6_closes_29 ?_
        exact h
      · rw [if_neg hc] at h
        refine rX6_closes_19 (fun hbb => absurd hbb (nI_ne (by omega) (by have := Nat.mod_lt (48 * r) hp0; omega))) (fun _ => ?_)
        refine rX6_closes_22 ?_
        refine rX6_closes_25 ?_
        rw [nI_1]
        exact ih (r + 1) (by omega) (by omega) h
  exact key (pe - 1) 1 (by decide) (by omega) h
theorem m_wallAt {f : ZH} {q k t : Nat} (hM : MP f n l o s p) (hq : q < 4) (ho : o 0 = nI q) (hn : 0 < n q) (hn2 : n q ≤ 24) (hk : k + 1 < 12) (h : P (some (zi (wal (n q) (l q) o s k t))) sz f) : Zv none 102 0 [some (zr 37), some (zi (nI k)), some (zi (nI t))] [] sz f 0 0 P := by
  have h37 := hM.1
  refine rX6_wallAt_0 ?_
  refine rX6_wallAt_1 ?_
  refine rX6_wallAt_2 ?_
  refine rX6_wallAt_3 ?_
  rw [nI_1]
  refine rX6_wallAt_4 ?_
  refine rX6_wallAt_5 (by repeat first | assumption | exact zup_eq | refine (zup_ne (by first | decide | omega)).trans ?_) ?_
  refine m_placeAt (q := q) (by assumption) (by assumption) (by assumption) (by assumption) (by assumption) (by first | assumption | omega) ?_
  refine rX6_wallAt_8 ?_
  refine rX6_wallAt_9 ?_
  refine rX6_wallAt_10 ?_
  refine rX6_wallAt_11 (by repeat first | assumption | exact zup_eq | refine (zup_ne (by first | decide | omega)).trans ?_) ?_
  refine m_placeAt (q := q) (by assumption) (by assumption) (by assumption) (by assumption) (by assumption) (by first | assumption | omega) ?_
  refine rX6_wallAt_14 ?_
  refine rX6_wallAt_15 ?_
  exact h
theorem m_thin_bad {f : ZH} {x w : Int32} (hb : ¬ (inR x 2 12 ∧ inR w (-1000) 1000)) (h : P (some (zi (-1))) sz f) : Zv none 103 0 [some (zr 37), some (zi x), some (zi w), none, none] [] sz f 0 0 P := by
  refine rX6_thin_0 ?_
  refine rX6_thin_1 ?_
  refine rX6_thin_2 ?_
  refine rX6_thin_4  ?_
  refine m_in ?_
  refine rX6_thin_7b (fun _ => ?_) (fun hc => ?_)
  · refine rX6_thin_23 ?_
    refine rX6_thin_24 ?_
    exact h
  · refine rX6_thin_10 ?_
    refine rX6_thin_11 ?_
    refine rX6_thin_14 ?_
    refine rX6_thin_17  ?_
    refine m_in ?_
    refine rX6_thin_20b (fun hbb => absurd hbb (fun z => hb ⟨hc, z⟩)) (fun _ => ?_)
    refine rX6_thin_23 ?_
    refine rX6_thin_24 ?_
    exact h
theorem m_thin_ok {f : ZH} {q m : Nat} {w : Int32} (hM : MP f n l o s p) (hq : q < 4) (ho : o 0 = nI q) (hn : 0 < n q) (hn2 : n q ≤ 24) (hm : 2 ≤ m) (hm2 : m ≤ 12) (hw : inR w (-1000) 1000) (h : P (some (zi (ans (thK (fun k t => decide (wal (n q) (l q) o s k t < w)) (m - 1) 0)))) sz f) : Zv none 103 0 [some (zr 37), some (zi (nI m)), some (zi w), none, none] [] sz f 0 0 P := by
  have h37 := hM.1
  refine rX6_thin_0 ?_
  refine rX6_thin_1 ?_
  refine rX6_thin_2 ?_
  refine rX6_thin_4  ?_
  refine m_in ?_
  refine rX6_thin_7b (fun hbb => absurd ⟨nI_le (a := 2) hm (by omega), nI_le (b := 12) hm2 (by decide)⟩ hbb) (fun _ => ?_)
  refine rX6_thin_10 ?_
  refine rX6_thin_11 ?_
  refine rX6_thin_14 ?_
  refine rX6_thin_17  ?_
  refine m_in ?_
  refine rX6_thin_20b (fun _ => ?_) (fun hbb => absurd hw hbb)
  refine rX6_thin_25 ?_
  refine rX6_thin_26 ?_
  have hm1 : nI m - 1 = nI (m - 1) := pk_sub (b := 1) (by omega)
  have inner : ∀ (d t k : Nat), t + d = 48 → k + 1 < 12 → (∀ t', thT (fun t => decide (wal (n q) (l q) o s k t < w)) d t = some t' → P (some (zi (nI (100 * k + t')))) sz f) → (thT (fun t => decide (wal (n q) (l q) o s k t < w)) d t = none → Zv none 103 69 [some (zr 37), some (zi (nI m)), some (zi w), some (zi (nI k)), some (zi (nI 48))] [] sz f 0 0 P) → Zv none 103 37 [some (zr 37), some (zi (nI m)), some (zi w), some (zi (nI k)), some (zi (nI t))] [] sz f 0 0 P := by
    intro d
    induction d with
    | zero =>
      intro t k ht hk h1 h2
      obtain rfl : t = 48 := by omega
      refine rX6_thin_37 ?_
      refine rX6_thin_39 ?_
      refine rX6_thin_41 (fun _ => ?_) (fun hbb => absurd (by decide) hbb)
      exact h2 rfl
    | succ d ih =>
      intro t k ht hk h1 h2
      rw [thT] at h1 h2
      refine rX6_thin_37 ?_
      refine rX6_thin_39 ?_
      refine rX6_thin_41 (fun hbb => absurd hbb (nI_ge (b := 48) (by omega) (by decide))) (fun _ => ?_)
      refine rX6_thin_44 ?_
      refine rX6_thin_45 ?_
      refine rX6_thin_46 ?_
      refine rX6_thin_48 (by repeat first | assumption | exact zup_eq | refine (zup_ne (by first | decide | omega)).trans ?_) ?_
      refine m_wallAt (q := q) (by assumption) (by assumption) (by assumption) (by assumption) (by assumption) (by first | assumption | omega) ?_
      refine rX6_thin_51 ?_
      refine rX6_thin_52 (fun hb => ?_) (fun hb => ?_)
      · have hd : ¬ decide (wal (n q) (l q) o s k t < w) = true := fun z => absurd (of_decide_eq_true z) (Int32.not_lt.mpr hb)
        rw [if_neg hd] at h1 h2
        refine rX6_thin_63 ?_
        refine rX6_thin_66 ?_
        rw [nI_1]
        exact ih (t + 1) k (by omega) hk h1 h2
      · have hd : decide (wal (n q) (l q) o s k t < w) = true := decide_eq_true (Int32.not_le.mp hb)
        rw [if_pos hd] at h1
        refine rX6_thin_55 ?_
        refine rX6_thin_57 ?_
        refine rX6_thin_58 ?_
        refine rX6_thin_59 ?_
        refine rX6_thin_61 ?_
        rw [show (100 : Int32) * nI k + nI t = nI (100 * k + t) by rw [show (100 : Int32) = nI 100 from rfl, pk_mul, nI_add]]
        refine rX6_thin_62 ?_
        exact h1 t rfl
  have outer : ∀ (d k : Nat) (l4 : Option ZVal), k + d + 1 = m → P (some (zi (ans (thK (fun k t => decide (wal (n q) (l q) o s k t < w)) d k)))) sz f → Zv none 103 27 [some (zr 37), some (zi (nI m)), some (zi w), some (zi (nI k)), l4] [] sz f 0 0 P := by
    intro d
    induction d with
    | zero =>
      intro k l4 hk h
      refine rX6_thin_27 ?_
      refine rX6_thin_28 ?_
      refine rX6_thin_29 ?_
      refine rX6_thin_30 ?_
      rw [hm1]
      refine rX6_thin_31 (fun _ => ?_) (fun hbb => absurd (nI_le (by omega) (by omega)) hbb)
      refine rX6_thin_75 ?_
      refine rX6_thin_77 ?_
      exact h
    | succ d ih =>
      intro k l4 hk h
      rw [thK] at h
      refine rX6_thin_27 ?_
      refine rX6_thin_28 ?_
      refine rX6_thin_29 ?_
      refine rX6_thin_30 ?_
      rw [hm1]
      refine rX6_thin_31 (fun hbb => absurd hbb (nI_ge (by omega) (by omega))) (fun _ => ?_)
      refine rX6_thin_34 ?_
      refine rX6_thin_35 ?_
      refine inner 48 0 k rfl (by omega) (fun t' ht' => ?_) (fun hn' => ?_)
      · rw [ht'] at h
        exact h
      · rw [hn'] at h
        refine rX6_thin_69 ?_
        refine rX6_thin_72 ?_
        rw [nI_1]
        exact ih (k + 1) _ (by omega) h
  exact outer (m - 1) 0 none (by omega) h
theorem m_wall_bad {f : ZH} {x : Int32} (hb : ¬ inR x 2 12) (h : P (some (zi (-100000))) sz f) : Zv none 104 0 [some (zr 37), some (zi x), none, none, none] [] sz f 0 0 P := by
  refine rX6_wall_0 ?_
  refine rX6_wall_1 ?_
  refine rX6_wall_2 ?_
  refine rX6_wall_4  ?_
  refine m_in ?_
  refine rX6_wall_7b (fun hbb => absurd hbb hb) (fun _ => ?_)
  refine rX6_wall_10 ?_
  refine rX6_wall_12 ?_
  exact h
theorem m_wall_ok {f : ZH} {q m : Nat} (hM : MP f n l o s p) (hq : q < 4) (ho : o 0 = nI q) (hn : 0 < n q) (hn2 : n q ≤ 24) (hm : 2 ≤ m) (hm2 : m ≤ 12) (h : P (some (zi (mnK (wal (n q) (l q) o s) (m - 1) 0 99999))) sz f) : Zv none 104 0 [some (zr 37), some (zi (nI m)), none, none, none] [] sz f 0 0 P := by
  have h37 := hM.1
  have hm1 : nI m - 1 = nI (m - 1) := pk_sub (b := 1) (by omega)
  refine rX6_wall_0 ?_
  refine rX6_wall_1 ?_
  refine rX6_wall_2 ?_
  refine rX6_wall_4  ?_
  refine m_in ?_
  refine rX6_wall_7b (fun _ => ?_) (fun hbb => absurd ⟨nI_le (a := 2) hm (by omega), nI_le (b := 12) hm2 (by decide)⟩ hbb)
  have inner : ∀ (d t k : Nat) (x : Int32), t + d = 48 → k + 1 < 12 → Zv none 104 64 [some (zr 37), some (zi (nI m)), some (zi (mnT (wal (n q) (l q) o s k) d t x)), some (zi (nI k)), some (zi (nI 48))] [] sz f 0 0 P → Zv none 104 28 [some (zr 37), some (zi (nI m)), some (zi x), some (zi (nI k)), some (zi (nI t))] [] sz f 0 0 P := by
    intro d
    induction d with
    | zero =>
      intro t k x ht hk h
      obtain rfl : t = 48 := by omega
      refine rX6_wall_28 ?_
      refine rX6_wall_30 ?_
      refine rX6_wall_32 (fun _ => ?_) (fun hbb => absurd (by decide) hbb)
      exact h
    | succ d ih =>
      intro t k x ht hk h
      rw [mnT] at h
      refine rX6_wall_28 ?_
      refine rX6_wall_30 ?_
      refine rX6_wall_32 (fun hbb => absurd hbb (nI_ge (b := 48) (by omega) (by decide))) (fun _ => ?_)
      refine rX6_wall_35 ?_
      refine rX6_wall_36 ?_
      refine rX6_wall_37 ?_
      refine rX6_wall_39 (by repeat first | assumption | exact zup_eq | refine (zup_ne (by first | decide | omega)).trans ?_) ?_
      refine m_wallAt (q := q) (by assumption) (by assumption) (by assumption) (by assumption) (by assumption) (by first | assumption | omega) ?_
      refine rX6_wall_42 ?_
      refine rX6_wall_43 (fun hb => ?_) (fun hb => ?_)
      · rw [if_neg (Int32.not_lt.mpr hb)] at h
        refine rX6_wall_56 ?_
        refine rX6_wall_57 ?_
        refine rX6_wall_58 ?_
        refine rX6_wall_61 ?_
        rw [nI_1]
        exact ih (t + 1) k _ (by omega) hk h
      · rw [if_pos (Int32.not_le.mp hb)] at h
        refine rX6_wall_46 ?_
        refine rX6_wall_47 ?_
        refine rX6_wall_48 ?_
        refine rX6_wall_50 (by repeat first | assumption | exact zup_eq | refine (zup_ne (by first | decide | omega)).trans ?_) ?_
        refine m_wallAt (q := q) (by assumption) (by assumption) (by assumption) (by assumption) (by assumption) (by first | assumption | omega) ?_
        refine rX6_wall_53 ?_
        refine rX6_wall_57 ?_
        refine rX6_wall_58 ?_
        refine rX6_wall_61 ?_
        rw [nI_1]
        exact ih (t + 1) k _ (by omega) hk h
  have outer : ∀ (d k : Nat) (l4 : Option ZVal) (x : Int32), k + d + 1 = m → P (some (zi (mnK (wal (n q) (l q) o s) d k x))) sz f → Zv none 104 18 [some (zr 37), some (zi (nI m)), some (zi x), some (zi (nI k)), l4] [] sz f 0 0 P := by
    intro d
    induction d with
    | zero =>
      intro k l4 x hk h
      refine rX6_wall_18 ?_
      refine rX6_wall_19 ?_
      refine rX6_wall_20 ?_
      refine rX6_wall_21 ?_
      rw [hm1]
      refine rX6_wall_22 (fun _ => ?_) (fun hbb => absurd (nI_le (by omega) (by omega)) hbb)
      refine rX6_wall_70 ?_
      refine rX6_wall_71 ?_
      exact h
    | succ d ih =>
      intro k l4 x hk h
      rw [mnK] at h
      refine rX6_wall_18 ?_
      refine rX6_wall_19 ?_
      refine rX6_wall_20 ?_
      refine rX6_wall_21 ?_
      rw [hm1]
      refine rX6_wall_22 (fun hbb => absurd hbb (nI_ge (by omega) (by omega))) (fun _ => ?_)
      refine rX6_wall_25 ?_
      refine rX6_wall_26 ?_
      refine inner 48 0 k x rfl (by omega) ?_
      refine rX6_wall_64 ?_
      refine rX6_wall_67 ?_
      rw [nI_1]
      exact ih (k + 1) _ _ (by omega) h
  refine rX6_wall_13 ?_
  refine rX6_wall_15 ?_
  refine rX6_wall_16 ?_
  refine rX6_wall_17 ?_
  exact outer (m - 1) 0 none _ (by omega) h
theorem m_meets_bad {f : ZH} {r x c w : Int32} (hb : ¬ (inR r 0 11 ∧ inR x 0 10000 ∧ inR c 0 47 ∧ inR w 0 100)) (h : P (some (zi (-1))) sz f) : Zv none 105 0 [some (zr 37), some (zi r), some (zi x), some (zi c), some (zi w), none] [] sz f 0 0 P := by
  refine rX6_meets_0 ?_
  refine rX6_meets_1 ?_
  refine rX6_meets_2 ?_
  refine rX6_meets_4  ?_
  refine m_in ?_
  refine rX6_meets_7b (fun _ => ?_) (fun h1 => ?_)
  · refine rX6_meets_42 ?_
    refine rX6_meets_43 ?_
    exact h
  refine rX6_meets_10 ?_
  refine rX6_meets_11 ?_
  refine rX6_meets_12 ?_
  refine rX6_meets_15  ?_
  refine m_in ?_
  refine rX6_meets_18b (fun _ => ?_) (fun h2 => ?_)
  · refine rX6_meets_42 ?_
    refine rX6_meets_43 ?_
    exact h
  refine rX6_meets_21 ?_
  refine rX6_meets_22 ?_
  refine rX6_meets_23 ?_
  refine rX6_meets_25  ?_
  refine m_in ?_
  refine rX6_meets_28b (fun _ => ?_) (fun h3 => ?_)
  · refine rX6_meets_42 ?_
    refine rX6_meets_43 ?_
    exact h
  refine rX6_meets_31 ?_
  refine rX6_meets_33 ?_
  refine rX6_meets_34 ?_
  refine rX6_meets_36  ?_
  refine m_in ?_
  refine rX6_meets_39b (fun hbb => absurd hbb (fun z => hb ⟨h1, h2, h3, z⟩)) (fun _ => ?_)
  refine rX6_meets_42 ?_
  refine rX6_meets_43 ?_
  exact h
theorem m_meets_ok {f : ZH} {q r : Nat} {x c w : Int32} (hM : MP f n l o s p) (hq : q < 4) (ho : o 0 = nI q) (hn : 0 < n q) (hn2 : n q ≤ 24) (hr : r < 12) (hx : inR x 0 10000) (hc : inR c 0 47) (hw : inR w 0 100) (h : P (some (zi (absI (plS (n q) (l q) o s r (x + c) - w - plS (n q) (l q) o s r x)))) sz f) : Zv none 105 0 [some (zr 37), some (zi (nI r)), some (zi x), some (zi c), some (zi w), none] [] sz f 0 0 P := by
  have h37 := hM.1
  unfold absI at h
  refine rX6_meets_0 ?_
  refine rX6_meets_1 ?_
  refine rX6_meets_2 ?_
  refine rX6_meets_4  ?_
  refine m_in ?_
  refine rX6_meets_7b (fun hbb => absurd (inR011 hr) hbb) (fun _ => ?_)
  refine rX6_meets_10 ?_
  refine rX6_meets_11 ?_
  refine rX6_meets_12 ?_
  refine rX6_meets_15  ?_
  refine m_in ?_
  refine rX6_meets_18b (fun hbb => absurd hx hbb) (fun _ => ?_)
  refine rX6_meets_21 ?_
  refine rX6_meets_22 ?_
  refine rX6_meets_23 ?_
  refine rX6_meets_25  ?_
  refine m_in ?_
  refine rX6_meets_28b (fun hbb => absurd hc hbb) (fun _ => ?_)
  refine rX6_meets_31 ?_
  refine rX6_meets_33 ?_
  refine rX6_meets_34 ?_
  refine rX6_meets_36  ?_
  refine m_in ?_
  refine rX6_meets_39b (fun _ => ?_) (fun hbb => absurd hw hbb)
  refine rX6_meets_44 ?_
  refine rX6_meets_45 ?_
  refine rX6_meets_46 ?_
  refine rX6_meets_47 ?_
  refine rX6_meets_48 ?_
  refine rX6_meets_49 (by repeat first | assumption | exact zup_eq | refine (zup_ne (by first | decide | omega)).trans ?_) ?_
  refine m_placeAt (q := q) (by assumption) (by assumption) (by assumption) (by assumption) (by assumption) (by first | assumption | omega) ?_
  refine rX6_meets_52 ?_
  refine rX6_meets_54 ?_
  refine rX6_meets_55 ?_
  refine rX6_meets_56 ?_
  refine rX6_meets_57 ?_
  refine rX6_meets_58 (by repeat first | assumption | exact zup_eq | refine (zup_ne (by first | decide | omega)).trans ?_) ?_
  refine m_placeAt (q := q) (by assumption) (by assumption) (by assumption) (by assumption) (by assumption) (by first | assumption | omega) ?_
  refine rX6_meets_61 ?_
  refine rX6_meets_62 ?_
  refine rX6_meets_64 ?_
  refine rX6_meets_66 (fun hb => ?_) (fun hb => ?_)
  · rw [if_neg (Int32.not_lt.mpr hb)] at h
    refine rX6_meets_75 ?_
    refine rX6_meets_77 ?_
    exact h
  · rw [if_pos (Int32.not_le.mp hb)] at h
    refine rX6_meets_69 ?_
    refine rX6_meets_71 ?_
    refine rX6_meets_72 ?_
    refine rX6_meets_77 ?_
    exact h
theorem m_overlaid_bad {f : ZH} {x r ga ba st ph mo : Int32} (hM : MP f n l o s p) (hN : ∀ q, q < 4 → 0 < n q ∧ n q ≤ 24) (hb : ¬ (inR x 1 12 ∧ okS n r ga ba st ph mo)) (h : P (some (zi (-1))) sz f) : Zv none 106 0 [some (zr 37), some (zi x), some (zi r), some (zi ga), some (zi ba), some (zi st), some (zi ph), some (zi mo), none, none, none] [] sz f 0 0 P := by
  have h37 := hM.1
  refine rX6_overlaid_0 ?_
  refine rX6_overlaid_1 ?_
  refine rX6_overlaid_2 ?_
  refine rX6_overlaid_4  ?_
  refine m_in ?_
  refine rX6_overlaid_7b (fun _ => ?_) (fun hc => ?_)
  · refine rX6_overlaid_27 ?_
    refine rX6_overlaid_28 ?_
    exact h
  · refine rX6_overlaid_10 ?_
    refine rX6_overlaid_11 ?_
    refine rX6_overlaid_12 ?_
    refine rX6_overlaid_13 ?_
    refine rX6_overlaid_15 ?_
    refine rX6_overlaid_17 ?_
    refine rX6_overlaid_19 ?_
    refine rX6_overlaid_21 (by repeat first | assumption | exact zup_eq | refine (zup_ne (by first | decide | omega)).trans ?_) ?_
    refine m_isSetting hM hN ?_
    refine rX6_overlaid_24b (fun hbb => absurd hbb (fun z => hb ⟨hc, z⟩)) (fun _ => ?_)
    refine rX6_overlaid_27 ?_
    refine rX6_overlaid_28 ?_
    exact h
theorem m_overlaid_ok {f : ZH} {q q2 m : Nat} {ga ba st ph mo : Int32} (hM : MP f n l o s p) (hN : ∀ q, q < 4 → 0 < n q ∧ n q ≤ 24) (hq : q < 4) (ho : o 0 = nI q) (hq2 : q2 < 4) (hm : 1 ≤ m) (hm2 : m ≤ 12) (hok : okS n (nI q2) ga ba st ph mo) (h : ∀ f', MP f' n l o s p → lo f f' → P (some (zi (nI (sumN (fun k => cntB (ovl (n q) (l q) o (n q2) (l q2) (six (nI q2) ga ba st ph mo) k) 48) m)))) sz f') : Zv none 106 0 [some (zr 37), some (zi (nI m)), some (zi (nI q2)), some (zi ga), some (zi ba), some (zi st), some (zi ph), some (zi mo), none, none, none] [] sz f 0 0 P := by
  obtain ⟨h37, h38, ⟨gl, h39, hgl⟩, h40, ⟨gx, h41⟩, h42, h43, gh, h44⟩ := id hM
  obtain ⟨hn, hn2⟩ := hN q hq
  obtain ⟨hk1, hk2⟩ := hN q2 hq2
  refine rX6_overlaid_0 ?_
  refine rX6_overlaid_1 ?_
  refine rX6_overlaid_2 ?_
  refine rX6_overlaid_4  ?_
  refine m_in ?_
  refine rX6_overlaid_7b (fun hbb => absurd ⟨nI_le (a := 1) hm (by omega), nI_le (b := 12) hm2 (by decide)⟩ hbb) (fun _ => ?_)
  refine rX6_overlaid_10 ?_
  refine rX6_overlaid_11 ?_
  refine rX6_overlaid_12 ?_
  refine rX6_overlaid_13 ?_
  refine rX6_overlaid_15 ?_
  refine rX6_overlaid_17 ?_
  refine rX6_overlaid_19 ?_
  refine rX6_overlaid_21 (by repeat first | assumption | exact zup_eq | refine (zup_ne (by first | decide | omega)).trans ?_) ?_
  refine m_isSetting hM hN ?_
  refine rX6_overlaid_24b (fun _ => ?_) (fun hbb => absurd hok hbb)
  refine rX6_overlaid_29 ?_
  refine rX6_overlaid_30 (by repeat first | assumption | exact zup_eq | refine (zup_ne (by first | decide | omega)).trans ?_) ?_
  refine rX6_overlaid_33 ?_
  refine rX6_overlaid_34 ?_
  refine rX6_overlaid_35 ?_
  refine rX6_overlaid_37 ?_
  refine rX6_overlaid_39 ?_
  refine rX6_overlaid_41 ?_
  refine rX6_overlaid_43  ?_
  refine m_lays h41 (fun f1 g1 k41 hg1 e => ?_)
  have hM1 : MP f1 n l o s p := ⟨(e _ (by decide)).trans h37, h38.keep (e _ (by decide)), ⟨gl, (e _ (by decide)).trans h39, hgl⟩, h40.keep (e _ (by decide)), ⟨g1, k41⟩, h42.keep (e _ (by decide)), h43.keep (e _ (by decide)), gh, (e _ (by decide)).trans h44⟩
  have hA41 : isArr f1 41 6 (six (nI q2) ga ba st ph mo) := ⟨g1, k41, hg1⟩
  have hA40 := hM1.2.2.2.1
  have h := h f1 hM1 (fun j hj => e j (by omega))
  have k37 := hM1.1
  generalize hcc : (fun k => ovl (n q) (l q) o (n q2) (l q2) (six (nI q2) ga ba st ph mo) k) = bb at h
  have hbb : ∀ k t, bb k t = decide (plc (n q) (l q) o (nI k) (nI t) = plc (n q2) (l q2) (six (nI q2) ga ba st ph mo) (nI k) (nI t)) := fun k t => by rw [← hcc]; rfl
  have inner : ∀ (d t k c : Nat), t + d = 48 → Zv none 106 113 [some (zr 37), some (zi (nI m)), some (zi (nI q2)), some (zi ga), some (zi ba), some (zi st), some (zi ph), some (zi mo), some (zi (nI (c + cntB (bb k) 48))), some (zi (nI k)), some (zi (nI 48))] [] sz f1 0 0 P → Zv none 106 61 [some (zr 37), some (zi (nI m)), some (zi (nI q2)), some (zi ga), some (zi ba), some (zi st), some (zi ph), some (zi mo), some (zi (nI (c + cntB (bb k) t))), some (zi (nI k)), some (zi (nI t))] [] sz f1 0 0 P := by
    intro d
    induction d with
    | zero =>
      intro t k c ht h
      obtain rfl : t = 48 := by omega
      refine rX6_overlaid_61 ?_
      refine rX6_overlaid_63 ?_
      refine rX6_overlaid_65 (fun _ => ?_) (fun hbb => absurd (by decide) hbb)
      exact h
    | succ d ih =>
      intro t k c ht h
      have ih := ih (t + 1) k c (by omega) h
      rw [cntB, hbb] at ih
      refine rX6_overlaid_61 ?_
      refine rX6_overlaid_63 ?_
      refine rX6_overlaid_65 (fun hbb => absurd hbb (nI_ge (b := 48) (by omega) (by decide))) (fun _ => ?_)
      refine rX6_overlaid_68 ?_
      refine rX6_overlaid_70 ?_
      refine rX6_overlaid_71 ?_
      refine rX6_overlaid_72 (by repeat first | assumption | exact zup_eq | refine (zup_ne (by first | decide | omega)).trans ?_) ?_
      refine rX6_overlaid_75 ?_
      refine rX6_overlaid_77 ?_
      refine rX6_overlaid_79 ?_
      refine rX6_overlaid_80 (by repeat first | assumption | exact zup_eq | refine (zup_ne (by first | decide | omega)).trans ?_) ?_
      refine m_placed hM1 hA40 hq ho hn hn2 ?_
      rw [Int32.zero_add]
      refine rX6_overlaid_83 ?_
      refine rX6_overlaid_84 ?_
      refine rX6_overlaid_85 (by repeat first | assumption | exact zup_eq | refine (zup_ne (by first | decide | omega)).trans ?_) ?_
      refine rX6_overlaid_88 ?_
      refine rX6_overlaid_90 ?_
      refine rX6_overlaid_92 ?_
      refine rX6_overlaid_93 (by repeat first | assumption | exact zup_eq | refine (zup_ne (by first | decide | omega)).trans ?_) ?_
      refine m_placed hM1 hA41 hq2 rfl hk1 hk2 ?_
      rw [Int32.zero_add]
      refine rX6_overlaid_96 (fun hb => ?_) (fun hb => ?_)
      · rw [if_neg (by rw [decide_eq_false hb]; exact Bool.false_ne_true)] at ih
        refine rX6_overlaid_103 ?_
        refine rX6_overlaid_104 ?_
        refine rX6_overlaid_105 ?_
        refine rX6_overlaid_107 ?_
        refine rX6_overlaid_110 ?_
        rw [nI_1, Int32.add_zero]
        exact ih
      · rw [if_pos (by rw [decide_eq_true hb])] at ih
        refine rX6_overlaid_99 ?_
        refine rX6_overlaid_100 ?_
        refine rX6_overlaid_104 ?_
        refine rX6_overlaid_105 ?_
        refine rX6_overlaid_107 ?_
        refine rX6_overlaid_110 ?_
        rw [nI_1, nI_1]
        exact ih
  have outer : ∀ (d k : Nat) (l4 : Option ZVal), k + d = m → Zv none 106 52 [some (zr 37), some (zi (nI m)), some (zi (nI q2)), some (zi ga), some (zi ba), some (zi st), some (zi ph), some (zi mo), some (zi (nI (sumN (fun k => cntB (bb k) 48) k))), some (zi (nI k)), l4] [] sz f1 0 0 P := by
    intro d
    induction d with
    | zero =>
      intro k l4 hk
      obtain rfl : k = m := by omega
      refine rX6_overlaid_52 ?_
      refine rX6_overlaid_54 ?_
      refine rX6_overlaid_55 (fun _ => ?_) (fun hbb => absurd (nI_le (by omega) (by omega)) hbb)
      refine rX6_overlaid_119 ?_
      refine rX6_overlaid_121 ?_
      rw [← hcc] at *
      exact h
    | succ d ih =>
      intro k l4 hk
      have ih := fun l4 => ih (k + 1) l4 (by omega)
      rw [sumN] at ih
      refine rX6_overlaid_52 ?_
      refine rX6_overlaid_54 ?_
      refine rX6_overlaid_55 (fun hbb => absurd hbb (nI_ge (by omega) (by omega))) (fun _ => ?_)
      refine rX6_overlaid_58 ?_
      refine rX6_overlaid_59 ?_
      refine inner 48 0 k _ rfl ?_
      refine rX6_overlaid_113 ?_
      refine rX6_overlaid_116 ?_
      rw [nI_1]
      exact ih _
  refine rX6_overlaid_46 ?_
  refine rX6_overlaid_47 ?_
  refine rX6_overlaid_49 ?_
  refine rX6_overlaid_50 ?_
  exact outer m 0 none (by omega)
end MR4
