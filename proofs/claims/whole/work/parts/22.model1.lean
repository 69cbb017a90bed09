/-! THE REFERENCE (the object at 37, its rows at 38 to 44): reads -/
/-- the reference's part of the heap holds the same -/
def MP (f : ZH) (n : Nat → Nat) (l : Nat → Nat → Int32) (o s p : Nat → Int32) : Prop := f 37 = some (zO 6 [zr 38, zr 39, zr 40, zr 41, zr 42, zr 43, zr 44]) ∧ isArr f 38 4 (fun r => nI (n r)) ∧ (∃ g, f 39 = some (zA 96 g) ∧ ∀ r, r < 4 → ∀ i, i < 24 → g (24 * r + i) = l r i) ∧ isArr f 40 6 o ∧ (∃ g, f 41 = some (zA 6 g)) ∧ isArr f 42 12 s ∧ isArr f 43 576 p ∧ ∃ g, f 44 = some (zA 24 g)
theorem i24 (r t : Nat) : 24 * nI r + nI t = nI (24 * r + t) := by
  rw [show (24 : Int32) = nI 24 from rfl, pk_mul, nI_add]
theorem i48' (r t : Nat) : 48 * nI r + nI t = nI (r * 48 + t) := by
  rw [show (48 : Int32) = nI 48 from rfl, pk_mul, nI_add, Nat.mul_comm]
theorem m_in {x a b : Int32} {sz : Nat} {f : ZH} {P : Option ZVal → Nat → ZH → Prop} (h : P (some (zi (zb (inR x a b)))) sz f) : Zv none 76 0 [some (zi x), some (zi a), some (zi b)] [] sz f 0 0 P := by
  refine rX6_in_0 ?_
  refine rX6_in_1 ?_
  refine rX6_in_2 (fun hb => ?_) (fun hb => ?_)
  · rw [zb_f (fun q => absurd q.1 (Int32.not_le.mpr hb))] at h
    refine rX6_in_14 ?_
    first | refine rX6_in_15b ?_ | refine rX6_in_15 (Or.inl rfl) ?_ | refine rX6_in_15 (Or.inr rfl) ?_
    exact h
  · refine rX6_in_5 ?_
    refine rX6_in_6 ?_
    refine rX6_in_7 (fun hc => ?_) (fun hc => ?_)
    · rw [zb_f (fun q => absurd q.2 (Int32.not_le.mpr hc))] at h
      refine rX6_in_14 ?_
      first | refine rX6_in_15b ?_ | refine rX6_in_15 (Or.inl rfl) ?_ | refine rX6_in_15 (Or.inr rfl) ?_
      exact h
    · rw [zb_t ⟨Int32.not_lt.mp hb, Int32.not_lt.mp hc⟩] at h
      refine rX6_in_10 ?_
      refine rX6_in_11 ?_
      first | refine rX6_in_15b ?_ | refine rX6_in_15 (Or.inl rfl) ?_ | refine rX6_in_15 (Or.inr rfl) ?_
      exact h
theorem m_isRosette {x : Int32} {sz : Nat} {f : ZH} {P : Option ZVal → Nat → ZH → Prop} (h : P (some (zi (zb (inR x 0 3)))) sz f) : Zv none 77 0 [some (zi x)] [] sz f 0 0 P := by
  refine rX6_isRosette_0 ?_
  refine rX6_isRosette_1 ?_
  refine rX6_isRosette_2 ?_
  refine rX6_isRosette_3  ?_
  refine m_in ?_
  first | refine rX6_isRosette_6b ?_ | refine rX6_isRosette_6 (Or.inl rfl) ?_ | refine rX6_isRosette_6 (Or.inr rfl) ?_
  exact h
theorem m_by {x : Int32} {n : Nat} {sz : Nat} {f : ZH} {P : Option ZVal → Nat → ZH → Prop} (hn : 0 < n) (hn2 : n < 2 ^ 31) (h : P (some (zi (nI (fm x n)))) sz f) : Zv none 82 0 [some (zi x), some (zi (nI n)), none] [] sz f 0 0 P := by
  have hy : ¬ nI n = 0 := nI_ne hn hn2
  obtain ⟨e1, e2⟩ := rem_fm (x := x) hn hn2
  refine rX6_by_0 ?_
  refine rX6_by_1 ?_
  refine rX6_by_2 (by first | assumption | decide) ?_
  refine rX6_by_3 ?_
  refine rX6_by_4 ?_
  refine rX6_by_5 (fun hb => ?_) (fun hb => ?_)
  · rw [← e1 hb] at h
    refine rX6_by_14 ?_
    refine rX6_by_15 ?_
    exact h
  · rw [← e2 (Int32.not_le.mp hb)] at h
    refine rX6_by_8 ?_
    refine rX6_by_9 ?_
    refine rX6_by_10 ?_
    refine rX6_by_11 ?_
    refine rX6_by_15 ?_
    exact h
theorem inR03 {q : Nat} (hq : q < 4) : inR (nI q) 0 3 := ⟨nI_pos' (by omega), nI_le (b := 3) (by omega) (by decide)⟩
theorem inR011 {q : Nat} (hq : q < 12) : inR (nI q) 0 11 := ⟨nI_pos' (by omega), nI_le (b := 11) (by omega) (by decide)⟩
section MR
variable {n : Nat → Nat} {l : Nat → Nat → Int32} {o s p : Nat → Int32} {sz : Nat} {f : ZH} {P : Option ZVal → Nat → ZH → Prop}
theorem m_liftAt {r : Nat} {x : Int32} (hM : MP f n l o s p) (hr : r < 4) (hn : 0 < n r) (hn2 : n r ≤ 24) (h : P (some (zi (lft (n r) (l r) x))) sz f) : Zv none 83 0 [some (zr 37), some (zi (nI r)), some (zi x)] [] sz f 0 0 P := by
  obtain ⟨h37, ⟨gn, h38, hgn⟩, ⟨gl, h39, hgl⟩, -⟩ := id hM
  have hf := fm_lt (x := x) hn
  rw [lft, ← hgl r hr _ (by omega)] at h
  refine rX6_liftAt_0 ?_
  refine rX6_liftAt_1 (by repeat first | assumption | exact zup_eq | refine (zup_ne (by first | decide | omega)).trans ?_) ?_
  refine rX6_liftAt_4 ?_
  refine rX6_liftAt_6 ?_
  refine rX6_liftAt_7 ?_
  refine rX6_liftAt_8 ?_
  refine rX6_liftAt_9 ?_
  refine rX6_liftAt_10 (by repeat first | assumption | exact zup_eq | refine (zup_ne (by first | decide | omega)).trans ?_) ?_
  refine rX6_liftAt_13 ?_
  first | refine rX6_liftAt_14N (by repeat first | assumption | exact zup_eq | refine (zup_ne (by first | decide | omega)).trans ?_) (by first | assumption | decide | omega) (by first | decide | omega) ?_ | refine rX6_liftAt_14 (by repeat first | assumption | exact zup_eq | refine (zup_ne (by first | decide | omega)).trans ?_) (by first | assumption | decide) ?_
  rw [hgn r hr]
  refine rX6_liftAt_15  ?_
  refine m_by hn (by omega) ?_
  refine rX6_liftAt_18 ?_
  rw [i24]
  refine rX6_liftAt_19N h39 (by omega) (by decide) ?_
  refine rX6_liftAt_20 ?_
  exact h
theorem m_period {r : Nat} (hM : MP f n l o s p) (hr : r < 4) (hn : 0 < n r) (hn2 : n r ≤ 24) (h : P (some (zi (nI (per (n r) (l r))))) sz f) : Zv none 84 0 [some (zr 37), some (zi (nI r)), none, none, none] [] sz f 0 0 P := by
  obtain ⟨h37, ⟨gn, h38, hgn⟩, -⟩ := id hM
  have inner : ∀ (t : Nat), t < n r → (∀ l4, Zv none 84 78 [some (zr 37), some (zi (nI r)), some (zi (nI t)), some (zi (zb (n r % t = 0 ∧ stays (n r) (l r) t))), l4] [] sz f 0 0 P) → ∀ (d i : Nat), i + d = n r → Zv none 84 32 [some (zr 37), some (zi (nI r)), some (zi (nI t)), some (zi (zb (n r % t = 0 ∧ ∀ q, q < i → lft (n r) (l r) (nI q + nI t) = lft (n r) (l r) (nI q)))), some (zi (nI i))] [] sz f 0 0 P := by
    intro t ht h d
    induction d with
    | zero =>
      intro i hi
      obtain rfl : i = n r := by omega
      refine rX6_period_32 ?_
      refine rX6_period_34 ?_
      refine rX6_period_35 (by repeat first | assumption | exact zup_eq | refine (zup_ne (by first | decide | omega)).trans ?_) ?_
      refine rX6_period_38 ?_
      first | refine rX6_period_39N (by repeat first | assumption | exact zup_eq | refine (zup_ne (by first | decide | omega)).trans ?_) (by first | assumption | decide | omega) (by first | decide | omega) ?_ | refine rX6_period_39 (by repeat first | assumption | exact zup_eq | refine (zup_ne (by first | decide | omega)).trans ?_) (by first | assumption | decide) ?_
      rw [hgn r hr]
      refine rX6_period_40 (fun _ => ?_) (fun hbb => absurd (nI_le (Nat.le_refl _) (by omega)) hbb)
      rw [zb_c (q := n r % t = 0 ∧ stays (n r) (l r) t) ⟨fun z => ⟨z.1, fun q _ hq => z.2 q hq⟩, fun z => ⟨z.1, fun q hq => z.2 q (Nat.zero_le _) hq⟩⟩]
      exact h _
    | succ d ih =>
      intro i hi
      refine rX6_period_32 ?_
      refine rX6_period_34 ?_
      refine rX6_period_35 (by repeat first | assumption | exact zup_eq | refine (zup_ne (by first | decide | omega)).trans ?_) ?_
      refine rX6_period_38 ?_
      first | refine rX6_period_39N (by repeat first | assumption | exact zup_eq | refine (zup_ne (by first | decide | omega)).trans ?_) (by first | assumption | decide | omega) (by first | decide | omega) ?_ | refine rX6_period_39 (by repeat first | assumption | exact zup_eq | refine (zup_ne (by first | decide | omega)).trans ?_) (by first | assumption | decide) ?_
      rw [hgn r hr]
      refine rX6_period_40 (fun hbb => absurd hbb (nI_ge (by omega) (by omega))) (fun _ => ?_)
      refine rX6_period_43 ?_
      refine rX6_period_44b (fun hb => ?_) (fun hb => ?_)
      · rw [zb_f (p := n r % t = 0 ∧ stays (n r) (l r) t) (fun z => hb ⟨z.1, fun q hq => z.2 q (Nat.zero_le _) (by omega)⟩)] at h
        rw [zb_f hb]
        exact h _
      · refine rX6_period_47 ?_
        refine rX6_period_48 ?_
        refine rX6_period_49 ?_
        refine rX6_period_51 (by repeat first | assumption | exact zup_eq | refine (zup_ne (by first | decide | omega)).trans ?_) ?_
        refine m_liftAt (by assumption) (by assumption) (by assumption) (by assumption) ?_
        refine rX6_period_54 ?_
        refine rX6_period_55 ?_
        refine rX6_period_56 ?_
        refine rX6_period_58 ?_
        refine rX6_period_59 ?_
        refine rX6_period_60 (by repeat first | assumption | exact zup_eq | refine (zup_ne (by first | decide | omega)).trans ?_) ?_
        refine m_liftAt (by assumption) (by assumption) (by assumption) (by assumption) ?_
        have go : ∀ x, x = zb (n r % t = 0 ∧ ∀ q, q < i + 1 → lft (n r) (l r) (nI q + nI t) = lft (n r) (l r) (nI q)) → Zv none 84 71 [some (zr 37), some (zi (nI r)), some (zi (nI t)), some (zi (zb (n r % t = 0 ∧ ∀ q, q < i → lft (n r) (l r) (nI q + nI t) = lft (n r) (l r) (nI q)))), some (zi (nI i))] [zi x] sz f 0 0 P := by
          intro x hx
          subst hx
          refine rX6_period_71 ?_
          refine rX6_period_72 ?_
          refine rX6_period_75 ?_
          rw [nI_1]
          exact ih (i + 1) (by omega)
        refine rX6_period_63 (fun h2 => ?_) (fun h2 => ?_)
        · refine rX6_period_70 ?_
          exact go 0 (zb_f (fun z => h2 (z.2 i (by omega)).symm)).symm
        · refine rX6_period_66 ?_
          refine rX6_period_67 ?_
          refine go 1 (zb_t ⟨hb.1, fun q hq => ?_⟩).symm
          by_cases hqi : q = i
          · rw [hqi]; exact h2.symm
          · exact hb.2 q (by omega)
  have outer : ∀ (d t : Nat) (l3 l4 : Option ZVal), 0 < t → t + d = n r → P (some (zi (nI (zper (n r) (l r) d t)))) sz f → Zv none 84 2 [some (zr 37), some (zi (nI r)), some (zi (nI t)), l3, l4] [] sz f 0 0 P := by
    intro d
    induction d with
    | zero =>
      intro t l3 l4 ht hi h
      refine rX6_period_2 ?_
      refine rX6_period_3 ?_
      refine rX6_period_4 (by repeat first | assumption | exact zup_eq | refine (zup_ne (by first | decide | omega)).trans ?_) ?_
      refine rX6_period_7 ?_
      first | refine rX6_period_8N (by repeat first | assumption | exact zup_eq | refine (zup_ne (by first | decide | omega)).trans ?_) (by first | assumption | decide | omega) (by first | decide | omega) ?_ | refine rX6_period_8 (by repeat first | assumption | exact zup_eq | refine (zup_ne (by first | decide | omega)).trans ?_) (by first | assumption | decide) ?_
      rw [hgn r hr]
      refine rX6_period_9 (fun _ => ?_) (fun hbb => absurd (nI_le (by omega) (by omega)) hbb)
      refine rX6_period_90 ?_
      refine rX6_period_91 (by repeat first | assumption | exact zup_eq | refine (zup_ne (by first | decide | omega)).trans ?_) ?_
      refine rX6_period_94 ?_
      first | refine rX6_period_95N (by repeat first | assumption | exact zup_eq | refine (zup_ne (by first | decide | omega)).trans ?_) (by first | assumption | decide | omega) (by first | decide | omega) ?_ | refine rX6_period_95 (by repeat first | assumption | exact zup_eq | refine (zup_ne (by first | decide | omega)).trans ?_) (by first | assumption | decide) ?_
      rw [hgn r hr]
      refine rX6_period_96 ?_
      exact h
    | succ d ih =>
      intro t l3 l4 ht hi h
      have hy : ¬ nI t = 0 := nI_ne ht (by omega)
      refine rX6_period_2 ?_
      refine rX6_period_3 ?_
      refine rX6_period_4 (by repeat first | assumption | exact zup_eq | refine (zup_ne (by first | decide | omega)).trans ?_) ?_
      refine rX6_period_7 ?_
      first | refine rX6_period_8N (by repeat first | assumption | exact zup_eq | refine (zup_ne (by first | decide | omega)).trans ?_) (by first | assumption | decide | omega) (by first | decide | omega) ?_ | refine rX6_period_8 (by repeat first | assumption | exact zup_eq | refine (zup_ne (by first | decide | omega)).trans ?_) (by first | assumption | decide) ?_
      rw [hgn r hr]
      refine rX6_period_9 (fun hbb => absurd hbb (nI_ge (by omega) (by omega))) (fun _ => ?_)
      refine rX6_period_12 ?_
      refine rX6_period_13 (by repeat first | assumption | exact zup_eq | refine (zup_ne (by first | decide | omega)).trans ?_) ?_
      refine rX6_period_16 ?_
      first | refine rX6_period_17N (by repeat first | assumption | exact zup_eq | refine (zup_ne (by first | decide | omega)).trans ?_) (by first | assumption | decide | omega) (by first | decide | omega) ?_ | refine rX6_period_17 (by repeat first | assumption | exact zup_eq | refine (zup_ne (by first | decide | omega)).trans ?_) (by first | assumption | decide) ?_
      rw [hgn r hr]
      refine rX6_period_18 ?_
      refine rX6_period_19 (by first | assumption | decide) ?_
      rw [pk_rem (by omega) ht (by omega)]
      have go : ∀ x, x = zb (n r % t = 0 ∧ ∀ q, q < 0 → lft (n r) (l r) (nI q + nI t) = lft (n r) (l r) (nI q)) → Zv none 84 28 [some (zr 37), some (zi (nI r)), some (zi (nI t)), l3, l4] [zi x] sz f 0 0 P := by
        intro x hx
        subst hx
        refine rX6_period_28 ?_
        refine rX6_period_29 ?_
        refine rX6_period_30 ?_
        refine inner t (by omega) (fun l4 => ?_) (n r) 0 (by omega)
        refine rX6_period_78 ?_
        refine rX6_period_79b (fun hb => ?_) (fun hb => ?_)
        · rw [zper, if_neg hb] at h
          refine rX6_period_84 ?_
          refine rX6_period_87 ?_
          rw [nI_1]
          exact ih (t + 1) _ _ (by omega) (by omega) h
        · rw [zper, if_pos hb] at h
          refine rX6_period_82 ?_
          refine rX6_period_83 ?_
          exact h
      by_cases hc : n r % t = 0
      · refine rX6_period_20 (fun hbb => absurd (by rw [hc]; rfl) hbb) (fun _ => ?_)
        refine rX6_period_23 ?_
        refine rX6_period_24 ?_
        exact go 1 (zb_t ⟨hc, fun q hq => absurd hq (by omega)⟩).symm
      · refine rX6_period_20 (fun _ => ?_) (fun hbb => absurd hbb (nI_ne (by omega) (by have := Nat.mod_lt (n r) ht; omega)))
        refine rX6_period_27 ?_
        exact go 0 (zb_f (fun z => hc z.1)).symm
  refine rX6_period_0 ?_
  refine rX6_period_1 ?_
  exact outer (n r - 1) 1 _ _ (by decide) (by omega) h
theorem m_turned {r : Nat} {w : Int32} {i : Nat} (hM : MP f n l o s p) (hr : r < 4) (hn : 0 < n r) (hn2 : n r ≤ 24) (h : P (some (zi (wlf (n r) (l r) w i))) sz f) : Zv none 86 0 [some (zr 37), some (zi (nI r)), some (zi w), some (zi (nI i))] [] sz f 0 0 P := by
  have h37 := hM.1
  unfold wlf at h
  refine rX6_turned_0 ?_
  refine rX6_turned_1 ?_
  refine rX6_turned_3 (fun hb => ?_) (fun hb => ?_)
  · rw [if_neg (Int32.not_lt.mpr hb)] at h
    refine rX6_turned_17 ?_
    refine rX6_turned_18 ?_
    refine rX6_turned_19 ?_
    refine rX6_turned_20 ?_
    refine rX6_turned_22 ?_
    refine rX6_turned_23 ?_
    refine rX6_turned_24 ?_
    refine rX6_turned_25 (by repeat first | assumption | exact zup_eq | refine (zup_ne (by first | decide | omega)).trans ?_) ?_
    refine m_liftAt (by assumption) (by assumption) (by assumption) (by assumption) ?_
    refine rX6_turned_28 ?_
    exact h
  · rw [if_pos (Int32.not_le.mp hb), Int32.add_comm] at h
    refine rX6_turned_6 ?_
    refine rX6_turned_7 ?_
    refine rX6_turned_8 ?_
    refine rX6_turned_9 ?_
    refine rX6_turned_10 ?_
    refine rX6_turned_11 (by repeat first | assumption | exact zup_eq | refine (zup_ne (by first | decide | omega)).trans ?_) ?_
    refine m_liftAt (by assumption) (by assumption) (by assumption) (by assumption) ?_
    refine rX6_turned_14 ?_
    refine rX6_turned_28 ?_
    exact h
/-- the first difference from i on -/
def zdif (a b : Nat → Int32) : Nat → Nat → Int32
  | 0, _ => 0
  | d + 1, i => if a i - b i = 0 then zdif a b d (i + 1) else a i - b i
theorem m_against {r r2 : Nat} {w u : Int32} (hM : MP f n l o s p) (hr : r < 4) (hn : 0 < n r) (hn2 : n r ≤ 24) (hr2 : r2 < 4) (hm : 0 < n r2) (hm2 : n r2 ≤ 24) (h : P (some (zi (zdif (wlf (n r) (l r) w) (wlf (n r2) (l r2) u) (n r) 0))) sz f) : Zv none 87 0 [some (zr 37), some (zi (nI r)), some (zi w), some (zi (nI r2)), some (zi u), none, none] [] sz f 0 0 P := by
  obtain ⟨h37, ⟨gn, h38, hgn⟩, -⟩ := id hM
  have key : ∀ (d i : Nat), i + d = n r → P (some (zi (zdif (wlf (n r) (l r) w) (wlf (n r2) (l r2) u) d i))) sz f → Zv none 87 6 [some (zr 37), some (zi (nI r)), some (zi w), some (zi (nI r2)), some (zi u), some (zi 0), some (zi (nI i))] [] sz f 0 0 P := by
    intro d
    induction d with
    | zero =>
      intro i hi h
      refine rX6_against_6 ?_
      refine rX6_against_8 ?_
      refine rX6_against_9 (by repeat first | assumption | exact zup_eq | refine (zup_ne (by first | decide | omega)).trans ?_) ?_
      refine rX6_against_12 ?_
      first | refine rX6_against_13N (by repeat first | assumption | exact zup_eq | refine (zup_ne (by first | decide | omega)).trans ?_) (by first | assumption | decide | omega) (by first | decide | omega) ?_ | refine rX6_against_13 (by repeat first | assumption | exact zup_eq | refine (zup_ne (by first | decide | omega)).trans ?_) (by first | assumption | decide) ?_
      rw [hgn r hr]
      refine rX6_against_14 (fun _ => ?_) (fun hbb => absurd (nI_le (by omega) (by omega)) hbb)
      refine rX6_against_48 ?_
      refine rX6_against_50 ?_
      exact h
    | succ d ih =>
      intro i hi h
      rw [zdif] at h
      refine rX6_against_6 ?_
      refine rX6_against_8 ?_
      refine rX6_against_9 (by repeat first | assumption | exact zup_eq | refine (zup_ne (by first | decide | omega)).trans ?_) ?_
      refine rX6_against_12 ?_
      first | refine rX6_against_13N (by repeat first | assumption | exact zup_eq | refine (zup_ne (by first | decide | omega)).trans ?_) (by first | assumption | decide | omega) (by first | decide | omega) ?_ | refine rX6_against_13 (by repeat first | assumption | exact zup_eq | refine (zup_ne (by first | decide | omega)).trans ?_) (by first | assumption | decide) ?_
      rw [hgn r hr]
      refine rX6_against_14 (fun hbb => absurd hbb (nI_ge (by omega) (by omega))) (fun _ => ?_)
      refine rX6_against_17 ?_
      refine rX6_against_19 (fun hbb => absurd rfl hbb) (fun _ => ?_)
      refine rX6_against_22 ?_
      refine rX6_against_23 ?_
      refine rX6_against_24 ?_
      refine rX6_against_25 ?_
      refine rX6_against_27 (by repeat first | assumption | exact zup_eq | refine (zup_ne (by first | decide | omega)).trans ?_) ?_
      refine m_turned (by assumption) (by assumption) (by assumption) (by assumption) ?_
      refine rX6_against_30 ?_
      refine rX6_against_31 ?_
      refine rX6_against_32 ?_
      refine rX6_against_34 ?_
      refine rX6_against_36 (by repeat first | assumption | exact zup_eq | refine (zup_ne (by first | decide | omega)).trans ?_) ?_
      refine m_turned (by assumption) (by assumption) (by assumption) (by assumption) ?_
      refine rX6_against_39 ?_
      refine rX6_against_40 ?_
      refine rX6_against_42 ?_
      refine rX6_against_45 ?_
      rw [nI_1]
      by_cases hz : wlf (n r) (l r) w i - wlf (n r2) (l r2) u i = 0
      · rw [if_pos hz] at h
        rw [hz]
        exact ih (i + 1) (by omega) h
      · rw [if_neg hz] at h
        generalize wlf (n r) (l r) w i - wlf (n r2) (l r2) u i = x at h hz ⊢
        by_cases hi2 : i + 1 < n r
        · refine rX6_against_6 ?_
          refine rX6_against_8 ?_
          refine rX6_against_9 (by repeat first | assumption | exact zup_eq | refine (zup_ne (by first | decide | omega)).trans ?_) ?_
          refine rX6_against_12 ?_
          first | refine rX6_against_13N (by repeat first | assumption | exact zup_eq | refine (zup_ne (by first | decide | omega)).trans ?_) (by first | assumption | decide | omega) (by first | decide | omega) ?_ | refine rX6_against_13 (by repeat first | assumption | exact zup_eq | refine (zup_ne (by first | decide | omega)).trans ?_) (by first | assumption | decide) ?_
          rw [hgn r hr]
          refine rX6_against_14 (fun hbb => absurd hbb (nI_ge hi2 (by omega))) (fun _ => ?_)
          refine rX6_against_17 ?_
          refine rX6_against_19 (fun _ => ?_) (fun hbb => absurd hbb hz)
          refine rX6_against_48 ?_
          refine rX6_against_50 ?_
          exact h
        · refine rX6_against_6 ?_
          refine rX6_against_8 ?_
          refine rX6_against_9 (by repeat first | assumption | exact zup_eq | refine (zup_ne (by first | decide | omega)).trans ?_) ?_
          refine rX6_against_12 ?_
          first | refine rX6_against_13N (by repeat first | assumption | exact zup_eq | refine (zup_ne (by first | decide | omega)).trans ?_) (by first | assumption | decide | omega) (by first | decide | omega) ?_ | refine rX6_against_13 (by repeat first | assumption | exact zup_eq | refine (zup_ne (by first | decide | omega)).trans ?_) (by first | assumption | decide) ?_
          rw [hgn r hr]
          refine rX6_against_14 (fun _ => ?_) (fun hbb => absurd (nI_le (by omega) (by omega)) hbb)
          refine rX6_against_48 ?_
          refine rX6_against_50 ?_
          exact h
  refine rX6_against_0 ?_
  refine rX6_against_1 ?_
  refine rX6_against_3 ?_
  refine rX6_against_4 ?_
  exact key (n r) 0 (by omega) h
end MR
