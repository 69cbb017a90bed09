/-! THE LATHE'S CALLS: see, print, off, count -/
/-- what print(m) makes of the plate -/
noncomputable def prt (n : Nat) (l o s : Nat → Int32) (m : Nat) : Nat → Int32 := fun i => if i / 48 < m then @ite _ (inR (plS n l o s (i / 48) (nI (i % 48))) 0 2000) (Classical.propDecidable _) (plS n l o s (i / 48) (nI (i % 48))) (-1) else -1
theorem div48 (k t : Nat) (ht : t < 48) : (k * 48 + t) / 48 = k := by omega
theorem mod48 (k t : Nat) (ht : t < 48) : (k * 48 + t) % 48 = t := by omega
theorem isPl.agree {f : ZH} {p p' : Nat → Int32} (h : isPl f p) (e : ∀ i, i < 576 → p i = p' i) : isPl f p' := by
  obtain ⟨h1, h2, g, h3, h4⟩ := h
  exact ⟨h1, h2, g, h3, fun i hi => (h4 i hi).trans (e i hi)⟩
section LC4
variable {n : Nat → Nat} {l : Nat → Nat → Int32} {o s p : Nat → Int32} {sz : Nat} {P : Option ZVal → Nat → ZH → Prop}
theorem c_see_bad {f : ZH} {r x v : Int32} (hC : CP f n l o s p) (hb : ¬ (inR r 0 11 ∧ inR x 0 47 ∧ inR v (-1) 2000)) (h : P (some (zi (-100))) sz f) : Zv none 57 0 [some (zr 0), some (zi r), some (zi x), some (zi v), none] [] sz f 0 0 P := by
  refine rX5_see_0 ?_
  refine rX5_see_1  ?_
  refine s_X5_isRing ?_
  refine rX5_see_4b (fun _ => ?_) (fun h1 => ?_)
  · refine rX5_see_28 ?_
    refine rX5_see_30 ?_
    exact h
  refine rX5_see_7 ?_
  refine rX5_see_8 ?_
  refine rX5_see_9 ?_
  refine rX5_see_11  ?_
  refine s_X5_within ?_
  refine rX5_see_14b (fun _ => ?_) (fun h2 => ?_)
  · refine rX5_see_28 ?_
    refine rX5_see_30 ?_
    exact h
  refine rX5_see_17 ?_
  refine rX5_see_18 ?_
  refine rX5_see_19 ?_
  refine rX5_see_22  ?_
  refine s_X5_within ?_
  refine rX5_see_25b (fun hbb => absurd hbb (fun z => hb ⟨h1, h2, z⟩)) (fun _ => ?_)
  refine rX5_see_28 ?_
  refine rX5_see_30 ?_
  exact h
theorem c_see_ok {f : ZH} {r t : Nat} {v : Int32} (hC : CP f n l o s p) (hr : r < 12) (ht : t < 48) (hv : inR v (-1) 2000) (h : ∀ f', CP f' n l o s (upd p (r * 48 + t) v) → hi f f' → P (some (zi (p (r * 48 + t)))) sz f') : Zv none 57 0 [some (zr 0), some (zi (nI r)), some (zi (nI t)), some (zi v), none] [] sz f 0 0 P := by
  have hT := hC.1
  have hT0 := hT.1
  have hPl := hC.2.2.2.2.2.1
  have hPl0 := hPl.1
  refine rX5_see_0 ?_
  refine rX5_see_1  ?_
  refine s_X5_isRing ?_
  refine rX5_see_4b (fun hbb => absurd ⟨nI_pos' (by omega), nI_le (b := 11) (by omega) (by decide)⟩ hbb) (fun _ => ?_)
  refine rX5_see_7 ?_
  refine rX5_see_8 ?_
  refine rX5_see_9 ?_
  refine rX5_see_11  ?_
  refine s_X5_within ?_
  refine rX5_see_14b (fun hbb => absurd ⟨nI_pos' (by omega), nI_le (b := 47) (by omega) (by decide)⟩ hbb) (fun _ => ?_)
  refine rX5_see_17 ?_
  refine rX5_see_18 ?_
  refine rX5_see_19 ?_
  refine rX5_see_22  ?_
  refine s_X5_within ?_
  refine rX5_see_25b (fun _ => ?_) (fun hbb => absurd hv hbb)
  refine rX5_see_31 ?_
  refine rX5_see_32 (by repeat first | assumption | exact zup_eq | refine (zup_ne (by first | decide | omega)).trans ?_) ?_
  refine rX5_see_35 ?_
  refine rX5_see_36 ?_
  refine rX5_see_37 (by repeat first | assumption | exact zup_eq | refine (zup_ne (by first | decide | omega)).trans ?_) ?_
  refine s_X0_look (by assumption) (by first | assumption | omega) (by first | assumption | omega) ?_
  refine rX5_see_40 ?_
  refine rX5_see_42 ?_
  refine rX5_see_43 (by repeat first | assumption | exact zup_eq | refine (zup_ne (by first | decide | omega)).trans ?_) ?_
  refine rX5_see_46 ?_
  refine rX5_see_47 ?_
  refine rX5_see_48 ?_
  refine rX5_see_49 (by repeat first | assumption | exact zup_eq | refine (zup_ne (by first | decide | omega)).trans ?_) ?_
  refine s_X0_mark hPl hr ht (fun f1 hPl1 hf1 => ?_)
  refine rX5_see_52 ?_
  refine rX5_see_54 ?_
  exact h f1 (hC.plate (fun j hj => hf1 j (by simpa using hj)) hPl1) (fun j hj => hf1 j (by omega))
theorem c_print_bad {f : ZH} {x : Int32} (hC : CP f n l o s p) (hb : ¬ inR x 1 12) (h : P (some (zi (-1))) sz f) : Zv none 58 0 [some (zr 0), some (zi x), none, none] [] sz f 0 0 P := by
  refine rX5_print_0 ?_
  refine rX5_print_1 ?_
  refine rX5_print_2 ?_
  refine rX5_print_4  ?_
  refine s_X5_within ?_
  refine rX5_print_7b (fun hbb => absurd hbb hb) (fun _ => ?_)
  refine rX5_print_10 ?_
  refine rX5_print_11 ?_
  exact h
theorem c_print_ok {q m : Nat} {f : ZH} (hC : CP f n l o s p) (hI : Inv n l o s p) (hq : q < 4) (ho : o 0 = nI q) (hm : 1 ≤ m) (hm2 : m ≤ 12) (h : ∀ f', CP f' n l o s (prt (n q) (l q) o s m) → hi f f' → P (some (zi (nI (sumN (fun r => cntB (seenB (prt (n q) (l q) o s m) r) 48) 12)))) sz f') : Zv none 58 0 [some (zr 0), some (zi (nI m)), none, none] [] sz f 0 0 P := by
  obtain ⟨hn, hn2⟩ := hI.1 q hq
  refine rX5_print_0 ?_
  refine rX5_print_1 ?_
  refine rX5_print_2 ?_
  refine rX5_print_4  ?_
  refine s_X5_within ?_
  refine rX5_print_7b (fun _ => ?_) (fun hbb => absurd ⟨nI_le (a := 1) hm (by omega), nI_le (b := 12) hm2 (by decide)⟩ hbb)
  refine rX5_print_12 ?_
  refine rX5_print_13 ?_
  have inner : ∀ (d t k : Nat) (f1 : ZH) (p1 : Nat → Int32), t + d = 48 → k < 12 → CP f1 n l o s p1 → hi f f1 → (∀ i, i < k * 48 + t → p1 i = prt (n q) (l q) o s m i) → (∀ f2 p2, CP f2 n l o s p2 → hi f f2 → (∀ i, i < (k + 1) * 48 → p2 i = prt (n q) (l q) o s m i) → Zv none 58 58 [some (zr 0), some (zi (nI m)), some (zi (nI k)), some (zi (nI 48))] [] sz f2 0 0 P) → Zv none 58 22 [some (zr 0), some (zi (nI m)), some (zi (nI k)), some (zi (nI t))] [] sz f1 0 0 P := by
    intro d
    induction d with
    | zero =>
      intro t k f1 p1 ht hk hC1 hh hp h
      obtain rfl : t = 48 := by omega
      refine rX5_print_22 ?_
      refine rX5_print_23 ?_
      refine rX5_print_25 (fun _ => ?_) (fun hbb => absurd (by decide) hbb)
      exact h f1 p1 hC1 hh (fun i hi => hp i (by omega))
    | succ d ih =>
      intro t k f1 p1 ht hk hC1 hh hp h
      have hT := hC1.1
      have hT0 := hT.1
      have hS := hC1.2.2.1
      have hSl := hC1.2.2.2.2.1
      have hRq := hC1.2.1 q hq
      have hPl := hC1.2.2.2.2.2.1
      have hPl0 := hPl.1
      have next : ∀ v, v = prt (n q) (l q) o s m (k * 48 + t) → Zv none 58 49 [some (zr 0), some (zi (nI m)), some (zi (nI k)), some (zi (nI t))] [zi v, zi (nI t), zi (nI k), zr 6] sz f1 0 0 P := by
        intro v hv
        refine rX5_print_49 (by repeat first | assumption | exact zup_eq | refine (zup_ne (by first | decide | omega)).trans ?_) ?_
        refine s_X0_mark hPl hk (by omega) (fun f2 hPl2 hf2 => ?_)
        refine rX5_print_52 ?_
        refine rX5_print_55 ?_
        rw [nI_1]
        refine ih (t + 1) k f2 _ (by omega) hk (hC1.plate (fun j hj => hf2 j (by simpa using hj)) hPl2) (fun j hj => (hf2 j (by omega)).trans (hh j hj)) (fun i hi => ?_) h
        by_cases hi2 : i = k * 48 + t
        · rw [hi2, upd_s, hv]
        · rw [upd_n hi2, hp i (by omega)]
      refine rX5_print_22 ?_
      refine rX5_print_23 ?_
      refine rX5_print_25 (fun hbb => absurd hbb (nI_ge (b := 48) (by omega) (by decide))) (fun _ => ?_)
      refine rX5_print_28 ?_
      refine rX5_print_29 (by repeat first | assumption | exact zup_eq | refine (zup_ne (by first | decide | omega)).trans ?_) ?_
      refine rX5_print_32 ?_
      refine rX5_print_33 ?_
      refine rX5_print_34 ?_
      refine rX5_print_35 ?_
      have e0 : prt (n q) (l q) o s m (k * 48 + t) = if k < m then @ite _ (inR (plS (n q) (l q) o s k (nI t)) 0 2000) (Classical.propDecidable _) (plS (n q) (l q) o s k (nI t)) (-1) else -1 := by
        unfold prt
        rw [div48 k t (by omega), mod48 k t (by omega)]
      by_cases hkm : k < m
      · rw [if_pos hkm] at e0
        refine rX5_print_36 (fun hbb => absurd hbb (nI_ge hkm (by omega))) (fun _ => ?_)
        refine rX5_print_39 ?_
        refine rX5_print_40 ?_
        refine rX5_print_41 ?_
        refine rX5_print_42 (by repeat first | assumption | exact zup_eq | refine (zup_ne (by first | decide | omega)).trans ?_) ?_
        refine s_X5_seenPlace hT hS hSl hq ho hRq hn hn2 hk ?_
        refine rX5_print_45 ?_
        exact next _ e0.symm
      · rw [if_neg hkm] at e0
        refine rX5_print_36 (fun _ => ?_) (fun hbb => absurd (nI_le (by omega) (by omega)) hbb)
        refine rX5_print_48 ?_
        exact next _ e0.symm
  have outer : ∀ (d k : Nat) (f1 : ZH) (p1 : Nat → Int32) (l4 : Option ZVal), k + d = 12 → CP f1 n l o s p1 → hi f f1 → (∀ i, i < k * 48 → p1 i = prt (n q) (l q) o s m i) → Zv none 58 14 [some (zr 0), some (zi (nI m)), some (zi (nI k)), l4] [] sz f1 0 0 P := by
    intro d
    induction d with
    | zero =>
      intro k f1 p1 l4 hk hC1 hh hp
      obtain rfl : k = 12 := by omega
      have hT := hC1.1
      have hT0 := hT.1
      have hPl : isPl f1 (prt (n q) (l q) o s m) := hC1.2.2.2.2.2.1.agree (fun i hi => hp i (by omega))
      have hPl0 := hPl.1
      refine rX5_print_14 ?_
      refine rX5_print_15 ?_
      refine rX5_print_17 (fun _ => ?_) (fun hbb => absurd (by decide) hbb)
      refine rX5_print_64 ?_
      refine rX5_print_65 (by repeat first | assumption | exact zup_eq | refine (zup_ne (by first | decide | omega)).trans ?_) ?_
      refine rX5_print_68 (by repeat first | assumption | exact zup_eq | refine (zup_ne (by first | decide | omega)).trans ?_) ?_
      refine s_X0_seen hPl ?_
      refine rX5_print_71 ?_
      exact h f1 (hC1.plate only.refl hPl) hh
    | succ d ih =>
      intro k f1 p1 l4 hk hC1 hh hp
      refine rX5_print_14 ?_
      refine rX5_print_15 ?_
      refine rX5_print_17 (fun hbb => absurd hbb (nI_ge (b := 12) (by omega) (by decide))) (fun _ => ?_)
      refine rX5_print_20 ?_
      refine rX5_print_21 ?_
      refine inner 48 0 k f1 p1 rfl (by omega) hC1 hh (fun i hi => hp i (by omega)) (fun f2 p2 hC2 hh2 hp2 => ?_)
      refine rX5_print_58 ?_
      refine rX5_print_61 ?_
      rw [nI_1]
      exact ih (k + 1) f2 p2 _ (by omega) hC2 hh2 hp2
  exact outer 12 0 f p none rfl hC hi_rfl (fun i hi => absurd hi (by omega))
/-- seen, and not what the setting makes -/
def offB (n : Nat) (l o s p : Nat → Int32) (k t : Nat) : Bool := decide (¬ p (k * 48 + t) = -1 ∧ ¬ p (k * 48 + t) = plS n l o s k (nI t))
theorem c_off {q : Nat} {f : ZH} (hC : CP f n l o s p) (hI : Inv n l o s p) (hq : q < 4) (ho : o 0 = nI q) (h : P (some (zi (nI (sumN (fun k => cntB (offB (n q) (l q) o s p k) 48) 12)))) sz f) : Zv none 61 0 [some (zr 0), none, none, none, none] [] sz f 0 0 P := by
  obtain ⟨hn, hn2⟩ := hI.1 q hq
  have hT := hC.1
  have hT0 := hT.1
  have hS := hC.2.2.1
  have hSl := hC.2.2.2.2.1
  have hRq := hC.2.1 q hq
  have hPl := hC.2.2.2.2.2.1
  have hPl0 := hPl.1
  refine rX5_off_0 ?_
  refine rX5_off_1 ?_
  refine rX5_off_2 ?_
  refine rX5_off_3 ?_
  have inner : ∀ (d t k c : Nat) (l4 : Option ZVal), t + d = 48 → k < 12 → (∀ l4, Zv none 61 55 [some (zr 0), some (zi (nI (c + cntB (offB (n q) (l q) o s p k) 48))), some (zi (nI k)), some (zi (nI 48)), l4] [] sz f 0 0 P) → Zv none 61 12 [some (zr 0), some (zi (nI (c + cntB (offB (n q) (l q) o s p k) t))), some (zi (nI k)), some (zi (nI t)), l4] [] sz f 0 0 P := by
    intro d
    induction d with
    | zero =>
      intro t k c l4 ht hk h
      obtain rfl : t = 48 := by omega
      refine rX5_off_12 ?_
      refine rX5_off_13 ?_
      refine rX5_off_15 (fun _ => ?_) (fun hbb => absurd (by decide) hbb)
      exact h l4
    | succ d ih =>
      intro t k c l4 ht hk h
      have ih := fun l4 => ih (t + 1) k c l4 (by omega) hk h
      rw [cntB] at ih
      refine rX5_off_12 ?_
      refine rX5_off_13 ?_
      refine rX5_off_15 (fun hbb => absurd hbb (nI_ge (b := 48) (by omega) (by decide))) (fun _ => ?_)
      refine rX5_off_18 ?_
      refine rX5_off_19 (by repeat first | assumption | exact zup_eq | refine (zup_ne (by first | decide | omega)).trans ?_) ?_
      refine rX5_off_22 ?_
      refine rX5_off_23 ?_
      refine rX5_off_24 (by repeat first | assumption | exact zup_eq | refine (zup_ne (by first | decide | omega)).trans ?_) ?_
      refine s_X0_look (by assumption) (by first | assumption | omega) (by first | assumption | omega) ?_
      refine rX5_off_27 ?_
      refine rX5_off_29 ?_
      refine rX5_off_31 ?_
      refine rX5_off_32 (fun h1 => ?_) (fun h1 => ?_)
      · rw [if_neg (by rw [show offB (n q) (l q) o s p k t = false from decide_eq_false (fun z => z.1 h1)]; exact Bool.false_ne_true)] at ih
        refine rX5_off_49 ?_
        refine rX5_off_52 ?_
        rw [nI_1]
        exact ih _
      · refine rX5_off_35 ?_
        refine rX5_off_37 ?_
        refine rX5_off_38 ?_
        refine rX5_off_39 ?_
        refine rX5_off_40 (by repeat first | assumption | exact zup_eq | refine (zup_ne (by first | decide | omega)).trans ?_) ?_
        refine s_X5_slippedPlace hT hS hSl hq ho hRq hn hn2 hk ?_
        refine rX5_off_43 (fun h2 => ?_) (fun h2 => ?_)
        · rw [if_neg (by rw [show offB (n q) (l q) o s p k t = false from decide_eq_false (fun z => z.2 h2)]; exact Bool.false_ne_true)] at ih
          refine rX5_off_49 ?_
          refine rX5_off_52 ?_
          rw [nI_1]
          exact ih _
        · rw [if_pos (show offB (n q) (l q) o s p k t = true from decide_eq_true ⟨h1, h2⟩)] at ih
          refine rX5_off_46 ?_
          refine rX5_off_49 ?_
          refine rX5_off_52 ?_
          rw [nI_1, nI_1]
          exact ih _
  have outer : ∀ (d k : Nat) (l3 l4 : Option ZVal), k + d = 12 → Zv none 61 4 [some (zr 0), some (zi (nI (sumN (fun k => cntB (offB (n q) (l q) o s p k) 48) k))), some (zi (nI k)), l3, l4] [] sz f 0 0 P := by
    intro d
    induction d with
    | zero =>
      intro k l3 l4 hk
      obtain rfl : k = 12 := by omega
      refine rX5_off_4 ?_
      refine rX5_off_5 ?_
      refine rX5_off_7 (fun _ => ?_) (fun hbb => absurd (by decide) hbb)
      refine rX5_off_61 ?_
      refine rX5_off_62 ?_
      exact h
    | succ d ih =>
      intro k l3 l4 hk
      have ih := fun l3 l4 => ih (k + 1) l3 l4 (by omega)
      rw [sumN] at ih
      refine rX5_off_4 ?_
      refine rX5_off_5 ?_
      refine rX5_off_7 (fun hbb => absurd hbb (nI_ge (b := 12) (by omega) (by decide))) (fun _ => ?_)
      refine rX5_off_10 ?_
      refine rX5_off_11 ?_
      refine inner 48 0 k _ _ rfl (by omega) (fun l4 => ?_)
      refine rX5_off_55 ?_
      refine rX5_off_58 ?_
      rw [nI_1]
      exact ih _ _
  exact outer 12 0 none none rfl
theorem c_count {x : Int32} {f : ZH} (hC : CP f n l o s p) (h0 : x = 0 → P (some (zi (nI (sumN (fun r => cntB (seenB p r) 48) 12)))) sz f) (h1 : x = 1 → P (some (zi (nI (cntB (fun r => decide (0 < cntB (seenB p r) 48)) 12)))) sz f) (h2 : x = 2 → P (some (zi (nI (cntB (fun k => decide (¬ s k = 0)) 12)))) sz f) (h3 : (x.toInt < 0 ∨ 2 < x.toInt) → P (some (zi (-1))) sz f) : Zv none 63 0 [some (zr 0), some (zi x)] [] sz f 0 0 P := by
  have hT := hC.1
  have hT0 := hT.1
  have hSl := hC.2.2.2.2.1
  have hPl := hC.2.2.2.2.2.1
  have hPl0 := hPl.1
  refine rX5_count_0 ?_
  by_cases hb : x.toInt < 0 ∨ 2 < x.toInt
  · refine rX5_count_1d hb ?_
    refine rX5_count_49 ?_
    refine rX5_count_50 ?_
    exact h3 hb
  · obtain ⟨q, hq, rfl⟩ := i32_lit (m := 2) hb (by decide)
    rcases (by omega : q = 0 ∨ q = 1 ∨ q = 2) with rfl | rfl | rfl
    · refine rX5_count_1c0 ?_
      refine rX5_count_28 ?_
      refine rX5_count_29 (by repeat first | assumption | exact zup_eq | refine (zup_ne (by first | decide | omega)).trans ?_) ?_
      refine rX5_count_32 (by repeat first | assumption | exact zup_eq | refine (zup_ne (by first | decide | omega)).trans ?_) ?_
      refine s_X0_seen hPl ?_
      refine rX5_count_35 ?_
      exact h0 rfl
    · refine rX5_count_1c1 ?_
      refine rX5_count_36 ?_
      refine rX5_count_37 (by repeat first | assumption | exact zup_eq | refine (zup_ne (by first | decide | omega)).trans ?_) ?_
      refine rX5_count_40 (by repeat first | assumption | exact zup_eq | refine (zup_ne (by first | decide | omega)).trans ?_) ?_
      refine s_X0_ringsSeen hPl ?_
      refine rX5_count_43 ?_
      exact h1 rfl
    · refine rX5_count_1c2 ?_
      refine rX5_count_44 ?_
      refine rX5_count_45 (by repeat first | assumption | exact zup_eq | refine (zup_ne (by first | decide | omega)).trans ?_) ?_
      refine s_X5_slipsNot hT hSl ?_
      refine rX5_count_48 ?_
      exact h2 rfl
end LC4
