/-! THE LATHE'S CALLS, first half -/
def Inv (n : Nat → Nat) (l : Nat → Nat → Int32) (o s p : Nat → Int32) : Prop :=
  (∀ q, q < 4 → 0 < n q ∧ n q ≤ 24) ∧ (∀ q, q < 4 → ∀ i, i < 24 → -20 ≤ (l q i).toInt ∧ (l q i).toInt ≤ 20) ∧ (∃ q, q < 4 ∧ o 0 = nI q) ∧ (1 ≤ (o 1).toInt ∧ (o 1).toInt ≤ 4) ∧ (0 ≤ (o 2).toInt ∧ (o 2).toInt ≤ 1000) ∧ (0 ≤ (o 3).toInt ∧ (o 3).toInt ≤ 100) ∧ (∀ k, k < 12 → -24 ≤ (s k).toInt ∧ (s k).toInt ≤ 24) ∧ (∀ k, k < 576 → -1 ≤ (p k).toInt ∧ (p k).toInt ≤ 2000) ∧ ((0 ≤ (o 4).toInt ∧ (o 4).toInt < 24) ∧ (0 ≤ (o 5).toInt ∧ (o 5).toInt < 24))
theorem fm_nI {k n : Nat} (hk : k < n) (hn : n < 2 ^ 31) : fm (nI k) n = k := by
  unfold fm
  rw [nI_toInt (by omega), Int.emod_eq_of_lt (by omega) (by omega)]
  omega
theorem lft_nI {k n : Nat} {l : Nat → Int32} (hk : k < n) (hn : n < 2 ^ 31) : lft n l (nI k) = l k := by rw [lft, fm_nI hk hn]
def updN {α : Type} (g : Nat → α) (q : Nat) (v : α) : Nat → α := fun r => if r = q then v else g r
/-- the setting when rosette q is begun anew -/
def dropT (o : Nat → Int32) (q : Nat) : Nat → Int32 := fun i => if i = 4 ∨ i = 5 then (if nI q = o 0 then 0 else o i) else o i
/-- what lies behind the class's cells stays -/
def hi (f f' : ZH) : Prop := ∀ j, 37 ≤ j → f' j = f j
theorem hi_rfl {f : ZH} : hi f f := fun _ _ => rfl
section LC
variable {n : Nat → Nat} {l : Nat → Nat → Int32} {o s p : Nat → Int32} {sz : Nat} {f : ZH} {P : Option ZVal → Nat → ZH → Prop}
theorem c_rosette_bad {r x : Int32} (hC : CP f n l o s p) (hb : ¬ ((∃ q, q < 4 ∧ r = nI q) ∧ inR x 1 24)) (h : P (some (zi (-1))) sz f) : Zv none 35 0 [some (zr 0), some (zi r), some (zi x), none] [] sz f 0 0 P := by
  have hT := hC.1
  have hT0 := hT.1
  rcases okR_cases r with ⟨q, hq, rfl⟩ | hr
  · refine rX5_rosette_0 ?_
    refine rX5_rosette_1 ?_
    refine rX5_rosette_2 (by repeat first | assumption | exact zup_eq | refine (zup_ne (by first | decide | omega)).trans ?_) ?_
    first | refine s_X5_rosetteOf_in (by assumption) (by assumption) ?_ | refine s_X5_rosetteOf_out (by assumption) (by assumption) ?_
    first | refine rX5_rosette_5 ?_ | refine rX5_rosette_5n ?_
    first | refine rX5_rosette_6 ?_ | refine rX5_rosette_6n ?_
    first | refine rX5_rosette_7 ?_ | refine rX5_rosette_7n ?_
    refine rX5_rosette_10 ?_
    refine rX5_rosette_11 ?_
    refine rX5_rosette_12 ?_
    refine rX5_rosette_14  ?_
    refine s_X5_within ?_
    refine rX5_rosette_17b (fun hbb => absurd hbb (fun z => hb ⟨⟨q, hq, rfl⟩, z⟩)) (fun _ => ?_)
    refine rX5_rosette_20 ?_
    refine rX5_rosette_21 ?_
    exact h
  · refine rX5_rosette_0 ?_
    refine rX5_rosette_1 ?_
    refine rX5_rosette_2 (by repeat first | assumption | exact zup_eq | refine (zup_ne (by first | decide | omega)).trans ?_) ?_
    first | refine s_X5_rosetteOf_in (by assumption) (by assumption) ?_ | refine s_X5_rosetteOf_out (by assumption) (by assumption) ?_
    first | refine rX5_rosette_5 ?_ | refine rX5_rosette_5n ?_
    first | refine rX5_rosette_6 ?_ | refine rX5_rosette_6n ?_
    first | refine rX5_rosette_7 ?_ | refine rX5_rosette_7n ?_
    refine rX5_rosette_20 ?_
    refine rX5_rosette_21 ?_
    exact h
theorem c_rosette_ok {q m : Nat} (hC : CP f n l o s p) (hq : q < 4) (hm : 1 ≤ m) (hm2 : m ≤ 24) (h : ∀ f', CP f' (updN n q m) (updN l q (fun _ => 0)) (dropT o q) s p → hi f f' → P (some (zi (nI m))) sz f') : Zv none 35 0 [some (zr 0), some (zi (nI q)), some (zi (nI m)), none] [] sz f 0 0 P := by
  have hT := hC.1
  have hT0 := hT.1
  have hRq := hC.2.1 q hq
  have hRq1 := hRq.1
  have hS := hC.2.2.1
  refine rX5_rosette_0 ?_
  refine rX5_rosette_1 ?_
  refine rX5_rosette_2 (by repeat first | assumption | exact zup_eq | refine (zup_ne (by first | decide | omega)).trans ?_) ?_
  first | refine s_X5_rosetteOf_in (by assumption) (by assumption) ?_ | refine s_X5_rosetteOf_out (by assumption) (by assumption) ?_
  first | refine rX5_rosette_5 ?_ | refine rX5_rosette_5n ?_
  first | refine rX5_rosette_6 ?_ | refine rX5_rosette_6n ?_
  first | refine rX5_rosette_7 ?_ | refine rX5_rosette_7n ?_
  refine rX5_rosette_10 ?_
  refine rX5_rosette_11 ?_
  refine rX5_rosette_12 ?_
  refine rX5_rosette_14  ?_
  refine s_X5_within ?_
  refine rX5_rosette_17b (fun _ => ?_) (fun hbb => absurd ⟨nI_le (a := 1) hm (by omega), nI_le (b := 24) hm2 (by decide)⟩ hbb)
  first | refine rX5_rosette_22 ?_ | refine rX5_rosette_22n ?_
  refine rX5_rosette_23 ?_
  refine rX5_rosette_24 (by repeat first | assumption | exact zup_eq | refine (zup_ne (by first | decide | omega)).trans ?_) ?_
  refine s_X1_flatten hRq (fun f1 hR1 hf1 => ?_)
  have hC1 : CP f1 (updN n q m) (updN l q (fun _ => 0)) o s p := hC.ros hq (fun j h1 h2 _ => hf1 j h1 h2) hR1
  have hT1 := hC1.1.1
  have hS1 := hC1.2.2.1
  unfold isSet at hS1
  refine rX5_rosette_27 ?_
  refine rX5_rosette_28 (by repeat first | assumption | exact zup_eq | refine (zup_ne (by first | decide | omega)).trans ?_) ?_
  refine rX5_rosette_31 ?_
  refine rX5_rosette_32 (by repeat first | assumption | exact zup_eq | refine (zup_ne (by first | decide | omega)).trans ?_) ?_
  refine s_X4_dropTurns hS1 (fun f2 hS2 hf2 => ?_)
  refine rX5_rosette_35 ?_
  refine rX5_rosette_36 ?_
  refine h f2 (hC1.set (fun j hj => hf2 j (by simpa using hj)) ?_) (fun j hj => (hf2 j (by omega)).trans (hf1 j (by omega) (by omega)))
  exact hS2
theorem c_lift_bad {r x v : Int32} (hC : CP f n l o s p) (hb : ¬ ∃ q, q < 4 ∧ r = nI q ∧ (0 ≤ x ∧ x < nI (n q)) ∧ inR v (-20) 20) (h : P (some (zi (-100))) sz f) : Zv none 36 0 [some (zr 0), some (zi r), some (zi x), some (zi v), none, none] [] sz f 0 0 P := by
  have hT := hC.1
  have hT0 := hT.1
  rcases okR_cases r with ⟨q, hq, rfl⟩ | hr
  · have hRq := hC.2.1 q hq
    have hRq1 := hRq.1
    refine rX5_lift_0 ?_
    refine rX5_lift_1 ?_
    refine rX5_lift_2 (by repeat first | assumption | exact zup_eq | refine (zup_ne (by first | decide | omega)).trans ?_) ?_
    first | refine s_X5_rosetteOf_in (by assumption) (by assumption) ?_ | refine s_X5_rosetteOf_out (by assumption) (by assumption) ?_
    first | refine rX5_lift_5 ?_ | refine rX5_lift_5n ?_
    first | refine rX5_lift_7 ?_ | refine rX5_lift_7n ?_
    first | refine rX5_lift_9 ?_ | refine rX5_lift_9n ?_
    first | refine rX5_lift_12 ?_ | refine rX5_lift_12n ?_
    refine rX5_lift_14 ?_
    refine rX5_lift_15 (by repeat first | assumption | exact zup_eq | refine (zup_ne (by first | decide | omega)).trans ?_) ?_
    refine s_X1_has (by assumption) ?_
    refine rX5_lift_18b (fun _ => ?_) (fun hc => ?_)
    · refine rX5_lift_32 ?_
      refine rX5_lift_34 ?_
      exact h
    · refine rX5_lift_21 ?_
      refine rX5_lift_22 ?_
      refine rX5_lift_24 ?_
      refine rX5_lift_26  ?_
      refine s_X5_within ?_
      refine rX5_lift_29b (fun hbb => absurd hbb (fun z => hb ⟨q, hq, rfl, hc, z⟩)) (fun _ => ?_)
      refine rX5_lift_32 ?_
      refine rX5_lift_34 ?_
      exact h
  · refine rX5_lift_0 ?_
    refine rX5_lift_1 ?_
    refine rX5_lift_2 (by repeat first | assumption | exact zup_eq | refine (zup_ne (by first | decide | omega)).trans ?_) ?_
    first | refine s_X5_rosetteOf_in (by assumption) (by assumption) ?_ | refine s_X5_rosetteOf_out (by assumption) (by assumption) ?_
    first | refine rX5_lift_5 ?_ | refine rX5_lift_5n ?_
    first | refine rX5_lift_7 ?_ | refine rX5_lift_7n ?_
    first | refine rX5_lift_9 ?_ | refine rX5_lift_9n ?_
    refine rX5_lift_32 ?_
    refine rX5_lift_34 ?_
    exact h
theorem c_lift_ok {q k : Nat} {v : Int32} (hC : CP f n l o s p) (hI : Inv n l o s p) (hq : q < 4) (hk : k < n q) (hv : inR v (-20) 20) (h : ∀ f', CP f' n (updN l q (upd (l q) k v)) o s p → hi f f' → P (some (zi (l q k))) sz f') : Zv none 36 0 [some (zr 0), some (zi (nI q)), some (zi (nI k)), some (zi v), none, none] [] sz f 0 0 P := by
  have hT := hC.1
  have hT0 := hT.1
  have hRq := hC.2.1 q hq
  have hRq1 := hRq.1
  obtain ⟨hn, hn2⟩ := hI.1 q hq
  refine rX5_lift_0 ?_
  refine rX5_lift_1 ?_
  refine rX5_lift_2 (by repeat first | assumption | exact zup_eq | refine (zup_ne (by first | decide | omega)).trans ?_) ?_
  first | refine s_X5_rosetteOf_in (by assumption) (by assumption) ?_ | refine s_X5_rosetteOf_out (by assumption) (by assumption) ?_
  first | refine rX5_lift_5 ?_ | refine rX5_lift_5n ?_
  first | refine rX5_lift_7 ?_ | refine rX5_lift_7n ?_
  first | refine rX5_lift_9 ?_ | refine rX5_lift_9n ?_
  first | refine rX5_lift_12 ?_ | refine rX5_lift_12n ?_
  refine rX5_lift_14 ?_
  refine rX5_lift_15 (by repeat first | assumption | exact zup_eq | refine (zup_ne (by first | decide | omega)).trans ?_) ?_
  refine s_X1_has (by assumption) ?_
  refine rX5_lift_18b (fun hbb => absurd ⟨nI_pos' (by omega), nI_lt hk (by omega)⟩ hbb) (fun _ => ?_)
  refine rX5_lift_21 ?_
  refine rX5_lift_22 ?_
  refine rX5_lift_24 ?_
  refine rX5_lift_26  ?_
  refine s_X5_within ?_
  refine rX5_lift_29b (fun _ => ?_) (fun hbb => absurd hv hbb)
  first | refine rX5_lift_35 ?_ | refine rX5_lift_35n ?_
  refine rX5_lift_37 ?_
  refine rX5_lift_38 (by repeat first | assumption | exact zup_eq | refine (zup_ne (by first | decide | omega)).trans ?_) ?_
  refine s_X1_liftBehind (by assumption) (by assumption) (by assumption) ?_
  refine rX5_lift_41 ?_
  first | refine rX5_lift_43 ?_ | refine rX5_lift_43n ?_
  refine rX5_lift_45 ?_
  refine rX5_lift_46 ?_
  refine rX5_lift_47 (by repeat first | assumption | exact zup_eq | refine (zup_ne (by first | decide | omega)).trans ?_) ?_
  refine s_X1_cut hRq (by omega) (fun f1 hR1 hf1 => ?_)
  refine rX5_lift_50 ?_
  refine rX5_lift_52 ?_
  rw [lft_nI hk (by omega)]
  have hC1 := hC.ros hq (fun j _ h2 _ => hf1 j h2) hR1
  rw [show (fun r => if r = q then n q else n r) = n from funext fun r => by split <;> simp_all] at hC1
  exact h f1 hC1 (fun j hj => hf1 j (by omega))
theorem c_at_bad {r x : Int32} (hC : CP f n l o s p) (hb : ¬ ∃ q, q < 4 ∧ r = nI q ∧ (0 ≤ x ∧ x < nI (n q))) (h : P (some (zi (-100))) sz f) : Zv none 37 0 [some (zr 0), some (zi r), some (zi x), none] [] sz f 0 0 P := by
  have hT := hC.1
  have hT0 := hT.1
  rcases okR_cases r with ⟨q, hq, rfl⟩ | hr
  · have hRq := hC.2.1 q hq
    have hRq1 := hRq.1
    refine rX5_at_0 ?_
    refine rX5_at_1 ?_
    refine rX5_at_2 (by repeat first | assumption | exact zup_eq | refine (zup_ne (by first | decide | omega)).trans ?_) ?_
    first | refine s_X5_rosetteOf_in (by assumption) (by assumption) ?_ | refine s_X5_rosetteOf_out (by assumption) (by assumption) ?_
    first | refine rX5_at_5 ?_ | refine rX5_at_5n ?_
    first | refine rX5_at_6 ?_ | refine rX5_at_6n ?_
    first | refine rX5_at_7 ?_ | refine rX5_at_7n ?_
    first | refine rX5_at_10 ?_ | refine rX5_at_10n ?_
    refine rX5_at_11 ?_
    refine rX5_at_12 (by repeat first | assumption | exact zup_eq | refine (zup_ne (by first | decide | omega)).trans ?_) ?_
    refine s_X1_has (by assumption) ?_
    refine rX5_at_15b (fun _ => ?_) (fun hbb => absurd hbb (fun z => hb ⟨q, hq, rfl, z⟩))
    refine rX5_at_26 ?_
    refine rX5_at_28 ?_
    exact h
  · refine rX5_at_0 ?_
    refine rX5_at_1 ?_
    refine rX5_at_2 (by repeat first | assumption | exact zup_eq | refine (zup_ne (by first | decide | omega)).trans ?_) ?_
    first | refine s_X5_rosetteOf_in (by assumption) (by assumption) ?_ | refine s_X5_rosetteOf_out (by assumption) (by assumption) ?_
    first | refine rX5_at_5 ?_ | refine rX5_at_5n ?_
    first | refine rX5_at_6 ?_ | refine rX5_at_6n ?_
    first | refine rX5_at_7 ?_ | refine rX5_at_7n ?_
    refine rX5_at_26 ?_
    refine rX5_at_28 ?_
    exact h
theorem c_at_ok {q k : Nat} (hC : CP f n l o s p) (hI : Inv n l o s p) (hq : q < 4) (hk : k < n q) (h : P (some (zi (l q k))) sz f) : Zv none 37 0 [some (zr 0), some (zi (nI q)), some (zi (nI k)), none] [] sz f 0 0 P := by
  have hT := hC.1
  have hT0 := hT.1
  have hRq := hC.2.1 q hq
  have hRq1 := hRq.1
  obtain ⟨hn, hn2⟩ := hI.1 q hq
  rw [← lft_nI (l := l q) hk (by omega)] at h
  refine rX5_at_0 ?_
  refine rX5_at_1 ?_
  refine rX5_at_2 (by repeat first | assumption | exact zup_eq | refine (zup_ne (by first | decide | omega)).trans ?_) ?_
  first | refine s_X5_rosetteOf_in (by assumption) (by assumption) ?_ | refine s_X5_rosetteOf_out (by assumption) (by assumption) ?_
  first | refine rX5_at_5 ?_ | refine rX5_at_5n ?_
  first | refine rX5_at_6 ?_ | refine rX5_at_6n ?_
  first | refine rX5_at_7 ?_ | refine rX5_at_7n ?_
  first | refine rX5_at_10 ?_ | refine rX5_at_10n ?_
  refine rX5_at_11 ?_
  refine rX5_at_12 (by repeat first | assumption | exact zup_eq | refine (zup_ne (by first | decide | omega)).trans ?_) ?_
  refine s_X1_has (by assumption) ?_
  refine rX5_at_15b (fun hbb => absurd ⟨nI_pos' (by omega), nI_lt hk (by omega)⟩ hbb) (fun _ => ?_)
  first | refine rX5_at_18 ?_ | refine rX5_at_18n ?_
  refine rX5_at_19 ?_
  refine rX5_at_20 (by repeat first | assumption | exact zup_eq | refine (zup_ne (by first | decide | omega)).trans ?_) ?_
  refine s_X1_liftBehind (by assumption) (by assumption) (by assumption) ?_
  refine rX5_at_23 ?_
  refine rX5_at_28 ?_
  exact h
theorem c_about_bad {r x : Int32} (hC : CP f n l o s p) (hb : ¬ ((∃ q, q < 4 ∧ r = nI q) ∧ inR x 0 1)) (h : P (some (zi (-1))) sz f) : Zv none 38 0 [some (zr 0), some (zi r), some (zi x), none] [] sz f 0 0 P := by
  have hT := hC.1
  have hT0 := hT.1
  rcases okR_cases r with ⟨q, hq, rfl⟩ | hr
  · refine rX5_about_0 ?_
    refine rX5_about_1 ?_
    refine rX5_about_2 (by repeat first | assumption | exact zup_eq | refine (zup_ne (by first | decide | omega)).trans ?_) ?_
    first | refine s_X5_rosetteOf_in (by assumption) (by assumption) ?_ | refine s_X5_rosetteOf_out (by assumption) (by assumption) ?_
    first | refine rX5_about_5 ?_ | refine rX5_about_5n ?_
    first | refine rX5_about_6 ?_ | refine rX5_about_6n ?_
    first | refine rX5_about_7 ?_ | refine rX5_about_7n ?_
    refine rX5_about_10 ?_
    refine rX5_about_11 ?_
    refine rX5_about_12 ?_
    refine rX5_about_13  ?_
    refine s_X5_within ?_
    refine rX5_about_16b (fun hbb => absurd hbb (fun z => hb ⟨⟨q, hq, rfl⟩, z⟩)) (fun _ => ?_)
    refine rX5_about_19 ?_
    refine rX5_about_20 ?_
    exact h
  · refine rX5_about_0 ?_
    refine rX5_about_1 ?_
    refine rX5_about_2 (by repeat first | assumption | exact zup_eq | refine (zup_ne (by first | decide | omega)).trans ?_) ?_
    first | refine s_X5_rosetteOf_in (by assumption) (by assumption) ?_ | refine s_X5_rosetteOf_out (by assumption) (by assumption) ?_
    first | refine rX5_about_5 ?_ | refine rX5_about_5n ?_
    first | refine rX5_about_6 ?_ | refine rX5_about_6n ?_
    first | refine rX5_about_7 ?_ | refine rX5_about_7n ?_
    refine rX5_about_19 ?_
    refine rX5_about_20 ?_
    exact h
theorem c_about_ok {q : Nat} {x : Int32} (hC : CP f n l o s p) (hI : Inv n l o s p) (hq : q < 4) (hx : inR x 0 1) (h : P (some (zi (if x = 0 then nI (n q) else nI (per (n q) (l q))))) sz f) : Zv none 38 0 [some (zr 0), some (zi (nI q)), some (zi x), none] [] sz f 0 0 P := by
  have hT := hC.1
  have hT0 := hT.1
  have hRq := hC.2.1 q hq
  have hRq1 := hRq.1
  obtain ⟨hn, hn2⟩ := hI.1 q hq
  refine rX5_about_0 ?_
  refine rX5_about_1 ?_
  refine rX5_about_2 (by repeat first | assumption | exact zup_eq | refine (zup_ne (by first | decide | omega)).trans ?_) ?_
  first | refine s_X5_rosetteOf_in (by assumption) (by assumption) ?_ | refine s_X5_rosetteOf_out (by assumption) (by assumption) ?_
  first | refine rX5_about_5 ?_ | refine rX5_about_5n ?_
  first | refine rX5_about_6 ?_ | refine rX5_about_6n ?_
  first | refine rX5_about_7 ?_ | refine rX5_about_7n ?_
  refine rX5_about_10 ?_
  refine rX5_about_11 ?_
  refine rX5_about_12 ?_
  refine rX5_about_13  ?_
  refine s_X5_within ?_
  refine rX5_about_16b (fun _ => ?_) (fun hbb => absurd hx hbb)
  refine rX5_about_21 ?_
  refine rX5_about_22 (fun hb => ?_) (fun hb => ?_)
  · rw [if_neg hb] at h
    first | refine rX5_about_32 ?_ | refine rX5_about_32n ?_
    refine rX5_about_33 (by repeat first | assumption | exact zup_eq | refine (zup_ne (by first | decide | omega)).trans ?_) ?_
    refine s_X1_period (by assumption) (by assumption) (by assumption) ?_
    refine rX5_about_36 ?_
    exact h
  · rw [if_pos hb] at h
    first | refine rX5_about_25 ?_ | refine rX5_about_25n ?_
    refine rX5_about_26 (by repeat first | assumption | exact zup_eq | refine (zup_ne (by first | decide | omega)).trans ?_) ?_
    refine rX5_about_29 ?_
    refine rX5_about_36 ?_
    exact h
theorem c_name_bad {r x : Int32} (hC : CP f n l o s p) (hb : ¬ ((∃ q, q < 4 ∧ r = nI q) ∧ ∃ q, q < 4 ∧ x = nI q)) (h : P (some (zi (-1))) sz f) : Zv none 39 0 [some (zr 0), some (zi r), some (zi x), none, none, none] [] sz f 0 0 P := by
  have hT := hC.1
  have hT0 := hT.1
  rcases okR_cases r with ⟨q, hq, rfl⟩ | hr <;> rcases okR_cases x with ⟨q2, hq2, rfl⟩ | hx
  · exact absurd ⟨⟨q, hq, rfl⟩, q2, hq2, rfl⟩ hb
  · refine rX5_name_0 ?_
    refine rX5_name_1 ?_
    refine rX5_name_2 (by repeat first | assumption | exact zup_eq | refine (zup_ne (by first | decide | omega)).trans ?_) ?_
    first | refine s_X5_rosetteOf_in (by assumption) (by assumption) ?_ | refine s_X5_rosetteOf_out (by assumption) (by assumption) ?_
    first | refine rX5_name_5 ?_ | refine rX5_name_5n ?_
    refine rX5_name_6 ?_
    refine rX5_name_7 ?_
    refine rX5_name_8 (by repeat first | assumption | exact zup_eq | refine (zup_ne (by first | decide | omega)).trans ?_) ?_
    first | refine s_X5_rosetteOf_in (by assumption) (by assumption) ?_ | refine s_X5_rosetteOf_out (by assumption) (by assumption) ?_
    first | refine rX5_name_11 ?_ | refine rX5_name_11n ?_
    first | refine rX5_name_13 ?_ | refine rX5_name_13n ?_
    first | refine rX5_name_14 ?_ | refine rX5_name_14n ?_
    first | refine rX5_name_17 ?_ | refine rX5_name_17n ?_
    first | refine rX5_name_19 ?_ | refine rX5_name_19n ?_
    refine rX5_name_22 ?_
    refine rX5_name_23 ?_
    exact h
  · refine rX5_name_0 ?_
    refine rX5_name_1 ?_
    refine rX5_name_2 (by repeat first | assumption | exact zup_eq | refine (zup_ne (by first | decide | omega)).trans ?_) ?_
    first | refine s_X5_rosetteOf_in (by assumption) (by assumption) ?_ | refine s_X5_rosetteOf_out (by assumption) (by assumption) ?_
    first | refine rX5_name_5 ?_ | refine rX5_name_5n ?_
    refine rX5_name_6 ?_
    refine rX5_name_7 ?_
    refine rX5_name_8 (by repeat first | assumption | exact zup_eq | refine (zup_ne (by first | decide | omega)).trans ?_) ?_
    first | refine s_X5_rosetteOf_in (by assumption) (by assumption) ?_ | refine s_X5_rosetteOf_out (by assumption) (by assumption) ?_
    first | refine rX5_name_11 ?_ | refine rX5_name_11n ?_
    first | refine rX5_name_13 ?_ | refine rX5_name_13n ?_
    first | refine rX5_name_14 ?_ | refine rX5_name_14n ?_
    refine rX5_name_22 ?_
    refine rX5_name_23 ?_
    exact h
  · refine rX5_name_0 ?_
    refine rX5_name_1 ?_
    refine rX5_name_2 (by repeat first | assumption | exact zup_eq | refine (zup_ne (by first | decide | omega)).trans ?_) ?_
    first | refine s_X5_rosetteOf_in (by assumption) (by assumption) ?_ | refine s_X5_rosetteOf_out (by assumption) (by assumption) ?_
    first | refine rX5_name_5 ?_ | refine rX5_name_5n ?_
    refine rX5_name_6 ?_
    refine rX5_name_7 ?_
    refine rX5_name_8 (by repeat first | assumption | exact zup_eq | refine (zup_ne (by first | decide | omega)).trans ?_) ?_
    first | refine s_X5_rosetteOf_in (by assumption) (by assumption) ?_ | refine s_X5_rosetteOf_out (by assumption) (by assumption) ?_
    first | refine rX5_name_11 ?_ | refine rX5_name_11n ?_
    first | refine rX5_name_13 ?_ | refine rX5_name_13n ?_
    first | refine rX5_name_14 ?_ | refine rX5_name_14n ?_
    refine rX5_name_22 ?_
    refine rX5_name_23 ?_
    exact h
theorem way_lt {n : Nat} {l : Nat → Int32} : ∀ (w0 d t b : Nat), (b < 124 ∧ w0 + t + d ≤ 124) → zbst n l w0 d t b < 124
  | w0, 0, t, b, h => h.1
  | w0, d + 1, t, b, h => by
    rw [zbst]
    refine way_lt w0 d (t + 1) _ ⟨?_, by omega⟩
    split <;> omega
theorem c_name_ok {q q2 : Nat} (hC : CP f n l o s p) (hI : Inv n l o s p) (hq : q < 4) (hq2 : q2 < 4) (h : ∀ f', CP f' (updN n q (n q2)) (updN l q (wrow (n q2) (l q2) (nI (way (n q2) (l q2))))) (dropT o q) s p → hi f f' → P (some (zi (nI (way (n q2) (l q2))))) sz f') : Zv none 39 0 [some (zr 0), some (zi (nI q)), some (zi (nI q2)), none, none, none] [] sz f 0 0 P := by
  have hT := hC.1
  have hT0 := hT.1
  have hRq := hC.2.1 q hq
  have hRq1 := hRq.1
  have hR2 := hC.2.1 q2 hq2
  have hR21 := hR2.1
  obtain ⟨hn, hn2⟩ := hI.1 q2 hq2
  refine rX5_name_0 ?_
  refine rX5_name_1 ?_
  refine rX5_name_2 (by repeat first | assumption | exact zup_eq | refine (zup_ne (by first | decide | omega)).trans ?_) ?_
  first | refine s_X5_rosetteOf_in (by assumption) (by assumption) ?_ | refine s_X5_rosetteOf_out (by assumption) (by assumption) ?_
  first | refine rX5_name_5 ?_ | refine rX5_name_5n ?_
  refine rX5_name_6 ?_
  refine rX5_name_7 ?_
  refine rX5_name_8 (by repeat first | assumption | exact zup_eq | refine (zup_ne (by first | decide | omega)).trans ?_) ?_
  first | refine s_X5_rosetteOf_in (by assumption) (by assumption) ?_ | refine s_X5_rosetteOf_out (by assumption) (by assumption) ?_
  first | refine rX5_name_11 ?_ | refine rX5_name_11n ?_
  first | refine rX5_name_13 ?_ | refine rX5_name_13n ?_
  first | refine rX5_name_14 ?_ | refine rX5_name_14n ?_
  first | refine rX5_name_17 ?_ | refine rX5_name_17n ?_
  first | refine rX5_name_19 ?_ | refine rX5_name_19n ?_
  first | refine rX5_name_24 ?_ | refine rX5_name_24n ?_
  refine rX5_name_26 (by repeat first | assumption | exact zup_eq | refine (zup_ne (by first | decide | omega)).trans ?_) ?_
  refine s_X1_wayToName (by assumption) (by assumption) (by assumption) ?_
  refine rX5_name_29 ?_
  first | refine rX5_name_31 ?_ | refine rX5_name_31n ?_
  first | refine rX5_name_32 ?_ | refine rX5_name_32n ?_
  refine rX5_name_34 ?_
  refine rX5_name_36 (by repeat first | assumption | exact zup_eq | refine (zup_ne (by first | decide | omega)).trans ?_) ?_
  refine s_X1_become hn hn2 (by omega) hRq hR2 (fun f1 hR1 hf1 => ?_)
  have hC1 : CP f1 (updN n q (n q2)) (updN l q (wrow (n q2) (l q2) (nI (way (n q2) (l q2))))) o s p := hC.ros hq hf1 hR1
  have hT1 := hC1.1.1
  have hS1 := hC1.2.2.1
  unfold isSet at hS1
  refine rX5_name_39 ?_
  refine rX5_name_40 (by repeat first | assumption | exact zup_eq | refine (zup_ne (by first | decide | omega)).trans ?_) ?_
  refine rX5_name_43 ?_
  refine rX5_name_44 (by repeat first | assumption | exact zup_eq | refine (zup_ne (by first | decide | omega)).trans ?_) ?_
  refine s_X4_dropTurns hS1 (fun f2 hS2 hf2 => ?_)
  refine rX5_name_47 ?_
  refine rX5_name_49 ?_
  exact h f2 (hC1.set (fun j hj => hf2 j (by simpa using hj)) hS2) (fun j hj => (hf2 j (by omega)).trans (hf1 j (by omega) (by omega) (by omega)))
/-- the names of two rosettes are one -/
def sameNm (n1 n2 : Nat) (l1 l2 : Nat → Int32) : Prop := n1 = n2 ∧ ∀ i, i < n1 → wlf n1 l1 (nI (way n1 l1)) i = wlf n2 l2 (nI (way n2 l2)) i
theorem s_X5_sameName {k k2 n1 n2 : Nat} {l1 l2 : Nat → Int32} (hR : isRos f k n1 l1) (hR2 : isRos f k2 n2 l2) (hn : 0 < n1) (hn1 : n1 ≤ 24) (hm : 0 < n2) (hm2 : n2 ≤ 24) (h : P (some (zi (zb (sameNm n1 n2 l1 l2)))) sz f) : Zv none 41 0 [some (zr k), some (zr k2), none, none, none] [] sz f 0 0 P := by
  have hR1 := hR.1
  have hR21 := hR2.1
  first | refine rX5_sameName_0 ?_ | refine rX5_sameName_0n ?_
  refine rX5_sameName_1 (by repeat first | assumption | exact zup_eq | refine (zup_ne (by first | decide | omega)).trans ?_) ?_
  first | refine rX5_sameName_4 ?_ | refine rX5_sameName_4n ?_
  refine rX5_sameName_5 (by repeat first | assumption | exact zup_eq | refine (zup_ne (by first | decide | omega)).trans ?_) ?_
  refine rX5_sameName_8 (fun hb => ?_) (fun hb => ?_)
  · have hnn : n1 = n2 := (nI_eq (by omega) (by omega)).mp hb
    subst hnn
    have key : ∀ (d i : Nat), i + d = n1 → P (some (zi (zb (∀ q, i ≤ q → q < n1 → wlf n1 l1 (nI (way n1 l1)) q = wlf n1 l2 (nI (way n1 l2)) q)))) sz f → Zv none 41 26 [some (zr k), some (zr k2), some (zi (nI (way n1 l1))), some (zi (nI (way n1 l2))), some (zi (nI i))] [] sz f 0 0 P := by
      intro d
      induction d with
      | zero =>
        intro i hi h
        rw [zb_t (p := ∀ q, i ≤ q → q < n1 → wlf n1 l1 (nI (way n1 l1)) q = wlf n1 l2 (nI (way n1 l2)) q) (fun q h1 h2 => absurd h2 (by omega))] at h
        refine rX5_sameName_26 ?_
        first | refine rX5_sameName_28 ?_ | refine rX5_sameName_28n ?_
        refine rX5_sameName_29 (by repeat first | assumption | exact zup_eq | refine (zup_ne (by first | decide | omega)).trans ?_) ?_
        refine rX5_sameName_32 (fun _ => ?_) (fun hbb => absurd (nI_le (by omega) (by omega)) hbb)
        refine rX5_sameName_60 ?_
        first | refine rX5_sameName_61b ?_ | refine rX5_sameName_61 (Or.inl rfl) ?_ | refine rX5_sameName_61 (Or.inr rfl) ?_
        exact h
      | succ d ih =>
        intro i hi h
        refine rX5_sameName_26 ?_
        first | refine rX5_sameName_28 ?_ | refine rX5_sameName_28n ?_
        refine rX5_sameName_29 (by repeat first | assumption | exact zup_eq | refine (zup_ne (by first | decide | omega)).trans ?_) ?_
        refine rX5_sameName_32 (fun hbb => absurd hbb (nI_ge (by omega) (by omega))) (fun _ => ?_)
        first | refine rX5_sameName_35 ?_ | refine rX5_sameName_35n ?_
        refine rX5_sameName_36 ?_
        refine rX5_sameName_37 ?_
        refine rX5_sameName_39 (by repeat first | assumption | exact zup_eq | refine (zup_ne (by first | decide | omega)).trans ?_) ?_
        refine s_X1_liftOnWay hR hn hn1 ?_
        first | refine rX5_sameName_42 ?_ | refine rX5_sameName_42n ?_
        refine rX5_sameName_43 ?_
        refine rX5_sameName_44 ?_
        refine rX5_sameName_46 (by repeat first | assumption | exact zup_eq | refine (zup_ne (by first | decide | omega)).trans ?_) ?_
        refine s_X1_liftOnWay hR2 hn hn1 ?_
        refine rX5_sameName_49 (fun hb => ?_) (fun hb => ?_)
        · have e : (∀ q, i + 1 ≤ q → q < n1 → wlf n1 l1 (nI (way n1 l1)) q = wlf n1 l2 (nI (way n1 l2)) q) ↔ (∀ q, i ≤ q → q < n1 → wlf n1 l1 (nI (way n1 l1)) q = wlf n1 l2 (nI (way n1 l2)) q) := by
            refine ⟨fun h1 q h2 h3 => ?_, fun h1 q h2 h3 => h1 q (by omega) h3⟩
            rcases Nat.eq_or_lt_of_le h2 with rfl | h4
            · exact hb
            · exact h1 q h4 h3
          refine rX5_sameName_54 ?_
          refine rX5_sameName_57 ?_
          rw [nI_1]
          refine ih (i + 1) (by omega) ?_
          rw [zb_c e]
          exact h
        · rw [zb_f (p := ∀ q, i ≤ q → q < n1 → wlf n1 l1 (nI (way n1 l1)) q = wlf n1 l2 (nI (way n1 l2)) q) (fun q => hb (q i (Nat.le_refl _) (by omega)))] at h
          refine rX5_sameName_52 ?_
          first | refine rX5_sameName_53b ?_ | refine rX5_sameName_53 (Or.inl rfl) ?_ | refine rX5_sameName_53 (Or.inr rfl) ?_
          exact h
    first | refine rX5_sameName_13 ?_ | refine rX5_sameName_13n ?_
    refine rX5_sameName_14 (by repeat first | assumption | exact zup_eq | refine (zup_ne (by first | decide | omega)).trans ?_) ?_
    refine s_X1_wayToName hR hn hn1 ?_
    refine rX5_sameName_17 ?_
    first | refine rX5_sameName_18 ?_ | refine rX5_sameName_18n ?_
    refine rX5_sameName_19 (by repeat first | assumption | exact zup_eq | refine (zup_ne (by first | decide | omega)).trans ?_) ?_
    refine s_X1_wayToName hR2 hn hn1 ?_
    refine rX5_sameName_22 ?_
    refine rX5_sameName_23 ?_
    refine rX5_sameName_24 ?_
    refine key n1 0 (by omega) ?_
    rw [zb_c (q := sameNm n1 n1 l1 l2) ⟨fun z => ⟨rfl, fun i hi => z i (Nat.zero_le _) hi⟩, fun z q _ hq => z.2 q hq⟩]
    exact h
  · rw [zb_f (fun z => hb (by rw [z.1]))] at h
    refine rX5_sameName_11 ?_
    first | refine rX5_sameName_12b ?_ | refine rX5_sameName_12 (Or.inl rfl) ?_ | refine rX5_sameName_12 (Or.inr rfl) ?_
    exact h
theorem c_alike_bad {r x : Int32} (hC : CP f n l o s p) (hb : ¬ ((∃ q, q < 4 ∧ r = nI q) ∧ ∃ q, q < 4 ∧ x = nI q)) (h : P (some (zi (-1))) sz f) : Zv none 40 0 [some (zr 0), some (zi r), some (zi x), none, none] [] sz f 0 0 P := by
  have hT := hC.1
  have hT0 := hT.1
  rcases okR_cases r with ⟨q, hq, rfl⟩ | hr <;> rcases okR_cases x with ⟨q2, hq2, rfl⟩ | hx
  · exact absurd ⟨⟨q, hq, rfl⟩, q2, hq2, rfl⟩ hb
  · refine rX5_alike_0 ?_
    refine rX5_alike_1 ?_
    refine rX5_alike_2 (by repeat first | assumption | exact zup_eq | refine (zup_ne (by first | decide | omega)).trans ?_) ?_
    first | refine s_X5_rosetteOf_in (by assumption) (by assumption) ?_ | refine s_X5_rosetteOf_out (by assumption) (by assumption) ?_
    first | refine rX5_alike_5 ?_ | refine rX5_alike_5n ?_
    refine rX5_alike_6 ?_
    refine rX5_alike_7 ?_
    refine rX5_alike_8 (by repeat first | assumption | exact zup_eq | refine (zup_ne (by first | decide | omega)).trans ?_) ?_
    first | refine s_X5_rosetteOf_in (by assumption) (by assumption) ?_ | refine s_X5_rosetteOf_out (by assumption) (by assumption) ?_
    first | refine rX5_alike_11 ?_ | refine rX5_alike_11n ?_
    first | refine rX5_alike_13 ?_ | refine rX5_alike_13n ?_
    first | refine rX5_alike_14 ?_ | refine rX5_alike_14n ?_
    first | refine rX5_alike_17 ?_ | refine rX5_alike_17n ?_
    first | refine rX5_alike_19 ?_ | refine rX5_alike_19n ?_
    refine rX5_alike_22 ?_
    refine rX5_alike_23 ?_
    exact h
  · refine rX5_alike_0 ?_
    refine rX5_alike_1 ?_
    refine rX5_alike_2 (by repeat first | assumption | exact zup_eq | refine (zup_ne (by first | decide | omega)).trans ?_) ?_
    first | refine s_X5_rosetteOf_in (by assumption) (by assumption) ?_ | refine s_X5_rosetteOf_out (by assumption) (by assumption) ?_
    first | refine rX5_alike_5 ?_ | refine rX5_alike_5n ?_
    refine rX5_alike_6 ?_
    refine rX5_alike_7 ?_
    refine rX5_alike_8 (by repeat first | assumption | exact zup_eq | refine (zup_ne (by first | decide | omega)).trans ?_) ?_
    first | refine s_X5_rosetteOf_in (by assumption) (by assumption) ?_ | refine s_X5_rosetteOf_out (by assumption) (by assumption) ?_
    first | refine rX5_alike_11 ?_ | refine rX5_alike_11n ?_
    first | refine rX5_alike_13 ?_ | refine rX5_alike_13n ?_
    first | refine rX5_alike_14 ?_ | refine rX5_alike_14n ?_
    refine rX5_alike_22 ?_
    refine rX5_alike_23 ?_
    exact h
  · refine rX5_alike_0 ?_
    refine rX5_alike_1 ?_
    refine rX5_alike_2 (by repeat first | assumption | exact zup_eq | refine (zup_ne (by first | decide | omega)).trans ?_) ?_
    first | refine s_X5_rosetteOf_in (by assumption) (by assumption) ?_ | refine s_X5_rosetteOf_out (by assumption) (by assumption) ?_
    first | refine rX5_alike_5 ?_ | refine rX5_alike_5n ?_
    refine rX5_alike_6 ?_
    refine rX5_alike_7 ?_
    refine rX5_alike_8 (by repeat first | assumption | exact zup_eq | refine (zup_ne (by first | decide | omega)).trans ?_) ?_
    first | refine s_X5_rosetteOf_in (by assumption) (by assumption) ?_ | refine s_X5_rosetteOf_out (by assumption) (by assumption) ?_
    first | refine rX5_alike_11 ?_ | refine rX5_alike_11n ?_
    first | refine rX5_alike_13 ?_ | refine rX5_alike_13n ?_
    first | refine rX5_alike_14 ?_ | refine rX5_alike_14n ?_
    refine rX5_alike_22 ?_
    refine rX5_alike_23 ?_
    exact h
theorem c_alike_ok {q q2 : Nat} (hC : CP f n l o s p) (hI : Inv n l o s p) (hq : q < 4) (hq2 : q2 < 4) (h : P (some (zi (zb (sameNm (n q) (n q2) (l q) (l q2))))) sz f) : Zv none 40 0 [some (zr 0), some (zi (nI q)), some (zi (nI q2)), none, none] [] sz f 0 0 P := by
  have hT := hC.1
  have hT0 := hT.1
  have hRq := hC.2.1 q hq
  have hRq1 := hRq.1
  have hR2 := hC.2.1 q2 hq2
  have hR21 := hR2.1
  obtain ⟨hn, hn1⟩ := hI.1 q hq
  obtain ⟨hm, hm2⟩ := hI.1 q2 hq2
  refine rX5_alike_0 ?_
  refine rX5_alike_1 ?_
  refine rX5_alike_2 (by repeat first | assumption | exact zup_eq | refine (zup_ne (by first | decide | omega)).trans ?_) ?_
  first | refine s_X5_rosetteOf_in (by assumption) (by assumption) ?_ | refine s_X5_rosetteOf_out (by assumption) (by assumption) ?_
  first | refine rX5_alike_5 ?_ | refine rX5_alike_5n ?_
  refine rX5_alike_6 ?_
  refine rX5_alike_7 ?_
  refine rX5_alike_8 (by repeat first | assumption | exact zup_eq | refine (zup_ne (by first | decide | omega)).trans ?_) ?_
  first | refine s_X5_rosetteOf_in (by assumption) (by assumption) ?_ | refine s_X5_rosetteOf_out (by assumption) (by assumption) ?_
  first | refine rX5_alike_11 ?_ | refine rX5_alike_11n ?_
  first | refine rX5_alike_13 ?_ | refine rX5_alike_13n ?_
  first | refine rX5_alike_14 ?_ | refine rX5_alike_14n ?_
  first | refine rX5_alike_17 ?_ | refine rX5_alike_17n ?_
  first | refine rX5_alike_19 ?_ | refine rX5_alike_19n ?_
  first | refine rX5_alike_24 ?_ | refine rX5_alike_24n ?_
  first | refine rX5_alike_25 ?_ | refine rX5_alike_25n ?_
  refine rX5_alike_27  ?_
  refine s_X5_sameName hRq hR2 hn hn1 hm hm2 ?_
  refine rX5_alike_30b (fun hb => ?_) (fun hb => ?_)
  · rw [zb_f hb] at h
    refine rX5_alike_37 ?_
    refine rX5_alike_38 ?_
    exact h
  · rw [zb_t hb] at h
    refine rX5_alike_33 ?_
    refine rX5_alike_34 ?_
    refine rX5_alike_38 ?_
    exact h
theorem c_setting_bad {r ga ba st ph mo : Int32} (hC : CP f n l o s p) (hb : ¬ okS n r ga ba st ph mo) (h : P (some (zi (-1))) sz f) : Zv none 43 0 [some (zr 0), some (zi r), some (zi ga), some (zi ba), some (zi st), some (zi ph), some (zi mo)] [] sz f 0 0 P := by
  have hT := hC.1
  have hT0 := hT.1
  refine rX5_setting_0 ?_
  refine rX5_setting_1 ?_
  refine rX5_setting_2 ?_
  refine rX5_setting_3 ?_
  refine rX5_setting_4 ?_
  refine rX5_setting_6 ?_
  refine rX5_setting_8 ?_
  refine rX5_setting_10 (by repeat first | assumption | exact zup_eq | refine (zup_ne (by first | decide | omega)).trans ?_) ?_
  refine s_X5_mayBeSet hT hC.2.1 ?_
  refine rX5_setting_13b (fun hbb => absurd hbb hb) (fun _ => ?_)
  refine rX5_setting_16 ?_
  refine rX5_setting_17 ?_
  exact h
/-- a setting out of six numbers -/
def six (r ga ba st ph mo : Int32) : Nat → Int32 := fun i => match i with
  | 0 => r
  | 1 => ga
  | 2 => ba
  | 3 => st
  | 4 => ph
  | _ => mo
theorem c_setting_ok {r ga ba st ph mo : Int32} (hC : CP f n l o s p) (hb : okS n r ga ba st ph mo) (h : ∀ f', CP f' n l (six r ga ba st ph mo) s p → hi f f' → P (some (zi 0)) sz f') : Zv none 43 0 [some (zr 0), some (zi r), some (zi ga), some (zi ba), some (zi st), some (zi ph), some (zi mo)] [] sz f 0 0 P := by
  have hT := hC.1
  have hT0 := hT.1
  have hS := hC.2.2.1
  unfold isSet at hS
  refine rX5_setting_0 ?_
  refine rX5_setting_1 ?_
  refine rX5_setting_2 ?_
  refine rX5_setting_3 ?_
  refine rX5_setting_4 ?_
  refine rX5_setting_6 ?_
  refine rX5_setting_8 ?_
  refine rX5_setting_10 (by repeat first | assumption | exact zup_eq | refine (zup_ne (by first | decide | omega)).trans ?_) ?_
  refine s_X5_mayBeSet hT hC.2.1 ?_
  refine rX5_setting_13b (fun _ => ?_) (fun hbb => absurd hb hbb)
  refine rX5_setting_18 ?_
  refine rX5_setting_19 (by repeat first | assumption | exact zup_eq | refine (zup_ne (by first | decide | omega)).trans ?_) ?_
  refine rX5_setting_22 ?_
  refine rX5_setting_23 ?_
  refine rX5_setting_24 ?_
  refine rX5_setting_25 ?_
  refine rX5_setting_27 ?_
  refine rX5_setting_29 ?_
  refine rX5_setting_31 (by repeat first | assumption | exact zup_eq | refine (zup_ne (by first | decide | omega)).trans ?_) ?_
  refine s_X4_become hS (fun f1 hS1 hf1 => ?_)
  refine rX5_setting_34 ?_
  refine rX5_setting_35 ?_
  exact h f1 (hC.set (fun j hj => hf1 j (by simpa using hj)) hS1) (fun j hj => hf1 j (by omega))
theorem c_told {x : Int32} (hC : CP f n l o s p) (hbad : (x.toInt < 0 ∨ 5 < x.toInt) → P (some (zi (-1))) sz f) (hok : ∀ q, q < 6 → x = nI q → P (some (zi (o q))) sz f) : Zv none 44 0 [some (zr 0), some (zi x)] [] sz f 0 0 P := by
  have hT := hC.1
  have hT0 := hT.1
  have hS := hC.2.2.1
  unfold isSet at hS
  refine rX5_told_0 ?_
  refine rX5_told_1 (by repeat first | assumption | exact zup_eq | refine (zup_ne (by first | decide | omega)).trans ?_) ?_
  refine rX5_told_4 ?_
  refine rX5_told_5 (by repeat first | assumption | exact zup_eq | refine (zup_ne (by first | decide | omega)).trans ?_) ?_
  refine s_X4_part hS (fun y hy => ?_)
  refine rX5_told_8 ?_
  rcases hy with ⟨q, hq, hx, hy⟩ | ⟨hx, rfl⟩
  · have e : y = o q := by
      rcases (by omega : q = 0 ∨ q = 1 ∨ q = 2 ∨ q = 3 ∨ q = 4 ∨ q = 5) with rfl | rfl | rfl | rfl | rfl | rfl <;> exact (Option.some.inj hy).symm
    rw [e]
    exact hok q hq hx
  · exact hbad hx
theorem c_slip_bad {r x : Int32} (hC : CP f n l o s p) (hb : ¬ (inR r 0 11 ∧ inR x (-24) 24)) (h : P (some (zi (-100))) sz f) : Zv none 45 0 [some (zr 0), some (zi r), some (zi x), none] [] sz f 0 0 P := by
  have hT := hC.1
  have hT0 := hT.1
  refine rX5_slip_0 ?_
  refine rX5_slip_1  ?_
  refine s_X5_isRing ?_
  refine rX5_slip_4b (fun _ => ?_) (fun hc => ?_)
  · refine rX5_slip_18 ?_
    refine rX5_slip_20 ?_
    exact h
  · refine rX5_slip_7 ?_
    refine rX5_slip_8 ?_
    refine rX5_slip_10 ?_
    refine rX5_slip_12  ?_
    refine s_X5_within ?_
    refine rX5_slip_15b (fun hbb => absurd hbb (fun z => hb ⟨hc, z⟩)) (fun _ => ?_)
    refine rX5_slip_18 ?_
    refine rX5_slip_20 ?_
    exact h
theorem c_slip_ok {r : Nat} {x : Int32} (hC : CP f n l o s p) (hr : r < 12) (hx : inR x (-24) 24) (h : ∀ f', CP f' n l o (upd s r x) p → hi f f' → P (some (zi (s r))) sz f') : Zv none 45 0 [some (zr 0), some (zi (nI r)), some (zi x), none] [] sz f 0 0 P := by
  have hT := hC.1
  have hT0 := hT.1
  obtain ⟨h4, g, h5, hg⟩ := hC.2.2.2.2.1
  refine rX5_slip_0 ?_
  refine rX5_slip_1  ?_
  refine s_X5_isRing ?_
  refine rX5_slip_4b (fun hbb => absurd ⟨nI_pos' (by omega), nI_le (b := 11) (by omega) (by decide)⟩ hbb) (fun _ => ?_)
  refine rX5_slip_7 ?_
  refine rX5_slip_8 ?_
  refine rX5_slip_10 ?_
  refine rX5_slip_12  ?_
  refine s_X5_within ?_
  refine rX5_slip_15b (fun _ => ?_) (fun hbb => absurd hx hbb)
  refine rX5_slip_21 ?_
  refine rX5_slip_22 (by repeat first | assumption | exact zup_eq | refine (zup_ne (by first | decide | omega)).trans ?_) ?_
  refine rX5_slip_25 ?_
  refine rX5_slip_26 (by repeat first | assumption | exact zup_eq | refine (zup_ne (by first | decide | omega)).trans ?_) ?_
  refine s_X2_get (by repeat first | assumption | exact zup_eq | refine (zup_ne (by first | decide | omega)).trans ?_) (by repeat first | assumption | exact zup_eq | refine (zup_ne (by first | decide | omega)).trans ?_) (by first | assumption | decide | omega) (by first | assumption | decide | omega) ?_
  refine rX5_slip_29 ?_
  refine rX5_slip_30 ?_
  refine rX5_slip_31 (by repeat first | assumption | exact zup_eq | refine (zup_ne (by first | decide | omega)).trans ?_) ?_
  refine rX5_slip_34 ?_
  refine rX5_slip_35 ?_
  refine rX5_slip_36 (by repeat first | assumption | exact zup_eq | refine (zup_ne (by first | decide | omega)).trans ?_) ?_
  refine s_X2_put (by repeat first | assumption | exact zup_eq | refine (zup_ne (by first | decide | omega)).trans ?_) (by repeat first | assumption | exact zup_eq | refine (zup_ne (by first | decide | omega)).trans ?_) (by first | assumption | decide | omega) (by first | assumption | decide | omega) ?_
  refine rX5_slip_39 ?_
  refine rX5_slip_40 ?_
  rw [hg r hr]
  refine h _ (hC.slips (fun j hj => zup_ne (by simpa using hj)) ⟨_, zup_eq, fun i hi => ?_⟩) (fun j hj => zup_ne (by omega))
  by_cases hir : i = r
  · rw [hir, upd_s, upd_s]
  · rw [upd_n hir, upd_n hir, hg i hi]
end LC
