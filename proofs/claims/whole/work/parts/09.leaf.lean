/-! THE SMALLEST METHODS: Math, rows, what is told of a rosette -/
theorem s_J9_max {x y : Int32} {sz : Nat} {f : ZH} {P : Option ZVal → Nat → ZH → Prop} (h : P (some (zi (if x < y then y else x))) sz f) : Zv none 123 0 [some (zi x), some (zi y)] [] sz f 0 0 P := by
  refine rJ9_max_0 ?_
  refine rJ9_max_1 ?_
  refine rJ9_max_2 (fun hb => ?_) (fun hb => ?_)
  · rw [if_pos hb] at h
    refine rJ9_max_9 ?_
    refine rJ9_max_10 ?_
    exact h
  · rw [if_neg hb] at h
    refine rJ9_max_5 ?_
    refine rJ9_max_6 ?_
    refine rJ9_max_10 ?_
    exact h
theorem s_J9_min {x y : Int32} {sz : Nat} {f : ZH} {P : Option ZVal → Nat → ZH → Prop} (h : P (some (zi (if y < x then y else x))) sz f) : Zv none 124 0 [some (zi x), some (zi y)] [] sz f 0 0 P := by
  refine rJ9_min_0 ?_
  refine rJ9_min_1 ?_
  refine rJ9_min_2 (fun hb => ?_) (fun hb => ?_)
  · rw [if_pos hb] at h
    refine rJ9_min_9 ?_
    refine rJ9_min_10 ?_
    exact h
  · rw [if_neg hb] at h
    refine rJ9_min_5 ?_
    refine rJ9_min_6 ?_
    refine rJ9_min_10 ?_
    exact h
theorem s_J9_abs {x : Int32} {sz : Nat} {f : ZH} {P : Option ZVal → Nat → ZH → Prop} (h : P (some (zi (if x < 0 then -x else x))) sz f) : Zv none 122 0 [some (zi x)] [] sz f 0 0 P := by
  refine rJ9_abs_0 ?_
  refine rJ9_abs_1 (fun hb => ?_) (fun hb => ?_)
  · rw [if_neg (Int32.not_lt.mpr hb)] at h
    refine rJ9_abs_9 ?_
    refine rJ9_abs_10 ?_
    exact h
  · rw [if_pos (Int32.not_le.mp hb)] at h
    refine rJ9_abs_4 ?_
    refine rJ9_abs_5 ?_
    refine rJ9_abs_6 ?_
    refine rJ9_abs_10 ?_
    exact h
theorem s_J9_floorMod {x : Int32} {n : Nat} {sz : Nat} {f : ZH} {P : Option ZVal → Nat → ZH → Prop} (hn : 0 < n) (hn2 : n < 2 ^ 31) (h : P (some (zi (nI (fm x n)))) sz f) : Zv none 121 0 [some (zi x), some (zi (nI n)), none] [] sz f 0 0 P := by
  have hy : ¬ nI n = 0 := nI_ne hn hn2
  obtain ⟨e1, e2⟩ := rem_fm (x := x) hn hn2
  have hr0 : 0 ≤ x → 0 ≤ x - x / nI n * nI n := by
    intro hx
    have e := rem_toInt x (nI n)
    rw [nI_toInt hn2, Int.tmod_eq_emod_of_nonneg (Jvm.Kit.i32_nonneg.mp hx)] at e
    have := Int.emod_nonneg x.toInt (b := (n : Int)) (by omega)
    exact Jvm.Kit.i32_nonneg.mpr (by omega)
  have hr1 : ¬ 0 ≤ x → x - x / nI n * nI n ≤ 0 := by
    intro hx
    have hx2 : x.toInt < 0 := by
      have := mt Jvm.Kit.i32_nonneg.mpr hx
      omega
    have e := rem_toInt x (nI n)
    rw [nI_toInt hn2] at e
    have h1 : x.toInt.tmod n = -((-x.toInt).tmod n) := by rw [Int.neg_tmod, Int.neg_neg]
    rw [h1, Int.tmod_eq_emod_of_nonneg (by omega)] at e
    have := Int.emod_nonneg (-x.toInt) (b := (n : Int)) (by omega)
    refine Int32.le_iff_toInt_le.mpr ?_
    rw [show (0 : Int32).toInt = 0 from rfl]
    omega
  refine rJ9_floorMod_0 ?_
  refine rJ9_floorMod_1 ?_
  refine rJ9_floorMod_2 (by first | assumption | decide) ?_
  refine rJ9_floorMod_3 ?_
  refine rJ9_floorMod_4 ?_
  refine rJ9_floorMod_5 ?_
  refine rJ9_floorMod_6 ?_
  refine rJ9_floorMod_7 (fun hb => ?_) (fun hb => ?_)
  · rw [← e1 (hr0 ((i32_xor_ge (nI_gt hn hn2)).mp hb))] at h
    refine rJ9_floorMod_18 ?_
    refine rJ9_floorMod_19 ?_
    exact h
  · have hx : ¬ 0 ≤ x := fun q => hb ((i32_xor_ge (nI_gt hn hn2)).mpr q)
    refine rJ9_floorMod_10 ?_
    refine rJ9_floorMod_11 (fun hb => ?_) (fun hb => ?_)
    · rw [← e1 (by rw [hb]; decide)] at h
      refine rJ9_floorMod_18 ?_
      refine rJ9_floorMod_19 ?_
      exact h
    · rw [← e2 (Int32.lt_of_le_of_ne (hr1 hx) hb)] at h
      refine rJ9_floorMod_14 ?_
      refine rJ9_floorMod_15 ?_
      refine rJ9_floorMod_16 ?_
      refine rJ9_floorMod_17 ?_
      exact h
theorem s_X2_get {k a n q : Nat} {g : Nat → Int32} {sz : Nat} {f : ZH} {P : Option ZVal → Nat → ZH → Prop} (hk : f k = some (zO 2 [zr a])) (ha : f a = some (zA n g)) (hq : q < n) (hn : n < 2 ^ 31) (h : P (some (zi (g q))) sz f) : Zv none 18 0 [some (zr k), some (zi (nI q))] [] sz f 0 0 P := by
  refine rX2_get_0 ?_
  refine rX2_get_1 (fun hbb => absurd hbb (nI_pos (Nat.lt_trans hq hn))) (fun _ => ?_)
  refine rX2_get_4 ?_
  refine rX2_get_5 ?_
  refine rX2_get_6 (by repeat first | assumption | exact zup_eq | refine (zup_ne (by first | decide | omega)).trans ?_) ?_
  first | refine rX2_get_9 (by repeat first | assumption | exact zup_eq | refine (zup_ne (by first | decide | omega)).trans ?_) ?_ | refine rX2_get_9Q (by repeat first | assumption | exact zup_eq | refine (zup_ne (by first | decide | omega)).trans ?_) ?_
  refine rX2_get_10 (fun hbb => absurd hbb (nI_ge hq hn)) (fun _ => ?_)
  refine rX2_get_13 ?_
  refine rX2_get_14 (by repeat first | assumption | exact zup_eq | refine (zup_ne (by first | decide | omega)).trans ?_) ?_
  refine rX2_get_17 ?_
  first | refine rX2_get_18N (by repeat first | assumption | exact zup_eq | refine (zup_ne (by first | decide | omega)).trans ?_) (by first | assumption | decide | omega) (by first | decide | omega) ?_ | refine rX2_get_18 (by repeat first | assumption | exact zup_eq | refine (zup_ne (by first | decide | omega)).trans ?_) (by first | assumption | decide) ?_
  refine rX2_get_19 ?_
  refine rX2_get_23 ?_
  exact h
theorem s_X2_put {k a n q : Nat} {v : Int32} {g : Nat → Int32} {sz : Nat} {f : ZH} {P : Option ZVal → Nat → ZH → Prop} (hk : f k = some (zO 2 [zr a])) (ha : f a = some (zA n g)) (hq : q < n) (hn : n < 2 ^ 31) (h : P none sz (zup f a (zA n (upd g q v)))) : Zv none 19 0 [some (zr k), some (zi (nI q)), some (zi v)] [] sz f 0 0 P := by
  refine rX2_put_0 ?_
  refine rX2_put_1 (fun hbb => absurd hbb (nI_pos (Nat.lt_trans hq hn))) (fun _ => ?_)
  refine rX2_put_4 ?_
  refine rX2_put_5 ?_
  refine rX2_put_6 (by repeat first | assumption | exact zup_eq | refine (zup_ne (by first | decide | omega)).trans ?_) ?_
  first | refine rX2_put_9 (by repeat first | assumption | exact zup_eq | refine (zup_ne (by first | decide | omega)).trans ?_) ?_ | refine rX2_put_9Q (by repeat first | assumption | exact zup_eq | refine (zup_ne (by first | decide | omega)).trans ?_) ?_
  refine rX2_put_10 (fun hbb => absurd hbb (nI_ge hq hn)) (fun _ => ?_)
  refine rX2_put_13 ?_
  refine rX2_put_14 (by repeat first | assumption | exact zup_eq | refine (zup_ne (by first | decide | omega)).trans ?_) ?_
  refine rX2_put_17 ?_
  refine rX2_put_18 ?_
  first | refine rX2_put_19N (by repeat first | assumption | exact zup_eq | refine (zup_ne (by first | decide | omega)).trans ?_) (by first | assumption | decide | omega) (by first | decide | omega) ?_ | refine rX2_put_19 (by repeat first | assumption | exact zup_eq | refine (zup_ne (by first | decide | omega)).trans ?_) (by first | assumption | decide) ?_
  refine rX2_put_20 ?_
  exact h
theorem s_X2_init {k n : Nat} {sz : Nat} {f : ZH} {P : Option ZVal → Nat → ZH → Prop} (hk : f k = some (zO 2 [zu])) (hks : k ≠ sz) (hn : n ≤ 576) (h : P none (sz + 1) (zup (zup f sz (zA n (fun _ => 0))) k (zO 2 [zr sz]))) : Zv none 17 0 [some (zr k), some (zi (nI n))] [] sz f 0 0 P := by
  have hm : (if nI n < 0 then (0 : Int32) else nI n) = nI n := if_neg (nI_pos (by omega))
  refine rX2_init_0 ?_
  refine rX2_init_1 ?_
  refine rX2_init_4 ?_
  refine rX2_init_5 ?_
  refine rX2_init_6 ?_
  refine rX2_init_7 ⟨by omega, by omega⟩ ?_
  refine s_J9_max ?_
  rw [hm]
  refine rX2_init_10 (N := n) (nI_pos (by omega)) (nI_clamp (by omega)) (by omega) ⟨by omega, by omega⟩ ?_
  refine rX2_init_12 ((zup_ne hks).trans hk) ?_
  refine rX2_init_15 ?_
  exact h
theorem s_X4_become {k : Nat} {v0 v1 v2 v3 v4 v5 : ZVal} {r ga ba st ph mo : Int32} {sz : Nat} {f : ZH} {P : Option ZVal → Nat → ZH → Prop} (hk : f k = some (zO 4 [v0, v1, v2, v3, v4, v5])) (h : ∀ f', f' k = some (zO 4 [zi r, zi ga, zi ba, zi st, zi ph, zi mo]) → (∀ j, j ≠ k → f' j = f j) → P none sz f') : Zv none 31 0 [some (zr k), some (zi r), some (zi ga), some (zi ba), some (zi st), some (zi ph), some (zi mo)] [] sz f 0 0 P := by
  refine rX4_become_0 ?_
  refine rX4_become_1 ?_
  refine rX4_become_2 (by repeat first | assumption | exact zup_eq | refine (zup_ne (by first | decide | omega)).trans ?_) ?_
  refine rX4_become_5 ?_
  refine rX4_become_6 ?_
  refine rX4_become_7 (by repeat first | assumption | exact zup_eq | refine (zup_ne (by first | decide | omega)).trans ?_) ?_
  refine rX4_become_10 ?_
  refine rX4_become_11 ?_
  refine rX4_become_12 (by repeat first | assumption | exact zup_eq | refine (zup_ne (by first | decide | omega)).trans ?_) ?_
  refine rX4_become_15 ?_
  refine rX4_become_16 ?_
  refine rX4_become_18 (by repeat first | assumption | exact zup_eq | refine (zup_ne (by first | decide | omega)).trans ?_) ?_
  refine rX4_become_21 ?_
  refine rX4_become_22 ?_
  refine rX4_become_24 (by repeat first | assumption | exact zup_eq | refine (zup_ne (by first | decide | omega)).trans ?_) ?_
  refine rX4_become_27 ?_
  refine rX4_become_28 ?_
  refine rX4_become_30 (by repeat first | assumption | exact zup_eq | refine (zup_ne (by first | decide | omega)).trans ?_) ?_
  refine rX4_become_33 ?_
  refine h _ zup_eq fun j hj => ?_
  simp only [zup_ne hj]
theorem s_X4_dropTurns {k : Nat} {v1 v2 v3 v4 v5 r x : Int32} {sz : Nat} {f : ZH} {P : Option ZVal → Nat → ZH → Prop} (hk : f k = some (zO 4 [zi r, zi v1, zi v2, zi v3, zi v4, zi v5])) (h : ∀ f', f' k = some (zO 4 [zi r, zi v1, zi v2, zi v3, zi (if x = r then 0 else v4), zi (if x = r then 0 else v5)]) → (∀ j, j ≠ k → f' j = f j) → P none sz f') : Zv none 32 0 [some (zr k), some (zi x)] [] sz f 0 0 P := by
  refine rX4_dropTurns_0 ?_
  refine rX4_dropTurns_1 ?_
  refine rX4_dropTurns_2 (by repeat first | assumption | exact zup_eq | refine (zup_ne (by first | decide | omega)).trans ?_) ?_
  refine rX4_dropTurns_5 (fun hb => ?_) (fun hb => ?_)
  · rw [if_neg hb, if_neg hb] at h
    refine rX4_dropTurns_18 ?_
    exact h _ hk fun j hj => rfl
  · have hb2 : x = r := hb
    rw [if_pos hb2, if_pos hb2] at h
    refine rX4_dropTurns_8 ?_
    refine rX4_dropTurns_9 ?_
    refine rX4_dropTurns_10 (by repeat first | assumption | exact zup_eq | refine (zup_ne (by first | decide | omega)).trans ?_) ?_
    refine rX4_dropTurns_13 ?_
    refine rX4_dropTurns_14 ?_
    refine rX4_dropTurns_15 (by repeat first | assumption | exact zup_eq | refine (zup_ne (by first | decide | omega)).trans ?_) ?_
    refine rX4_dropTurns_18 ?_
    refine h _ zup_eq fun j hj => ?_
    simp only [zup_ne hj]
theorem i32_lit {x : Int32} {m : Nat} (h : ¬ (x.toInt < 0 ∨ (m : Int) < x.toInt)) (hm : m < 2 ^ 31) : ∃ q, q ≤ m ∧ x = nI q := ⟨x.toInt.toNat, by omega, i32_eq_nI (by omega) (by omega)⟩
theorem s_X4_part {k : Nat} {v0 v1 v2 v3 v4 v5 x : Int32} {sz : Nat} {f : ZH} {P : Option ZVal → Nat → ZH → Prop} (hk : f k = some (zO 4 [zi v0, zi v1, zi v2, zi v3, zi v4, zi v5])) (h : ∀ y, ((∃ q, q < 6 ∧ x = nI q ∧ [v0, v1, v2, v3, v4, v5][q]? = some y) ∨ ((x.toInt < 0 ∨ 5 < x.toInt) ∧ y = -1)) → P (some (zi y)) sz f) : Zv none 33 0 [some (zr k), some (zi x)] [] sz f 0 0 P := by
  refine rX4_part_0 ?_
  by_cases hb : x.toInt < 0 ∨ 5 < x.toInt
  · refine rX4_part_1d hb ?_
    refine rX4_part_70 ?_
    refine rX4_part_71 ?_
    exact h _ (Or.inr ⟨hb, rfl⟩)
  · obtain ⟨q, hq, rfl⟩ := i32_lit (m := 5) hb (by decide)
    rcases (by omega : q = 0 ∨ q = 1 ∨ q = 2 ∨ q = 3 ∨ q = 4 ∨ q = 5) with rfl | rfl | rfl | rfl | rfl | rfl
    · refine rX4_part_1c0 ?_
      refine rX4_part_40 ?_
      refine rX4_part_41 (by repeat first | assumption | exact zup_eq | refine (zup_ne (by first | decide | omega)).trans ?_) ?_
      refine rX4_part_44 ?_
      exact h _ (Or.inl ⟨0, by decide, rfl, rfl⟩)
    · refine rX4_part_1c1 ?_
      refine rX4_part_45 ?_
      refine rX4_part_46 (by repeat first | assumption | exact zup_eq | refine (zup_ne (by first | decide | omega)).trans ?_) ?_
      refine rX4_part_49 ?_
      exact h _ (Or.inl ⟨1, by decide, rfl, rfl⟩)
    · refine rX4_part_1c2 ?_
      refine rX4_part_50 ?_
      refine rX4_part_51 (by repeat first | assumption | exact zup_eq | refine (zup_ne (by first | decide | omega)).trans ?_) ?_
      refine rX4_part_54 ?_
      exact h _ (Or.inl ⟨2, by decide, rfl, rfl⟩)
    · refine rX4_part_1c3 ?_
      refine rX4_part_55 ?_
      refine rX4_part_56 (by repeat first | assumption | exact zup_eq | refine (zup_ne (by first | decide | omega)).trans ?_) ?_
      refine rX4_part_59 ?_
      exact h _ (Or.inl ⟨3, by decide, rfl, rfl⟩)
    · refine rX4_part_1c4 ?_
      refine rX4_part_60 ?_
      refine rX4_part_61 (by repeat first | assumption | exact zup_eq | refine (zup_ne (by first | decide | omega)).trans ?_) ?_
      refine rX4_part_64 ?_
      exact h _ (Or.inl ⟨4, by decide, rfl, rfl⟩)
    · refine rX4_part_1c5 ?_
      refine rX4_part_65 ?_
      refine rX4_part_66 (by repeat first | assumption | exact zup_eq | refine (zup_ne (by first | decide | omega)).trans ?_) ?_
      refine rX4_part_69 ?_
      exact h _ (Or.inl ⟨5, by decide, rfl, rfl⟩)
theorem s_X4_init {k : Nat} {sz : Nat} {f : ZH} {P : Option ZVal → Nat → ZH → Prop} (hk : f k = some (zO 4 [zi 0, zi 0, zi 0, zi 0, zi 0, zi 0])) (h : ∀ f', f' k = some (zO 4 [zi 0, zi 1, zi 0, zi 0, zi 0, zi 0]) → (∀ j, j ≠ k → f' j = f j) → P none sz f') : Zv none 30 0 [some (zr k)] [] sz f 0 0 P := by
  refine rX4_init_0 ?_
  refine rX4_init_1 ?_
  refine rX4_init_4 ?_
  refine rX4_init_5 ?_
  refine rX4_init_6 (by repeat first | assumption | exact zup_eq | refine (zup_ne (by first | decide | omega)).trans ?_) ?_
  refine rX4_init_9 ?_
  refine rX4_init_10 ?_
  refine rX4_init_11 (by repeat first | assumption | exact zup_eq | refine (zup_ne (by first | decide | omega)).trans ?_) ?_
  refine rX4_init_14 ?_
  refine rX4_init_15 ?_
  refine rX4_init_16 (by repeat first | assumption | exact zup_eq | refine (zup_ne (by first | decide | omega)).trans ?_) ?_
  refine rX4_init_19 ?_
  refine rX4_init_20 ?_
  refine rX4_init_21 (by repeat first | assumption | exact zup_eq | refine (zup_ne (by first | decide | omega)).trans ?_) ?_
  refine rX4_init_24 ?_
  refine rX4_init_25 ?_
  refine rX4_init_26 (by repeat first | assumption | exact zup_eq | refine (zup_ne (by first | decide | omega)).trans ?_) ?_
  refine rX4_init_29 ?_
  refine rX4_init_30 ?_
  refine rX4_init_31 (by repeat first | assumption | exact zup_eq | refine (zup_ne (by first | decide | omega)).trans ?_) ?_
  refine rX4_init_34 ?_
  refine h _ zup_eq fun j hj => ?_
  simp only [zup_ne hj]
