/-! THE SMALLEST METHODS: Math, rows, what is told of a rosette -/
theorem s_J9_max {x y : Int32} {sz : Nat} {f : ZH} {P : Option ZVal → Nat → ZH → Prop} (h : P (some (zi (if x < y then y else x))) sz f) : Zv none 123 0 [some (zi x), some (zi y)] [] sz f 0 0 P := by
  refine rJ9_max_0 ?_
  refine rJ9_max_1 ?_
  refine rJ9_max_2 (fun hb => ?_) (fun hb => ?_)
  · rw [if_pos hb] at h
    refine rJ9_max_9 ?_
    refine rJ9_max_10 ?_
    exact h
  · rw [if_neg hb] at h
    refine rJ9_max_5 ?_
    refine rJ9_max_6 ?_
    refine rJ9_max_10 ?_
    exact h
theorem s_J9_min {x y : Int32} {sz : Nat} {f : ZH} {P : Option ZVal → Nat → ZH → Prop} (h : P (some (zi (if y < x then y else x))) sz f) : Zv none 124 0 [some (zi x), some (zi y)] [] sz f 0 0 P := by
  refine rJ9_min_0 ?_
  refine rJ9_min_1 ?_
  refine rJ9_min_2 (fun hb => ?_) (fun hb => ?_)
  · rw [if_pos hb] at h
    refine rJ9_min_9 ?_
    refine rJ9_min_10 ?_
    exact h
  · rw [if_neg hb] at h
    refine rJ9_min_5 ?_
    refine rJ9_min_6 ?_
    refine rJ9_min_10 ?_
    exact h
theorem s_J9_abs {x : Int32} {sz : Nat} {f : ZH} {P : Option ZVal → Nat → ZH → Prop} (h : P (some (zi (if x < 0 then -x else x))) sz f) : Zv none 122 0 [some (zi x)] [] sz f 0 0 P := by
  refine rJ9_abs_0 ?_
  refine rJ9_abs_1 (fun hb => ?_) (fun hb => ?_)
  · rw [if_neg (Int32.not_lt.mpr hb)] at h
    refine rJ9_abs_9 ?_
    refine rJ9_abs_10 ?_
    exact h
  · rw [if_pos (Int32.not_le.mp hb)] at h
    refine rJ9_abs_4 ?_
    refine rJ9_abs_5 ?_
    refine rJ9_abs_6 ?_
    refine rJ9_abs_10 ?_
    exact h
theorem s_J9_floorMod {x : Int32} {n : Nat} {sz : Nat} {f : ZH} {P : Option ZVal → Nat → ZH → Prop} (hn : 0 < n) (hn2 : n < 2 ^ 31) (h : P (some (zi (nI (fm x n)))) sz f) : Zv none 121 0 [some (zi x), some (zi (nI n)), none] [] sz f 0 0 P := by
  have hy : ¬ nI n = 0 := nI_ne hn hn2
  obtain ⟨e1, e2⟩ := rem_fm (x := x) hn hn2
  have hr0 : 0 ≤ x → 0 ≤ x - x / nI n * nI n := by
    intro hx
    have e := rem_toInt x (nI n)
    rw [nI_toInt hn2, Int.tmod_eq_emod_of_nonneg (Jvm.Kit.i32_nonneg.mp hx)] at e
    have := Int.emod_nonneg x.toInt (b := (n : Int)) (by omega)
    exact Jvm.Kit.i32_nonneg.mpr (by omega)
  have hr1 : ¬ 0 ≤ x → x - x / nI n * nI n ≤ 0 := by
    intro hx
    have hx2 : x.toInt < 0 := by
      have := mt Jvm.Kit.i32_nonneg.mpr hx
      omega
    have e := rem_toInt x (nI n)
    rw [nI_toInt hn2] at e
    have h1 : x.toInt.tmod n = -((-x.toInt).tmod n) := by rw [Int.neg_tmod, Int.neg_neg]
    rw [h1, Int.tmod_eq_emod_of_nonneg (by omega)] at e
    have := Int.emod_nonneg (-x.toInt) (b := (n : Int)) (by omega)
    refine Int32.le_iff_toInt_le.mpr ?_
    rw [show (0 : Int32).toInt = 0 from rfl]
    omega
  refine rJ9_floorMod_0 ?_
  refine rJ9_floorMod_1 ?_
  refine rJ9_floorMod_2 (by first | assumption | decide) ?_
  refine rJ9_floorMod_3 ?_
  refine rJ9_floorMod_4 ?_
  refine rJ9_floorMod_5 ?_
  refine rJ9_floorMod_6 ?_
  refine rJ9_floorMod_7 (fun hb => ?_) (fun hb => ?_)
  · rw [← e1 (hr0 ((i32_xor_ge (nI_gt hn hn2)).mp hb))] at h
    refine rJ9_floorMod_18 ?_
    refine rJ9_floorMod_19 ?_
    exact h
  · have hx : ¬ 0 ≤ x := fun q => hb ((i32_xor_ge (nI_gt hn hn2)).mpr q)
    refine rJ9_floorMod_10 ?_
    refine rJ9_floorMod_11 (fun hb => ?_) (fun hb => ?_)
    · rw [← e1 (by rw [hb]; decide)] at h
      refine rJ9_floorMod_18 ?_
      refine rJ9_floorMod_19 ?_
      exact h
    · rw [← e2 (Int32.lt_of_le_of_ne (hr1 hx) hb)] at h
      refine rJ9_floorMod_14 ?_
      refine rJ9_floorMod_15 ?_
      refine rJ9_floorMod_16 ?_
      refine rJ9_floorMod_17 ?_
      exact h
