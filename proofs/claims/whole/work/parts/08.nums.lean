/-! NUMBERS: remainders that are never below 0, Int32 as Int -/
theorem i32_neg_msb (x : Int32) : x < 0 ↔ x.toBitVec.msb = true := by
  rw [Int32.lt_iff_toBitVec_slt]
  show x.toBitVec.slt 0#32 = true ↔ _
  rw [BitVec.slt_zero_iff_msb_cond]
theorem i32_xor_ge {x y : Int32} (hy : 0 < y) : 0 ≤ x ^^^ y ↔ 0 ≤ x := by
  have e : ∀ z : Int32, 0 ≤ z ↔ ¬ z.toBitVec.msb = true := fun z => by
    rw [← i32_neg_msb, Int32.not_lt]
  have hy2 : y.toBitVec.msb = false := by
    have h := (e y).mp (Int32.le_of_lt hy)
    simpa using h
  rw [e, e, Int32.toBitVec_xor, BitVec.msb_xor, hy2, Bool.xor_false]
/-- the remainder, 0 to n - 1 -/
def fm (x : Int32) (n : Nat) : Nat := (x.toInt % (n : Int)).toNat
theorem fm_lt {x : Int32} {n : Nat} (hn : 0 < n) : fm x n < n := by
  have h1 := Int.emod_nonneg x.toInt (b := (n : Int)) (by omega)
  have h2 := Int.emod_lt_of_pos x.toInt (b := (n : Int)) (by omega)
  unfold fm
  omega
theorem fm_int {x : Int32} {n : Nat} (hn : 0 < n) : ((fm x n : Nat) : Int) = x.toInt % (n : Int) := by
  have h1 := Int.emod_nonneg x.toInt (b := (n : Int)) (by omega)
  unfold fm
  omega
theorem i32_eq_nI {x : Int32} {k : Nat} (hk : k < 2 ^ 31) (h : x.toInt = (k : Int)) : x = nI k := by
  apply Int32.toInt_inj.mp
  rw [h, nI_toInt hk]
theorem tmod_emod {a n r : Int} (hn : 0 < n) (hr : r = a.tmod n) : (0 ≤ r → a % n = r) ∧ (r < 0 → a % n = r + n) ∧ r < n ∧ -n < r := by
  have hb := tmod_bounds (a := a) hn
  rw [← hr] at hb
  have e : a % n = r % n := by
    have h1 : a = r + n * a.tdiv n := by
      rw [hr, Int.tmod_def]
      omega
    rw [h1, Int.add_mul_emod_self_left]
  refine ⟨fun h => by rw [e, Int.emod_eq_of_lt h hb.2], fun h => ?_, hb.2, hb.1⟩
  rw [e, ← Int.add_emod_right, Int.emod_eq_of_lt (by omega) (by omega)]
/-- what irem leaves, against fm -/
theorem rem_fm {x : Int32} {n : Nat} (hn : 0 < n) (hn2 : n < 2 ^ 31) : (0 ≤ x - x / nI n * nI n → x - x / nI n * nI n = nI (fm x n)) ∧ (x - x / nI n * nI n < 0 → x - x / nI n * nI n + nI n = nI (fm x n)) := by
  have e := rem_toInt x (nI n)
  rw [nI_toInt hn2] at e
  obtain ⟨h1, h2, h3, h4⟩ := tmod_emod (by omega : (0 : Int) < n) e
  have hf := fm_int (x := x) hn
  have hl := fm_lt (x := x) hn
  refine ⟨fun h => i32_eq_nI (by omega) ?_, fun h => i32_eq_nI (by omega) ?_⟩
  · rw [hf, h1 (Jvm.Kit.i32_nonneg.mp h)]
  · have hneg : (x - x / nI n * nI n).toInt < 0 := Int32.lt_iff_toInt_lt.mp h
    rw [Jvm.Kit.i32_add (by rw [nI_toInt hn2]; omega) (by rw [nI_toInt hn2]; omega), nI_toInt hn2, hf, h2 hneg]
theorem nI_ne {n : Nat} (h0 : 0 < n) (h : n < 2 ^ 31) : ¬ nI n = 0 := nI_ne0 h0 h
theorem nI_gt {n : Nat} (h0 : 0 < n) (h : n < 2 ^ 31) : 0 < nI n := by
  rw [← nI_0]; exact nI_lt h0 h
