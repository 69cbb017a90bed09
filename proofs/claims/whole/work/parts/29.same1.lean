/-! BOTH SIDES ANSWER THE SAME: the plate, the walls; what keeps the bounds -/
theorem neg_m1 {x : Int32} (h : -1 ≤ x.toInt) : x < 0 ↔ x = -1 := by
  constructor
  · intro h1
    have h2 : x.toInt < 0 := Int32.lt_iff_toInt_lt.mp h1
    exact Int32.toInt_inj.mp (by rw [show (-1 : Int32).toInt = -1 from rfl]; omega)
  · intro h1
    rw [h1]
    decide
def pOK (p : Nat → Int32) : Prop := ∀ k, k < 576 → -1 ≤ (p k).toInt ∧ (p k).toInt ≤ 2000
theorem dec_c {p q : Prop} [Decidable p] [Decidable q] (h : p ↔ q) : decide p = decide q := by
  by_cases hp : p
  · rw [decide_eq_true hp, decide_eq_true (h.mp hp)]
  · rw [decide_eq_false hp, decide_eq_false (fun z => hp (h.mpr z))]
theorem cntB_add (b : Nat → Bool) (a : Nat) : ∀ c, cntB b (a + c) = cntB b a + cntB (fun i => b (a + i)) c
  | 0 => rfl
  | c + 1 => by
    have ih := cntB_add b a c
    rw [← Nat.add_assoc, cntB, ih, cntB]
    omega
theorem cntB_ext {b c : Nat → Bool} : ∀ m, (∀ i, i < m → b i = c i) → cntB b m = cntB c m
  | 0, _ => rfl
  | m + 1, h => by rw [cntB, cntB, cntB_ext m (fun i hi => h i (by omega)), h m (by omega)]
theorem sumN_ext {b c : Nat → Nat} : ∀ m, (∀ i, i < m → b i = c i) → sumN b m = sumN c m
  | 0, _ => rfl
  | m + 1, h => by rw [sumN, sumN, sumN_ext m (fun i hi => h i (by omega)), h m (by omega)]
theorem cntB_pos (b : Nat → Bool) : ∀ m, 0 < cntB b m ↔ ∃ i, i < m ∧ b i = true
  | 0 => ⟨fun h => absurd h (Nat.lt_irrefl 0), fun ⟨i, h, _⟩ => absurd h (by omega)⟩
  | m + 1 => by
    have ih := cntB_pos b m
    rw [cntB]
    by_cases hb : b m = true
    · rw [if_pos hb]
      exact ⟨fun _ => ⟨m, by omega, hb⟩, fun _ => by omega⟩
    · rw [if_neg hb, Nat.add_zero, ih]
      refine ⟨fun ⟨i, h1, h2⟩ => ⟨i, by omega, h2⟩, fun ⟨i, h1, h2⟩ => ⟨i, ?_, h2⟩⟩
      by_cases him : i = m
      · rw [him] at h2; exact absurd h2 hb
      · omega
theorem seen_pos {p : Nat → Int32} (hp : pOK p) {r t : Nat} (hr : r < 12) (ht : t < 48) : seenB p r t = posB p (r * 48 + t) := by
  unfold seenB posB
  exact dec_c (not_congr (neg_m1 (hp _ (by omega)).1).symm)
theorem sum_seen {p : Nat → Int32} (hp : pOK p) : ∀ m, m ≤ 12 → sumN (fun r => cntB (seenB p r) 48) m = cntB (posB p) (m * 48)
  | 0, _ => rfl
  | m + 1, hm => by
    rw [sumN, sum_seen hp m (by omega), Nat.succ_mul, cntB_add]
    congr 1
    exact cntB_ext 48 (fun i hi => seen_pos hp (by omega) hi)
theorem rings_seen {p : Nat → Int32} (hp : pOK p) : cntB (fun r => decide (0 < cntB (seenB p r) 48)) 12 = cntB (ringB p) 12 := by
  refine cntB_ext 12 (fun r hr => ?_)
  unfold ringB
  by_cases h : 0 < cntB (seenB p r) 48
  · rw [decide_eq_true h]
    obtain ⟨t, ht, hb⟩ := (cntB_pos _ _).mp h
    rw [seen_pos hp hr ht] at hb
    exact (resB_t ⟨t, ht, Int32.not_lt.mp (of_decide_eq_true hb)⟩).symm
  · rw [decide_eq_false h]
    refine (resB_f (fun ⟨t, ht, hb⟩ => h ((cntB_pos _ _).mpr ⟨t, ht, ?_⟩))).symm
    rw [seen_pos hp hr ht]
    exact decide_eq_true (Int32.not_lt.mpr hb)
theorem off_same {n : Nat} {l o s p : Nat → Int32} (hp : pOK p) : sumN (fun k => cntB (offB n l o s p k) 48) 12 = sumN (fun k => cntB (offB2 n l o s p k) 48) 12 := by
  refine sumN_ext 12 (fun k hk => cntB_ext 48 (fun t ht => ?_))
  unfold offB offB2
  refine dec_c (and_congr ?_ Iff.rfl)
  rw [← neg_m1 (hp _ (by omega)).1, Int32.not_lt]
theorem mul_bd {a b A B : Int} (ha : 0 ≤ a) (hA : a ≤ A) (hb : -B ≤ b) (hB : b ≤ B) (h0 : 0 ≤ B) : -(A * B) ≤ a * b ∧ a * b ≤ A * B := by
  have h1 : a * b ≤ a * B := Int.mul_le_mul_of_nonneg_left hB ha
  have h2 : a * B ≤ A * B := Int.mul_le_mul_of_nonneg_right hA h0
  have h3 : a * (-B) ≤ a * b := Int.mul_le_mul_of_nonneg_left hb ha
  rw [Int.mul_neg] at h3
  omega
theorem plc_bd {n : Nat} {l o : Nat → Int32} {ring : Nat} {x : Int32} (hn : 0 < n) (hn2 : n ≤ 24) (hl : rng l) (h1 : 1 ≤ (o 1).toInt ∧ (o 1).toInt ≤ 4) (h2 : 0 ≤ (o 2).toInt ∧ (o 2).toInt ≤ 1000) (h3 : 0 ≤ (o 3).toInt ∧ (o 3).toInt ≤ 100) (hr : ring < 12) : -80 ≤ (plc n l o (nI ring) x).toInt ∧ (plc n l o (nI ring) x).toInt ≤ 2180 := by
  unfold plc lft
  have hf := fm_lt (x := o 4 + nI ring * o 5 + x) hn
  generalize fm (o 4 + nI ring * o 5 + x) n = j at hf
  have hlj := hl j (by omega)
  have hR : (nI ring).toInt = ring := nI_toInt (by omega)
  have a1 := mul_bd (a := (nI ring).toInt) (b := (o 3).toInt) (A := 11) (B := 100) (by omega) (by omega) (by omega) (by omega) (by omega)
  have a1' := Int.mul_nonneg (a := (nI ring).toInt) (b := (o 3).toInt) (by omega) (by omega)
  have a2 := mul_bd (a := (o 1).toInt) (b := (l j).toInt) (A := 4) (B := 20) (by omega) (by omega) (by omega) (by omega) (by omega)
  have e1 : (nI ring * o 3).toInt = (nI ring).toInt * (o 3).toInt := Jvm.Kit.i32_mul (by omega) (by omega)
  have e2 : (o 1 * l j).toInt = (o 1).toInt * (l j).toInt := Jvm.Kit.i32_mul (by omega) (by omega)
  have e3 : (o 2 + nI ring * o 3).toInt = (o 2).toInt + (nI ring * o 3).toInt := Jvm.Kit.i32_add (by omega) (by omega)
  have e4 : (o 2 + nI ring * o 3 + o 1 * l j).toInt = (o 2 + nI ring * o 3).toInt + (o 1 * l j).toInt := Jvm.Kit.i32_add (by omega) (by omega)
  omega
theorem mnT_start {w : Nat → Int32} {M : Int32} {d t : Nat} (h : w t < M) : mnT w (d + 1) t M = mnT w (d + 1) t (w t) := by
  rw [mnT, mnT, if_pos h, ite_self]
theorem mnK_start {w : Nat → Nat → Int32} {M : Int32} {m : Nat} (hm : 0 < m) (h : w 0 0 < M) : mnK w m 0 M = mnK w m 0 (w 0 0) := by
  obtain ⟨d, rfl⟩ : ∃ d, m = d + 1 := ⟨m - 1, by omega⟩
  have e : mnT (w 0) 48 0 M = mnT (w 0) 48 0 (w 0 0) := mnT_start (w := w 0) (d := 47) (t := 0) h
  rw [mnK, mnK, e]
section INV
variable {n : Nat → Nat} {l : Nat → Nat → Int32} {o s p : Nat → Int32} {q : Nat}
theorem inv_rng (hI : Inv n l o s p) (hq : q < 4) : rng (l q) := hI.2.1 q hq
theorem inv_pOK (hI : Inv n l o s p) : pOK p := hI.2.2.2.2.2.2.2.1
theorem inv_plS (hI : Inv n l o s p) (hq : q < 4) {r : Nat} {x : Int32} (hr : r < 12) : -80 ≤ (plS (n q) (l q) o s r x).toInt ∧ (plS (n q) (l q) o s r x).toInt ≤ 2180 := plc_bd (hI.1 q hq).1 (hI.1 q hq).2 (inv_rng hI hq) hI.2.2.2.1 hI.2.2.2.2.1 hI.2.2.2.2.2.1 hr
theorem wall_same (hI : Inv n l o s p) (hq : q < 4) {m : Nat} (hm : 0 < m) : mnK (wal (n q) (l q) o s) m 0 99999 = mnK (wal (n q) (l q) o s) m 0 (wal (n q) (l q) o s 0 0) := by
  refine mnK_start hm ?_
  unfold wal
  have h1 := inv_plS hI hq (r := 0 + 1) (x := nI 0) (by decide)
  have h2 := inv_plS hI hq (r := 0) (x := nI 0) (by decide)
  rw [Int32.lt_iff_toInt_lt, Jvm.Kit.i32_sub (by omega) (by omega), show (99999 : Int32).toInt = 99999 from rfl]
  omega
theorem pOK_put (hp : pOK p) {k : Nat} {v : Int32} (hv : inR v (-1) 2000) : pOK (upd p k v) := by
  intro i hi
  by_cases h : i = k
  · rw [h, upd_s]
    exact ⟨Int32.le_iff_toInt_le.mp hv.1, Int32.le_iff_toInt_le.mp hv.2⟩
  · rw [upd_n h]; exact hp i hi
theorem pOK_prt {n : Nat} {l o s : Nat → Int32} (m : Nat) : pOK (prt n l o s m) := by
  intro i hi
  unfold prt
  by_cases h : i / 48 < m
  · rw [if_pos h]
    split
    · rename_i hv
      exact ⟨by have := Int32.le_iff_toInt_le.mp hv.1; rw [show (0 : Int32).toInt = 0 from rfl] at this; omega, Int32.le_iff_toInt_le.mp hv.2⟩
    · exact ⟨by decide, by decide⟩
  · rw [if_neg h]
    exact ⟨by decide, by decide⟩
theorem inv_plate (hI : Inv n l o s p) {p' : Nat → Int32} (hp : pOK p') : Inv n l o s p' := by
  obtain ⟨a, b, c, d, e, f, g, _, i⟩ := hI
  exact ⟨a, b, c, d, e, f, g, hp, i⟩
theorem inv_slips (hI : Inv n l o s p) {k : Nat} {v : Int32} (hv : inR v (-24) 24) : Inv n l o (upd s k v) p := by
  obtain ⟨a, b, c, d, e, f, g, h, i⟩ := hI
  refine ⟨a, b, c, d, e, f, fun j hj => ?_, h, i⟩
  by_cases hjk : j = k
  · rw [hjk, upd_s]
    exact ⟨Int32.le_iff_toInt_le.mp hv.1, Int32.le_iff_toInt_le.mp hv.2⟩
  · rw [upd_n hjk]; exact g j hj
theorem inv_set (hI : Inv n l o s p) {r ga ba st ph mo : Int32} (hb : okS n r ga ba st ph mo) : Inv n l (six r ga ba st ph mo) s p := by
  obtain ⟨a, b, c, d, e, f, g, h, i⟩ := hI
  obtain ⟨q, hq, hr, h1, h2, h3, h4, h5⟩ := hb
  have hn := a q hq
  have hN : (nI (n q)).toInt = n q := nI_toInt (by omega)
  have I := fun {x y : Int32} (z : x ≤ y) => Int32.le_iff_toInt_le.mp z
  have J := fun {x y : Int32} (z : x < y) => Int32.lt_iff_toInt_lt.mp z
  have j4 := J h4.2
  have j5 := J h5.2
  exact ⟨a, b, ⟨q, hq, hr⟩, ⟨I h1.1, I h1.2⟩, ⟨I h2.1, I h2.2⟩, ⟨I h3.1, I h3.2⟩, g, h, ⟨I h4.1, by show ph.toInt < 24; omega⟩, ⟨I h5.1, by show mo.toInt < 24; omega⟩⟩
theorem inv_lift (hI : Inv n l o s p) {k : Nat} {v : Int32} (hv : inR v (-20) 20) : Inv n (updN l q (upd (l q) k v)) o s p := by
  obtain ⟨a, b, c⟩ := hI
  refine ⟨a, fun r hr i hi => ?_, c⟩
  unfold updN
  by_cases hrq : r = q
  · rw [if_pos hrq]
    by_cases hik : i = k
    · rw [hik, upd_s]
      exact ⟨Int32.le_iff_toInt_le.mp hv.1, Int32.le_iff_toInt_le.mp hv.2⟩
    · rw [upd_n hik, ← hrq]; exact b r hr i hi
  · rw [if_neg hrq]; exact b r hr i hi
theorem inv_anew (hI : Inv n l o s p) {m : Nat} {l' : Nat → Int32} (hm : 1 ≤ m) (hm2 : m ≤ 24) (hl : rng l') : Inv (updN n q m) (updN l q l') (dropT o q) s p := by
  obtain ⟨a, b, ⟨q0, c1, c2⟩, d, e, f, g, h, i, j⟩ := hI
  refine ⟨fun r hr => ?_, fun r hr i hi => ?_, ⟨q0, c1, c2⟩, d, e, f, g, h, ?_, ?_⟩
  · unfold updN
    by_cases hrq : r = q
    · rw [if_pos hrq]; omega
    · rw [if_neg hrq]; exact a r hr
  · unfold updN
    by_cases hrq : r = q
    · rw [if_pos hrq]; exact hl i hi
    · rw [if_neg hrq]; exact b r hr i hi
  · show 0 ≤ (if nI q = o 0 then (0 : Int32) else o 4).toInt ∧ (if nI q = o 0 then (0 : Int32) else o 4).toInt < 24
    split
    · decide
    · exact i
  · show 0 ≤ (if nI q = o 0 then (0 : Int32) else o 5).toInt ∧ (if nI q = o 0 then (0 : Int32) else o 5).toInt < 24
    split
    · decide
    · exact j
theorem rng_wrow {n : Nat} {l : Nat → Int32} (hl : rng l) (hn : 0 < n) (hn2 : n ≤ 24) (w : Int32) : rng (wrow n l w) := by
  intro i hi
  unfold wrow
  split
  · exact wlf_rng hl hn hn2 w i
  · decide
theorem rng_0 : rng (fun _ => 0) := fun _ _ => (by decide : -20 ≤ (0 : Int32).toInt ∧ (0 : Int32).toInt ≤ 20)
theorem Inv_start : Inv (fun _ => 1) (fun _ _ => 0) (six 0 1 0 0 0 0) (fun _ => 0) (fun _ => -1) :=
  ⟨fun _ _ => (by decide : 0 < 1 ∧ 1 ≤ 24), fun _ _ => rng_0, ⟨0, by decide, rfl⟩, (by decide : 1 ≤ (1 : Int32).toInt ∧ (1 : Int32).toInt ≤ 4), (by decide : 0 ≤ (0 : Int32).toInt ∧ (0 : Int32).toInt ≤ 1000), (by decide : 0 ≤ (0 : Int32).toInt ∧ (0 : Int32).toInt ≤ 100), fun _ _ => (by decide : -24 ≤ (0 : Int32).toInt ∧ (0 : Int32).toInt ≤ 24), fun _ _ => (by decide : -1 ≤ (-1 : Int32).toInt ∧ (-1 : Int32).toInt ≤ 2000), (by decide : 0 ≤ (0 : Int32).toInt ∧ (0 : Int32).toInt < 24), (by decide : 0 ≤ (0 : Int32).toInt ∧ (0 : Int32).toInt < 24)⟩
end INV
