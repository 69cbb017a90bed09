/-! BOTH SIDES ANSWER THE SAME: the makers. First the grounds of a ring -/
def vb (x : Int32) : Prop := -80 ≤ x.toInt ∧ x.toInt ≤ 2080
theorem vb_ne {x : Int32} (h : vb x) : ¬ x = -100000 ∧ ¬ x = 99999 ∧ ¬ x = 99998 := by
  refine ⟨fun z => ?_, fun z => ?_, fun z => ?_⟩
  · rw [z] at h; exact absurd h.1 (by decide)
  · rw [z] at h; exact absurd h.2 (by decide)
  · rw [z] at h; exact absurd h.2 (by decide)
theorem grdL_none {hr : Nat → Option Int32} : ∀ (d t : Nat) (y : Int32), (∀ i, t ≤ i → i < t + d → hr i = none) → grdL hr d t y = y
  | 0, _, _, _ => rfl
  | d + 1, t, y, h => by
    rw [grdL, h t (Nat.le_refl _) (by omega)]
    exact grdL_none d (t + 1) y (fun i h1 h2 => h i (by omega) (by omega))
theorem ground_same {h1 h2 : Nat → Option Int32} : ∀ (d t : Nat) (x y : Int32), (∀ i, t ≤ i → i < t + d → h1 i = h2 i ∧ ∀ v, h1 i = some v → vb v) → ((x = -100000 ∧ y = 99999) ∨ (x = y ∧ vb x)) → ((x = -100000 ∧ ∀ i, t ≤ i → i < t + d → h1 i = none) ∨ (rstL h1 d t x = -100000 ∧ grdL h2 d t y = 99998) ∨ (rstL h1 d t x = grdL h2 d t y ∧ vb (grdL h2 d t y)))
  | 0, t, x, y, _, hxy => by
    rcases hxy with ⟨a, b⟩ | ⟨a, b⟩
    · exact Or.inl ⟨a, fun i h1 h2 => absurd h2 (by omega)⟩
    · refine Or.inr (Or.inr ⟨a, ?_⟩)
      rw [grdL, ← a]
      exact b
  | d + 1, t, x, y, h, hxy => by
    obtain ⟨e, hv⟩ := h t (Nat.le_refl _) (by omega)
    have ih := fun x y => ground_same (h1 := h1) (h2 := h2) d (t + 1) x y (fun i a b => h i (by omega) (by omega))
    rw [rstL, grdL, ← e]
    cases hz : h1 t with
    | none =>
      rcases ih x y hxy with ⟨a, b⟩ | b | b
      · refine Or.inl ⟨a, fun i c1 c2 => ?_⟩
        by_cases hit : i = t
        · rw [hit]; exact hz
        · exact b i (by omega) (by omega)
      · exact Or.inr (Or.inl b)
      · exact Or.inr (Or.inr b)
    | some v =>
      have hvv := hv v hz
      show _ ∨ ((if ¬ x = -100000 ∧ ¬ x = v then (-100000 : Int32) else rstL h1 d (t + 1) v) = -100000 ∧ (if ¬ y = 99999 ∧ ¬ v = y then (99998 : Int32) else grdL h2 d (t + 1) v) = 99998) ∨ ((if ¬ x = -100000 ∧ ¬ x = v then (-100000 : Int32) else rstL h1 d (t + 1) v) = (if ¬ y = 99999 ∧ ¬ v = y then (99998 : Int32) else grdL h2 d (t + 1) v) ∧ vb (if ¬ y = 99999 ∧ ¬ v = y then (99998 : Int32) else grdL h2 d (t + 1) v))
      have go : (¬ x = -100000 ∧ ¬ x = v) ∧ (¬ y = 99999 ∧ ¬ v = y) ∨ ¬ (¬ x = -100000 ∧ ¬ x = v) ∧ ¬ (¬ y = 99999 ∧ ¬ v = y) := by
        rcases hxy with ⟨a, b⟩ | ⟨a, b⟩
        · exact Or.inr ⟨fun z => z.1 a, fun z => z.1 b⟩
        · obtain ⟨n1, -, -⟩ := vb_ne b
          obtain ⟨-, n2, -⟩ := vb_ne (a ▸ b)
          by_cases hxv : x = v
          · exact Or.inr ⟨fun z => z.2 hxv, fun z => z.2 (hxv.symm.trans a)⟩
          · exact Or.inl ⟨⟨n1, hxv⟩, n2, fun z => hxv (a.trans z.symm)⟩
      rcases go with ⟨c1, c2⟩ | ⟨c1, c2⟩
      · rw [if_pos c1, if_pos c2]
        exact Or.inr (Or.inl ⟨rfl, rfl⟩)
      · rw [if_neg c1, if_neg c2]
        rcases ih v v (Or.inr ⟨rfl, hvv⟩) with ⟨a, -⟩ | b | b
        · exact absurd a (vb_ne hvv).1
        · exact Or.inr (Or.inl b)
        · exact Or.inr (Or.inr b)
/-! the period: the lifts come again -/
theorem fm_mod {m n : Nat} (hm : m < 2 ^ 31) : fm (nI m) n = m % n := by
  unfold fm
  rw [nI_toInt hm, ← Int.natCast_emod, Int.toNat_natCast]
theorem zper_stays {n : Nat} {l : Nat → Int32} : ∀ d t, zper n l d t = n ∨ (n % zper n l d t = 0 ∧ stays n l (zper n l d t))
  | 0, t => Or.inl rfl
  | d + 1, t => by
    rw [zper]
    by_cases h : n % t = 0 ∧ stays n l t
    · rw [if_pos h]; exact Or.inr h
    · rw [if_neg h]; exact zper_stays d (t + 1)
theorem per_stays {n : Nat} {l : Nat → Int32} (hn : 0 < n) (hn2 : n ≤ 24) : n % per n l = 0 ∧ ∀ j, j < n → l ((j + per n l) % n) = l j := by
  have hp := per_pos (l := l) hn
  rcases zper_stays (n := n) (l := l) (n - 1) 1 with h | ⟨h1, h2⟩
  · have h : per n l = n := h
    rw [h]
    refine ⟨Nat.mod_self n, fun j hj => ?_⟩
    rw [Nat.add_mod_right, Nat.mod_eq_of_lt hj]
  · refine ⟨h1, fun j hj => ?_⟩
    have h3 := h2 j (Nat.zero_le _) hj
    rw [nI_add, lft, lft, fm_mod (by unfold per at hp; omega), fm_mod (by omega), Nat.mod_eq_of_lt hj] at h3
    exact h3
theorem per_mul {n pe : Nat} {l : Nat → Int32} (hn : 0 < n) (h : ∀ j, j < n → l ((j + pe) % n) = l j) (j : Nat) : ∀ m, l ((j + m * pe) % n) = l (j % n)
  | 0 => by rw [Nat.zero_mul, Nat.add_zero]
  | m + 1 => by
    have ih := per_mul hn h j m
    have h1 := h ((j + m * pe) % n) (Nat.mod_lt _ hn)
    rw [Nat.mod_add_mod] at h1
    rw [Nat.succ_mul, ← Nat.add_assoc, h1, ih]
theorem per_cong {n pe : Nat} {l : Nat → Int32} (hn : 0 < n) (h : ∀ j, j < n → l ((j + pe) % n) = l j) {x y : Nat} (hxy : x % pe = y % pe) : l (x % n) = l (y % n) := by
  have e := fun z => per_mul hn h (z % pe) (z / pe)
  have hx := e x
  have hy := e y
  rw [Nat.mul_comm, Nat.mod_add_div] at hx hy
  rw [hx, hy, hxy]
theorem hr_same {p : Nat → Int32} {n : Nat} {l : Nat → Int32} {r : Int32} {ga k ph mv t : Nat} (hp : pOK p) (hn : 0 < n) (hn2 : n ≤ 24) (hl : rng l) (hga : ga ≤ 4) (hk : k < 12) (hph : ph < per n l) (hmv : mv < per n l) (ht : t < 48) : hrr p n l (nI ga) k (nI ((ph + k * mv) % per n l)) t = hrM p n l (six r (nI ga) 0 0 (nI ph) (nI mv)) k t ∧ ∀ v, hrr p n l (nI ga) k (nI ((ph + k * mv) % per n l)) t = some v → vb v := by
  have hpp := per_pos (l := l) hn
  obtain ⟨-, hS⟩ := per_stays (l := l) hn hn2
  generalize per n l = pe at *
  have hkm : k * mv ≤ 11 * 24 := Nat.mul_le_mul (by omega) (by omega)
  have hmod := Nat.mod_lt (ph + k * mv) hpp.1
  have e : lft n l (nI ((ph + k * mv) % pe) + nI t) = lft n l (nI ph + nI k * nI mv + (0 + nI t)) := by
    rw [Int32.zero_add, pk_mul, nI_add, nI_add, nI_add, lft, lft, fm_mod (by omega), fm_mod (by omega)]
    exact per_cong hn hS (by rw [Nat.mod_add_mod])
  have hpk := hp (k * 48 + t) (by omega)
  unfold hrr hrM
  rw [e]
  refine ⟨?_, fun v hv => ?_⟩
  · by_cases h : p (k * 48 + t) = -1
    · rw [if_pos h, if_pos ((neg_m1 hpk.1).mpr h)]
    · rw [if_neg h, if_neg (fun z => h ((neg_m1 hpk.1).mp z))]
      rfl
  · by_cases h : p (k * 48 + t) = -1
    · rw [if_pos h] at hv; cases hv
    · rw [if_neg h] at hv
      cases hv
      have h0 : 0 ≤ (p (k * 48 + t)).toInt := by
        have h1 : ¬ p (k * 48 + t) < 0 := fun z => h ((neg_m1 hpk.1).mp z)
        exact Int32.le_iff_toInt_le.mp (Int32.not_lt.mp h1)
      unfold lft vb
      have hf := fm_lt (x := nI ph + nI k * nI mv + (0 + nI t)) hn
      generalize fm (nI ph + nI k * nI mv + (0 + nI t)) n = j at hf
      have hlj := hl j (by omega)
      have hG : (nI ga).toInt = ga := nI_toInt (by omega)
      have a1 := mul_bd (a := (nI ga).toInt) (b := (l j).toInt) (A := 4) (B := 20) (by omega) (by omega) (by omega) (by omega) (by omega)
      have e1 : (nI ga * l j).toInt = (nI ga).toInt * (l j).toInt := Jvm.Kit.i32_mul (by omega) (by omega)
      have e2 : (p (k * 48 + t) - nI ga * l j).toInt = (p (k * 48 + t)).toInt - (nI ga * l j).toInt := Jvm.Kit.i32_sub (by omega) (by omega)
      omega
/-- the ground of ring k, on both sides -/
theorem rst_grd {p : Nat → Int32} {n : Nat} {l : Nat → Int32} {r : Int32} {ga k ph mv : Nat} (hp : pOK p) (hn : 0 < n) (hn2 : n ≤ 24) (hl : rng l) (hga : ga ≤ 4) (hk : k < 12) (hph : ph < per n l) (hmv : mv < per n l) : (seenR p k = false → grd p n l (six r (nI ga) 0 0 (nI ph) (nI mv)) k = 99999) ∧ (seenR p k = true → (rAt (per n l) (rst p n l (nI ga)) ph mv k = -100000 ∧ grd p n l (six r (nI ga) 0 0 (nI ph) (nI mv)) k = 99998) ∨ (rAt (per n l) (rst p n l (nI ga)) ph mv k = grd p n l (six r (nI ga) 0 0 (nI ph) (nI mv)) k ∧ vb (grd p n l (six r (nI ga) 0 0 (nI ph) (nI mv)) k))) := by
  have hs := fun t ht => hr_same (r := r) (t := t) hp hn hn2 hl hga hk hph hmv ht
  refine ⟨fun h => ?_, fun h => ?_⟩
  · have h0 : ¬ 0 < cntB (seenB p k) 48 := of_decide_eq_false h
    unfold grd
    refine grdL_none 48 0 99999 (fun i _ hi => ?_)
    unfold hrM
    have h1 : p (k * 48 + i) = -1 := by
      apply Classical.byContradiction
      intro z
      exact h0 ((cntB_pos _ _).mpr ⟨i, by omega, decide_eq_true z⟩)
    rw [h1, if_pos (by decide)]
  · have h0 : 0 < cntB (seenB p k) 48 := of_decide_eq_true h
    obtain ⟨t, ht, hb⟩ := (cntB_pos _ _).mp h0
    have hb : ¬ p (k * 48 + t) = -1 := of_decide_eq_true hb
    unfold rAt rst grd
    rcases ground_same 48 0 (-100000) 99999 (fun i _ hi => hs i (by omega)) (Or.inl ⟨rfl, rfl⟩) with ⟨-, b⟩ | b | b
    · have h1 := b t (by omega) (by omega)
      unfold hrr at h1
      rw [if_neg hb] at h1
      cases h1
    · exact Or.inl b
    · exact Or.inr b
