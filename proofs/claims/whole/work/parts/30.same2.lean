/-! BOTH SIDES ANSWER THE SAME: the slip that is shown -/
theorem fm_cong {x y : Int32} {n : Nat} (h : x.toInt % (n : Int) = y.toInt % (n : Int)) : fm x n = fm y n := by
  unfold fm
  rw [h]
theorem plc_fm {n : Nat} {l o : Nat → Int32} {k t : Nat} {c : Int32} (hn : 0 < n) (hn2 : n ≤ 24) (h4 : 0 ≤ (o 4).toInt ∧ (o 4).toInt < 24) (h5 : 0 ≤ (o 5).toInt ∧ (o 5).toInt < 24) (hk : k < 12) (ht : t < 48) (hc : -24 ≤ c.toInt ∧ c.toInt ≤ 24) : plc n l o (nI k) (c + nI t) = plc n l o (nI k) (nI (fm c n) + nI t) := by
  have hf := fm_lt (x := c) hn
  have hfi := fm_int (x := c) hn
  unfold plc lft
  congr 3
  apply fm_cong
  have hK : (nI k).toInt = k := nI_toInt (by omega)
  have hT : (nI t).toInt = t := nI_toInt (by omega)
  have hF : (nI (fm c n)).toInt = (fm c n : Nat) := nI_toInt (by omega)
  generalize fm c n = m at *
  have a1 := mul_bd (a := (nI k).toInt) (b := (o 5).toInt) (A := 11) (B := 23) (by omega) (by omega) (by omega) (by omega) (by omega)
  have e1 : (nI k * o 5).toInt = (nI k).toInt * (o 5).toInt := Jvm.Kit.i32_mul (by omega) (by omega)
  have e2 : (o 4 + nI k * o 5).toInt = (o 4).toInt + (nI k * o 5).toInt := Jvm.Kit.i32_add (by omega) (by omega)
  have e3 : (c + nI t).toInt = c.toInt + (nI t).toInt := Jvm.Kit.i32_add (by omega) (by omega)
  have e4 : (nI m + nI t).toInt = (nI m).toInt + (nI t).toInt := Jvm.Kit.i32_add (by omega) (by omega)
  have e5 : (o 4 + nI k * o 5 + (c + nI t)).toInt = (o 4 + nI k * o 5).toInt + (c + nI t).toInt := Jvm.Kit.i32_add (by omega) (by omega)
  have e6 : (o 4 + nI k * o 5 + (nI m + nI t)).toInt = (o 4 + nI k * o 5).toInt + (nI m + nI t).toInt := Jvm.Kit.i32_add (by omega) (by omega)
  rw [e5, e6, e3, e4, hF, hfi]
  generalize (o 4 + nI k * o 5).toInt = A
  generalize (nI t).toInt = T
  rw [show A + (c.toInt + T) = (A + T) + c.toInt by omega, show A + (c.toInt % (n : Int) + T) = (A + T) + c.toInt % (n : Int) by omega, Int.add_emod_emod]
theorem fcl_ext {b b' : Int32 → Bool} : ∀ (d s : Nat), s + d ≤ 25 → (∀ c : Int32, -24 ≤ c.toInt ∧ c.toInt ≤ 24 → b c = b' c) → fcl b d s = fcl b' d s
  | 0, _, _, _ => rfl
  | d + 1, s, hs, h => by
    have hS : (nI s).toInt = s := nI_toInt (by omega)
    have hN : (-nI s).toInt = -(s : Int) := by
      rw [← Int32.zero_sub, Jvm.Kit.i32_sub (by rw [hS, show (0 : Int32).toInt = 0 from rfl]; omega) (by rw [hS, show (0 : Int32).toInt = 0 from rfl]; omega), hS, show (0 : Int32).toInt = 0 from rfl]
      omega
    rw [fcl, fcl, h (nI s) (by omega), h (-nI s) (by omega), fcl_ext d (s + 1) (by omega) h]
theorem fcl_none {b : Int32 → Bool} : ∀ (d s : Nat), s + d ≤ 25 → (∀ c : Int32, b c = false) → fcl b d s = none
  | 0, _, _, _ => rfl
  | d + 1, s, hs, h => by
    rw [fcl, h, h, fcl_none d (s + 1) (by omega) h, if_neg Bool.false_ne_true, if_neg (fun z => Bool.false_ne_true z.2)]
theorem shw_ext {b b' : Nat → Int32 → Bool} : ∀ (d r : Nat), (∀ i, r ≤ i → i < r + d → fcl (b i) 24 1 = fcl (b' i) 24 1) → shw b d r = shw b' d r
  | 0, _, _ => rfl
  | d + 1, r, h => by rw [shw, shw, h r (Nat.le_refl _) (by omega), shw_ext d (r + 1) (fun i h1 h2 => h i (by omega) (by omega))]
theorem shw_none {b : Nat → Int32 → Bool} : ∀ (d r : Nat), (∀ i, r ≤ i → i < r + d → fcl (b i) 24 1 = none) → shw b d r = none
  | 0, _, _ => rfl
  | d + 1, r, h => by rw [shw, h r (Nat.le_refl _) (by omega), shw_none d (r + 1) (fun i h1 h2 => h i (by omega) (by omega))]
theorem shw_cut {b : Nat → Int32 → Bool} : ∀ (d e r : Nat), (∀ i, r + d ≤ i → i < r + d + e → fcl (b i) 24 1 = none) → shw b (d + e) r = shw b d r
  | 0, e, r, h => by
    rw [Nat.zero_add]
    exact shw_none e r (fun i h1 h2 => h i h1 (by omega))
  | d + 1, e, r, h => by
    rw [show d + 1 + e = (d + e) + 1 by omega, shw, shw, shw_cut d e (r + 1) (fun i h1 h2 => h i (by omega) (by omega))]
theorem thT_none {b : Nat → Bool} : ∀ (d t : Nat), thT b d t = none ↔ ∀ i, t ≤ i → i < t + d → b i = false
  | 0, t => ⟨fun _ i h1 h2 => absurd h2 (by omega), fun _ => rfl⟩
  | d + 1, t => by
    rw [thT]
    cases hb : b t with
    | true =>
      rw [if_pos rfl]
      exact ⟨(fun z => by cases z), fun z => absurd (z t (Nat.le_refl _) (by omega)) (by rw [hb]; exact fun z => by cases z)⟩
    | false =>
      rw [if_neg Bool.false_ne_true, thT_none d (t + 1)]
      refine ⟨fun h i h1 h2 => ?_, fun h i h1 h2 => h i (by omega) (by omega)⟩
      by_cases hit : i = t
      · rw [hit]; exact hb
      · exact h i (by omega) (by omega)
theorem thT_some {b : Nat → Bool} : ∀ (d t F : Nat), thT b d t = some F → t ≤ F ∧ F < t + d ∧ b F = true ∧ ∀ i, t ≤ i → i < F → b i = false
  | 0, t, F, h => by cases h
  | d + 1, t, F, h => by
    rw [thT] at h
    by_cases hb : b t = true
    · rw [if_pos hb] at h
      cases h
      exact ⟨Nat.le_refl _, by omega, hb, fun i h1 h2 => absurd h2 (by omega)⟩
    · rw [if_neg hb] at h
      obtain ⟨h1, h2, h3, h4⟩ := thT_some d (t + 1) F h
      refine ⟨by omega, by omega, h3, fun i h5 h6 => ?_⟩
      by_cases hit : i = t
      · rw [hit]; exact Bool.eq_false_iff.mpr hb
      · exact h4 i (by omega) h6
theorem fitc_fm {n : Nat} {l o p : Nat → Int32} {k : Nat} {c : Int32} (hn : 0 < n) (hn2 : n ≤ 24) (h4 : 0 ≤ (o 4).toInt ∧ (o 4).toInt < 24) (h5 : 0 ≤ (o 5).toInt ∧ (o 5).toInt < 24) (hk : k < 12) (hc : -24 ≤ c.toInt ∧ c.toInt ≤ 24) : fitc n l o p k c ↔ fitc n l o p k (nI (fm c n)) := by
  unfold fitc
  refine ⟨fun h t ht => ?_, fun h t ht => ?_⟩
  · rw [← plc_fm hn hn2 h4 h5 hk ht hc]; exact h t ht
  · rw [plc_fm hn hn2 h4 h5 hk ht hc]; exact h t ht
theorem made_iff {n : Nat} {l o p : Nat → Int32} {r : Nat} {c : Int32} (hp : pOK p) (hr : r < 2 ^ 31) : madeP n l o p (nI r) c ↔ ∀ k, k < 12 → fitc n l o p k (if k < r then 0 else c) := by
  unfold madeP fitc
  have e : ∀ k, k < 12 → (if nI k < nI r then (0 : Int32) else c) = (if k < r then 0 else c) := fun k hk => by
    by_cases h : k < r
    · rw [if_pos h, if_pos (nI_lt h hr)]
    · rw [if_neg h, if_neg (nI_nlt (by omega) (by omega))]
  refine ⟨fun h k hk t ht => ?_, fun h k hk t ht => ?_⟩
  · rw [← e k hk]
    exact (h k hk t ht).imp (neg_m1 (hp _ (by omega)).1).mp id
  · rw [e k hk]
    exact (h k hk t ht).imp (neg_m1 (hp _ (by omega)).1).mpr id
theorem made_0 {n : Nat} {l o p : Nat → Int32} (hp : pOK p) : madeP n l o p 0 0 ↔ fOff n l o p = none := by
  rw [show (0 : Int32) = nI 0 from rfl, made_iff hp (by decide)]
  unfold fOff
  rw [thT_none]
  refine ⟨fun h i _ hi => ?_, fun h k hk => ?_⟩
  · have h1 := h i (by omega)
    rw [if_neg (by omega)] at h1
    rw [show fitB n l o p i 0 = true from resB_t h1]
    rfl
  · have h1 := h k (by omega) (by omega)
    have h2 : fitB n l o p k 0 = true := by
      cases hz : fitB n l o p k 0 with
      | true => rfl
      | false => rw [hz] at h1; cases h1
    rw [if_neg (by omega)]
    exact resB_iff.mp h2
theorem shown_same {n : Nat} {l o p g : Nat → Int32} (hp : pOK p) (hn : 0 < n) (hn2 : n ≤ 24) (h4 : 0 ≤ (o 4).toInt ∧ (o 4).toInt < 24) (h5 : 0 ≤ (o 5).toInt ∧ (o 5).toInt < 24) (hg : ∀ k, k < 12 → g k = fbits (fitB n l o p k) n) {F : Nat} (hF : fOff n l o p = some F) : shw (fun r c => bt (band g (12 - r) r (-1)) (fm c n)) (F + 1) 0 = shw (fun r c => resB (madeP n l o p (nI r) c)) 12 0 := by
  obtain ⟨-, hF12, hFb, hFl⟩ := thT_some 12 0 F hF
  have hF0 : ¬ fitc n l o p F 0 := fun z => by
    rw [show fitB n l o p F 0 = true from resB_t z] at hFb
    cases hFb
  have hFl' : ∀ i, i < F → fitc n l o p i 0 := fun i hi => by
    have h1 := hFl i (by omega) hi
    have h2 : fitB n l o p i 0 = true := by
      cases hz : fitB n l o p i 0 with
      | true => rfl
      | false => rw [hz] at h1; cases h1
    exact resB_iff.mp h2
  rw [show 12 = (F + 1) + (11 - F) by omega, shw_cut (F + 1) (11 - F) 0 (fun i h1 h2 => ?_)]
  · refine shw_ext (F + 1) 0 (fun r _ hr => fcl_ext 24 1 (by decide) (fun c hc => ?_))
    have hf := fm_lt (x := c) hn
    have e1 : bt (band g (12 - r) r (-1)) (fm c n) = true ↔ ∀ k, r ≤ k → k < 12 → fitc n l o p k c := by
      rw [bt_band, bt_m1 _ (by omega)]
      refine ⟨fun ⟨_, h⟩ k h1 h2 => ?_, fun h => ⟨rfl, fun k h1 h2 => ?_⟩⟩
      · have h3 := h k h1 (by omega)
        rw [hg k h2, bt_fbits _ n (by omega) _ (by omega), Bool.and_eq_true] at h3
        exact (fitc_fm hn hn2 h4 h5 h2 hc).mpr (resB_iff.mp h3.2)
      · rw [hg k (by omega), bt_fbits _ n (by omega) _ (by omega), Bool.and_eq_true]
        exact ⟨decide_eq_true hf, resB_t ((fitc_fm hn hn2 h4 h5 (by omega) hc).mp (h k h1 (by omega)))⟩
    have e2 : resB (madeP n l o p (nI r) c) = true ↔ ∀ k, r ≤ k → k < 12 → fitc n l o p k c := by
      rw [resB_iff, made_iff hp (by omega)]
      refine ⟨fun h k h1 h2 => ?_, fun h k hk => ?_⟩
      · have := h k h2
        rw [if_neg (by omega)] at this
        exact this
      · by_cases hkr : k < r
        · rw [if_pos hkr]; exact hFl' k (by omega)
        · rw [if_neg hkr]; exact h k (by omega) hk
    rw [← show F + 1 + (11 - F) - r = 12 - r by omega] at e1
    exact Bool.eq_iff_iff.mpr (e1.trans e2.symm)
  · refine fcl_none 24 1 (by decide) (fun c => resB_f (fun z => hF0 ?_))
    have := (made_iff hp (by omega)).mp z F (by omega)
    rw [if_pos (by omega)] at this
    exact this
