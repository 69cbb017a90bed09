/-! A ROSETTE IS WRITTEN: cut, flatten, become -/
theorem zup_zup {f : ZH} {a : Nat} {c c' : ZC} : zup (zup f a c) a c' = zup f a c' := by
  funext j
  unfold zup
  by_cases h : j = a
  · rw [if_pos h, if_pos h]
  · rw [if_neg h, if_neg h, if_neg h]
theorem zup_id {f : ZH} {a : Nat} {c : ZC} (h : f a = some c) : zup f a c = f := by
  funext j
  unfold zup
  by_cases hj : j = a
  · rw [if_pos hj, hj, h]
  · rw [if_neg hj]
theorem upd_s {g : Nat → Int32} {k : Nat} {x : Int32} : upd g k x k = x := pk_us
theorem upd_n {g : Nat → Int32} {k j : Nat} {x : Int32} (h : j ≠ k) : upd g k x j = g j := pk_un h
theorem isArr.keep {f f' : ZH} {a n : Nat} {l : Nat → Int32} (h : isArr f a n l) (e : f' a = f a) : isArr f' a n l := by
  obtain ⟨g, h1, h2⟩ := h
  exact ⟨g, by rw [e]; exact h1, h2⟩
theorem isRos.keep {f f' : ZH} {k n : Nat} {l : Nat → Int32} (h : isRos f k n l) (e0 : f' k = f k) (e1 : f' (k + 1) = f (k + 1)) (e2 : f' (k + 2) = f (k + 2)) (e3 : f' (k + 3) = f (k + 3)) (e4 : f' (k + 4) = f (k + 4)) : isRos f' k n l := by
  obtain ⟨h1, h2, h3, h4, g, h5⟩ := h
  exact ⟨by rw [e0]; exact h1, by rw [e1]; exact h2, h3.keep e2, by rw [e3]; exact h4, g, by rw [e4]; exact h5⟩
theorem isRos.fresh {f : ZH} {k k2 n : Nat} {l : Nat → Int32} {g : Nat → Int32} (h : isRos f k2 n l) (hk : k2 = k ∨ k2 + 5 ≤ k ∨ k + 5 ≤ k2) : isRos (zup f (k + 4) (zA 24 g)) k2 n l := by
  obtain ⟨h1, h2, h3, h4, g2, h5⟩ := h
  refine ⟨(zup_ne (by omega)).trans h1, (zup_ne (by omega)).trans h2, h3.keep (zup_ne (by omega)), (zup_ne (by omega)).trans h4, ?_⟩
  by_cases hk2 : k2 = k
  · subst hk2
    exact ⟨g, zup_eq⟩
  · exact ⟨g2, (zup_ne (by omega)).trans h5⟩
theorem s_X1_cut {k n q : Nat} {l : Nat → Int32} {v : Int32} {sz : Nat} {f : ZH} {P : Option ZVal → Nat → ZH → Prop} (hR : isRos f k n l) (hq : q < 24) (h : ∀ f', isRos f' k n (upd l q v) → (∀ j, j ≠ k + 2 → f' j = f j) → P none sz f') : Zv none 9 0 [some (zr k), some (zi (nI q)), some (zi v)] [] sz f 0 0 P := by
  obtain ⟨h1, h2, ⟨g, h3, hg⟩, h4, g2, h5⟩ := hR
  refine rX1_cut_0 ?_
  refine rX1_cut_1 (by repeat first | assumption | exact zup_eq | refine (zup_ne (by first | decide | omega)).trans ?_) ?_
  refine rX1_cut_4 ?_
  refine rX1_cut_5 ?_
  refine rX1_cut_6 (by repeat first | assumption | exact zup_eq | refine (zup_ne (by first | decide | omega)).trans ?_) ?_
  refine s_X2_put (by repeat first | assumption | exact zup_eq | refine (zup_ne (by first | decide | omega)).trans ?_) (by repeat first | assumption | exact zup_eq | refine (zup_ne (by first | decide | omega)).trans ?_) (by first | assumption | decide | omega) (by first | assumption | decide | omega) ?_
  refine rX1_cut_9 ?_
  refine h _ ⟨(zup_ne (by omega)).trans h1, (zup_ne (by omega)).trans h2, ⟨_, zup_eq, fun i hi => ?_⟩, (zup_ne (by omega)).trans h4, g2, (zup_ne (by omega)).trans h5⟩ fun j hj => zup_ne hj
  by_cases hiq : i = q
  · rw [hiq, upd_s, upd_s]
  · rw [upd_n hiq, upd_n hiq, hg i hi]
theorem l_X1_flatten {k : Nat} {v : ZVal} {x : Int32} {sz : Nat} {P : Option ZVal → Nat → ZH → Prop} : ∀ (d i : Nat) (f : ZH) (g : Nat → Int32), i + d = 24 → f k = some (zO 1 [zr (k + 1), zr (k + 3), v]) → f (k + 1) = some (zO 2 [zr (k + 2)]) → f (k + 2) = some (zA 24 g) → (∀ q, q < i → g q = 0) → (∀ g', (∀ q, q < 24 → g' q = 0) → P none sz (zup f (k + 2) (zA 24 g'))) → Zv none 8 7 [some (zr k), some (zi x), some (zi (nI i))] [] sz f 0 0 P := by
  intro d
  induction d with
  | zero =>
    intro i f g hi h1 h2 h3 hg h
    refine rX1_flatten_7 ?_
    refine rX1_flatten_8 ?_
    refine rX1_flatten_10 (fun _ => ?_) (fun hbb => absurd (by rw [show i = 24 by omega]; decide) hbb)
    refine rX1_flatten_28 ?_
    have := h g (fun q hq => hg q (by omega))
    rw [zup_id h3] at this
    exact this
  | succ d ih =>
    intro i f g hi h1 h2 h3 hg h
    refine rX1_flatten_7 ?_
    refine rX1_flatten_8 ?_
    refine rX1_flatten_10 (fun hbb => absurd hbb (nI_ge (b := 24) (by omega) (by decide))) (fun _ => ?_)
    refine rX1_flatten_13 ?_
    refine rX1_flatten_14 (by repeat first | assumption | exact zup_eq | refine (zup_ne (by first | decide | omega)).trans ?_) ?_
    refine rX1_flatten_17 ?_
    refine rX1_flatten_18 ?_
    refine rX1_flatten_19 (by repeat first | assumption | exact zup_eq | refine (zup_ne (by first | decide | omega)).trans ?_) ?_
    refine s_X2_put (by repeat first | assumption | exact zup_eq | refine (zup_ne (by first | decide | omega)).trans ?_) (by repeat first | assumption | exact zup_eq | refine (zup_ne (by first | decide | omega)).trans ?_) (by first | assumption | decide | omega) (by first | assumption | decide | omega) ?_
    refine rX1_flatten_22 ?_
    refine rX1_flatten_25 ?_
    rw [nI_1]
    refine ih (i + 1) _ (upd g i 0) (by omega) ((zup_ne (by omega)).trans h1) ((zup_ne (by omega)).trans h2) zup_eq (fun q hq => ?_) (fun g' hg' => ?_)
    · by_cases hqi : q = i
      · rw [hqi, upd_s]
      · rw [upd_n hqi, hg q (by omega)]
    · rw [zup_zup]
      exact h g' hg'
theorem s_X1_flatten {k n m : Nat} {l : Nat → Int32} {sz : Nat} {f : ZH} {P : Option ZVal → Nat → ZH → Prop} (hR : isRos f k n l) (h : ∀ f', isRos f' k m (fun _ => 0) → (∀ j, j ≠ k → j ≠ k + 2 → f' j = f j) → P none sz f') : Zv none 8 0 [some (zr k), some (zi (nI m)), none] [] sz f 0 0 P := by
  obtain ⟨h1, h2, ⟨g, h3, hg⟩, h4, g2, h5⟩ := hR
  refine rX1_flatten_0 ?_
  refine rX1_flatten_1 ?_
  refine rX1_flatten_2 (by repeat first | assumption | exact zup_eq | refine (zup_ne (by first | decide | omega)).trans ?_) ?_
  refine rX1_flatten_5 ?_
  refine rX1_flatten_6 ?_
  refine l_X1_flatten 24 0 _ g rfl zup_eq ((zup_ne (by omega)).trans h2) ((zup_ne (by omega)).trans h3) (fun q hq => absurd hq (by omega)) (fun g' hg' => ?_)
  refine h _ ⟨(zup_ne (by omega)).trans zup_eq, (zup_ne (by omega)).trans ((zup_ne (by omega)).trans h2), ⟨g', zup_eq, hg'⟩, (zup_ne (by omega)).trans ((zup_ne (by omega)).trans h4), g2, (zup_ne (by omega)).trans ((zup_ne (by omega)).trans h5)⟩ fun j hj hj2 => (zup_ne hj2).trans (zup_ne hj)
theorem l_X1_fill {k k2 n : Nat} {l : Nat → Int32} {w : Int32} {v : ZVal} {sz : Nat} {P : Option ZVal → Nat → ZH → Prop} (hn : 0 < n) (hn2 : n ≤ 24) (hk : k2 = k ∨ k2 + 5 ≤ k ∨ k + 5 ≤ k2) : ∀ (d i : Nat) (f : ZH) (g : Nat → Int32), i + d = n → isRos f k2 n l → f k = some (zO 1 [zr (k + 1), zr (k + 3), v]) → f (k + 3) = some (zO 2 [zr (k + 4)]) → f (k + 4) = some (zA 24 g) → (∀ q, q < i → g q = wlf n l w q) → (∀ g', (∀ q, q < n → g' q = wlf n l w q) → Zv none 16 41 [some (zr k), some (zr k2), some (zi w), some (zi (nI n)), some (zi (nI n))] [] sz (zup f (k + 4) (zA 24 g')) 0 0 P) → Zv none 16 13 [some (zr k), some (zr k2), some (zi w), some (zi (nI n)), some (zi (nI i))] [] sz f 0 0 P := by
  intro d
  induction d with
  | zero =>
    intro i f g hi hR h1 h4 h5 hg h
    obtain rfl : i = n := by omega
    refine rX1_become_13 ?_
    refine rX1_become_15 ?_
    refine rX1_become_16 (fun _ => ?_) (fun hbb => absurd (nI_le (by omega) (by omega)) hbb)
    have := h g hg
    rw [zup_id h5] at this
    exact this
  | succ d ih =>
    intro i f g hi hR h1 h4 h5 hg h
    have hR1 := hR.1
    refine rX1_become_13 ?_
    refine rX1_become_15 ?_
    refine rX1_become_16 (fun hbb => absurd hbb (nI_ge (by omega) (by omega))) (fun _ => ?_)
    refine rX1_become_19 ?_
    refine rX1_become_20 (by repeat first | assumption | exact zup_eq | refine (zup_ne (by first | decide | omega)).trans ?_) ?_
    refine rX1_become_23 ?_
    first | refine rX1_become_25 ?_ | refine rX1_become_25n ?_
    refine rX1_become_26 ?_
    refine rX1_become_27 ?_
    refine rX1_become_29 (by repeat first | assumption | exact zup_eq | refine (zup_ne (by first | decide | omega)).trans ?_) ?_
    refine s_X1_liftOnWay (by assumption) (by assumption) (by assumption) ?_
    refine rX1_become_32 (by repeat first | assumption | exact zup_eq | refine (zup_ne (by first | decide | omega)).trans ?_) ?_
    refine s_X2_put (by repeat first | assumption | exact zup_eq | refine (zup_ne (by first | decide | omega)).trans ?_) (by repeat first | assumption | exact zup_eq | refine (zup_ne (by first | decide | omega)).trans ?_) (by first | assumption | decide | omega) (by first | assumption | decide | omega) ?_
    refine rX1_become_35 ?_
    refine rX1_become_38 ?_
    rw [nI_1]
    refine ih (i + 1) _ _ (by omega) (hR.fresh hk) ((zup_ne (by omega)).trans h1) ((zup_ne (by omega)).trans h4) zup_eq (fun q hq => ?_) (fun g' hg' => ?_)
    · by_cases hqi : q = i
      · rw [hqi, upd_s]; rfl
      · rw [upd_n hqi, hg q (by omega)]
    · rw [zup_zup]
      exact h g' hg'
theorem l_X1_back {k n : Nat} {g2 : Nat → Int32} {v : ZVal} {l1 l2 : Option ZVal} {sz : Nat} {P : Option ZVal → Nat → ZH → Prop} (hn2 : n ≤ 24) : ∀ (d i : Nat) (f : ZH) (g : Nat → Int32), i + d = n → f k = some (zO 1 [zr (k + 1), zr (k + 3), v]) → f (k + 1) = some (zO 2 [zr (k + 2)]) → f (k + 2) = some (zA 24 g) → f (k + 3) = some (zO 2 [zr (k + 4)]) → f (k + 4) = some (zA 24 g2) → (∀ q, q < i → g q = g2 q) → (∀ q, n ≤ q → q < 24 → g q = 0) → (∀ g', (∀ q, q < n → g' q = g2 q) → (∀ q, n ≤ q → q < 24 → g' q = 0) → P none sz (zup f (k + 2) (zA 24 g'))) → Zv none 16 49 [some (zr k), l1, l2, some (zi (nI n)), some (zi (nI i))] [] sz f 0 0 P := by
  intro d
  induction d with
  | zero =>
    intro i f g hi h1 h2 h3 h4 h5 hg hz h
    refine rX1_become_49 ?_
    refine rX1_become_51 ?_
    refine rX1_become_52 (fun _ => ?_) (fun hbb => absurd (nI_le (by omega) (by omega)) hbb)
    refine rX1_become_79 ?_
    have := h g (fun q hq => hg q (by omega)) hz
    rw [zup_id h3] at this
    exact this
  | succ d ih =>
    intro i f g hi h1 h2 h3 h4 h5 hg hz h
    refine rX1_become_49 ?_
    refine rX1_become_51 ?_
    refine rX1_become_52 (fun hbb => absurd hbb (nI_ge (by omega) (by omega))) (fun _ => ?_)
    refine rX1_become_55 ?_
    refine rX1_become_56 (by repeat first | assumption | exact zup_eq | refine (zup_ne (by first | decide | omega)).trans ?_) ?_
    refine rX1_become_59 ?_
    refine rX1_become_61 ?_
    refine rX1_become_62 (by repeat first | assumption | exact zup_eq | refine (zup_ne (by first | decide | omega)).trans ?_) ?_
    refine rX1_become_65 ?_
    refine rX1_become_67 (by repeat first | assumption | exact zup_eq | refine (zup_ne (by first | decide | omega)).trans ?_) ?_
    refine s_X2_get (by repeat first | assumption | exact zup_eq | refine (zup_ne (by first | decide | omega)).trans ?_) (by repeat first | assumption | exact zup_eq | refine (zup_ne (by first | decide | omega)).trans ?_) (by first | assumption | decide | omega) (by first | assumption | decide | omega) ?_
    refine rX1_become_70 (by repeat first | assumption | exact zup_eq | refine (zup_ne (by first | decide | omega)).trans ?_) ?_
    refine s_X2_put (by repeat first | assumption | exact zup_eq | refine (zup_ne (by first | decide | omega)).trans ?_) (by repeat first | assumption | exact zup_eq | refine (zup_ne (by first | decide | omega)).trans ?_) (by first | assumption | decide | omega) (by first | assumption | decide | omega) ?_
    refine rX1_become_73 ?_
    refine rX1_become_76 ?_
    rw [nI_1]
    refine ih (i + 1) _ _ (by omega) ((zup_ne (by omega)).trans h1) ((zup_ne (by omega)).trans h2) zup_eq ((zup_ne (by omega)).trans h4) ((zup_ne (by omega)).trans h5) (fun q hq => ?_) (fun q h6 h7 => ?_) (fun g' hg' hz' => ?_)
    · by_cases hqi : q = i
      · rw [hqi, upd_s]
      · rw [upd_n hqi, hg q (by omega)]
    · rw [upd_n (by omega), hz q h6 h7]
    · rw [zup_zup]
      exact h g' hg' hz'
/-- a rosette on the way w; behind its last lift nothing stands -/
def wrow (n : Nat) (l : Nat → Int32) (w : Int32) (i : Nat) : Int32 := if i < n then wlf n l w i else 0
theorem s_X1_become {k k2 n m : Nat} {l l0 : Nat → Int32} {w : Int32} {sz : Nat} {f : ZH} {P : Option ZVal → Nat → ZH → Prop} (hn : 0 < n) (hn2 : n ≤ 24) (hk : k2 = k ∨ k2 + 5 ≤ k ∨ k + 5 ≤ k2) (hR : isRos f k m l0) (hR2 : isRos f k2 n l) (h : ∀ f', isRos f' k n (wrow n l w) → (∀ j, j ≠ k → j ≠ k + 2 → j ≠ k + 4 → f' j = f j) → P none sz f') : Zv none 16 0 [some (zr k), some (zr k2), some (zi w), none, none] [] sz f 0 0 P := by
  obtain ⟨h1, h2, ⟨g, h3, hg⟩, h4, g2, h5⟩ := id hR
  have hR21 := hR2.1
  first | refine rX1_become_0 ?_ | refine rX1_become_0n ?_
  first | refine rX1_become_1 ?_ | refine rX1_become_1n ?_
  first | refine rX1_become_5 ?_ | refine rX1_become_5n ?_
  refine rX1_become_6 (by repeat first | assumption | exact zup_eq | refine (zup_ne (by first | decide | omega)).trans ?_) ?_
  refine rX1_become_9 ?_
  refine rX1_become_10 ?_
  refine rX1_become_11 ?_
  refine l_X1_fill hn hn2 hk n 0 f g2 (by omega) hR2 h1 h4 h5 (fun q hq => absurd hq (by omega)) (fun g' hg' => ?_)
  refine rX1_become_41 ?_
  refine rX1_become_42 ?_
  have hR3 : isRos (zup f (k + 4) (zA 24 g')) k m l0 := hR.fresh (Or.inl rfl)
  have hR31 := hR3.1
  refine rX1_become_43 (by repeat first | assumption | exact zup_eq | refine (zup_ne (by first | decide | omega)).trans ?_) ?_
  refine s_X1_flatten hR3 (fun f1 hR4 hf1 => ?_)
  obtain ⟨a1, a2, ⟨g4, a3, ha⟩, a4, -⟩ := hR4
  have a5 : f1 (k + 4) = some (zA 24 g') := (hf1 _ (by omega) (by omega)).trans zup_eq
  refine rX1_become_46 ?_
  refine rX1_become_47 ?_
  refine l_X1_back hn2 n 0 f1 g4 (by omega) a1 a2 a3 a4 a5 (fun q hq => absurd hq (by omega)) (fun q _ h7 => ha q h7) (fun g5 hg5 hz5 => ?_)
  refine h _ ⟨(zup_ne (by omega)).trans a1, (zup_ne (by omega)).trans a2, ⟨g5, zup_eq, fun i hi => ?_⟩, (zup_ne (by omega)).trans a4, g', (zup_ne (by omega)).trans a5⟩ (fun j j1 j2 j3 => (zup_ne j2).trans ((hf1 j j1 j2).trans (zup_ne j3)))
  unfold wrow
  by_cases hin : i < n
  · rw [if_pos hin, hg5 i hin, hg' i hin]
  · rw [if_neg hin, hz5 i (by omega) hi]
