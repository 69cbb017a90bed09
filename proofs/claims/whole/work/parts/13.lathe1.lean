/-! THE LATHE (the object at 0) AND WHAT IT HOLDS -/
def inR (x a b : Int32) : Prop := a ≤ x ∧ x ≤ b
def isSet (f : ZH) (k : Nat) (o : Nat → Int32) : Prop := f k = some (zO 4 [zi (o 0), zi (o 1), zi (o 2), zi (o 3), zi (o 4), zi (o 5)])
def isTop (f : ZH) : Prop := f 0 = some (zO 5 [zr 1, zr 2, zr 3, zr 4, zr 6, zr 9, zr 15]) ∧ ∃ g, f 1 = some (zQ 4 g) ∧ ∀ i, i < 4 → g i = some (17 + 5 * i)
def isSlip (f : ZH) (s : Nat → Int32) : Prop := f 4 = some (zO 2 [zr 5]) ∧ isArr f 5 12 s
def isFit (f : ZH) : Prop := f 15 = some (zO 2 [zr 16]) ∧ ∃ g, f 16 = some (zA 12 g)
def isSrch (f : ZH) : Prop := (∃ ms pe ba st : Int32, f 9 = some (zO 3 [zr 10, zr 11, zr 13, zi ms, zi pe, zi ba, zi st])) ∧ (∃ o, isSet f 10 o) ∧ f 11 = some (zO 2 [zr 12]) ∧ (∃ g, f 12 = some (zA 12 g)) ∧ f 13 = some (zO 2 [zr 14]) ∧ ∃ g, f 14 = some (zA 288 g)
/-- the class's part of the heap holds: sizes n, lifts l, the setting o, the slips s, the plate p -/
def CP (f : ZH) (n : Nat → Nat) (l : Nat → Nat → Int32) (o s p : Nat → Int32) : Prop := isTop f ∧ (∀ r, r < 4 → isRos f (17 + 5 * r) (n r) (l r)) ∧ isSet f 2 o ∧ (∃ o', isSet f 3 o') ∧ isSlip f s ∧ isPl f p ∧ isFit f ∧ isSrch f
theorem isTop.keep {f f' : ZH} (h : isTop f) (e0 : f' 0 = f 0) (e1 : f' 1 = f 1) : isTop f' := by
  obtain ⟨h1, g, h2, h3⟩ := h
  exact ⟨by rw [e0]; exact h1, g, by rw [e1]; exact h2, h3⟩
theorem isSet.keep {f f' : ZH} {k : Nat} {o : Nat → Int32} (h : isSet f k o) (e : f' k = f k) : isSet f' k o := by
  unfold isSet at *
  rw [e]; exact h
theorem isSlip.keep {f f' : ZH} {s : Nat → Int32} (h : isSlip f s) (e4 : f' 4 = f 4) (e5 : f' 5 = f 5) : isSlip f' s := ⟨by rw [e4]; exact h.1, h.2.keep e5⟩
theorem isFit.keep {f f' : ZH} (h : isFit f) (e9 : f' 15 = f 15) (e10 : f' 16 = f 16) : isFit f' := by
  obtain ⟨h1, g, h2⟩ := h
  exact ⟨by rw [e9]; exact h1, g, by rw [e10]; exact h2⟩
theorem isSrch.keep {f f' : ZH} (h : isSrch f) (e : ∀ j, 9 ≤ j → j ≤ 14 → f' j = f j) : isSrch f' := by
  obtain ⟨⟨ms, pe, ba, st, h1⟩, ⟨o, h2⟩, h3, ⟨g, h4⟩, h5, g2, h6⟩ := h
  exact ⟨⟨ms, pe, ba, st, by rw [e 9 (by omega) (by omega)]; exact h1⟩, ⟨o, h2.keep (e 10 (by omega) (by omega))⟩, by rw [e 11 (by omega) (by omega)]; exact h3, ⟨g, by rw [e 12 (by omega) (by omega)]; exact h4⟩, by rw [e 13 (by omega) (by omega)]; exact h5, g2, by rw [e 14 (by omega) (by omega)]; exact h6⟩
/-- the same heap but for the cells of S -/
def only (S : List Nat) (f f' : ZH) : Prop := ∀ j, j ∉ S → f' j = f j
theorem only.refl {S : List Nat} {f : ZH} : only S f f := fun _ _ => rfl
theorem only.trans {S : List Nat} {f f' f'' : ZH} (h1 : only S f f') (h2 : only S f' f'') : only S f f'' := fun j hj => (h2 j hj).trans (h1 j hj)
theorem only.mono {S S' : List Nat} {f f' : ZH} (h : only S f f') (hs : ∀ j, j ∈ S → j ∈ S') : only S' f f' := fun j hj => h j (fun q => hj (hs j q))
theorem only.at {S : List Nat} {f f' : ZH} (h : only S f f') (j : Nat) (hj : j ∉ S) : f' j = f j := h j hj
section CPS
variable {f f' : ZH} {n : Nat → Nat} {l : Nat → Nat → Int32} {o s p : Nat → Int32}
theorem CP.slips {s' : Nat → Int32} (h : CP f n l o s p) (e : only [5] f f') (h5 : isArr f' 5 12 s') : CP f' n l o s' p := by
  obtain ⟨h1, h2, h3, ⟨o', h4⟩, hs, h6, h7, h8⟩ := h
  have E : ∀ j, j ≠ 5 → f' j = f j := fun j hj => e j (by simp [hj])
  exact ⟨h1.keep (E _ (by omega)) (E _ (by omega)), fun r hr => (h2 r hr).keep (E _ (by omega)) (E _ (by omega)) (E _ (by omega)) (E _ (by omega)) (E _ (by omega)), h3.keep (E _ (by omega)), ⟨o', h4.keep (E _ (by omega))⟩, ⟨by rw [E 4 (by omega)]; exact hs.1, h5⟩, h6.keep (E _ (by omega)) (E _ (by omega)) (E _ (by omega)), h7.keep (E _ (by omega)) (E _ (by omega)), h8.keep fun j _ _ => E _ (by omega)⟩
theorem CP.plate {p' : Nat → Int32} (h : CP f n l o s p) (e : only [8] f f') (h8' : isPl f' p') : CP f' n l o s p' := by
  obtain ⟨h1, h2, h3, ⟨o', h4⟩, hs, h6, h7, h8⟩ := h
  have E : ∀ j, j ≠ 8 → f' j = f j := fun j hj => e j (by simp [hj])
  exact ⟨h1.keep (E _ (by omega)) (E _ (by omega)), fun r hr => (h2 r hr).keep (E _ (by omega)) (E _ (by omega)) (E _ (by omega)) (E _ (by omega)) (E _ (by omega)), h3.keep (E _ (by omega)), ⟨o', h4.keep (E _ (by omega))⟩, hs.keep (E _ (by omega)) (E _ (by omega)), h8', h7.keep (E _ (by omega)) (E _ (by omega)), h8.keep fun j _ _ => E _ (by omega)⟩
theorem CP.set {o2 : Nat → Int32} (h : CP f n l o s p) (e : only [2] f f') (h2' : isSet f' 2 o2) : CP f' n l o2 s p := by
  obtain ⟨h1, h2, h3, ⟨o', h4⟩, hs, h6, h7, h8⟩ := h
  have E : ∀ j, j ≠ 2 → f' j = f j := fun j hj => e j (by simp [hj])
  exact ⟨h1.keep (E _ (by omega)) (E _ (by omega)), fun r hr => (h2 r hr).keep (E _ (by omega)) (E _ (by omega)) (E _ (by omega)) (E _ (by omega)) (E _ (by omega)), h2', ⟨o', h4.keep (E _ (by omega))⟩, hs.keep (E _ (by omega)) (E _ (by omega)), h6.keep (E _ (by omega)) (E _ (by omega)) (E _ (by omega)), h7.keep (E _ (by omega)) (E _ (by omega)), h8.keep fun j _ _ => E _ (by omega)⟩
theorem CP.other {o2 : Nat → Int32} (h : CP f n l o s p) (e : only [3] f f') (h3' : isSet f' 3 o2) : CP f' n l o s p := by
  obtain ⟨h1, h2, h3, ⟨o', h4⟩, hs, h6, h7, h8⟩ := h
  have E : ∀ j, j ≠ 3 → f' j = f j := fun j hj => e j (by simp [hj])
  exact ⟨h1.keep (E _ (by omega)) (E _ (by omega)), fun r hr => (h2 r hr).keep (E _ (by omega)) (E _ (by omega)) (E _ (by omega)) (E _ (by omega)) (E _ (by omega)), h3.keep (E _ (by omega)), ⟨o2, h3'⟩, hs.keep (E _ (by omega)) (E _ (by omega)), h6.keep (E _ (by omega)) (E _ (by omega)) (E _ (by omega)), h7.keep (E _ (by omega)) (E _ (by omega)), h8.keep fun j _ _ => E _ (by omega)⟩
theorem CP.fit {g : Nat → Int32} (h : CP f n l o s p) (e : only [16] f f') (h10 : f' 16 = some (zA 12 g)) : CP f' n l o s p := by
  obtain ⟨h1, h2, h3, ⟨o', h4⟩, hs, h6, h7, h8⟩ := h
  have E : ∀ j, j ≠ 16 → f' j = f j := fun j hj => e j (by simp [hj])
  exact ⟨h1.keep (E _ (by omega)) (E _ (by omega)), fun r hr => (h2 r hr).keep (E _ (by omega)) (E _ (by omega)) (E _ (by omega)) (E _ (by omega)) (E _ (by omega)), h3.keep (E _ (by omega)), ⟨o', h4.keep (E _ (by omega))⟩, hs.keep (E _ (by omega)) (E _ (by omega)), h6.keep (E _ (by omega)) (E _ (by omega)) (E _ (by omega)), ⟨by rw [E 15 (by omega)]; exact h7.1, g, h10⟩, h8.keep fun j _ _ => E _ (by omega)⟩
theorem CP.srch (h : CP f n l o s p) (e : only [9, 10, 12, 14] f f') (h8' : isSrch f') : CP f' n l o s p := by
  obtain ⟨h1, h2, h3, ⟨o', h4⟩, hs, h6, h7, h8⟩ := h
  have E : ∀ j, j < 9 ∨ 14 < j → f' j = f j := fun j hj => e j (by simp; omega)
  exact ⟨h1.keep (E _ (by omega)) (E _ (by omega)), fun r hr => (h2 r hr).keep (E _ (by omega)) (E _ (by omega)) (E _ (by omega)) (E _ (by omega)) (E _ (by omega)), h3.keep (E _ (by omega)), ⟨o', h4.keep (E _ (by omega))⟩, hs.keep (E _ (by omega)) (E _ (by omega)), h6.keep (E _ (by omega)) (E _ (by omega)) (E _ (by omega)), h7.keep (E _ (by omega)) (E _ (by omega)), h8'⟩
theorem CP.ros {q m : Nat} {l' : Nat → Int32} (h : CP f n l o s p) (hq : q < 4) (e : ∀ j, j ≠ 17 + 5 * q → j ≠ 17 + 5 * q + 2 → j ≠ 17 + 5 * q + 4 → f' j = f j) (hR : isRos f' (17 + 5 * q) m l') : CP f' (fun r => if r = q then m else n r) (fun r => if r = q then l' else l r) o s p := by
  obtain ⟨h1, h2, h3, ⟨o', h4⟩, hs, h6, h7, h8⟩ := h
  refine ⟨h1.keep (e _ (by omega) (by omega) (by omega)) (e _ (by omega) (by omega) (by omega)), fun r hr => ?_, h3.keep (e _ (by omega) (by omega) (by omega)), ⟨o', h4.keep (e _ (by omega) (by omega) (by omega))⟩, hs.keep (e _ (by omega) (by omega) (by omega)) (e _ (by omega) (by omega) (by omega)), h6.keep (e _ (by omega) (by omega) (by omega)) (e _ (by omega) (by omega) (by omega)) (e _ (by omega) (by omega) (by omega)), h7.keep (e _ (by omega) (by omega) (by omega)) (e _ (by omega) (by omega) (by omega)), h8.keep fun j _ _ => e _ (by omega) (by omega) (by omega)⟩
  by_cases hrq : r = q
  · subst hrq
    dsimp only
    rw [if_pos rfl, if_pos rfl]
    exact hR
  · dsimp only
    rw [if_neg hrq, if_neg hrq]
    exact (h2 r hr).keep (e _ (by omega) (by omega) (by omega)) (e _ (by omega) (by omega) (by omega)) (e _ (by omega) (by omega) (by omega)) (e _ (by omega) (by omega) (by omega)) (e _ (by omega) (by omega) (by omega))
end CPS
theorem inR_nI {x : Int32} {a m : Nat} (ha : a < 2 ^ 31) (hm : m < 2 ^ 31) (h : inR x (nI a) (nI m)) : ∃ q, a ≤ q ∧ q ≤ m ∧ x = nI q := by
  have h1 := Int32.le_iff_toInt_le.mp h.1
  have h2 := Int32.le_iff_toInt_le.mp h.2
  rw [nI_toInt ha] at h1
  rw [nI_toInt hm] at h2
  exact ⟨x.toInt.toNat, by omega, by omega, i32_eq_nI (by omega) (by omega)⟩
theorem s_X5_within {x a b : Int32} {sz : Nat} {f : ZH} {P : Option ZVal → Nat → ZH → Prop} (h : P (some (zi (zb (inR x a b)))) sz f) : Zv none 74 0 [some (zi x), some (zi a), some (zi b)] [] sz f 0 0 P := by
  refine rX5_within_0 ?_
  refine rX5_within_1 ?_
  refine rX5_within_2 (fun hb => ?_) (fun hb => ?_)
  · rw [zb_f (fun q => absurd q.1 (Int32.not_le.mpr hb))] at h
    refine rX5_within_14 ?_
    first | refine rX5_within_15b ?_ | refine rX5_within_15 (Or.inl rfl) ?_ | refine rX5_within_15 (Or.inr rfl) ?_
    exact h
  · refine rX5_within_5 ?_
    refine rX5_within_6 ?_
    refine rX5_within_7 (fun hc => ?_) (fun hc => ?_)
    · rw [zb_f (fun q => absurd q.2 (Int32.not_le.mpr hc))] at h
      refine rX5_within_14 ?_
      first | refine rX5_within_15b ?_ | refine rX5_within_15 (Or.inl rfl) ?_ | refine rX5_within_15 (Or.inr rfl) ?_
      exact h
    · rw [zb_t ⟨Int32.not_lt.mp hb, Int32.not_lt.mp hc⟩] at h
      refine rX5_within_10 ?_
      refine rX5_within_11 ?_
      first | refine rX5_within_15b ?_ | refine rX5_within_15 (Or.inl rfl) ?_ | refine rX5_within_15 (Or.inr rfl) ?_
      exact h
theorem s_X5_isRing {x : Int32} {sz : Nat} {f : ZH} {P : Option ZVal → Nat → ZH → Prop} (h : P (some (zi (zb (inR x 0 11)))) sz f) : Zv none 73 0 [some (zi x)] [] sz f 0 0 P := by
  refine rX5_isRing_0 ?_
  refine rX5_isRing_1 ?_
  refine rX5_isRing_2 ?_
  refine rX5_isRing_4  ?_
  refine s_X5_within ?_
  first | refine rX5_isRing_7b ?_ | refine rX5_isRing_7 (Or.inl rfl) ?_ | refine rX5_isRing_7 (Or.inr rfl) ?_
  exact h
theorem s_X5_rosetteOf_in {q : Nat} {sz : Nat} {f : ZH} {P : Option ZVal → Nat → ZH → Prop} (hT : isTop f) (hq : q < 4) (h : P (some (zr (17 + 5 * q))) sz f) : Zv none 42 0 [some (zr 0), some (zi (nI q))] [] sz f 0 0 P := by
  obtain ⟨h1, g, h2, hg⟩ := hT
  refine rX5_rosetteOf_0 ?_
  refine rX5_rosetteOf_1 (fun hbb => absurd hbb (nI_pos (by omega))) (fun _ => ?_)
  refine rX5_rosetteOf_4 ?_
  refine rX5_rosetteOf_5 ?_
  refine rX5_rosetteOf_6 (by repeat first | assumption | exact zup_eq | refine (zup_ne (by first | decide | omega)).trans ?_) ?_
  first | refine rX5_rosetteOf_9 (by repeat first | assumption | exact zup_eq | refine (zup_ne (by first | decide | omega)).trans ?_) ?_ | refine rX5_rosetteOf_9Q (by repeat first | assumption | exact zup_eq | refine (zup_ne (by first | decide | omega)).trans ?_) ?_
  refine rX5_rosetteOf_10 (fun hbb => absurd hbb (nI_ge (b := 4) hq (by decide))) (fun _ => ?_)
  refine rX5_rosetteOf_13 ?_
  refine rX5_rosetteOf_14 (by repeat first | assumption | exact zup_eq | refine (zup_ne (by first | decide | omega)).trans ?_) ?_
  refine rX5_rosetteOf_17 ?_
  refine rX5_rosetteOf_18N (by repeat first | assumption | exact zup_eq | refine (zup_ne (by first | decide | omega)).trans ?_) (by first | assumption | decide | omega) (by first | decide | omega) ?_
  rw [hg q hq]
  refine rX5_rosetteOf_19 ?_
  refine rX5_rosetteOf_23 ?_
  exact h
theorem s_X5_rosetteOf_out {x : Int32} {sz : Nat} {f : ZH} {P : Option ZVal → Nat → ZH → Prop} (hT : isTop f) (hx : ¬ inR x 0 3) (h : P (some zu) sz f) : Zv none 42 0 [some (zr 0), some (zi x)] [] sz f 0 0 P := by
  obtain ⟨h1, g, h2, hg⟩ := hT
  refine rX5_rosetteOf_0 ?_
  refine rX5_rosetteOf_1 (fun hb => ?_) (fun hb => ?_)
  · refine rX5_rosetteOf_22 ?_
    refine rX5_rosetteOf_23 (o := none) ?_
    exact h
  · refine rX5_rosetteOf_4 ?_
    refine rX5_rosetteOf_5 ?_
    refine rX5_rosetteOf_6 (by repeat first | assumption | exact zup_eq | refine (zup_ne (by first | decide | omega)).trans ?_) ?_
    first | refine rX5_rosetteOf_9 (by repeat first | assumption | exact zup_eq | refine (zup_ne (by first | decide | omega)).trans ?_) ?_ | refine rX5_rosetteOf_9Q (by repeat first | assumption | exact zup_eq | refine (zup_ne (by first | decide | omega)).trans ?_) ?_
    refine rX5_rosetteOf_10 (fun _ => ?_) (fun hbb => absurd (Decidable.byContradiction fun q => hx ⟨Int32.not_lt.mp hb, by have h1 := Int32.lt_iff_toInt_lt.mp (Int32.not_le.mp q); refine Int32.le_iff_toInt_le.mpr ?_; rw [show (nI 4).toInt = 4 from rfl] at h1; rw [show (3 : Int32).toInt = 3 from rfl]; omega⟩) hbb)
    refine rX5_rosetteOf_22 ?_
    refine rX5_rosetteOf_23 (o := none) ?_
    exact h
/-- the sum of the first n -/
def isum (g : Nat → Int32) : Nat → Int32
  | 0 => 0
  | n + 1 => isum g n + g n
theorem s_X5_slipAt {r : Nat} {s : Nat → Int32} {sz : Nat} {f : ZH} {P : Option ZVal → Nat → ZH → Prop} (hT : isTop f) (hs : isSlip f s) (hr : r < 12) (h : P (some (zi (isum s (r + 1)))) sz f) : Zv none 47 0 [some (zr 0), some (zi (nI r)), none, none] [] sz f 0 0 P := by
  have hT0 := hT.1
  obtain ⟨h4, g, h5, hg⟩ := hs
  have key : ∀ (d k : Nat), k + d = r + 1 → Zv none 47 4 [some (zr 0), some (zi (nI r)), some (zi (isum s k)), some (zi (nI k))] [] sz f 0 0 P := by
    intro d
    induction d with
    | zero =>
      intro k hk
      obtain rfl : k = r + 1 := by omega
      refine rX5_slipAt_4 ?_
      refine rX5_slipAt_5 ?_
      refine rX5_slipAt_6 (fun _ => ?_) (fun hbb => absurd (nI_lt (by omega) (by omega)) hbb)
      refine rX5_slipAt_32 ?_
      refine rX5_slipAt_33 ?_
      exact h
    | succ d ih =>
      intro k hk
      have ih := ih (k + 1) (by omega)
      rw [isum] at ih
      refine rX5_slipAt_4 ?_
      refine rX5_slipAt_5 ?_
      refine rX5_slipAt_6 (fun hbb => absurd hbb (nI_nlt (by omega) (by omega))) (fun _ => ?_)
      refine rX5_slipAt_9 ?_
      refine rX5_slipAt_10 ?_
      refine rX5_slipAt_12 (fun hbb => absurd hbb (nI_ge (b := 12) (by omega) (by decide))) (fun _ => ?_)
      refine rX5_slipAt_15 ?_
      refine rX5_slipAt_16 ?_
      refine rX5_slipAt_17 (by repeat first | assumption | exact zup_eq | refine (zup_ne (by first | decide | omega)).trans ?_) ?_
      refine rX5_slipAt_20 ?_
      refine rX5_slipAt_21 (by repeat first | assumption | exact zup_eq | refine (zup_ne (by first | decide | omega)).trans ?_) ?_
      refine s_X2_get (by repeat first | assumption | exact zup_eq | refine (zup_ne (by first | decide | omega)).trans ?_) (by repeat first | assumption | exact zup_eq | refine (zup_ne (by first | decide | omega)).trans ?_) (by first | assumption | decide | omega) (by first | assumption | decide | omega) ?_
      rw [hg k (by omega)]
      refine rX5_slipAt_24 ?_
      refine rX5_slipAt_25 ?_
      refine rX5_slipAt_26 ?_
      refine rX5_slipAt_29 ?_
      rw [nI_1]
      exact ih
  refine rX5_slipAt_0 ?_
  refine rX5_slipAt_1 ?_
  refine rX5_slipAt_2 ?_
  refine rX5_slipAt_3 ?_
  exact key (r + 1) 0 (by omega)
/-- a place by a setting, at so many clicks -/
def plc (n : Nat) (l : Nat → Int32) (o : Nat → Int32) (ring x : Int32) : Int32 := o 2 + ring * o 3 + o 1 * lft n l (o 4 + ring * o 5 + x)
theorem s_X5_placeOf {k q n : Nat} {l o : Nat → Int32} {ring x : Int32} {sz : Nat} {f : ZH} {P : Option ZVal → Nat → ZH → Prop} (hT : isTop f) (hk : isSet f k o) (hq : q < 4) (ho : o 0 = nI q) (hR : isRos f (17 + 5 * q) n l) (hn : 0 < n) (hn2 : n ≤ 24) (h : P (some (zi (plc n l o ring x))) sz f) : Zv none 56 0 [some (zr 0), some (zr k), some (zi ring), some (zi x), none, none] [] sz f 0 0 P := by
  unfold isSet at hk
  have hT0 := hT.1
  have hR1 := hR.1
  refine rX5_placeOf_0 ?_
  first | refine rX5_placeOf_1 ?_ | refine rX5_placeOf_1n ?_
  refine rX5_placeOf_2 (by repeat first | assumption | exact zup_eq | refine (zup_ne (by first | decide | omega)).trans ?_) ?_
  rw [ho]
  refine rX5_placeOf_5 (by repeat first | assumption | exact zup_eq | refine (zup_ne (by first | decide | omega)).trans ?_) ?_
  first | refine s_X5_rosetteOf_in (by assumption) (by assumption) ?_ | refine s_X5_rosetteOf_out (by assumption) (by assumption) ?_
  first | refine rX5_placeOf_8 ?_ | refine rX5_placeOf_8n ?_
  first | refine rX5_placeOf_10 ?_ | refine rX5_placeOf_10n ?_
  first | refine rX5_placeOf_12 ?_ | refine rX5_placeOf_12n ?_
  first | refine rX5_placeOf_19 ?_ | refine rX5_placeOf_19n ?_
  first | refine rX5_placeOf_21 ?_ | refine rX5_placeOf_21n ?_
  refine rX5_placeOf_22 (by repeat first | assumption | exact zup_eq | refine (zup_ne (by first | decide | omega)).trans ?_) ?_
  refine rX5_placeOf_25 ?_
  first | refine rX5_placeOf_26 ?_ | refine rX5_placeOf_26n ?_
  refine rX5_placeOf_27 (by repeat first | assumption | exact zup_eq | refine (zup_ne (by first | decide | omega)).trans ?_) ?_
  refine rX5_placeOf_30 ?_
  refine rX5_placeOf_31 ?_
  refine rX5_placeOf_32 ?_
  refine rX5_placeOf_33 ?_
  refine rX5_placeOf_34 (by repeat first | assumption | exact zup_eq | refine (zup_ne (by first | decide | omega)).trans ?_) ?_
  refine s_X1_liftBehind (by assumption) (by assumption) (by assumption) ?_
  refine rX5_placeOf_37 ?_
  first | refine rX5_placeOf_39 ?_ | refine rX5_placeOf_39n ?_
  refine rX5_placeOf_40 (by repeat first | assumption | exact zup_eq | refine (zup_ne (by first | decide | omega)).trans ?_) ?_
  refine rX5_placeOf_43 ?_
  first | refine rX5_placeOf_44 ?_ | refine rX5_placeOf_44n ?_
  refine rX5_placeOf_45 (by repeat first | assumption | exact zup_eq | refine (zup_ne (by first | decide | omega)).trans ?_) ?_
  refine rX5_placeOf_48 ?_
  refine rX5_placeOf_49 ?_
  first | refine rX5_placeOf_50 ?_ | refine rX5_placeOf_50n ?_
  refine rX5_placeOf_51 (by repeat first | assumption | exact zup_eq | refine (zup_ne (by first | decide | omega)).trans ?_) ?_
  refine rX5_placeOf_54 ?_
  refine rX5_placeOf_56 ?_
  refine rX5_placeOf_57 ?_
  refine rX5_placeOf_58 ?_
  exact h
theorem s_X5_slippedPlace {q n r : Nat} {l o s : Nat → Int32} {x : Int32} {sz : Nat} {f : ZH} {P : Option ZVal → Nat → ZH → Prop} (hT : isTop f) (hk : isSet f 2 o) (hs : isSlip f s) (hq : q < 4) (ho : o 0 = nI q) (hR : isRos f (17 + 5 * q) n l) (hn : 0 < n) (hn2 : n ≤ 24) (hr : r < 12) (h : P (some (zi (plc n l o (nI r) (isum s (r + 1) + x)))) sz f) : Zv none 55 0 [some (zr 0), some (zi (nI r)), some (zi x)] [] sz f 0 0 P := by
  have hT0 := hT.1
  refine rX5_slippedPlace_0 ?_
  refine rX5_slippedPlace_1 ?_
  refine rX5_slippedPlace_2 (by repeat first | assumption | exact zup_eq | refine (zup_ne (by first | decide | omega)).trans ?_) ?_
  refine rX5_slippedPlace_5 ?_
  refine rX5_slippedPlace_6 ?_
  refine rX5_slippedPlace_7 ?_
  refine rX5_slippedPlace_8 (by repeat first | assumption | exact zup_eq | refine (zup_ne (by first | decide | omega)).trans ?_) ?_
  refine s_X5_slipAt (by assumption) (by assumption) (by first | assumption | omega) ?_
  refine rX5_slippedPlace_11 ?_
  refine rX5_slippedPlace_12 ?_
  refine rX5_slippedPlace_13 (by repeat first | assumption | exact zup_eq | refine (zup_ne (by first | decide | omega)).trans ?_) ?_
  refine s_X5_placeOf hT hk hq ho hR hn hn2 ?_
  refine rX5_slippedPlace_16 ?_
  exact h
/-- the place in ring r behind x clicks, with the slips -/
def plS (n : Nat) (l o s : Nat → Int32) (r : Nat) (x : Int32) : Int32 := plc n l o (nI r) (isum s (r + 1) + x)
theorem s_X5_wallAt {q n r : Nat} {l o s : Nat → Int32} {x : Int32} {sz : Nat} {f : ZH} {P : Option ZVal → Nat → ZH → Prop} (hT : isTop f) (hk : isSet f 2 o) (hs : isSlip f s) (hq : q < 4) (ho : o 0 = nI q) (hR : isRos f (17 + 5 * q) n l) (hn : 0 < n) (hn2 : n ≤ 24) (hr : r + 1 < 12) (h : P (some (zi (plS n l o s (r + 1) x - plS n l o s r x))) sz f) : Zv none 54 0 [some (zr 0), some (zi (nI r)), some (zi x)] [] sz f 0 0 P := by
  have hT0 := hT.1
  refine rX5_wallAt_0 ?_
  refine rX5_wallAt_1 ?_
  refine rX5_wallAt_2 ?_
  refine rX5_wallAt_3 ?_
  refine rX5_wallAt_4 ?_
  rw [nI_1]
  refine rX5_wallAt_5 (by repeat first | assumption | exact zup_eq | refine (zup_ne (by first | decide | omega)).trans ?_) ?_
  refine s_X5_slippedPlace (q := q) (n := n) (l := l) (o := o) (s := s) (by assumption) (by assumption) (by assumption) (by assumption) (by assumption) (by assumption) (by assumption) (by assumption) (by first | assumption | omega) ?_
  refine rX5_wallAt_8 ?_
  refine rX5_wallAt_9 ?_
  refine rX5_wallAt_10 ?_
  refine rX5_wallAt_11 (by repeat first | assumption | exact zup_eq | refine (zup_ne (by first | decide | omega)).trans ?_) ?_
  refine s_X5_slippedPlace (q := q) (n := n) (l := l) (o := o) (s := s) (by assumption) (by assumption) (by assumption) (by assumption) (by assumption) (by assumption) (by assumption) (by assumption) (by first | assumption | omega) ?_
  refine rX5_wallAt_14 ?_
  refine rX5_wallAt_15 ?_
  exact h
theorem s_X5_seenPlace {q n r : Nat} {l o s : Nat → Int32} {x : Int32} {sz : Nat} {f : ZH} {P : Option ZVal → Nat → ZH → Prop} (hT : isTop f) (hk : isSet f 2 o) (hs : isSlip f s) (hq : q < 4) (ho : o 0 = nI q) (hR : isRos f (17 + 5 * q) n l) (hn : 0 < n) (hn2 : n ≤ 24) (hr : r < 12) (h : P (some (zi (@ite _ (inR (plS n l o s r x) 0 2000) (Classical.propDecidable _) (plS n l o s r x) (-1)))) sz f) : Zv none 65 0 [some (zr 0), some (zi (nI r)), some (zi x), none] [] sz f 0 0 P := by
  have hT0 := hT.1
  refine rX5_seenPlace_0 ?_
  refine rX5_seenPlace_1 ?_
  refine rX5_seenPlace_2 ?_
  refine rX5_seenPlace_3 (by repeat first | assumption | exact zup_eq | refine (zup_ne (by first | decide | omega)).trans ?_) ?_
  refine s_X5_slippedPlace (q := q) (n := n) (l := l) (o := o) (s := s) (by assumption) (by assumption) (by assumption) (by assumption) (by assumption) (by assumption) (by assumption) (by assumption) (by first | assumption | omega) ?_
  refine rX5_seenPlace_6 ?_
  refine rX5_seenPlace_7 ?_
  refine rX5_seenPlace_8 ?_
  refine rX5_seenPlace_9 ?_
  refine rX5_seenPlace_12  ?_
  refine s_X5_within ?_
  refine rX5_seenPlace_15b (fun hb => ?_) (fun hb => ?_)
  · rw [if_neg (show ¬ inR (plS n l o s r x) 0 2000 from hb)] at h
    refine rX5_seenPlace_22 ?_
    refine rX5_seenPlace_23 ?_
    exact h
  · rw [if_pos (show inR (plS n l o s r x) 0 2000 from hb)] at h
    refine rX5_seenPlace_18 ?_
    refine rX5_seenPlace_19 ?_
    refine rX5_seenPlace_23 ?_
    exact h
theorem s_X5_currentLength {q n : Nat} {l o : Nat → Int32} {sz : Nat} {f : ZH} {P : Option ZVal → Nat → ZH → Prop} (hT : isTop f) (hk : isSet f 2 o) (hq : q < 4) (ho : o 0 = nI q) (hR : isRos f (17 + 5 * q) n l) (h : P (some (zi (nI n))) sz f) : Zv none 66 0 [some (zr 0), none] [] sz f 0 0 P := by
  unfold isSet at hk
  have hT0 := hT.1
  have hR1 := hR.1
  refine rX5_currentLength_0 ?_
  refine rX5_currentLength_1 ?_
  refine rX5_currentLength_2 (by repeat first | assumption | exact zup_eq | refine (zup_ne (by first | decide | omega)).trans ?_) ?_
  refine rX5_currentLength_5 (by repeat first | assumption | exact zup_eq | refine (zup_ne (by first | decide | omega)).trans ?_) ?_
  rw [ho]
  refine rX5_currentLength_8 (by repeat first | assumption | exact zup_eq | refine (zup_ne (by first | decide | omega)).trans ?_) ?_
  first | refine s_X5_rosetteOf_in (by assumption) (by assumption) ?_ | refine s_X5_rosetteOf_out (by assumption) (by assumption) ?_
  first | refine rX5_currentLength_11 ?_ | refine rX5_currentLength_11n ?_
  first | refine rX5_currentLength_12 ?_ | refine rX5_currentLength_12n ?_
  first | refine rX5_currentLength_13 ?_ | refine rX5_currentLength_13n ?_
  first | refine rX5_currentLength_20 ?_ | refine rX5_currentLength_20n ?_
  refine rX5_currentLength_21 (by repeat first | assumption | exact zup_eq | refine (zup_ne (by first | decide | omega)).trans ?_) ?_
  refine rX5_currentLength_24 ?_
  exact h
theorem s_X5_slipsNot {s : Nat → Int32} {sz : Nat} {f : ZH} {P : Option ZVal → Nat → ZH → Prop} (hT : isTop f) (hs : isSlip f s) (h : P (some (zi (nI (cntB (fun k => decide (¬ s k = 0)) 12)))) sz f) : Zv none 64 0 [some (zr 0), none, none] [] sz f 0 0 P := by
  have hT0 := hT.1
  obtain ⟨h4, g, h5, hg⟩ := hs
  have key : ∀ (d k : Nat), k + d = 12 → Zv none 64 4 [some (zr 0), some (zi (nI (cntB (fun k => decide (¬ s k = 0)) k))), some (zi (nI k))] [] sz f 0 0 P := by
    intro d
    induction d with
    | zero =>
      intro k hk
      obtain rfl : k = 12 := by omega
      refine rX5_slipsNotNought_4 ?_
      refine rX5_slipsNotNought_5 ?_
      refine rX5_slipsNotNought_7 (fun _ => ?_) (fun hbb => absurd (by decide) hbb)
      refine rX5_slipsNotNought_30 ?_
      refine rX5_slipsNotNought_31 ?_
      exact h
    | succ d ih =>
      intro k hk
      have ih := ih (k + 1) (by omega)
      rw [cntB] at ih
      refine rX5_slipsNotNought_4 ?_
      refine rX5_slipsNotNought_5 ?_
      refine rX5_slipsNotNought_7 (fun hbb => absurd hbb (nI_ge (b := 12) (by omega) (by decide))) (fun _ => ?_)
      refine rX5_slipsNotNought_10 ?_
      refine rX5_slipsNotNought_11 (by repeat first | assumption | exact zup_eq | refine (zup_ne (by first | decide | omega)).trans ?_) ?_
      refine rX5_slipsNotNought_14 ?_
      refine rX5_slipsNotNought_15 (by repeat first | assumption | exact zup_eq | refine (zup_ne (by first | decide | omega)).trans ?_) ?_
      refine s_X2_get (by repeat first | assumption | exact zup_eq | refine (zup_ne (by first | decide | omega)).trans ?_) (by repeat first | assumption | exact zup_eq | refine (zup_ne (by first | decide | omega)).trans ?_) (by first | assumption | decide | omega) (by first | assumption | decide | omega) ?_
      rw [hg k (by omega)]
      refine rX5_slipsNotNought_18 (fun hb => ?_) (fun hb => ?_)
      · rw [if_neg (by rw [decide_eq_false (fun q => q hb)]; exact Bool.false_ne_true)] at ih
        refine rX5_slipsNotNought_24 ?_
        refine rX5_slipsNotNought_27 ?_
        rw [nI_1]
        exact ih
      · rw [if_pos (by exact decide_eq_true hb)] at ih
        refine rX5_slipsNotNought_21 ?_
        refine rX5_slipsNotNought_24 ?_
        refine rX5_slipsNotNought_27 ?_
        rw [nI_1, nI_1]
        exact ih
  refine rX5_slipsNotNought_0 ?_
  refine rX5_slipsNotNought_1 ?_
  refine rX5_slipsNotNought_2 ?_
  refine rX5_slipsNotNought_3 ?_
  exact key 12 0 rfl
/-- numbers of a setting -/
def okS (n : Nat → Nat) (r ga ba st ph mo : Int32) : Prop := ∃ q, q < 4 ∧ r = nI q ∧ inR ga 1 4 ∧ inR ba 0 1000 ∧ inR st 0 100 ∧ (0 ≤ ph ∧ ph < nI (n q)) ∧ (0 ≤ mo ∧ mo < nI (n q))
theorem okR_cases (r : Int32) : (∃ q, q < 4 ∧ r = nI q) ∨ ¬ inR r 0 3 := by
  by_cases h : 0 ≤ r ∧ r ≤ 3
  · obtain ⟨q, -, h2, h3⟩ := inR_nI (a := 0) (m := 3) (by decide) (by decide) h
    exact Or.inl ⟨q, by omega, h3⟩
  · exact Or.inr h
theorem okR_not {r : Int32} (h : ¬ inR r 0 3) : ¬ ∃ q, q < 4 ∧ r = nI q := by
  rintro ⟨q, hq, rfl⟩
  exact h ⟨nI_le (a := 0) (by omega) (by omega), nI_le (b := 3) (by omega) (by omega)⟩
theorem s_X5_mayBeSet {n : Nat → Nat} {l : Nat → Nat → Int32} {r ga ba st ph mo : Int32} {sz : Nat} {f : ZH} {P : Option ZVal → Nat → ZH → Prop} (hT : isTop f) (hR : ∀ r, r < 4 → isRos f (17 + 5 * r) (n r) (l r)) (h : P (some (zi (zb (okS n r ga ba st ph mo)))) sz f) : Zv none 46 0 [some (zr 0), some (zi r), some (zi ga), some (zi ba), some (zi st), some (zi ph), some (zi mo), none] [] sz f 0 0 P := by
  have hT0 := hT.1
  rcases okR_cases r with ⟨q, hq, rfl⟩ | hr
  · have hRq := hR q hq
    have hRq1 := hRq.1
    have hno : ∀ {A : Prop}, (okS n (nI q) ga ba st ph mo → A) → ¬ A → P (some (zi 0)) sz f := fun hA hna => by
      rw [zb_f (fun z => hna (hA z))] at h
      exact h
    have hqq : ∀ q', q' < 4 → nI q = nI q' → q' = q := fun q' hq' e => ((nI_eq (by omega) (by omega)).mp e).symm
    refine rX5_mayBeSet_0 ?_
    refine rX5_mayBeSet_1 ?_
    refine rX5_mayBeSet_2 (by repeat first | assumption | exact zup_eq | refine (zup_ne (by first | decide | omega)).trans ?_) ?_
    first | refine s_X5_rosetteOf_in (by assumption) (by assumption) ?_ | refine s_X5_rosetteOf_out (by assumption) (by assumption) ?_
    first | refine rX5_mayBeSet_5 ?_ | refine rX5_mayBeSet_5n ?_
    first | refine rX5_mayBeSet_7 ?_ | refine rX5_mayBeSet_7n ?_
    first | refine rX5_mayBeSet_9 ?_ | refine rX5_mayBeSet_9n ?_
    refine rX5_mayBeSet_12 ?_
    refine rX5_mayBeSet_13 ?_
    refine rX5_mayBeSet_14 ?_
    refine rX5_mayBeSet_15  ?_
    refine s_X5_within ?_
    refine rX5_mayBeSet_18b (fun hb => ?_) (fun hb => ?_)
    · refine rX5_mayBeSet_67 ?_
      first | refine rX5_mayBeSet_68b ?_ | refine rX5_mayBeSet_68 (Or.inl rfl) ?_ | refine rX5_mayBeSet_68 (Or.inr rfl) ?_
      exact hno (fun ⟨_, _, _, z, _⟩ => z) hb
    have c1 := hb
    refine rX5_mayBeSet_21 ?_
    refine rX5_mayBeSet_22 ?_
    refine rX5_mayBeSet_23 ?_
    refine rX5_mayBeSet_26  ?_
    refine s_X5_within ?_
    refine rX5_mayBeSet_29b (fun hb => ?_) (fun hb => ?_)
    · refine rX5_mayBeSet_67 ?_
      first | refine rX5_mayBeSet_68b ?_ | refine rX5_mayBeSet_68 (Or.inl rfl) ?_ | refine rX5_mayBeSet_68 (Or.inr rfl) ?_
      exact hno (fun ⟨_, _, _, _, z, _⟩ => z) hb
    have c2 := hb
    refine rX5_mayBeSet_32 ?_
    refine rX5_mayBeSet_34 ?_
    refine rX5_mayBeSet_35 ?_
    refine rX5_mayBeSet_37  ?_
    refine s_X5_within ?_
    refine rX5_mayBeSet_40b (fun hb => ?_) (fun hb => ?_)
    · refine rX5_mayBeSet_67 ?_
      first | refine rX5_mayBeSet_68b ?_ | refine rX5_mayBeSet_68 (Or.inl rfl) ?_ | refine rX5_mayBeSet_68 (Or.inr rfl) ?_
      exact hno (fun ⟨_, _, _, _, _, z, _⟩ => z) hb
    have c3 := hb
    first | refine rX5_mayBeSet_43 ?_ | refine rX5_mayBeSet_43n ?_
    refine rX5_mayBeSet_45 ?_
    refine rX5_mayBeSet_47 (by repeat first | assumption | exact zup_eq | refine (zup_ne (by first | decide | omega)).trans ?_) ?_
    refine s_X1_has (by assumption) ?_
    refine rX5_mayBeSet_50b (fun hb => ?_) (fun hb => ?_)
    · refine rX5_mayBeSet_67 ?_
      first | refine rX5_mayBeSet_68b ?_ | refine rX5_mayBeSet_68 (Or.inl rfl) ?_ | refine rX5_mayBeSet_68 (Or.inr rfl) ?_
      exact hno (fun ⟨q', a1, a2, _, _, _, z, _⟩ => by rw [hqq q' a1 a2] at z; exact z) hb
    have c4 := hb
    first | refine rX5_mayBeSet_53 ?_ | refine rX5_mayBeSet_53n ?_
    refine rX5_mayBeSet_55 ?_
    refine rX5_mayBeSet_57 (by repeat first | assumption | exact zup_eq | refine (zup_ne (by first | decide | omega)).trans ?_) ?_
    refine s_X1_has (by assumption) ?_
    refine rX5_mayBeSet_60b (fun hb => ?_) (fun hb => ?_)
    · refine rX5_mayBeSet_67 ?_
      first | refine rX5_mayBeSet_68b ?_ | refine rX5_mayBeSet_68 (Or.inl rfl) ?_ | refine rX5_mayBeSet_68 (Or.inr rfl) ?_
      exact hno (fun ⟨q', a1, a2, _, _, _, _, z⟩ => by rw [hqq q' a1 a2] at z; exact z) hb
    rw [zb_t ⟨q, hq, rfl, c1, c2, c3, c4, hb⟩] at h
    refine rX5_mayBeSet_63 ?_
    refine rX5_mayBeSet_64 ?_
    first | refine rX5_mayBeSet_68b ?_ | refine rX5_mayBeSet_68 (Or.inl rfl) ?_ | refine rX5_mayBeSet_68 (Or.inr rfl) ?_
    exact h
  · rw [zb_f (fun ⟨q, h1, h2, _⟩ => okR_not hr ⟨q, h1, h2⟩)] at h
    refine rX5_mayBeSet_0 ?_
    refine rX5_mayBeSet_1 ?_
    refine rX5_mayBeSet_2 (by repeat first | assumption | exact zup_eq | refine (zup_ne (by first | decide | omega)).trans ?_) ?_
    first | refine s_X5_rosetteOf_in (by assumption) (by assumption) ?_ | refine s_X5_rosetteOf_out (by assumption) (by assumption) ?_
    first | refine rX5_mayBeSet_5 ?_ | refine rX5_mayBeSet_5n ?_
    first | refine rX5_mayBeSet_7 ?_ | refine rX5_mayBeSet_7n ?_
    first | refine rX5_mayBeSet_9 ?_ | refine rX5_mayBeSet_9n ?_
    refine rX5_mayBeSet_67 ?_
    first | refine rX5_mayBeSet_68b ?_ | refine rX5_mayBeSet_68 (Or.inl rfl) ?_ | refine rX5_mayBeSet_68 (Or.inr rfl) ?_
    exact h
