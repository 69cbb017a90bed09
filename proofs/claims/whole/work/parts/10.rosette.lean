/-! A ROSETTE: the object at k, its rows at k + 1 and k + 3, their cells at k + 2 and k + 4; n lifts, l -/
def isArr (f : ZH) (a n : Nat) (l : Nat → Int32) : Prop := ∃ g : Nat → Int32, f a = some (zA n g) ∧ ∀ i, i < n → g i = l i
def isRos (f : ZH) (k n : Nat) (l : Nat → Int32) : Prop := f k = some (zO 1 [zr (k + 1), zr (k + 3), zi (nI n)]) ∧ f (k + 1) = some (zO 2 [zr (k + 2)]) ∧ isArr f (k + 2) 24 l ∧ f (k + 3) = some (zO 2 [zr (k + 4)]) ∧ ∃ g, f (k + 4) = some (zA 24 g)
/-- the lift behind x clicks -/
def lft (n : Nat) (l : Nat → Int32) (x : Int32) : Int32 := l (fm x n)
theorem s_X1_has {k n : Nat} {l : Nat → Int32} {x : Int32} {sz : Nat} {f : ZH} {P : Option ZVal → Nat → ZH → Prop} (hR : isRos f k n l) (h : P (some (zi (zb (0 ≤ x ∧ x < nI n)))) sz f) : Zv none 7 0 [some (zr k), some (zi x)] [] sz f 0 0 P := by
  obtain ⟨h1, -⟩ := hR
  refine rX1_has_0 ?_
  refine rX1_has_1 (fun hb => ?_) (fun hb => ?_)
  · rw [zb_f (fun q => absurd q.1 (Int32.not_le.mpr hb))] at h
    refine rX1_has_16 ?_
    first | refine rX1_has_17b ?_ | refine rX1_has_17 (Or.inl rfl) ?_ | refine rX1_has_17 (Or.inr rfl) ?_
    exact h
  · refine rX1_has_4 ?_
    refine rX1_has_5 ?_
    refine rX1_has_6 (by repeat first | assumption | exact zup_eq | refine (zup_ne (by first | decide | omega)).trans ?_) ?_
    refine rX1_has_9 (fun hc => ?_) (fun hc => ?_)
    · rw [zb_f (fun q => absurd q.2 (Int32.not_lt.mpr hc))] at h
      refine rX1_has_16 ?_
      first | refine rX1_has_17b ?_ | refine rX1_has_17 (Or.inl rfl) ?_ | refine rX1_has_17 (Or.inr rfl) ?_
      exact h
    · rw [zb_t ⟨Int32.not_lt.mp hb, Int32.not_le.mp hc⟩] at h
      refine rX1_has_12 ?_
      refine rX1_has_13 ?_
      first | refine rX1_has_17b ?_ | refine rX1_has_17 (Or.inl rfl) ?_ | refine rX1_has_17 (Or.inr rfl) ?_
      exact h
theorem s_X1_liftBehind {k n : Nat} {l : Nat → Int32} {x : Int32} {sz : Nat} {f : ZH} {P : Option ZVal → Nat → ZH → Prop} (hR : isRos f k n l) (hn : 0 < n) (hn2 : n ≤ 24) (h : P (some (zi (lft n l x))) sz f) : Zv none 10 0 [some (zr k), some (zi x)] [] sz f 0 0 P := by
  obtain ⟨h1, h2, ⟨g, h3, hg⟩, -⟩ := hR
  have hf := fm_lt (x := x) hn
  rw [lft, ← hg _ (by omega)] at h
  refine rX1_liftBehind_0 ?_
  refine rX1_liftBehind_1 (by repeat first | assumption | exact zup_eq | refine (zup_ne (by first | decide | omega)).trans ?_) ?_
  refine rX1_liftBehind_4 (fun hbb => absurd hbb (Int32.not_le.mpr (nI_gt hn (by omega)))) (fun _ => ?_)
  refine rX1_liftBehind_7 ?_
  refine rX1_liftBehind_8 (by repeat first | assumption | exact zup_eq | refine (zup_ne (by first | decide | omega)).trans ?_) ?_
  refine rX1_liftBehind_11 ?_
  refine rX1_liftBehind_12 ?_
  refine rX1_liftBehind_13 (by repeat first | assumption | exact zup_eq | refine (zup_ne (by first | decide | omega)).trans ?_) ?_
  refine rX1_liftBehind_16  ?_
  refine s_J9_floorMod hn (by omega) ?_
  refine rX1_liftBehind_19 (by repeat first | assumption | exact zup_eq | refine (zup_ne (by first | decide | omega)).trans ?_) ?_
  refine s_X2_get (by repeat first | assumption | exact zup_eq | refine (zup_ne (by first | decide | omega)).trans ?_) (by repeat first | assumption | exact zup_eq | refine (zup_ne (by first | decide | omega)).trans ?_) (by first | assumption | decide | omega) (by first | assumption | decide | omega) ?_
  refine rX1_liftBehind_22 ?_
  refine rX1_liftBehind_26 ?_
  exact h
theorem s_X1_liftOnWay {k n : Nat} {l : Nat → Int32} {w x : Int32} {sz : Nat} {f : ZH} {P : Option ZVal → Nat → ZH → Prop} (hR : isRos f k n l) (hn : 0 < n) (hn2 : n ≤ 24) (h : P (some (zi (if w < 100 then lft n l (w + x) else lft n l (w - 100 - x)))) sz f) : Zv none 15 0 [some (zr k), some (zi w), some (zi x)] [] sz f 0 0 P := by
  refine rX1_liftOnWay_0 ?_
  refine rX1_liftOnWay_1 ?_
  refine rX1_liftOnWay_3 (fun hb => ?_) (fun hb => ?_)
  · rw [if_neg (Int32.not_lt.mpr hb)] at h
    have hR1 := hR.1
    refine rX1_liftOnWay_16 ?_
    refine rX1_liftOnWay_17 ?_
    refine rX1_liftOnWay_18 ?_
    refine rX1_liftOnWay_20 ?_
    refine rX1_liftOnWay_21 ?_
    refine rX1_liftOnWay_22 ?_
    refine rX1_liftOnWay_23 (by repeat first | assumption | exact zup_eq | refine (zup_ne (by first | decide | omega)).trans ?_) ?_
    refine s_X1_liftBehind (by assumption) (by assumption) (by assumption) ?_
    refine rX1_liftOnWay_26 ?_
    exact h
  · rw [if_pos (Int32.not_le.mp hb)] at h
    have hR1 := hR.1
    refine rX1_liftOnWay_6 ?_
    refine rX1_liftOnWay_7 ?_
    refine rX1_liftOnWay_8 ?_
    refine rX1_liftOnWay_9 ?_
    refine rX1_liftOnWay_10 (by repeat first | assumption | exact zup_eq | refine (zup_ne (by first | decide | omega)).trans ?_) ?_
    refine s_X1_liftBehind (by assumption) (by assumption) (by assumption) ?_
    refine rX1_liftOnWay_13 ?_
    refine rX1_liftOnWay_26 ?_
    exact h
/-- all rows i to n - 1 stay -/
theorem l_X1_stays {k n : Nat} {l : Nat → Int32} {t : Int32} {sz : Nat} {f : ZH} {P : Option ZVal → Nat → ZH → Prop} (hR : isRos f k n l) (hn : 0 < n) (hn2 : n ≤ 24) : ∀ (d i : Nat), i + d = n → P (some (zi (zb (∀ q, i ≤ q → q < n → lft n l (nI q + t) = lft n l (nI q))))) sz f → Zv none 12 2 [some (zr k), some (zi t), some (zi (nI i))] [] sz f 0 0 P := by
  have hR1 := hR.1
  intro d
  induction d with
  | zero =>
    intro i hi h
    rw [zb_t (p := ∀ q, i ≤ q → q < n → lft n l (nI q + t) = lft n l (nI q)) (fun q h1 h2 => absurd h2 (by omega))] at h
    refine rX1_staysWhenTurned_2 ?_
    refine rX1_staysWhenTurned_3 ?_
    refine rX1_staysWhenTurned_4 (by repeat first | assumption | exact zup_eq | refine (zup_ne (by first | decide | omega)).trans ?_) ?_
    refine rX1_staysWhenTurned_7 (fun _ => ?_) (fun hbb => absurd (nI_le (by omega) (by omega)) hbb)
    refine rX1_staysWhenTurned_33 ?_
    first | refine rX1_staysWhenTurned_34b ?_ | refine rX1_staysWhenTurned_34 (Or.inl rfl) ?_ | refine rX1_staysWhenTurned_34 (Or.inr rfl) ?_
    exact h
  | succ d ih =>
    intro i hi h
    refine rX1_staysWhenTurned_2 ?_
    refine rX1_staysWhenTurned_3 ?_
    refine rX1_staysWhenTurned_4 (by repeat first | assumption | exact zup_eq | refine (zup_ne (by first | decide | omega)).trans ?_) ?_
    refine rX1_staysWhenTurned_7 (fun hbb => absurd hbb (nI_ge (by omega) (by omega))) (fun _ => ?_)
    refine rX1_staysWhenTurned_10 ?_
    refine rX1_staysWhenTurned_11 ?_
    refine rX1_staysWhenTurned_12 ?_
    refine rX1_staysWhenTurned_13 ?_
    refine rX1_staysWhenTurned_14 (by repeat first | assumption | exact zup_eq | refine (zup_ne (by first | decide | omega)).trans ?_) ?_
    refine s_X1_liftBehind (by assumption) (by assumption) (by assumption) ?_
    refine rX1_staysWhenTurned_17 ?_
    refine rX1_staysWhenTurned_18 ?_
    refine rX1_staysWhenTurned_19 (by repeat first | assumption | exact zup_eq | refine (zup_ne (by first | decide | omega)).trans ?_) ?_
    refine s_X1_liftBehind (by assumption) (by assumption) (by assumption) ?_
    refine rX1_staysWhenTurned_22 (fun hb => ?_) (fun hb => ?_)
    · refine rX1_staysWhenTurned_27 ?_
      refine rX1_staysWhenTurned_30 ?_
      rw [nI_1]
      refine ih (i + 1) (by omega) ?_
      have e : (∀ q, i + 1 ≤ q → q < n → lft n l (nI q + t) = lft n l (nI q)) ↔ (∀ q, i ≤ q → q < n → lft n l (nI q + t) = lft n l (nI q)) := by
        refine ⟨fun h1 q h2 h3 => ?_, fun h1 q h2 h3 => h1 q (by omega) h3⟩
        rcases Nat.eq_or_lt_of_le h2 with rfl | h4
        · exact hb
        · exact h1 q h4 h3
      rw [zb_c e]
      exact h
    · rw [zb_f (p := ∀ q, i ≤ q → q < n → lft n l (nI q + t) = lft n l (nI q)) (fun q => hb (q i (Nat.le_refl _) (by omega)))] at h
      refine rX1_staysWhenTurned_25 ?_
      first | refine rX1_staysWhenTurned_26b ?_ | refine rX1_staysWhenTurned_26 (Or.inl rfl) ?_ | refine rX1_staysWhenTurned_26 (Or.inr rfl) ?_
      exact h
/-- turned by t it is as it was -/
def stays (n : Nat) (l : Nat → Int32) (t : Nat) : Prop := ∀ q, 0 ≤ q → q < n → lft n l (nI q + nI t) = lft n l (nI q)
theorem s_X1_stays {k n t : Nat} {l : Nat → Int32} {sz : Nat} {f : ZH} {P : Option ZVal → Nat → ZH → Prop} (hR : isRos f k n l) (hn : 0 < n) (hn2 : n ≤ 24) (h : P (some (zi (zb (stays n l t)))) sz f) : Zv none 12 0 [some (zr k), some (zi (nI t)), none] [] sz f 0 0 P := by
  refine rX1_staysWhenTurned_0 ?_
  refine rX1_staysWhenTurned_1 ?_
  exact l_X1_stays hR hn hn2 n 0 (by omega) h
/-- the least turn from t on, that divides n, by which the rosette stays; n, if none does -/
noncomputable def zper (n : Nat) (l : Nat → Int32) : Nat → Nat → Nat
  | 0, _ => n
  | d + 1, t => @ite _ (n % t = 0 ∧ stays n l t) (Classical.propDecidable _) t (zper n l d (t + 1))
theorem l_X1_period {k n : Nat} {l : Nat → Int32} {sz : Nat} {f : ZH} {P : Option ZVal → Nat → ZH → Prop} (hR : isRos f k n l) (hn : 0 < n) (hn2 : n ≤ 24) : ∀ (d t : Nat), 0 < t → t + d = n → P (some (zi (nI (zper n l d t)))) sz f → Zv none 11 2 [some (zr k), some (zi (nI t))] [] sz f 0 0 P := by
  have hR1 := hR.1
  intro d
  induction d with
  | zero =>
    intro t ht hi h
    refine rX1_period_2 ?_
    refine rX1_period_3 ?_
    refine rX1_period_4 (by repeat first | assumption | exact zup_eq | refine (zup_ne (by first | decide | omega)).trans ?_) ?_
    refine rX1_period_7 (fun _ => ?_) (fun hbb => absurd (nI_le (by omega) (by omega)) hbb)
    refine rX1_period_35 ?_
    refine rX1_period_36 (by repeat first | assumption | exact zup_eq | refine (zup_ne (by first | decide | omega)).trans ?_) ?_
    refine rX1_period_39 ?_
    exact h
  | succ d ih =>
    intro t ht hi h
    have hy : ¬ nI t = 0 := nI_ne ht (by omega)
    refine rX1_period_2 ?_
    refine rX1_period_3 ?_
    refine rX1_period_4 (by repeat first | assumption | exact zup_eq | refine (zup_ne (by first | decide | omega)).trans ?_) ?_
    refine rX1_period_7 (fun hbb => absurd hbb (nI_ge (by omega) (by omega))) (fun _ => ?_)
    refine rX1_period_10 ?_
    refine rX1_period_11 (by repeat first | assumption | exact zup_eq | refine (zup_ne (by first | decide | omega)).trans ?_) ?_
    refine rX1_period_14 ?_
    refine rX1_period_15 (by first | assumption | decide) ?_
    rw [pk_rem (by omega) ht (by omega)]
    by_cases hc : n % t = 0
    · refine rX1_period_16 (fun hbb => absurd (by rw [hc]; rfl) hbb) (fun _ => ?_)
      refine rX1_period_19 ?_
      refine rX1_period_20 ?_
      refine rX1_period_21 (by repeat first | assumption | exact zup_eq | refine (zup_ne (by first | decide | omega)).trans ?_) ?_
      refine s_X1_stays (by assumption) (by assumption) (by assumption) ?_
      refine rX1_period_24b (fun hb => ?_) (fun hb => ?_)
      · rw [zper, if_neg (fun q => hb q.2)] at h
        refine rX1_period_29 ?_
        refine rX1_period_32 ?_
        rw [nI_1]
        exact ih (t + 1) (by omega) (by omega) h
      · rw [zper, if_pos ⟨hc, hb⟩] at h
        refine rX1_period_27 ?_
        refine rX1_period_28 ?_
        exact h
    · refine rX1_period_16 (fun _ => ?_) (fun hbb => absurd hbb (nI_ne (by omega) (by have := Nat.mod_lt n ht; omega)))
      rw [zper, if_neg (fun q => hc q.1)] at h
      refine rX1_period_29 ?_
      refine rX1_period_32 ?_
      rw [nI_1]
      exact ih (t + 1) (by omega) (by omega) h
/-- the period -/
noncomputable def per (n : Nat) (l : Nat → Int32) : Nat := zper n l (n - 1) 1
theorem s_X1_period {k n : Nat} {l : Nat → Int32} {sz : Nat} {f : ZH} {P : Option ZVal → Nat → ZH → Prop} (hR : isRos f k n l) (hn : 0 < n) (hn2 : n ≤ 24) (h : P (some (zi (nI (per n l)))) sz f) : Zv none 11 0 [some (zr k), none] [] sz f 0 0 P := by
  refine rX1_period_0 ?_
  refine rX1_period_1 ?_
  exact l_X1_period hR hn hn2 (n - 1) 1 (by decide) (by omega) h
/-- lift i on the way w: turned, or (100 more) mirrored -/
def wlf (n : Nat) (l : Nat → Int32) (w : Int32) (i : Nat) : Int32 := if w < 100 then lft n l (w + nI i) else lft n l (w - 100 - nI i)
/-- the first place from i on where two rows differ: the first is less there -/
def zlex (a b : Nat → Int32) : Nat → Nat → Bool
  | 0, _ => false
  | d + 1, i => if a i = b i then zlex a b d (i + 1) else decide (a i < b i)
theorem l_X1_comesBefore {k n : Nat} {l : Nat → Int32} {w u : Int32} {sz : Nat} {f : ZH} {P : Option ZVal → Nat → ZH → Prop} (hR : isRos f k n l) (hn : 0 < n) (hn2 : n ≤ 24) : ∀ (d i : Nat) (l4 l5 : Option ZVal), i + d = n → P (some (zi (zb (zlex (wlf n l w) (wlf n l u) d i = true)))) sz f → Zv none 14 2 [some (zr k), some (zi w), some (zi u), some (zi (nI i)), l4, l5] [] sz f 0 0 P := by
  have hR1 := hR.1
  intro d
  induction d with
  | zero =>
    intro i l4 l5 hi h
    rw [zb_f (by rw [zlex]; exact Bool.false_ne_true)] at h
    refine rX1_comesBefore_2 ?_
    refine rX1_comesBefore_3 ?_
    refine rX1_comesBefore_4 (by repeat first | assumption | exact zup_eq | refine (zup_ne (by first | decide | omega)).trans ?_) ?_
    refine rX1_comesBefore_7 (fun _ => ?_) (fun hbb => absurd (nI_le (by omega) (by omega)) hbb)
    refine rX1_comesBefore_52 ?_
    first | refine rX1_comesBefore_53b ?_ | refine rX1_comesBefore_53 (Or.inl rfl) ?_ | refine rX1_comesBefore_53 (Or.inr rfl) ?_
    exact h
  | succ d ih =>
    intro i l4 l5 hi h
    refine rX1_comesBefore_2 ?_
    refine rX1_comesBefore_3 ?_
    refine rX1_comesBefore_4 (by repeat first | assumption | exact zup_eq | refine (zup_ne (by first | decide | omega)).trans ?_) ?_
    refine rX1_comesBefore_7 (fun hbb => absurd hbb (nI_ge (by omega) (by omega))) (fun _ => ?_)
    refine rX1_comesBefore_10 ?_
    refine rX1_comesBefore_11 ?_
    refine rX1_comesBefore_12 ?_
    refine rX1_comesBefore_13 (by repeat first | assumption | exact zup_eq | refine (zup_ne (by first | decide | omega)).trans ?_) ?_
    refine s_X1_liftOnWay (by assumption) (by assumption) (by assumption) ?_
    refine rX1_comesBefore_16 ?_
    refine rX1_comesBefore_18 ?_
    refine rX1_comesBefore_19 ?_
    refine rX1_comesBefore_20 ?_
    refine rX1_comesBefore_21 (by repeat first | assumption | exact zup_eq | refine (zup_ne (by first | decide | omega)).trans ?_) ?_
    refine s_X1_liftOnWay (by assumption) (by assumption) (by assumption) ?_
    refine rX1_comesBefore_24 ?_
    refine rX1_comesBefore_26 ?_
    refine rX1_comesBefore_28 ?_
    refine rX1_comesBefore_30 (fun hb => ?_) (fun hb => ?_)
    · rw [zlex, if_pos (show wlf n l w i = wlf n l u i from hb)] at h
      refine rX1_comesBefore_46 ?_
      refine rX1_comesBefore_49 ?_
      rw [nI_1]
      exact ih (i + 1) _ _ (by omega) h
    · rw [zlex, if_neg (show ¬ wlf n l w i = wlf n l u i from hb)] at h
      refine rX1_comesBefore_33 ?_
      refine rX1_comesBefore_35 ?_
      refine rX1_comesBefore_37 (fun hc => ?_) (fun hc => ?_)
      · rw [zb_f (p := decide (wlf n l w i < wlf n l u i) = true) (fun q => absurd (of_decide_eq_true q) (Int32.not_lt.mpr hc))] at h
        refine rX1_comesBefore_44 ?_
        first | refine rX1_comesBefore_45b ?_ | refine rX1_comesBefore_45 (Or.inl rfl) ?_ | refine rX1_comesBefore_45 (Or.inr rfl) ?_
        exact h
      · rw [zb_t (p := decide (wlf n l w i < wlf n l u i) = true) (decide_eq_true (show wlf n l w i < wlf n l u i from Int32.not_le.mp hc))] at h
        refine rX1_comesBefore_40 ?_
        refine rX1_comesBefore_41 ?_
        first | refine rX1_comesBefore_45b ?_ | refine rX1_comesBefore_45 (Or.inl rfl) ?_ | refine rX1_comesBefore_45 (Or.inr rfl) ?_
        exact h
theorem s_X1_comesBefore {k n : Nat} {l : Nat → Int32} {w u : Int32} {sz : Nat} {f : ZH} {P : Option ZVal → Nat → ZH → Prop} (hR : isRos f k n l) (hn : 0 < n) (hn2 : n ≤ 24) (h : P (some (zi (zb (zlex (wlf n l w) (wlf n l u) n 0 = true)))) sz f) : Zv none 14 0 [some (zr k), some (zi w), some (zi u), none, none, none] [] sz f 0 0 P := by
  refine rX1_comesBefore_0 ?_
  refine rX1_comesBefore_1 ?_
  exact l_X1_comesBefore hR hn hn2 n 0 _ _ (by omega) h
/-- the best way so far against the ways from w0 + t on -/
def zbst (n : Nat) (l : Nat → Int32) (w0 : Nat) : Nat → Nat → Nat → Nat
  | 0, _, b => b
  | d + 1, t, b => zbst n l w0 d (t + 1) (if zlex (wlf n l (nI (w0 + t))) (wlf n l (nI b)) n 0 = true then w0 + t else b)
theorem l_X1_way2 {k n : Nat} {l : Nat → Int32} {sz : Nat} {f : ZH} {P : Option ZVal → Nat → ZH → Prop} (hR : isRos f k n l) (hn : 0 < n) (hn2 : n ≤ 24) : ∀ (d t b : Nat), t + d = n → P (some (zi (nI (zbst n l 100 d t b)))) sz f → Zv none 13 31 [some (zr k), some (zi (nI b)), some (zi (nI t))] [] sz f 0 0 P := by
  have hR1 := hR.1
  intro d
  induction d with
  | zero =>
    intro t b hi h
    refine rX1_wayToName_31 ?_
    refine rX1_wayToName_32 ?_
    refine rX1_wayToName_33 (by repeat first | assumption | exact zup_eq | refine (zup_ne (by first | decide | omega)).trans ?_) ?_
    refine rX1_wayToName_36 (fun _ => ?_) (fun hbb => absurd (nI_le (by omega) (by omega)) hbb)
    refine rX1_wayToName_62 ?_
    refine rX1_wayToName_63 ?_
    exact h
  | succ d ih =>
    intro t b hi h
    have e : (100 : Int32) + nI t = nI (100 + t) := nI_add 100 t
    rw [zbst] at h
    refine rX1_wayToName_31 ?_
    refine rX1_wayToName_32 ?_
    refine rX1_wayToName_33 (by repeat first | assumption | exact zup_eq | refine (zup_ne (by first | decide | omega)).trans ?_) ?_
    refine rX1_wayToName_36 (fun hbb => absurd hbb (nI_ge (by omega) (by omega))) (fun _ => ?_)
    refine rX1_wayToName_39 ?_
    refine rX1_wayToName_40 ?_
    refine rX1_wayToName_42 ?_
    refine rX1_wayToName_43 ?_
    refine rX1_wayToName_44 ?_
    refine rX1_wayToName_45 (by repeat first | assumption | exact zup_eq | refine (zup_ne (by first | decide | omega)).trans ?_) ?_
    refine s_X1_comesBefore (by assumption) (by assumption) (by assumption) ?_
    refine rX1_wayToName_48b (fun hb => ?_) (fun hb => ?_)
    · rw [e] at hb
      rw [if_neg hb] at h
      refine rX1_wayToName_56 ?_
      refine rX1_wayToName_59 ?_
      rw [nI_1]
      exact ih (t + 1) b (by omega) h
    · rw [e] at hb
      rw [if_pos hb] at h
      refine rX1_wayToName_51 ?_
      refine rX1_wayToName_53 ?_
      refine rX1_wayToName_54 ?_
      refine rX1_wayToName_55 ?_
      refine rX1_wayToName_56 ?_
      refine rX1_wayToName_59 ?_
      rw [nI_1, e]
      exact ih (t + 1) (100 + t) (by omega) h
theorem l_X1_way1 {k n : Nat} {l : Nat → Int32} {sz : Nat} {f : ZH} {P : Option ZVal → Nat → ZH → Prop} (hR : isRos f k n l) (hn : 0 < n) (hn2 : n ≤ 24) : ∀ (d t b : Nat), t + d = n → P (some (zi (nI (zbst n l 100 n 0 (zbst n l 0 d t b))))) sz f → Zv none 13 4 [some (zr k), some (zi (nI b)), some (zi (nI t))] [] sz f 0 0 P := by
  have hR1 := hR.1
  intro d
  induction d with
  | zero =>
    intro t b hi h
    refine rX1_wayToName_4 ?_
    refine rX1_wayToName_5 ?_
    refine rX1_wayToName_6 (by repeat first | assumption | exact zup_eq | refine (zup_ne (by first | decide | omega)).trans ?_) ?_
    refine rX1_wayToName_9 (fun _ => ?_) (fun hbb => absurd (nI_le (by omega) (by omega)) hbb)
    refine rX1_wayToName_29 ?_
    refine rX1_wayToName_30 ?_
    exact l_X1_way2 hR hn hn2 n 0 b (by omega) h
  | succ d ih =>
    intro t b hi h
    rw [zbst, Nat.zero_add] at h
    refine rX1_wayToName_4 ?_
    refine rX1_wayToName_5 ?_
    refine rX1_wayToName_6 (by repeat first | assumption | exact zup_eq | refine (zup_ne (by first | decide | omega)).trans ?_) ?_
    refine rX1_wayToName_9 (fun hbb => absurd hbb (nI_ge (by omega) (by omega))) (fun _ => ?_)
    refine rX1_wayToName_12 ?_
    refine rX1_wayToName_13 ?_
    refine rX1_wayToName_14 ?_
    refine rX1_wayToName_15 (by repeat first | assumption | exact zup_eq | refine (zup_ne (by first | decide | omega)).trans ?_) ?_
    refine s_X1_comesBefore (by assumption) (by assumption) (by assumption) ?_
    refine rX1_wayToName_18b (fun hb => ?_) (fun hb => ?_)
    · rw [if_neg hb] at h
      refine rX1_wayToName_23 ?_
      refine rX1_wayToName_26 ?_
      rw [nI_1]
      exact ih (t + 1) b (by omega) h
    · rw [if_pos hb] at h
      refine rX1_wayToName_21 ?_
      refine rX1_wayToName_22 ?_
      refine rX1_wayToName_23 ?_
      refine rX1_wayToName_26 ?_
      rw [nI_1]
      exact ih (t + 1) t (by omega) h
/-- the way to the name -/
def way (n : Nat) (l : Nat → Int32) : Nat := zbst n l 100 n 0 (zbst n l 0 (n - 1) 1 0)
theorem s_X1_wayToName {k n : Nat} {l : Nat → Int32} {sz : Nat} {f : ZH} {P : Option ZVal → Nat → ZH → Prop} (hR : isRos f k n l) (hn : 0 < n) (hn2 : n ≤ 24) (h : P (some (zi (nI (way n l)))) sz f) : Zv none 13 0 [some (zr k), none, none] [] sz f 0 0 P := by
  refine rX1_wayToName_0 ?_
  refine rX1_wayToName_1 ?_
  refine rX1_wayToName_2 ?_
  refine rX1_wayToName_3 ?_
  exact l_X1_way1 hR hn hn2 (n - 1) 1 0 (by omega) h
