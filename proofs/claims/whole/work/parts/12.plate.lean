/-! THE PLATE: the object at 6, its row at 7, the cells at 8 -/
def isPl (f : ZH) (p : Nat → Int32) : Prop := f 6 = some (zO 0 [zr 7]) ∧ f 7 = some (zO 2 [zr 8]) ∧ isArr f 8 576 p
theorem isPl.keep {f f' : ZH} {p : Nat → Int32} (h : isPl f p) (e6 : f' 6 = f 6) (e7 : f' 7 = f 7) (e8 : f' 8 = f 8) : isPl f' p := ⟨by rw [e6]; exact h.1, by rw [e7]; exact h.2.1, h.2.2.keep e8⟩
theorem i48 (r t : Nat) : nI r * 48 + nI t = nI (r * 48 + t) := by
  rw [show (48 : Int32) = nI 48 from rfl, pk_mul, nI_add]
/-- how many of the first n -/
def cntB (b : Nat → Bool) : Nat → Nat
  | 0 => 0
  | n + 1 => cntB b n + (if b n then 1 else 0)
theorem cntB_le (b : Nat → Bool) : ∀ n, cntB b n ≤ n
  | 0 => Nat.le_refl _
  | n + 1 => by
    have := cntB_le b n
    rw [cntB]
    split <;> omega
def sumN (g : Nat → Nat) : Nat → Nat
  | 0 => 0
  | n + 1 => sumN g n + g n
theorem s_X0_look {r t : Nat} {p : Nat → Int32} {sz : Nat} {f : ZH} {P : Option ZVal → Nat → ZH → Prop} (hp : isPl f p) (hr : r < 12) (ht : t < 48) (h : P (some (zi (p (r * 48 + t)))) sz f) : Zv none 1 0 [some (zr 6), some (zi (nI r)), some (zi (nI t))] [] sz f 0 0 P := by
  obtain ⟨h1, h2, g, h3, hg⟩ := hp
  rw [← hg _ (by omega)] at h
  refine rX0_look_0 ?_
  refine rX0_look_1 (by repeat first | assumption | exact zup_eq | refine (zup_ne (by first | decide | omega)).trans ?_) ?_
  refine rX0_look_4 ?_
  refine rX0_look_5 ?_
  refine rX0_look_7 ?_
  refine rX0_look_8 ?_
  refine rX0_look_9 ?_
  rw [i48]
  refine rX0_look_10 (by repeat first | assumption | exact zup_eq | refine (zup_ne (by first | decide | omega)).trans ?_) ?_
  refine s_X2_get (by repeat first | assumption | exact zup_eq | refine (zup_ne (by first | decide | omega)).trans ?_) (by repeat first | assumption | exact zup_eq | refine (zup_ne (by first | decide | omega)).trans ?_) (by first | assumption | decide | omega) (by first | assumption | decide | omega) ?_
  refine rX0_look_13 ?_
  exact h
theorem s_X0_mark {r t : Nat} {p : Nat → Int32} {v : Int32} {sz : Nat} {f : ZH} {P : Option ZVal → Nat → ZH → Prop} (hp : isPl f p) (hr : r < 12) (ht : t < 48) (h : ∀ f', isPl f' (upd p (r * 48 + t) v) → (∀ j, j ≠ 8 → f' j = f j) → P none sz f') : Zv none 2 0 [some (zr 6), some (zi (nI r)), some (zi (nI t)), some (zi v)] [] sz f 0 0 P := by
  obtain ⟨h1, h2, g, h3, hg⟩ := hp
  refine rX0_mark_0 ?_
  refine rX0_mark_1 (by repeat first | assumption | exact zup_eq | refine (zup_ne (by first | decide | omega)).trans ?_) ?_
  refine rX0_mark_4 ?_
  refine rX0_mark_5 ?_
  refine rX0_mark_7 ?_
  refine rX0_mark_8 ?_
  refine rX0_mark_9 ?_
  rw [i48]
  refine rX0_mark_10 ?_
  refine rX0_mark_11 (by repeat first | assumption | exact zup_eq | refine (zup_ne (by first | decide | omega)).trans ?_) ?_
  refine s_X2_put (by repeat first | assumption | exact zup_eq | refine (zup_ne (by first | decide | omega)).trans ?_) (by repeat first | assumption | exact zup_eq | refine (zup_ne (by first | decide | omega)).trans ?_) (by first | assumption | decide | omega) (by first | assumption | decide | omega) ?_
  refine rX0_mark_14 ?_
  refine h _ ⟨(zup_ne (by decide)).trans h1, (zup_ne (by decide)).trans h2, _, zup_eq, fun i hi => ?_⟩ fun j hj => zup_ne hj
  by_cases hiq : i = r * 48 + t
  · rw [hiq, upd_s, upd_s]
  · rw [upd_n hiq, upd_n hiq, hg i hi]
def seenB (p : Nat → Int32) (r t : Nat) : Bool := decide (¬ p (r * 48 + t) = -1)
theorem l_X0_seenIn {r : Nat} {p : Nat → Int32} {sz : Nat} {f : ZH} {P : Option ZVal → Nat → ZH → Prop} (hp : isPl f p) (hr : r < 12) (h : P (some (zi (nI (cntB (seenB p r) 48)))) sz f) : ∀ (d t : Nat), t + d = 48 → Zv none 5 4 [some (zr 6), some (zi (nI r)), some (zi (nI (cntB (seenB p r) t))), some (zi (nI t))] [] sz f 0 0 P := by
  have hp1 := hp.1
  intro d
  induction d with
  | zero =>
    intro t ht
    obtain rfl : t = 48 := by omega
    refine rX0_seenIn_4 ?_
    refine rX0_seenIn_5 ?_
    refine rX0_seenIn_7 (fun _ => ?_) (fun hbb => absurd (by decide) hbb)
    refine rX0_seenIn_29 ?_
    refine rX0_seenIn_30 ?_
    exact h
  | succ d ih =>
    intro t ht
    have ih := ih (t + 1) (by omega)
    rw [cntB] at ih
    refine rX0_seenIn_4 ?_
    refine rX0_seenIn_5 ?_
    refine rX0_seenIn_7 (fun hbb => absurd hbb (nI_ge (b := 48) (by omega) (by decide))) (fun _ => ?_)
    refine rX0_seenIn_10 ?_
    refine rX0_seenIn_11 ?_
    refine rX0_seenIn_12 ?_
    refine rX0_seenIn_13 (by repeat first | assumption | exact zup_eq | refine (zup_ne (by first | decide | omega)).trans ?_) ?_
    refine s_X0_look (by assumption) (by first | assumption | omega) (by first | assumption | omega) ?_
    refine rX0_seenIn_16 ?_
    refine rX0_seenIn_17 (fun hb => ?_) (fun hb => ?_)
    · rw [show seenB p r t = false from decide_eq_false (fun q => q hb)] at ih
      refine rX0_seenIn_23 ?_
      refine rX0_seenIn_26 ?_
      rw [nI_1]
      exact ih
    · rw [show seenB p r t = true from decide_eq_true hb] at ih
      refine rX0_seenIn_20 ?_
      refine rX0_seenIn_23 ?_
      refine rX0_seenIn_26 ?_
      rw [nI_1, nI_1]
      exact ih
theorem s_X0_seenIn {r : Nat} {p : Nat → Int32} {sz : Nat} {f : ZH} {P : Option ZVal → Nat → ZH → Prop} (hp : isPl f p) (hr : r < 12) (h : P (some (zi (nI (cntB (seenB p r) 48)))) sz f) : Zv none 5 0 [some (zr 6), some (zi (nI r)), none, none] [] sz f 0 0 P := by
  refine rX0_seenIn_0 ?_
  refine rX0_seenIn_1 ?_
  refine rX0_seenIn_2 ?_
  refine rX0_seenIn_3 ?_
  exact l_X0_seenIn hp hr h 48 0 rfl
theorem s_X0_seen {p : Nat → Int32} {sz : Nat} {f : ZH} {P : Option ZVal → Nat → ZH → Prop} (hp : isPl f p) (h : P (some (zi (nI (sumN (fun r => cntB (seenB p r) 48) 12)))) sz f) : Zv none 3 0 [some (zr 6), none, none] [] sz f 0 0 P := by
  have hp1 := hp.1
  refine rX0_seen_0 ?_
  refine rX0_seen_1 ?_
  refine rX0_seen_2 ?_
  refine rX0_seen_3 ?_
  have key : ∀ (d r : Nat), r + d = 12 → Zv none 3 4 [some (zr 6), some (zi (nI (sumN (fun r => cntB (seenB p r) 48) r))), some (zi (nI r))] [] sz f 0 0 P := by
    intro d
    induction d with
    | zero =>
      intro r hr
      obtain rfl : r = 12 := by omega
      refine rX0_seen_4 ?_
      refine rX0_seen_5 ?_
      refine rX0_seen_7 (fun _ => ?_) (fun hbb => absurd (by decide) hbb)
      refine rX0_seen_24 ?_
      refine rX0_seen_25 ?_
      exact h
    | succ d ih =>
      intro r hr
      have ih := ih (r + 1) (by omega)
      rw [sumN] at ih
      refine rX0_seen_4 ?_
      refine rX0_seen_5 ?_
      refine rX0_seen_7 (fun hbb => absurd hbb (nI_ge (b := 12) (by omega) (by decide))) (fun _ => ?_)
      refine rX0_seen_10 ?_
      refine rX0_seen_11 ?_
      refine rX0_seen_12 ?_
      refine rX0_seen_13 (by repeat first | assumption | exact zup_eq | refine (zup_ne (by first | decide | omega)).trans ?_) ?_
      refine s_X0_seenIn (by assumption) (by first | assumption | omega) ?_
      refine rX0_seen_16 ?_
      refine rX0_seen_17 ?_
      refine rX0_seen_18 ?_
      refine rX0_seen_21 ?_
      rw [nI_1, nI_add]
      exact ih
  exact key 12 0 rfl
theorem s_X0_ringsSeen {p : Nat → Int32} {sz : Nat} {f : ZH} {P : Option ZVal → Nat → ZH → Prop} (hp : isPl f p) (h : P (some (zi (nI (cntB (fun r => decide (0 < cntB (seenB p r) 48)) 12)))) sz f) : Zv none 4 0 [some (zr 6), none, none] [] sz f 0 0 P := by
  have hp1 := hp.1
  refine rX0_ringsSeen_0 ?_
  refine rX0_ringsSeen_1 ?_
  refine rX0_ringsSeen_2 ?_
  refine rX0_ringsSeen_3 ?_
  have key : ∀ (d r : Nat), r + d = 12 → Zv none 4 4 [some (zr 6), some (zi (nI (cntB (fun r => decide (0 < cntB (seenB p r) 48)) r))), some (zi (nI r))] [] sz f 0 0 P := by
    intro d
    induction d with
    | zero =>
      intro r hr
      obtain rfl : r = 12 := by omega
      refine rX0_ringsSeen_4 ?_
      refine rX0_ringsSeen_5 ?_
      refine rX0_ringsSeen_7 (fun _ => ?_) (fun hbb => absurd (by decide) hbb)
      refine rX0_ringsSeen_27 ?_
      refine rX0_ringsSeen_28 ?_
      exact h
    | succ d ih =>
      intro r hr
      have ih := ih (r + 1) (by omega)
      have hle := cntB_le (seenB p r) 48
      rw [cntB] at ih
      refine rX0_ringsSeen_4 ?_
      refine rX0_ringsSeen_5 ?_
      refine rX0_ringsSeen_7 (fun hbb => absurd hbb (nI_ge (b := 12) (by omega) (by decide))) (fun _ => ?_)
      refine rX0_ringsSeen_10 ?_
      refine rX0_ringsSeen_11 ?_
      refine rX0_ringsSeen_12 (by repeat first | assumption | exact zup_eq | refine (zup_ne (by first | decide | omega)).trans ?_) ?_
      refine s_X0_seenIn (by assumption) (by first | assumption | omega) ?_
      by_cases hc : 0 < cntB (seenB p r) 48
      · refine rX0_ringsSeen_15 (fun hbb => absurd hbb (nI_nle hc (by omega))) (fun _ => ?_)
        rw [if_pos (by exact decide_eq_true hc)] at ih
        refine rX0_ringsSeen_18 ?_
        refine rX0_ringsSeen_21 ?_
        refine rX0_ringsSeen_24 ?_
        rw [nI_1, nI_1]
        exact ih
      · refine rX0_ringsSeen_15 (fun _ => ?_) (fun hbb => absurd (by rw [show cntB (seenB p r) 48 = 0 by omega]; decide) hbb)
        rw [if_neg (by rw [decide_eq_false hc]; exact Bool.false_ne_true)] at ih
        refine rX0_ringsSeen_21 ?_
        refine rX0_ringsSeen_24 ?_
        rw [nI_1]
        exact ih
  exact key 12 0 rfl
