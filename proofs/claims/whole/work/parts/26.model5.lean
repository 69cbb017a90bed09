/-! THE REFERENCE: the plate, and the slip that is shown -/
/-- seen, as the reference asks it -/
def posB (p : Nat → Int32) (i : Nat) : Bool := decide (¬ p i < 0)
section MR5
variable {n : Nat → Nat} {l : Nat → Nat → Int32} {o s p : Nat → Int32} {sz : Nat} {P : Option ZVal → Nat → ZH → Prop}
theorem m_see_bad {f : ZH} {r x v : Int32} (hb : ¬ (inR r 0 11 ∧ inR x 0 47 ∧ inR v (-1) 2000)) (h : P (some (zi (-100))) sz f) : Zv none 107 0 [some (zr 37), some (zi r), some (zi x), some (zi v), none] [] sz f 0 0 P := by
  refine rX6_see_0 ?_
  refine rX6_see_1 ?_
  refine rX6_see_2 ?_
  refine rX6_see_4  ?_
  refine m_in ?_
  refine rX6_see_7b (fun _ => ?_) (fun h1 => ?_)
  · refine rX6_see_31 ?_
    refine rX6_see_33 ?_
    exact h
  refine rX6_see_10 ?_
  refine rX6_see_11 ?_
  refine rX6_see_12 ?_
  refine rX6_see_14  ?_
  refine m_in ?_
  refine rX6_see_17b (fun _ => ?_) (fun h2 => ?_)
  · refine rX6_see_31 ?_
    refine rX6_see_33 ?_
    exact h
  refine rX6_see_20 ?_
  refine rX6_see_21 ?_
  refine rX6_see_22 ?_
  refine rX6_see_25  ?_
  refine m_in ?_
  refine rX6_see_28b (fun hbb => absurd hbb (fun z => hb ⟨h1, h2, z⟩)) (fun _ => ?_)
  refine rX6_see_31 ?_
  refine rX6_see_33 ?_
  exact h
theorem MP.plate {f f' : ZH} {p' : Nat → Int32} (hM : MP f n l o s p) (e : ∀ j, j ≠ 43 → f' j = f j) (h : isArr f' 43 576 p') : MP f' n l o s p' := by
  obtain ⟨h37, h38, ⟨gl, h39, hgl⟩, h40, ⟨gx, h41⟩, h42, h43, gh, h44⟩ := hM
  exact ⟨(e _ (by decide)).trans h37, h38.keep (e _ (by decide)), ⟨gl, (e _ (by decide)).trans h39, hgl⟩, h40.keep (e _ (by decide)), ⟨gx, (e _ (by decide)).trans h41⟩, h42.keep (e _ (by decide)), h, gh, (e _ (by decide)).trans h44⟩
theorem m_see_ok {f : ZH} {r t : Nat} {v : Int32} (hM : MP f n l o s p) (hr : r < 12) (ht : t < 48) (hv : inR v (-1) 2000) (h : ∀ f', MP f' n l o s (upd p (r * 48 + t) v) → lo f f' → P (some (zi (p (r * 48 + t)))) sz f') : Zv none 107 0 [some (zr 37), some (zi (nI r)), some (zi (nI t)), some (zi v), none] [] sz f 0 0 P := by
  obtain ⟨h37, -, -, -, -, -, ⟨g, h43, hg⟩, -⟩ := id hM
  rw [← hg _ (by omega)] at h
  refine rX6_see_0 ?_
  refine rX6_see_1 ?_
  refine rX6_see_2 ?_
  refine rX6_see_4  ?_
  refine m_in ?_
  refine rX6_see_7b (fun hbb => absurd (inR011 hr) hbb) (fun _ => ?_)
  refine rX6_see_10 ?_
  refine rX6_see_11 ?_
  refine rX6_see_12 ?_
  refine rX6_see_14  ?_
  refine m_in ?_
  refine rX6_see_17b (fun hbb => absurd ⟨nI_pos' (by omega), nI_le (b := 47) (by omega) (by decide)⟩ hbb) (fun _ => ?_)
  refine rX6_see_20 ?_
  refine rX6_see_21 ?_
  refine rX6_see_22 ?_
  refine rX6_see_25  ?_
  refine m_in ?_
  refine rX6_see_28b (fun _ => ?_) (fun hbb => absurd hv hbb)
  refine rX6_see_34 ?_
  refine rX6_see_35 (by repeat first | assumption | exact zup_eq | refine (zup_ne (by first | decide | omega)).trans ?_) ?_
  refine rX6_see_38 ?_
  refine rX6_see_40 ?_
  refine rX6_see_41 ?_
  refine rX6_see_42 ?_
  refine rX6_see_43 ?_
  rw [i48']
  refine rX6_see_44N h43 (by omega) (by decide) ?_
  refine rX6_see_45 ?_
  refine rX6_see_47 ?_
  refine rX6_see_48 (by repeat first | assumption | exact zup_eq | refine (zup_ne (by first | decide | omega)).trans ?_) ?_
  refine rX6_see_51 ?_
  refine rX6_see_53 ?_
  refine rX6_see_54 ?_
  refine rX6_see_55 ?_
  refine rX6_see_56 ?_
  rw [i48']
  refine rX6_see_57 ?_
  refine rX6_see_58N h43 (by omega) (by decide) ?_
  refine rX6_see_59 ?_
  refine rX6_see_61 ?_
  refine h _ (hM.plate (fun j hj => zup_ne hj) ⟨_, zup_eq, fun i hi => ?_⟩) (fun j hj => zup_ne (by omega))
  by_cases hir : i = r * 48 + t
  · rw [hir, upd_s, upd_s]
  · rw [upd_n hir, upd_n hir, hg i hi]
theorem m_seen {f : ZH} (hM : MP f n l o s p) (h : P (some (zi (nI (cntB (posB p) 576)))) sz f) : Zv none 108 0 [some (zr 37), none, none] [] sz f 0 0 P := by
  obtain ⟨h37, -, -, -, -, -, ⟨g, h43, hg⟩, -⟩ := id hM
  have key : ∀ (d k : Nat), k + d = 576 → Zv none 108 4 [some (zr 37), some (zi (nI (cntB (posB p) k))), some (zi (nI k))] [] sz f 0 0 P := by
    intro d
    induction d with
    | zero =>
      intro k hk
      obtain rfl : k = 576 := by omega
      refine rX6_seen_4 ?_
      refine rX6_seen_5 ?_
      refine rX6_seen_8 (fun _ => ?_) (fun hbb => absurd (by decide) hbb)
      refine rX6_seen_34 ?_
      refine rX6_seen_35 ?_
      exact h
    | succ d ih =>
      intro k hk
      have ih := ih (k + 1) (by omega)
      rw [cntB] at ih
      refine rX6_seen_4 ?_
      refine rX6_seen_5 ?_
      refine rX6_seen_8 (fun hbb => absurd hbb (nI_ge (b := 576) (by omega) (by decide))) (fun _ => ?_)
      refine rX6_seen_11 ?_
      refine rX6_seen_12 ?_
      refine rX6_seen_13 (by repeat first | assumption | exact zup_eq | refine (zup_ne (by first | decide | omega)).trans ?_) ?_
      refine rX6_seen_16 ?_
      first | refine rX6_seen_17N (by repeat first | assumption | exact zup_eq | refine (zup_ne (by first | decide | omega)).trans ?_) (by first | assumption | decide | omega) (by first | decide | omega) ?_ | refine rX6_seen_17 (by repeat first | assumption | exact zup_eq | refine (zup_ne (by first | decide | omega)).trans ?_) (by first | assumption | decide) ?_
      rw [hg k (by omega)]
      refine rX6_seen_18 (fun hb => ?_) (fun hb => ?_)
      · rw [if_pos (show posB p k = true from decide_eq_true (Int32.not_lt.mpr hb))] at ih
        refine rX6_seen_25 ?_
        refine rX6_seen_26 ?_
        refine rX6_seen_27 ?_
        refine rX6_seen_28 ?_
        refine rX6_seen_31 ?_
        rw [nI_1, nI_1]
        exact ih
      · rw [if_neg (by rw [show posB p k = false from decide_eq_false (fun z => z (Int32.not_le.mp hb))]; exact Bool.false_ne_true)] at ih
        refine rX6_seen_21 ?_
        refine rX6_seen_22 ?_
        refine rX6_seen_26 ?_
        refine rX6_seen_27 ?_
        refine rX6_seen_28 ?_
        refine rX6_seen_31 ?_
        rw [nI_1, Int32.add_zero]
        exact ih
  refine rX6_seen_0 ?_
  refine rX6_seen_1 ?_
  refine rX6_seen_2 ?_
  refine rX6_seen_3 ?_
  exact key 576 0 rfl
theorem m_isRing {f : ZH} {k : Nat} (hM : MP f n l o s p) (hk : k < 12) (h : P (some (zi (zb (∃ t, t < 48 ∧ 0 ≤ p (k * 48 + t))))) sz f) : Zv none 109 0 [some (zr 37), some (zi (nI k)), none, none] [] sz f 0 0 P := by
  obtain ⟨h37, -, -, -, -, -, ⟨g, h43, hg⟩, -⟩ := id hM
  have key : ∀ (d t : Nat), t + d = 48 → Zv none 109 4 [some (zr 37), some (zi (nI k)), some (zi (zb (∃ u, u < t ∧ 0 ≤ p (k * 48 + u)))), some (zi (nI t))] [] sz f 0 0 P := by
    intro d
    induction d with
    | zero =>
      intro t ht
      obtain rfl : t = 48 := by omega
      refine rX6_isRing_4 ?_
      refine rX6_isRing_5 ?_
      refine rX6_isRing_7 (fun _ => ?_) (fun hbb => absurd (by decide) hbb)
      refine rX6_isRing_40 ?_
      first | refine rX6_isRing_41b ?_ | refine rX6_isRing_41 (Or.inl rfl) ?_ | refine rX6_isRing_41 (Or.inr rfl) ?_
      exact h
    | succ d ih =>
      intro t ht
      have ih := ih (t + 1) (by omega)
      have go : ∀ x l2, x = zb (∃ u, u < t + 1 ∧ 0 ≤ p (k * 48 + u)) → Zv none 109 33 [some (zr 37), some (zi (nI k)), l2, some (zi (nI t))] [zi x] sz f 0 0 P := by
        intro x l2 hx
        subst hx
        refine rX6_isRing_33 ?_
        refine rX6_isRing_34 ?_
        refine rX6_isRing_37 ?_
        rw [nI_1]
        exact ih
      refine rX6_isRing_4 ?_
      refine rX6_isRing_5 ?_
      refine rX6_isRing_7 (fun hbb => absurd hbb (nI_ge (b := 48) (by omega) (by decide))) (fun _ => ?_)
      refine rX6_isRing_10 ?_
      refine rX6_isRing_11b (fun hb => ?_) (fun hb => ?_)
      · obtain ⟨u, h1, h2⟩ := hb
        refine rX6_isRing_28 ?_
        refine rX6_isRing_29 ?_
        exact go 1 _ (zb_t ⟨u, by omega, h2⟩).symm
      · refine rX6_isRing_14 ?_
        refine rX6_isRing_15 (by repeat first | assumption | exact zup_eq | refine (zup_ne (by first | decide | omega)).trans ?_) ?_
        refine rX6_isRing_18 ?_
        refine rX6_isRing_20 ?_
        refine rX6_isRing_21 ?_
        refine rX6_isRing_22 ?_
        refine rX6_isRing_23 ?_
        rw [i48']
        refine rX6_isRing_24N h43 (by omega) (by decide) ?_
        rw [hg _ (by omega)]
        refine rX6_isRing_25 (fun hc => ?_) (fun hc => ?_)
        · refine rX6_isRing_32 ?_
          refine go 0 _ (zb_f (fun ⟨u, h1, h2⟩ => ?_)).symm
          by_cases hut : u = t
          · rw [hut] at h2; exact absurd hc (Int32.not_lt.mpr h2)
          · exact hb ⟨u, by omega, h2⟩
        · refine rX6_isRing_28 ?_
          refine rX6_isRing_29 ?_
          exact go 1 _ (zb_t ⟨t, by omega, Int32.not_lt.mp hc⟩).symm
  refine rX6_isRing_0 ?_
  refine rX6_isRing_1 ?_
  refine rX6_isRing_2 ?_
  refine rX6_isRing_3 ?_
  have := key 48 0 rfl
  rw [zb_f (p := ∃ u, u < 0 ∧ 0 ≤ p (k * 48 + u)) (fun ⟨u, h1, _⟩ => absurd h1 (by omega))] at this
  exact this
noncomputable def ringB (p : Nat → Int32) (k : Nat) : Bool := resB (∃ t, t < 48 ∧ 0 ≤ p (k * 48 + t))
theorem m_ringsSeen {f : ZH} (hM : MP f n l o s p) (h : P (some (zi (nI (cntB (ringB p) 12)))) sz f) : Zv none 110 0 [some (zr 37), none, none] [] sz f 0 0 P := by
  have h37 := hM.1
  have key : ∀ (d k : Nat), k + d = 12 → Zv none 110 4 [some (zr 37), some (zi (nI (cntB (ringB p) k))), some (zi (nI k))] [] sz f 0 0 P := by
    intro d
    induction d with
    | zero =>
      intro k hk
      obtain rfl : k = 12 := by omega
      refine rX6_ringsSeen_4 ?_
      refine rX6_ringsSeen_5 ?_
      refine rX6_ringsSeen_7 (fun _ => ?_) (fun hbb => absurd (by decide) hbb)
      refine rX6_ringsSeen_32 ?_
      refine rX6_ringsSeen_33 ?_
      exact h
    | succ d ih =>
      intro k hk
      have ih := ih (k + 1) (by omega)
      rw [cntB] at ih
      refine rX6_ringsSeen_4 ?_
      refine rX6_ringsSeen_5 ?_
      refine rX6_ringsSeen_7 (fun hbb => absurd hbb (nI_ge (b := 12) (by omega) (by decide))) (fun _ => ?_)
      refine rX6_ringsSeen_10 ?_
      refine rX6_ringsSeen_11 ?_
      refine rX6_ringsSeen_12 ?_
      refine rX6_ringsSeen_13 (by repeat first | assumption | exact zup_eq | refine (zup_ne (by first | decide | omega)).trans ?_) ?_
      refine m_isRing hM (by omega) ?_
      refine rX6_ringsSeen_16b (fun hb => ?_) (fun hb => ?_)
      · rw [if_neg (by rw [show ringB p k = false from resB_f hb]; exact Bool.false_ne_true)] at ih
        refine rX6_ringsSeen_23 ?_
        refine rX6_ringsSeen_24 ?_
        refine rX6_ringsSeen_25 ?_
        refine rX6_ringsSeen_26 ?_
        refine rX6_ringsSeen_29 ?_
        rw [nI_1, Int32.add_zero]
        exact ih
      · rw [if_pos (show ringB p k = true from resB_t hb)] at ih
        refine rX6_ringsSeen_19 ?_
        refine rX6_ringsSeen_20 ?_
        refine rX6_ringsSeen_24 ?_
        refine rX6_ringsSeen_25 ?_
        refine rX6_ringsSeen_26 ?_
        refine rX6_ringsSeen_29 ?_
        rw [nI_1, nI_1]
        exact ih
  refine rX6_ringsSeen_0 ?_
  refine rX6_ringsSeen_1 ?_
  refine rX6_ringsSeen_2 ?_
  refine rX6_ringsSeen_3 ?_
  exact key 12 0 rfl
theorem m_print_bad {f : ZH} {x : Int32} (hb : ¬ inR x 1 12) (h : P (some (zi (-1))) sz f) : Zv none 111 0 [some (zr 37), some (zi x), none, none, none] [] sz f 0 0 P := by
  refine rX6_print_0 ?_
  refine rX6_print_1 ?_
  refine rX6_print_2 ?_
  refine rX6_print_4  ?_
  refine m_in ?_
  refine rX6_print_7b (fun hbb => absurd hbb hb) (fun _ => ?_)
  refine rX6_print_10 ?_
  refine rX6_print_11 ?_
  exact h
theorem m_print_ok {q m : Nat} {f : ZH} (hM : MP f n l o s p) (hq : q < 4) (ho : o 0 = nI q) (hn : 0 < n q) (hn2 : n q ≤ 24) (hm : 1 ≤ m) (hm2 : m ≤ 12) (h : ∀ f', MP f' n l o s (prt (n q) (l q) o s m) → lo f f' → P (some (zi (nI (cntB (posB (prt (n q) (l q) o s m)) 576)))) sz f') : Zv none 111 0 [some (zr 37), some (zi (nI m)), none, none, none] [] sz f 0 0 P := by
  refine rX6_print_0 ?_
  refine rX6_print_1 ?_
  refine rX6_print_2 ?_
  refine rX6_print_4  ?_
  refine m_in ?_
  refine rX6_print_7b (fun _ => ?_) (fun hbb => absurd ⟨nI_le (a := 1) hm (by omega), nI_le (b := 12) hm2 (by decide)⟩ hbb)
  refine rX6_print_12 ?_
  refine rX6_print_13 ?_
  have inner : ∀ (d t k : Nat) (f1 : ZH) (p1 : Nat → Int32) (l4 : Option ZVal), t + d = 48 → k < 12 → MP f1 n l o s p1 → lo f f1 → (∀ i, i < k * 48 + t → p1 i = prt (n q) (l q) o s m i) → (∀ f2 p2 l4, MP f2 n l o s p2 → lo f f2 → (∀ i, i < (k + 1) * 48 → p2 i = prt (n q) (l q) o s m i) → Zv none 111 80 [some (zr 37), some (zi (nI m)), some (zi (nI k)), some (zi (nI 48)), l4] [] sz f2 0 0 P) → Zv none 111 22 [some (zr 37), some (zi (nI m)), some (zi (nI k)), some (zi (nI t)), l4] [] sz f1 0 0 P := by
    intro d
    induction d with
    | zero =>
      intro t k f1 p1 l4 ht hk hM1 hh hp h
      obtain rfl : t = 48 := by omega
      refine rX6_print_22 ?_
      refine rX6_print_23 ?_
      refine rX6_print_25 (fun _ => ?_) (fun hbb => absurd (by decide) hbb)
      exact h f1 p1 _ hM1 hh (fun i hi => hp i (by omega))
    | succ d ih =>
      intro t k f1 p1 l4 ht hk hM1 hh hp h
      obtain ⟨h37, -, -, -, -, -, ⟨g, h43, hg⟩, -⟩ := id hM1
      have e0 : prt (n q) (l q) o s m (k * 48 + t) = if k < m then @ite _ (inR (plS (n q) (l q) o s k (nI t)) 0 2000) (Classical.propDecidable _) (plS (n q) (l q) o s k (nI t)) (-1) else -1 := by
        unfold prt
        rw [div48 k t (by omega), mod48 k t (by omega)]
      -- the store of v at 73
      have next : ∀ v l4, v = prt (n q) (l q) o s m (k * 48 + t) → Zv none 111 73 [some (zr 37), some (zi (nI m)), some (zi (nI k)), some (zi (nI t)), l4] [zi v, zi (nI (k * 48 + t)), zr 43] sz f1 0 0 P := by
        intro v l4 hv
        refine rX6_print_73N h43 (by omega) (by decide) ?_
        refine rX6_print_74 ?_
        refine rX6_print_77 ?_
        rw [nI_1]
        refine ih (t + 1) k _ (upd p1 (k * 48 + t) v) _ (by omega) hk (hM1.plate (fun j hj => zup_ne hj) ⟨_, zup_eq, fun i hi => ?_⟩) (fun j hj => (zup_ne (by omega)).trans (hh j hj)) (fun i hi => ?_) h
        · by_cases hi2 : i = k * 48 + t
          · rw [hi2, upd_s, upd_s]
          · rw [upd_n hi2, upd_n hi2, hg i hi]
        · by_cases hi2 : i = k * 48 + t
          · rw [hi2, upd_s, hv]
          · rw [upd_n hi2, hp i (by omega)]
      -- from 43 on with v on the stack
      have mid : ∀ v l4, (@ite _ (inR v 0 2000) (Classical.propDecidable _) v (-1)) = prt (n q) (l q) o s m (k * 48 + t) → Zv none 111 43 [some (zr 37), some (zi (nI m)), some (zi (nI k)), some (zi (nI t)), l4] [zi v] sz f1 0 0 P := by
        intro v l4 hv
        refine rX6_print_43 ?_
        refine rX6_print_45 ?_
        refine rX6_print_46 (by repeat first | assumption | exact zup_eq | refine (zup_ne (by first | decide | omega)).trans ?_) ?_
        refine rX6_print_49 ?_
        refine rX6_print_51 ?_
        refine rX6_print_52 ?_
        refine rX6_print_53 ?_
        refine rX6_print_54 ?_
        rw [i48']
        refine rX6_print_55 ?_
        refine rX6_print_57 ?_
        refine rX6_print_58 ?_
        refine rX6_print_61  ?_
        refine m_in ?_
        refine rX6_print_64b (fun hb => ?_) (fun hb => ?_)
        · rw [if_neg hb] at hv
          refine rX6_print_72 ?_
          exact next _ _ hv
        · rw [if_pos hb] at hv
          refine rX6_print_67 ?_
          refine rX6_print_69 ?_
          exact next _ _ hv
      refine rX6_print_22 ?_
      refine rX6_print_23 ?_
      refine rX6_print_25 (fun hbb => absurd hbb (nI_ge (b := 48) (by omega) (by decide))) (fun _ => ?_)
      refine rX6_print_28 ?_
      refine rX6_print_29 ?_
      by_cases hkm : k < m
      · rw [if_pos hkm] at e0
        refine rX6_print_30 (fun hbb => absurd hbb (nI_ge hkm (by omega))) (fun _ => ?_)
        refine rX6_print_33 ?_
        refine rX6_print_34 ?_
        refine rX6_print_35 ?_
        refine rX6_print_36 (by repeat first | assumption | exact zup_eq | refine (zup_ne (by first | decide | omega)).trans ?_) ?_
        refine m_placeAt hM1 hq ho hn hn2 hk ?_
        refine rX6_print_39 ?_
        exact mid _ _ e0.symm
      · rw [if_neg hkm] at e0
        refine rX6_print_30 (fun _ => ?_) (fun hbb => absurd (nI_le (by omega) (by omega)) hbb)
        refine rX6_print_42 ?_
        refine mid _ _ ?_
        rw [if_neg (by intro z; exact absurd z.1 (by decide)), e0]
  have outer : ∀ (d k : Nat) (f1 : ZH) (p1 : Nat → Int32) (l3 l4 : Option ZVal), k + d = 12 → MP f1 n l o s p1 → lo f f1 → (∀ i, i < k * 48 → p1 i = prt (n q) (l q) o s m i) → Zv none 111 14 [some (zr 37), some (zi (nI m)), some (zi (nI k)), l3, l4] [] sz f1 0 0 P := by
    intro d
    induction d with
    | zero =>
      intro k f1 p1 l3 l4 hk hM1 hh hp
      obtain rfl : k = 12 := by omega
      obtain ⟨h37, -, -, -, -, -, ⟨g, h43, hg⟩, -⟩ := id hM1
      have hM2 : MP f1 n l o s (prt (n q) (l q) o s m) := hM1.plate (fun _ _ => rfl) ⟨g, h43, fun i hi => (hg i hi).trans (hp i (by omega))⟩
      refine rX6_print_14 ?_
      refine rX6_print_15 ?_
      refine rX6_print_17 (fun _ => ?_) (fun hbb => absurd (by decide) hbb)
      refine rX6_print_86 ?_
      refine rX6_print_87 (by repeat first | assumption | exact zup_eq | refine (zup_ne (by first | decide | omega)).trans ?_) ?_
      refine m_seen hM2 ?_
      refine rX6_print_90 ?_
      exact h f1 hM2 hh
    | succ d ih =>
      intro k f1 p1 l3 l4 hk hM1 hh hp
      refine rX6_print_14 ?_
      refine rX6_print_15 ?_
      refine rX6_print_17 (fun hbb => absurd hbb (nI_ge (b := 12) (by omega) (by decide))) (fun _ => ?_)
      refine rX6_print_20 ?_
      refine rX6_print_21 ?_
      refine inner 48 0 k f1 p1 _ rfl (by omega) hM1 hh (fun i hi => hp i (by omega)) (fun f2 p2 l4 hM2 hh2 hp2 => ?_)
      refine rX6_print_80 ?_
      refine rX6_print_83 ?_
      rw [nI_1]
      exact ih (k + 1) f2 p2 _ _ (by omega) hM2 hh2 hp2
  exact outer 12 0 f p _ _ rfl hM (fun _ _ => rfl) (fun i hi => absurd hi (by omega))
def offB2 (n : Nat) (l o s p : Nat → Int32) (k t : Nat) : Bool := decide (0 ≤ p (k * 48 + t) ∧ ¬ p (k * 48 + t) = plS n l o s k (nI t))
theorem m_off {q : Nat} {f : ZH} (hM : MP f n l o s p) (hq : q < 4) (ho : o 0 = nI q) (hn : 0 < n q) (hn2 : n q ≤ 24) (h : P (some (zi (nI (sumN (fun k => cntB (offB2 (n q) (l q) o s p k) 48) 12)))) sz f) : Zv none 117 0 [some (zr 37), none, none, none, none] [] sz f 0 0 P := by
  obtain ⟨h37, -, -, -, -, -, ⟨g, h43, hg⟩, -⟩ := id hM
  refine rX6_off_0 ?_
  refine rX6_off_1 ?_
  refine rX6_off_2 ?_
  refine rX6_off_3 ?_
  have inner : ∀ (d t k c : Nat) (l4 : Option ZVal), t + d = 48 → k < 12 → (∀ l4, Zv none 117 61 [some (zr 37), some (zi (nI (c + cntB (offB2 (n q) (l q) o s p k) 48))), some (zi (nI k)), some (zi (nI 48)), l4] [] sz f 0 0 P) → Zv none 117 12 [some (zr 37), some (zi (nI (c + cntB (offB2 (n q) (l q) o s p k) t))), some (zi (nI k)), some (zi (nI t)), l4] [] sz f 0 0 P := by
    intro d
    induction d with
    | zero =>
      intro t k c l4 ht hk h
      obtain rfl : t = 48 := by omega
      refine rX6_off_12 ?_
      refine rX6_off_13 ?_
      refine rX6_off_15 (fun _ => ?_) (fun hbb => absurd (by decide) hbb)
      exact h l4
    | succ d ih =>
      intro t k c l4 ht hk h
      have ih := fun l4 => ih (t + 1) k c l4 (by omega) hk h
      rw [cntB] at ih
      refine rX6_off_12 ?_
      refine rX6_off_13 ?_
      refine rX6_off_15 (fun hbb => absurd hbb (nI_ge (b := 48) (by omega) (by decide))) (fun _ => ?_)
      refine rX6_off_18 ?_
      refine rX6_off_19 (by repeat first | assumption | exact zup_eq | refine (zup_ne (by first | decide | omega)).trans ?_) ?_
      refine rX6_off_22 ?_
      refine rX6_off_24 ?_
      refine rX6_off_25 ?_
      refine rX6_off_26 ?_
      refine rX6_off_27 ?_
      rw [i48']
      refine rX6_off_28N h43 (by omega) (by decide) ?_
      rw [hg _ (by omega)]
      refine rX6_off_29 ?_
      refine rX6_off_31 ?_
      refine rX6_off_32 ?_
      have no : offB2 (n q) (l q) o s p k t = false → ∀ l4, Zv none 117 52 [some (zr 37), some (zi (nI (c + cntB (offB2 (n q) (l q) o s p k) t))), some (zi (nI k)), some (zi (nI t)), l4] [zi (nI (c + cntB (offB2 (n q) (l q) o s p k) t))] sz f 0 0 P := by
        intro hz l4
        rw [if_neg (by rw [hz]; exact Bool.false_ne_true)] at ih
        refine rX6_off_52 ?_
        refine rX6_off_53 ?_
        refine rX6_off_54 ?_
        refine rX6_off_55 ?_
        refine rX6_off_58 ?_
        rw [nI_1, Int32.add_zero]
        exact ih _
      refine rX6_off_34 (fun h1 => ?_) (fun h1 => ?_)
      · exact no (decide_eq_false (fun z => absurd h1 (Int32.not_lt.mpr z.1))) _
      · refine rX6_off_37 ?_
        refine rX6_off_39 ?_
        refine rX6_off_40 ?_
        refine rX6_off_41 ?_
        refine rX6_off_42 (by repeat first | assumption | exact zup_eq | refine (zup_ne (by first | decide | omega)).trans ?_) ?_
        refine m_placeAt hM hq ho hn hn2 hk ?_
        refine rX6_off_45 (fun h2 => ?_) (fun h2 => ?_)
        · exact no (decide_eq_false (fun z => z.2 h2)) _
        · rw [if_pos (show offB2 (n q) (l q) o s p k t = true from decide_eq_true ⟨Int32.not_lt.mp h1, h2⟩)] at ih
          refine rX6_off_48 ?_
          refine rX6_off_49 ?_
          refine rX6_off_53 ?_
          refine rX6_off_54 ?_
          refine rX6_off_55 ?_
          refine rX6_off_58 ?_
          rw [nI_1, nI_1]
          exact ih _
  have outer : ∀ (d k : Nat) (l3 l4 : Option ZVal), k + d = 12 → Zv none 117 4 [some (zr 37), some (zi (nI (sumN (fun k => cntB (offB2 (n q) (l q) o s p k) 48) k))), some (zi (nI k)), l3, l4] [] sz f 0 0 P := by
    intro d
    induction d with
    | zero =>
      intro k l3 l4 hk
      obtain rfl : k = 12 := by omega
      refine rX6_off_4 ?_
      refine rX6_off_5 ?_
      refine rX6_off_7 (fun _ => ?_) (fun hbb => absurd (by decide) hbb)
      refine rX6_off_67 ?_
      refine rX6_off_68 ?_
      exact h
    | succ d ih =>
      intro k l3 l4 hk
      have ih := fun l3 l4 => ih (k + 1) l3 l4 (by omega)
      rw [sumN] at ih
      refine rX6_off_4 ?_
      refine rX6_off_5 ?_
      refine rX6_off_7 (fun hbb => absurd hbb (nI_ge (b := 12) (by omega) (by decide))) (fun _ => ?_)
      refine rX6_off_10 ?_
      refine rX6_off_11 ?_
      refine inner 48 0 k _ _ rfl (by omega) (fun l4 => ?_)
      refine rX6_off_61 ?_
      refine rX6_off_64 ?_
      rw [nI_1]
      exact ih _ _
  exact outer 12 0 _ _ rfl
/-- all that is seen is made with one slip c from ring r on -/
def madeP (n : Nat) (l o p : Nat → Int32) (r : Int32) (c : Int32) : Prop := ∀ k, k < 12 → ∀ t, t < 48 → p (k * 48 + t) < 0 ∨ p (k * 48 + t) = plc n l o (nI k) ((if nI k < r then 0 else c) + nI t)
theorem m_isMade {q : Nat} {f : ZH} {r c : Int32} (hM : MP f n l o s p) (hq : q < 4) (ho : o 0 = nI q) (hn : 0 < n q) (hn2 : n q ≤ 24) (h : P (some (zi (zb (madeP (n q) (l q) o p r c)))) sz f) : Zv none 118 0 [some (zr 37), some (zi r), some (zi c), none, none, none] [] sz f 0 0 P := by
  obtain ⟨h37, -, -, -, -, -, ⟨g, h43, hg⟩, -⟩ := id hM
  have hA := hM.2.2.2.1
  refine rX6_isMade_0 ?_
  refine rX6_isMade_1 ?_
  have inner : ∀ (d t k : Nat) (l5 : Option ZVal), t + d = 48 → k < 12 → (∀ u, u < t → p (k * 48 + u) < 0 ∨ p (k * 48 + u) = plc (n q) (l q) o (nI k) ((if nI k < r then 0 else c) + nI u)) → ((∀ u, u < 48 → p (k * 48 + u) < 0 ∨ p (k * 48 + u) = plc (n q) (l q) o (nI k) ((if nI k < r then 0 else c) + nI u)) → ∀ l5, Zv none 118 71 [some (zr 37), some (zi r), some (zi c), some (zi (nI k)), some (zi (nI 48)), l5] [] sz f 0 0 P) → Zv none 118 11 [some (zr 37), some (zi r), some (zi c), some (zi (nI k)), some (zi (nI t)), l5] [] sz f 0 0 P := by
    intro d
    induction d with
    | zero =>
      intro t k l5 ht hk hu h
      obtain rfl : t = 48 := by omega
      refine rX6_isMade_11 ?_
      refine rX6_isMade_13 ?_
      refine rX6_isMade_15 (fun _ => ?_) (fun hbb => absurd (by decide) hbb)
      exact h hu _
    | succ d ih =>
      intro t k l5 ht hk hu hnext
      have go : (p (k * 48 + t) < 0 ∨ p (k * 48 + t) = plc (n q) (l q) o (nI k) ((if nI k < r then 0 else c) + nI t)) → ∀ l5, Zv none 118 65 [some (zr 37), some (zi r), some (zi c), some (zi (nI k)), some (zi (nI t)), l5] [] sz f 0 0 P := by
        intro hb l5
        refine rX6_isMade_65 ?_
        refine rX6_isMade_68 ?_
        rw [nI_1]
        refine ih (t + 1) k _ (by omega) hk (fun u hut => ?_) hnext
        by_cases hu2 : u = t
        · rw [hu2]; exact hb
        · exact hu u (by omega)
      refine rX6_isMade_11 ?_
      refine rX6_isMade_13 ?_
      refine rX6_isMade_15 (fun hbb => absurd hbb (nI_ge (b := 48) (by omega) (by decide))) (fun _ => ?_)
      refine rX6_isMade_18 ?_
      refine rX6_isMade_19 (by repeat first | assumption | exact zup_eq | refine (zup_ne (by first | decide | omega)).trans ?_) ?_
      refine rX6_isMade_22 ?_
      refine rX6_isMade_24 ?_
      refine rX6_isMade_25 ?_
      refine rX6_isMade_26 ?_
      refine rX6_isMade_28 ?_
      rw [i48']
      refine rX6_isMade_29N h43 (by omega) (by decide) ?_
      rw [hg _ (by omega)]
      refine rX6_isMade_30 ?_
      refine rX6_isMade_32 ?_
      refine rX6_isMade_34 (fun h1 => ?_) (fun h1 => ?_)
      · exact go (Or.inl h1) _
      · -- the call at 57, with the slip x
        have fin : ∀ x, x = (if nI k < r then 0 else c) → Zv none 118 57 [some (zr 37), some (zi r), some (zi c), some (zi (nI k)), some (zi (nI t)), some (zi (p (k * 48 + t)))] [zi x, zi (nI t), zi (nI k), zr 40, zr 37, zi (p (k * 48 + t))] sz f 0 0 P := by
          intro x hx
          refine rX6_isMade_57 (by repeat first | assumption | exact zup_eq | refine (zup_ne (by first | decide | omega)).trans ?_) ?_
          refine m_placed hM hA hq ho hn hn2 ?_
          refine rX6_isMade_60 (fun h2 => ?_) (fun h2 => ?_)
          · exact go (Or.inr (by rw [← hx]; exact h2)) _
          · rw [zb_f (p := madeP (n q) (l q) o p r c) (fun z => (z k hk t (by omega)).elim h1 (fun e => h2 (by rw [hx]; exact e)))] at h
            refine rX6_isMade_63 ?_
            first | refine rX6_isMade_64b ?_ | refine rX6_isMade_64 (Or.inl rfl) ?_ | refine rX6_isMade_64 (Or.inr rfl) ?_
            exact h
        refine rX6_isMade_37 ?_
        refine rX6_isMade_39 ?_
        refine rX6_isMade_40 ?_
        refine rX6_isMade_41 (by repeat first | assumption | exact zup_eq | refine (zup_ne (by first | decide | omega)).trans ?_) ?_
        refine rX6_isMade_44 ?_
        refine rX6_isMade_45 ?_
        refine rX6_isMade_47 ?_
        refine rX6_isMade_48 ?_
        refine rX6_isMade_49 (fun h2 => ?_) (fun h2 => ?_)
        · refine rX6_isMade_56 ?_
          exact fin 0 (if_pos h2).symm
        · refine rX6_isMade_52 ?_
          refine rX6_isMade_53 ?_
          exact fin c (if_neg h2).symm
  have outer : ∀ (d k : Nat) (l4 l5 : Option ZVal), k + d = 12 → (∀ k', k' < k → ∀ u, u < 48 → p (k' * 48 + u) < 0 ∨ p (k' * 48 + u) = plc (n q) (l q) o (nI k') ((if nI k' < r then 0 else c) + nI u)) → Zv none 118 2 [some (zr 37), some (zi r), some (zi c), some (zi (nI k)), l4, l5] [] sz f 0 0 P := by
    intro d
    induction d with
    | zero =>
      intro k l4 l5 hk hd
      obtain rfl : k = 12 := by omega
      rw [zb_t (p := madeP (n q) (l q) o p r c) hd] at h
      refine rX6_isMade_2 ?_
      refine rX6_isMade_3 ?_
      refine rX6_isMade_5 (fun _ => ?_) (fun hbb => absurd (by decide) hbb)
      refine rX6_isMade_77 ?_
      first | refine rX6_isMade_78b ?_ | refine rX6_isMade_78 (Or.inl rfl) ?_ | refine rX6_isMade_78 (Or.inr rfl) ?_
      exact h
    | succ d ih =>
      intro k l4 l5 hk hd
      refine rX6_isMade_2 ?_
      refine rX6_isMade_3 ?_
      refine rX6_isMade_5 (fun hbb => absurd hbb (nI_ge (b := 12) (by omega) (by decide))) (fun _ => ?_)
      refine rX6_isMade_8 ?_
      refine rX6_isMade_9 ?_
      refine inner 48 0 k _ rfl (by omega) (fun u hu => absurd hu (by omega)) (fun hall l5 => ?_)
      refine rX6_isMade_71 ?_
      refine rX6_isMade_74 ?_
      rw [nI_1]
      refine ih (k + 1) _ _ (by omega) (fun k' hk' => ?_)
      by_cases hkk : k' = k
      · rw [hkk]; exact hall
      · exact hd k' (by omega)
  exact outer 12 0 _ _ rfl (fun k' hk' => absurd hk' (by omega))
theorem m_shown {q : Nat} {f : ZH} (hM : MP f n l o s p) (hq : q < 4) (ho : o 0 = nI q) (hn : 0 < n q) (hn2 : n q ≤ 24) (h0 : madeP (n q) (l q) o p 0 0 → P (some (zi (-4))) sz f) (h1 : ¬ madeP (n q) (l q) o p 0 0 → P (some (zi (ans2 (shw (fun r c => resB (madeP (n q) (l q) o p (nI r) c)) 12 0)))) sz f) : Zv none 119 0 [some (zr 37), none, none] [] sz f 0 0 P := by
  have h37 := hM.1
  refine rX6_shown_0 ?_
  refine rX6_shown_1 ?_
  refine rX6_shown_2 ?_
  refine rX6_shown_3 (by repeat first | assumption | exact zup_eq | refine (zup_ne (by first | decide | omega)).trans ?_) ?_
  refine m_isMade hM hq ho hn hn2 ?_
  refine rX6_shown_6b (fun hb => ?_) (fun hb => ?_)
  · have h := h1 hb
    generalize hbb : (fun (r : Nat) (c : Int32) => resB (madeP (n q) (l q) o p (nI r) c)) = b at h
    have eb : ∀ r c, b r c = resB (madeP (n q) (l q) o p (nI r) c) := fun r c => by rw [← hbb]
    refine rX6_shown_12 ?_
    refine rX6_shown_13 ?_
    have inner : ∀ (d u r : Nat), u + d = 25 → r < 12 → (∀ c, fcl (b r) d u = some c → P (some (zi (100 * nI r + c + 50))) sz f) → (fcl (b r) d u = none → Zv none 119 79 [some (zr 37), some (zi (nI r)), some (zi (nI 25))] [] sz f 0 0 P) → Zv none 119 22 [some (zr 37), some (zi (nI r)), some (zi (nI u))] [] sz f 0 0 P := by
      intro d
      induction d with
      | zero =>
        intro u r hu hr g1 g2
        obtain rfl : u = 25 := by omega
        refine rX6_shown_22 ?_
        refine rX6_shown_23 ?_
        refine rX6_shown_25 (fun _ => ?_) (fun hbb => absurd (by decide) hbb)
        exact g2 rfl
      | succ d ih =>
        intro u r hu hr g1 g2
        rw [fcl] at g1 g2
        refine rX6_shown_22 ?_
        refine rX6_shown_23 ?_
        refine rX6_shown_25 (fun hbb => absurd hbb (nI_nlt (a := 24) (b := u) (by omega) (by decide))) (fun _ => ?_)
        refine rX6_shown_28 ?_
        refine rX6_shown_29 ?_
        refine rX6_shown_30 ?_
        refine rX6_shown_31 (by repeat first | assumption | exact zup_eq | refine (zup_ne (by first | decide | omega)).trans ?_) ?_
        refine m_isMade hM hq ho hn hn2 ?_
        refine rX6_shown_34b (fun hc => ?_) (fun hc => ?_)
        · rw [if_neg (by rw [eb, resB_f hc]; exact Bool.false_ne_true)] at g1 g2
          refine rX6_shown_47 ?_
          refine rX6_shown_48 ?_
          by_cases hu24 : u < 24
          · refine rX6_shown_50 (fun hbb => absurd hbb (nI_ge (b := 24) hu24 (by decide))) (fun _ => ?_)
            refine rX6_shown_53 ?_
            refine rX6_shown_54 ?_
            refine rX6_shown_55 ?_
            refine rX6_shown_56 ?_
            refine rX6_shown_57 (by repeat first | assumption | exact zup_eq | refine (zup_ne (by first | decide | omega)).trans ?_) ?_
            refine m_isMade hM hq ho hn hn2 ?_
            refine rX6_shown_60b (fun hd => ?_) (fun hd => ?_)
            · rw [if_neg (fun z => hd (resB_iff.mp (by rw [← eb]; exact z.2)))] at g1 g2
              refine rX6_shown_73 ?_
              refine rX6_shown_76 ?_
              rw [nI_1]
              exact ih (u + 1) r (by omega) hr g1 g2
            · rw [if_pos ⟨hu24, by rw [eb]; exact resB_t hd⟩] at g1
              have g := g1 _ rfl
              rw [← Int32.sub_eq_add_neg] at g
              refine rX6_shown_63 ?_
              refine rX6_shown_65 ?_
              refine rX6_shown_66 ?_
              refine rX6_shown_67 ?_
              refine rX6_shown_68 ?_
              refine rX6_shown_69 ?_
              refine rX6_shown_71 ?_
              refine rX6_shown_72 ?_
              exact g
          · rw [if_neg (fun z => hu24 z.1)] at g1 g2
            refine rX6_shown_50 (fun _ => ?_) (fun hbb => absurd (by rw [show u = 24 by omega]; decide) hbb)
            refine rX6_shown_73 ?_
            refine rX6_shown_76 ?_
            rw [nI_1]
            exact ih (u + 1) r (by omega) hr g1 g2
        · rw [if_pos (by rw [eb]; exact resB_t hc)] at g1
          refine rX6_shown_37 ?_
          refine rX6_shown_39 ?_
          refine rX6_shown_40 ?_
          refine rX6_shown_41 ?_
          refine rX6_shown_42 ?_
          refine rX6_shown_43 ?_
          refine rX6_shown_45 ?_
          refine rX6_shown_46 ?_
          exact g1 _ rfl
    have outer : ∀ (d r : Nat) (l2 : Option ZVal), r + d = 12 → P (some (zi (ans2 (shw b d r)))) sz f → Zv none 119 14 [some (zr 37), some (zi (nI r)), l2] [] sz f 0 0 P := by
      intro d
      induction d with
      | zero =>
        intro r l2 hr h
        obtain rfl : r = 12 := by omega
        refine rX6_shown_14 ?_
        refine rX6_shown_15 ?_
        refine rX6_shown_17 (fun _ => ?_) (fun hbb => absurd (by decide) hbb)
        refine rX6_shown_85 ?_
        refine rX6_shown_87 ?_
        exact h
      | succ d ih =>
        intro r l2 hr h
        rw [shw] at h
        refine rX6_shown_14 ?_
        refine rX6_shown_15 ?_
        refine rX6_shown_17 (fun hbb => absurd hbb (nI_ge (b := 12) (by omega) (by decide))) (fun _ => ?_)
        refine rX6_shown_20 ?_
        refine rX6_shown_21 ?_
        refine inner 24 1 r rfl (by omega) (fun c hc => ?_) (fun hc => ?_)
        · rw [hc] at h
          exact h
        · rw [hc] at h
          refine rX6_shown_79 ?_
          refine rX6_shown_82 ?_
          rw [nI_1]
          exact ih (r + 1) _ (by omega) h
    exact outer 12 0 _ rfl h
  · refine rX6_shown_9 ?_
    refine rX6_shown_11 ?_
    exact h0 hb
theorem m_count {x : Int32} {f : ZH} (hM : MP f n l o s p) (h0 : x = 0 → P (some (zi (nI (cntB (posB p) 576)))) sz f) (h1 : x = 1 → P (some (zi (nI (cntB (ringB p) 12)))) sz f) (h2 : x = 2 → P (some (zi (nI (cntB (fun k => decide (¬ s k = 0)) 12)))) sz f) (h3 : (x.toInt < 0 ∨ 2 < x.toInt) → P (some (zi (-1))) sz f) : Zv none 120 0 [some (zr 37), some (zi x), none, none] [] sz f 0 0 P := by
  obtain ⟨h37, -, -, -, -, ⟨g, h42, hg⟩, -⟩ := id hM
  have key : ∀ (d k : Nat), k + d = 12 → Zv none 120 33 [some (zr 37), some (zi x), some (zi (nI (cntB (fun k => decide (¬ s k = 0)) 12))), some (zi (nI 12))] [] sz f 0 0 P → Zv none 120 4 [some (zr 37), some (zi x), some (zi (nI (cntB (fun k => decide (¬ s k = 0)) k))), some (zi (nI k))] [] sz f 0 0 P := by
    intro d
    induction d with
    | zero =>
      intro k hk h
      obtain rfl : k = 12 := by omega
      refine rX6_count_4 ?_
      refine rX6_count_5 ?_
      refine rX6_count_7 (fun _ => ?_) (fun hbb => absurd (by decide) hbb)
      exact h
    | succ d ih =>
      intro k hk h
      have ih := ih (k + 1) (by omega) h
      rw [cntB] at ih
      refine rX6_count_4 ?_
      refine rX6_count_5 ?_
      refine rX6_count_7 (fun hbb => absurd hbb (nI_ge (b := 12) (by omega) (by decide))) (fun _ => ?_)
      refine rX6_count_10 ?_
      refine rX6_count_11 ?_
      refine rX6_count_12 (by repeat first | assumption | exact zup_eq | refine (zup_ne (by first | decide | omega)).trans ?_) ?_
      refine rX6_count_15 ?_
      first | refine rX6_count_16N (by repeat first | assumption | exact zup_eq | refine (zup_ne (by first | decide | omega)).trans ?_) (by first | assumption | decide | omega) (by first | decide | omega) ?_ | refine rX6_count_16 (by repeat first | assumption | exact zup_eq | refine (zup_ne (by first | decide | omega)).trans ?_) (by first | assumption | decide) ?_
      rw [hg k (by omega)]
      refine rX6_count_17 (fun hb => ?_) (fun hb => ?_)
      · rw [if_neg (by rw [decide_eq_false (fun z => z hb)]; exact Bool.false_ne_true)] at ih
        refine rX6_count_24 ?_
        refine rX6_count_25 ?_
        refine rX6_count_26 ?_
        refine rX6_count_27 ?_
        refine rX6_count_30 ?_
        rw [nI_1, Int32.add_zero]
        exact ih
      · rw [if_pos (by exact decide_eq_true hb)] at ih
        refine rX6_count_20 ?_
        refine rX6_count_21 ?_
        refine rX6_count_25 ?_
        refine rX6_count_26 ?_
        refine rX6_count_27 ?_
        refine rX6_count_30 ?_
        rw [nI_1, nI_1]
        exact ih
  refine rX6_count_0 ?_
  refine rX6_count_1 ?_
  refine rX6_count_2 ?_
  refine rX6_count_3 ?_
  refine key 12 0 rfl ?_
  refine rX6_count_33 ?_
  by_cases hb : x.toInt < 0 ∨ 2 < x.toInt
  · refine rX6_count_34d hb ?_
    refine rX6_count_72 ?_
    refine rX6_count_73 ?_
    exact h3 hb
  · obtain ⟨q, hq, rfl⟩ := i32_lit (m := 2) hb (by decide)
    rcases (by omega : q = 0 ∨ q = 1 ∨ q = 2) with rfl | rfl | rfl
    · refine rX6_count_34c0 ?_
      refine rX6_count_60 ?_
      refine rX6_count_61 (by repeat first | assumption | exact zup_eq | refine (zup_ne (by first | decide | omega)).trans ?_) ?_
      refine m_seen hM ?_
      refine rX6_count_64 ?_
      exact h0 rfl
    · refine rX6_count_34c1 ?_
      refine rX6_count_65 ?_
      refine rX6_count_66 (by repeat first | assumption | exact zup_eq | refine (zup_ne (by first | decide | omega)).trans ?_) ?_
      refine m_ringsSeen hM ?_
      refine rX6_count_69 ?_
      exact h1 rfl
    · refine rX6_count_34c2 ?_
      refine rX6_count_70 ?_
      refine rX6_count_71 ?_
      exact h2 rfl
end MR5
