/-! BOTH SIDES ANSWER THE SAME: base and step, then the makers in their order -/
def mkLL (G : Nat → Int32) : List Nat → Int32 → Int32 → Int32 → Int32 → Option (Int32 × Int32 × Int32)
  | [], fi, on, _, st => some (fi, on, st)
  | k :: L, fi, on, se, st =>
    if G k = 99998 then none
    else if fi < 0 then mkLL G L (nI k) (G k) se st
    else if se < 0 then
      if (G k - on) / (nI k - fi) * (nI k - fi) = G k - on then mkLL G L fi on (nI k) ((G k - on) / (nI k - fi)) else none
    else if on + st * (nI k - fi) = G k then mkLL G L fi on se st else none
theorem mkL_list {G : Nat → Int32} {b : Nat → Bool} (h : ∀ k, k < 12 → (b k = false → G k = 99999) ∧ (b k = true → ¬ G k = 99999)) : ∀ (d k : Nat) (fi on se st : Int32), k + d = 12 → mkL G d k fi on se st = mkLL G ((List.range' k d).filter b) fi on se st
  | 0, _, _, _, _, _, _ => rfl
  | d + 1, k, fi, on, se, st, hd => by
    have ih := fun fi on se st => mkL_list h d (k + 1) fi on se st (by omega)
    rw [List.range'_succ, List.filter_cons, mkL]
    cases hb : b k with
    | false =>
      have hG := (h k (by omega)).1 hb
      rw [if_neg Bool.false_ne_true, if_neg (by rw [hG]; decide), if_pos hG]
      exact ih fi on se st
    | true =>
      have hG := (h k (by omega)).2 hb
      rw [if_pos rfl, mkLL, if_neg hG, ih, ih, ih]
theorem mkLL_all {G : Nat → Int32} {a b on st : Int32} (ha : ¬ a < 0) (hb : ¬ b < 0) : ∀ L : List Nat, (∀ c ∈ L, ¬ G c = 99998 ∧ on + st * (nI c - a) = G c) → mkLL G L a on b st = some (a, on, st)
  | [], _ => rfl
  | c :: L, h => by
    obtain ⟨h1, h2⟩ := h c (List.mem_cons_self ..)
    rw [mkLL, if_neg h1, if_neg ha, if_neg hb, if_pos h2]
    exact mkLL_all ha hb L (fun d hd => h d (List.mem_cons_of_mem _ hd))
theorem mkLL_not {G : Nat → Int32} {a b on st : Int32} (ha : ¬ a < 0) (hb : ¬ b < 0) : ∀ L : List Nat, ¬ (∀ c ∈ L, ¬ G c = 99998 ∧ on + st * (nI c - a) = G c) → mkLL G L a on b st = none
  | [], h => absurd (fun c hc => by cases hc) h
  | c :: L, h => by
    rw [mkLL]
    by_cases h1 : G c = 99998
    · rw [if_pos h1]
    · rw [if_neg h1, if_neg ha, if_neg hb]
      by_cases h2 : on + st * (nI c - a) = G c
      · rw [if_pos h2]
        refine mkLL_not ha hb L (fun z => h (fun d hd => ?_))
        rcases List.mem_cons.mp hd with rfl | hd
        · exact ⟨h1, h2⟩
        · exact z d hd
      · rw [if_neg h2]
noncomputable def okL (r : Option (Int32 × Int32 × Int32)) : Option (Int32 × Int32) := match r with
  | none => none
  | some (fi, on, st) => @ite _ (0 ≤ fi ∧ inR st 0 100 ∧ inR (on - st * fi) 0 1000) (Classical.propDecidable _) (some (on - st * fi, st)) none
noncomputable def lnO (ms : Nat) (sr : Nat → Nat) (H : Nat → Int32) : Option (Int32 × Int32) := match dlf ms sr H with
  | some (ba, st) => @ite _ ((inR ba 0 1000 ∧ inR st 0 100) ∧ onL ms sr H ba st) (Classical.propDecidable _) (some (ba, st)) none
  | none => none
theorem lnO_none {ms : Nat} {sr : Nat → Nat} {H : Nat → Int32} (h : dlf ms sr H = none) : lnO ms sr H = none := by
  unfold lnO
  rw [h]
theorem lnO_t {ms : Nat} {sr : Nat → Nat} {H : Nat → Int32} {ba st : Int32} (h : dlf ms sr H = some (ba, st)) (h2 : (inR ba 0 1000 ∧ inR st 0 100) ∧ onL ms sr H ba st) : lnO ms sr H = some (ba, st) := by
  unfold lnO
  rw [h]
  exact if_pos h2
theorem lnO_f {ms : Nat} {sr : Nat → Nat} {H : Nat → Int32} {ba st : Int32} (h : dlf ms sr H = some (ba, st)) (h2 : ¬ ((inR ba 0 1000 ∧ inR st 0 100) ∧ onL ms sr H ba st)) : lnO ms sr H = none := by
  unfold lnO
  rw [h]
  exact if_neg h2
theorem okL_t {fi on st : Int32} (h : 0 ≤ fi ∧ inR st 0 100 ∧ inR (on - st * fi) 0 1000) : okL (some (fi, on, st)) = some (on - st * fi, st) := if_pos h
theorem okL_f {fi on st : Int32} (h : ¬ (0 ≤ fi ∧ inR st 0 100 ∧ inR (on - st * fi) 0 1000)) : okL (some (fi, on, st)) = none := if_neg h
theorem ring_eq (on st a c : Int32) : on + st * (c - a) = on - a * st + c * st := by
  rw [Int32.mul_sub, Int32.mul_comm st c, Int32.mul_comm st a, Int32.sub_eq_add_neg, Int32.sub_eq_add_neg, Int32.add_assoc, Int32.add_comm (-(a * st))]
def GH (G H : Nat → Int32) (k : Nat) : Prop := (H k = -100000 ∧ G k = 99998) ∨ (H k = G k ∧ vb (G k))
theorem line_pos {ba st : Int32} {c : Nat} (hb : inR ba 0 1000) (hs : inR st 0 100) (hc : c < 12) : ¬ -100000 = ba + nI c * st := by
  intro z
  have I := fun {x y : Int32} (z : x ≤ y) => Int32.le_iff_toInt_le.mp z
  have b1 := I hb.1
  have b2 := I hb.2
  have s1 := I hs.1
  have s2 := I hs.2
  rw [show (0 : Int32).toInt = 0 from rfl] at b1 s1
  rw [show (1000 : Int32).toInt = 1000 from rfl] at b2
  rw [show (100 : Int32).toInt = 100 from rfl] at s2
  have hC : (nI c).toInt = c := nI_toInt (by omega)
  have a1 := mul_bd (a := (nI c).toInt) (b := st.toInt) (A := 11) (B := 100) (by omega) (by omega) (by omega) (by omega) (by omega)
  have a2 := Int.mul_nonneg (a := (nI c).toInt) (b := st.toInt) (by omega) s1
  have e1 : (nI c * st).toInt = (nI c).toInt * st.toInt := Jvm.Kit.i32_mul (by omega) (by omega)
  have e2 : (ba + nI c * st).toInt = ba.toInt + (nI c * st).toInt := Jvm.Kit.i32_add (by omega) (by omega)
  rw [← z, show (-100000 : Int32).toInt = -100000 from rfl] at e2
  omega
theorem inR00 : inR 0 0 100 := (by decide : (0 : Int32) ≤ 0 ∧ (0 : Int32) ≤ 100)
theorem nI_nn {k : Nat} (h : k < 12) : ¬ nI k < 0 := fun z => by
  have h1 := Int32.lt_iff_toInt_lt.mp z
  rw [nI_toInt (by omega), show (0 : Int32).toInt = 0 from rfl] at h1
  omega
theorem ok_line {G H : Nat → Int32} : ∀ S : List Nat, (∀ k ∈ S, k < 12 ∧ GH G H k) → okL (mkLL G S (-1) 0 (-1) 0) = if S.length = 0 then none else lnO S.length (fun i => S.getD i 0) H
  | [], _ => okL_f (fun z => absurd z.1 (by decide))
  | a :: L, h => by
    rw [if_neg (by rw [List.length_cons]; omega)]
    obtain ⟨ha12, ha⟩ := h a (List.mem_cons_self ..)
    have ha0 := nI_nn ha12
    rcases ha with ⟨hH, hG⟩ | ⟨hH, hv⟩
    · rw [mkLL, if_pos hG]
      refine (lnO_none ?_).symm
      unfold dlf
      exact if_pos hH
    obtain ⟨g1, -, g2⟩ := vb_ne hv
    have hd0 : ¬ H a = -100000 := fun z => g1 (hH.symm.trans z)
    rw [mkLL, if_neg g2, if_pos (by decide)]
    match L, h with
    | [], _ =>
      have hd : dlf [a].length (fun i => [a].getD i 0) H = some (H a - nI a * 0, 0) := by
        unfold dlf
        exact (if_neg hd0).trans (if_neg (by rw [List.length_singleton]; exact Nat.lt_irrefl 1))
      rw [mkLL]
      have e1 : G a - 0 * nI a = H a - nI a * 0 := by rw [Int32.zero_mul, Int32.mul_zero, hH]
      have hon : onL [a].length (fun i => [a].getD i 0) H (H a - nI a * 0) 0 := fun i h1 h2 => absurd h2 (by rw [List.length_singleton]; omega)
      by_cases hR : inR (H a - nI a * 0) 0 1000
      · rw [okL_t ⟨Int32.not_lt.mp ha0, inR00, by rw [e1]; exact hR⟩, lnO_t hd ⟨⟨hR, inR00⟩, hon⟩, e1]
      · rw [okL_f (fun z => hR (by rw [← e1]; exact z.2.2)), lnO_f hd (fun z => hR z.1.1)]
    | b :: L, h =>
      obtain ⟨hb12, hb⟩ := h b (List.mem_cons_of_mem _ (List.mem_cons_self ..))
      have hb0 := nI_nn hb12
      have hlen : 1 < (a :: b :: L).length := by rw [List.length_cons, List.length_cons]; omega
      rcases hb with ⟨hHb, hGb⟩ | ⟨hHb, hvb⟩
      · rw [mkLL, if_pos hGb]
        refine (lnO_none ?_).symm
        unfold dlf
        exact (if_neg hd0).trans ((if_pos hlen).trans (if_pos (Or.inl hHb)))
      obtain ⟨g3, -, g4⟩ := vb_ne hvb
      have hd1 : ¬ H b = -100000 := fun z => g3 (hHb.symm.trans z)
      rw [mkLL, if_neg g4, if_neg ha0, if_pos (by decide)]
      by_cases hdv : (G b - G a) / (nI b - nI a) * (nI b - nI a) = G b - G a
      · rw [if_pos hdv]
        have hd : dlf (a :: b :: L).length (fun i => (a :: b :: L).getD i 0) H = some (H a - nI a * ((G b - G a) / (nI b - nI a)), (G b - G a) / (nI b - nI a)) := by
          unfold dlf
          refine (if_neg hd0).trans ((if_pos hlen).trans ((if_neg (fun z => z.elim hd1 (fun z2 => z2 ?_))).trans ?_))
          · show some (H a - nI a * ((H b - H a) / (nI b - nI a)), (H b - H a) / (nI b - nI a)) = _
            rw [hH, hHb]
          · show H b - H a - (H b - H a) / (nI b - nI a) * (nI b - nI a) = 0
            rw [hH, hHb, hdv, Int32.sub_self]
        generalize (G b - G a) / (nI b - nI a) = st at hd
        rw [hH] at hd
        have hon : (inR (G a - nI a * st) 0 1000 ∧ inR st 0 100) → (onL (a :: b :: L).length (fun i => (a :: b :: L).getD i 0) H (G a - nI a * st) st ↔ ∀ c ∈ L, ¬ G c = 99998 ∧ G a + st * (nI c - nI a) = G c) := by
          intro hR
          refine ⟨fun z c hc => ?_, fun z i h1 h2 => ?_⟩
          · obtain ⟨j, hj, rfl⟩ := List.getElem_of_mem hc
            have z1 := z (j + 2) (by omega) (by rw [List.length_cons, List.length_cons]; omega)
            obtain ⟨hc12, hc1⟩ := h L[j] (List.mem_cons_of_mem _ (List.mem_cons_of_mem _ hc))
            have z2 : H L[j] = G a - nI a * st + nI L[j] * st := by
              have e : (a :: b :: L).getD (j + 2) 0 = L[j] := by
                rw [List.getD_eq_getElem?_getD, List.getElem?_cons_succ, List.getElem?_cons_succ, List.getElem?_eq_getElem hj]
                rfl
              have z1 : H ((a :: b :: L).getD (j + 2) 0) = G a - nI a * st + nI ((a :: b :: L).getD (j + 2) 0) * st := z1
              rw [e] at z1
              exact z1
            rcases hc1 with ⟨q1, q2⟩ | ⟨q1, q2⟩
            · exact absurd (q1.symm.trans z2) (line_pos hR.1 hR.2 hc12)
            · exact ⟨(vb_ne q2).2.2, by rw [ring_eq, ← z2, q1]⟩
          · rw [List.length_cons, List.length_cons] at h2
            obtain ⟨j, rfl⟩ : ∃ j, i = j + 2 := ⟨i - 2, by omega⟩
            have hj : j < L.length := by omega
            have e : (a :: b :: L).getD (j + 2) 0 = L[j] := by
              rw [List.getD_eq_getElem?_getD, List.getElem?_cons_succ, List.getElem?_cons_succ, List.getElem?_eq_getElem hj]
              rfl
            have hm : L[j] ∈ L := List.getElem_mem hj
            obtain ⟨q1, q2⟩ := z L[j] hm
            obtain ⟨hc12, hc1⟩ := h L[j] (List.mem_cons_of_mem _ (List.mem_cons_of_mem _ hm))
            show H ((a :: b :: L).getD (j + 2) 0) = G a - nI a * st + nI ((a :: b :: L).getD (j + 2) 0) * st
            rw [e, ← ring_eq, q2]
            rcases hc1 with ⟨_, q3⟩ | ⟨q3, _⟩
            · exact absurd q3 q1
            · exact q3
        by_cases hA : ∀ c ∈ L, ¬ G c = 99998 ∧ G a + st * (nI c - nI a) = G c
        · rw [mkLL_all ha0 hb0 L hA]
          have e1 : G a - st * nI a = G a - nI a * st := by rw [Int32.mul_comm]
          by_cases hR : inR (G a - nI a * st) 0 1000 ∧ inR st 0 100
          · rw [okL_t ⟨Int32.not_lt.mp ha0, hR.2, by rw [e1]; exact hR.1⟩, lnO_t hd ⟨hR, (hon hR).mpr hA⟩, e1]
          · rw [okL_f (fun z => hR ⟨by rw [← e1]; exact z.2.2, z.2.1⟩), lnO_f hd (fun z => hR z.1)]
        · rw [mkLL_not ha0 hb0 L hA, lnO_f hd (fun z => hA ((hon z.1).mp z.2))]
          rfl
      · rw [if_neg hdv]
        refine (lnO_none ?_).symm
        unfold dlf
        refine (if_neg hd0).trans ((if_pos hlen).trans (if_pos (Or.inr (fun z => hdv ?_))))
        have z : H b - H a - (H b - H a) / (nI b - nI a) * (nI b - nI a) = 0 := z
        rw [hH, hHb, Int32.sub_eq_iff_eq_add, Int32.zero_add] at z
        exact z.symm
