/-! THE SEARCH (the object at 9; what it found last at 10; the seen rings at 11, 12; the rests at 13, 14) -/
def seenR (p : Nat → Int32) (r : Nat) : Bool := decide (0 < cntB (seenB p r) 48)
/-- the seen rings below k, in order -/
def srl (p : Nat → Int32) (k : Nat) : List Nat := (List.range k).filter (seenR p)
theorem srl_succ (p : Nat → Int32) (k : Nat) : srl p (k + 1) = srl p k ++ (if seenR p k = true then [k] else []) := by
  unfold srl
  rw [List.range_succ, List.filter_append]
  congr 1
  by_cases h : seenR p k = true
  · rw [if_pos h, List.filter_cons_of_pos h, List.filter_nil]
  · rw [if_neg h, List.filter_cons_of_neg h, List.filter_nil]
theorem srl_len (p : Nat → Int32) : ∀ k, (srl p k).length ≤ k
  | 0 => Nat.le_refl _
  | k + 1 => by
    have := srl_len p k
    rw [srl_succ, List.length_append]
    split <;> simp <;> omega
theorem srl_lt (p : Nat → Int32) {k i : Nat} (h : i ∈ srl p k) : i < k ∧ seenR p i = true := by
  unfold srl at h
  rw [List.mem_filter, List.mem_range] at h
  exact h
/-- the i-th seen ring -/
def srk (p : Nat → Int32) (i : Nat) : Nat := (srl p 12).getD i 0
def msn (p : Nat → Int32) : Nat := (srl p 12).length
theorem msn_le (p : Nat → Int32) : msn p ≤ 12 := srl_len p 12
theorem srk_mem {p : Nat → Int32} {i : Nat} (h : i < msn p) : srk p i ∈ srl p 12 := by
  unfold srk
  rw [List.getD_eq_getElem?_getD, List.getElem?_eq_getElem h]
  exact List.getElem_mem h
theorem srk_lt {p : Nat → Int32} {i : Nat} (h : i < msn p) : srk p i < 12 := (srl_lt p (srk_mem h)).1
/-- what is left at click t without the lifts -/
def hrr (p : Nat → Int32) (n : Nat) (l : Nat → Int32) (ga : Int32) (ring : Nat) (x : Int32) (t : Nat) : Option Int32 := if p (ring * 48 + t) = -1 then none else some (p (ring * 48 + t) - ga * lft n l (x + nI t))
def rstL (hr : Nat → Option Int32) : Nat → Nat → Int32 → Int32
  | 0, _, x => x
  | d + 1, t, x => match hr t with
    | none => rstL hr d (t + 1) x
    | some y => if ¬ x = -100000 ∧ ¬ x = y then -100000 else rstL hr d (t + 1) y
/-- the rest of a ring at a turn -/
def rst (p : Nat → Int32) (n : Nat) (l : Nat → Int32) (ga : Int32) (ring turn : Nat) : Int32 := rstL (hrr p n l ga ring (nI turn)) 48 0 (-100000)
def SI (f : ZH) (ms pe : Nat) (sr : Nat → Nat) (R : Nat → Nat → Int32) (ba st : Int32) (la : Nat → Int32) : Prop := f 9 = some (zO 3 [zr 10, zr 11, zr 13, zi (nI ms), zi (nI pe), zi ba, zi st]) ∧ isSet f 10 la ∧ f 11 = some (zO 2 [zr 12]) ∧ (∃ g, f 12 = some (zA 12 g) ∧ ∀ i, i < ms → g i = nI (sr i)) ∧ f 13 = some (zO 2 [zr 14]) ∧ ∃ g, f 14 = some (zA 288 g) ∧ ∀ i, i < ms → ∀ t, t < pe → g (sr i * 24 + t) = R (sr i) t
section SE
variable {n : Nat} {l p : Nat → Int32} {sz : Nat} {P : Option ZVal → Nat → ZH → Prop}
theorem s_X3_restOfRing {f : ZH} {k ring : Nat} {ga x : Int32} (hPl : isPl f p) (hR : isRos f k n l) (hn : 0 < n) (hn2 : n ≤ 24) (hr : ring < 12) (h : P (some (zi (rstL (hrr p n l ga ring x) 48 0 (-100000)))) sz f) : Zv none 26 0 [some (zr 9), some (zr 6), some (zi (nI ring)), some (zr k), some (zi ga), some (zi x), none, none, none, none] [] sz f 0 0 P := by
  have hPl0 := hPl.1
  have hR1 := hR.1
  refine rX3_restOfRing_0 ?_
  refine rX3_restOfRing_2 ?_
  refine rX3_restOfRing_4 ?_
  refine rX3_restOfRing_5 ?_
  have key : ∀ (d t : Nat) (y : Int32) (l7 l8 : Option ZVal), t + d = 48 → P (some (zi (rstL (hrr p n l ga ring x) d t y))) sz f → Zv none 26 7 [some (zr 9), some (zr 6), some (zi (nI ring)), some (zr k), some (zi ga), some (zi x), some (zi y), some (zi (nI t)), l7, l8] [] sz f 0 0 P := by
    intro d
    induction d with
    | zero =>
      intro t y l7 l8 ht h
      obtain rfl : t = 48 := by omega
      refine rX3_restOfRing_7 ?_
      refine rX3_restOfRing_9 ?_
      refine rX3_restOfRing_11 (fun _ => ?_) (fun hbb => absurd (by decide) hbb)
      refine rX3_restOfRing_76 ?_
      refine rX3_restOfRing_78 ?_
      exact h
    | succ d ih =>
      intro t y l7 l8 ht h
      rw [rstL] at h
      refine rX3_restOfRing_7 ?_
      refine rX3_restOfRing_9 ?_
      refine rX3_restOfRing_11 (fun hbb => absurd hbb (nI_ge (b := 48) (by omega) (by decide))) (fun _ => ?_)
      first | refine rX3_restOfRing_14 ?_ | refine rX3_restOfRing_14n ?_
      refine rX3_restOfRing_15 ?_
      refine rX3_restOfRing_16 ?_
      refine rX3_restOfRing_18 (by repeat first | assumption | exact zup_eq | refine (zup_ne (by first | decide | omega)).trans ?_) ?_
      refine s_X0_look (by assumption) (by first | assumption | omega) (by first | assumption | omega) ?_
      refine rX3_restOfRing_21 ?_
      refine rX3_restOfRing_23 ?_
      refine rX3_restOfRing_25 ?_
      refine rX3_restOfRing_26 (fun h1 => ?_) (fun h1 => ?_)
      · rw [show hrr p n l ga ring x t = some (p (ring * 48 + t) - ga * lft n l (x + nI t)) from if_neg h1] at h
        dsimp only at h
        have go : (¬ (¬ y = -100000 ∧ ¬ y = p (ring * 48 + t) - ga * lft n l (x + nI t))) → ∀ l7, Zv none 26 66 [some (zr 9), some (zr 6), some (zi (nI ring)), some (zr k), some (zi ga), some (zi x), some (zi y), some (zi (nI t)), l7, some (zi (p (ring * 48 + t) - ga * lft n l (x + nI t)))] [] sz f 0 0 P := by
          intro hc l7
          rw [if_neg hc] at h
          refine rX3_restOfRing_66 ?_
          refine rX3_restOfRing_68 ?_
          refine rX3_restOfRing_70 ?_
          refine rX3_restOfRing_73 ?_
          rw [nI_1]
          exact ih (t + 1) _ _ _ (by omega) h
        refine rX3_restOfRing_32 ?_
        refine rX3_restOfRing_34 ?_
        first | refine rX3_restOfRing_36 ?_ | refine rX3_restOfRing_36n ?_
        refine rX3_restOfRing_37 ?_
        refine rX3_restOfRing_39 ?_
        refine rX3_restOfRing_41 ?_
        refine rX3_restOfRing_42 (by repeat first | assumption | exact zup_eq | refine (zup_ne (by first | decide | omega)).trans ?_) ?_
        refine s_X1_liftBehind (by assumption) (by assumption) (by assumption) ?_
        refine rX3_restOfRing_45 ?_
        refine rX3_restOfRing_46 ?_
        refine rX3_restOfRing_47 ?_
        refine rX3_restOfRing_49 ?_
        refine rX3_restOfRing_51 ?_
        refine rX3_restOfRing_53 (fun h2 => ?_) (fun h2 => ?_)
        · exact go (fun z => z.1 h2) _
        · refine rX3_restOfRing_56 ?_
          refine rX3_restOfRing_58 ?_
          refine rX3_restOfRing_60 (fun h3 => ?_) (fun h3 => ?_)
          · exact go (fun z => z.2 h3) _
          · rw [if_pos ⟨h2, h3⟩] at h
            refine rX3_restOfRing_63 ?_
            refine rX3_restOfRing_65 ?_
            exact h
      · rw [show hrr p n l ga ring x t = none from if_pos h1] at h
        dsimp only at h
        refine rX3_restOfRing_29 ?_
        refine rX3_restOfRing_70 ?_
        refine rX3_restOfRing_73 ?_
        rw [nI_1]
        exact ih (t + 1) _ _ _ (by omega) h
  exact key 48 0 _ none none rfl h
theorem s_X3_restAt {f : ZH} {ms pe : Nat} {sr : Nat → Nat} {R : Nat → Nat → Int32} {ba st : Int32} {la : Nat → Int32} {i ph mv : Nat} (hI : SI f ms pe sr R ba st la) (hi : i < ms) (hsr : sr i < 12) (hpe : 0 < pe) (hpe2 : pe ≤ 24) (hph : ph < pe) (hmv : mv < pe) (h : P (some (zi (R (sr i) ((ph + sr i * mv) % pe)))) sz f) : Zv none 27 0 [some (zr 9), some (zi (nI (sr i))), some (zi (nI ph)), some (zi (nI mv))] [] sz f 0 0 P := by
  obtain ⟨h31, -, -, -, h35, g, h36, hg⟩ := hI
  have hmod := Nat.mod_lt (ph + sr i * mv) hpe
  rw [← hg i hi _ hmod] at h
  have hb : ph + sr i * mv < 2 ^ 31 := by
    have := Nat.mul_le_mul (show sr i ≤ 12 by omega) (show mv ≤ 24 by omega)
    omega
  have hy : ¬ nI pe = 0 := nI_ne hpe (by omega)
  refine rX3_restAt_0 ?_
  refine rX3_restAt_1 (by repeat first | assumption | exact zup_eq | refine (zup_ne (by first | decide | omega)).trans ?_) ?_
  refine rX3_restAt_4 ?_
  refine rX3_restAt_5 (fun _ => ?_) (fun hbb => absurd (nI_le (a := 1) (by omega) (by omega)) hbb)
  refine rX3_restAt_11 ?_
  refine rX3_restAt_12 (by repeat first | assumption | exact zup_eq | refine (zup_ne (by first | decide | omega)).trans ?_) ?_
  refine rX3_restAt_15 ?_
  refine rX3_restAt_16 ?_
  refine rX3_restAt_18 ?_
  refine rX3_restAt_19 ?_
  refine rX3_restAt_20 ?_
  refine rX3_restAt_21 ?_
  refine rX3_restAt_22 ?_
  refine rX3_restAt_23 ?_
  refine rX3_restAt_24 ?_
  refine rX3_restAt_25 (by repeat first | assumption | exact zup_eq | refine (zup_ne (by first | decide | omega)).trans ?_) ?_
  rw [pk_mul, nI_add]
  refine rX3_restAt_28 (by first | assumption | decide) ?_
  rw [pk_rem hb hpe (by omega)]
  refine rX3_restAt_29 ?_
  rw [show nI (sr i) * 24 = nI (sr i * 24) from pk_mul (sr i) 24, nI_add]
  refine rX3_restAt_30 (by repeat first | assumption | exact zup_eq | refine (zup_ne (by first | decide | omega)).trans ?_) ?_
  refine s_X2_get (by repeat first | assumption | exact zup_eq | refine (zup_ne (by first | decide | omega)).trans ?_) (by repeat first | assumption | exact zup_eq | refine (zup_ne (by first | decide | omega)).trans ?_) (by first | assumption | decide | omega) (by first | assumption | decide | omega) ?_
  refine rX3_restAt_33 ?_
  exact h
/-- base and step by the first two seen rings -/
def dlf (ms : Nat) (sr : Nat → Nat) (R : Nat → Int32) : Option (Int32 × Int32) :=
  if R (sr 0) = -100000 then none
  else if 1 < ms then
    if R (sr 1) = -100000 ∨ ¬ (R (sr 1) - R (sr 0)) - (R (sr 1) - R (sr 0)) / (nI (sr 1) - nI (sr 0)) * (nI (sr 1) - nI (sr 0)) = 0 then none
    else some (R (sr 0) - nI (sr 0) * ((R (sr 1) - R (sr 0)) / (nI (sr 1) - nI (sr 0))), (R (sr 1) - R (sr 0)) / (nI (sr 1) - nI (sr 0)))
  else some (R (sr 0) - nI (sr 0) * 0, 0)
/-- drawLine says so -/
def dlOK (r : Option (Int32 × Int32)) : Prop := ∃ ba st, r = some (ba, st) ∧ inR ba 0 1000 ∧ inR st 0 100
def rAt (pe : Nat) (R : Nat → Nat → Int32) (ph mv : Nat) : Nat → Int32 := fun k => R k ((ph + k * mv) % pe)
theorem SI.line {f f' : ZH} {ms pe : Nat} {sr : Nat → Nat} {R : Nat → Nat → Int32} {ba st ba' st' : Int32} {la : Nat → Int32} (hI : SI f ms pe sr R ba st la) (h31 : f' 9 = some (zO 3 [zr 10, zr 11, zr 13, zi (nI ms), zi (nI pe), zi ba', zi st'])) (e : ∀ j, j ≠ 9 → f' j = f j) : SI f' ms pe sr R ba' st' la := by
  obtain ⟨-, h2, h3, ⟨g, h4, h4'⟩, h5, g2, h6, h6'⟩ := hI
  exact ⟨h31, h2.keep (e _ (by decide)), by rw [e 11 (by decide)]; exact h3, ⟨g, by rw [e 12 (by decide)]; exact h4, h4'⟩, by rw [e 13 (by decide)]; exact h5, g2, by rw [e 14 (by decide)]; exact h6, h6'⟩
theorem s_X3_drawLine {f : ZH} {ms pe : Nat} {sr : Nat → Nat} {R : Nat → Nat → Int32} {ba st : Int32} {la : Nat → Int32} {ph mv : Nat} (hI : SI f ms pe sr R ba st la) (hms : 0 < ms) (hms2 : ms ≤ 12) (hsr : ∀ i, i < ms → sr i < 12) (hinc : 1 < ms → sr 0 < sr 1) (hpe : 0 < pe) (hpe2 : pe ≤ 24) (hph : ph < pe) (hmv : mv < pe) (h : ∀ f' ba' st', SI f' ms pe sr R ba' st' la → only [9] f f' → (∀ b s, dlf ms sr (rAt pe R ph mv) = some (b, s) → ba' = b ∧ st' = s) → P (some (zi (zb (dlOK (dlf ms sr (rAt pe R ph mv)))))) sz f') : Zv none 28 0 [some (zr 9), some (zi (nI ph)), some (zi (nI mv)), none, none, none, none, none] [] sz f 0 0 P := by
  have hsr0 := hsr 0 hms
  obtain ⟨h31, h32, h33, ⟨g, h34, hg⟩, h35, g2, h36, hg2⟩ := id hI
  have hG : g 0 = nI (sr 0) := hg 0 hms
  refine rX3_drawLine_0 ?_
  refine rX3_drawLine_1 (by repeat first | assumption | exact zup_eq | refine (zup_ne (by first | decide | omega)).trans ?_) ?_
  refine rX3_drawLine_4 ?_
  refine rX3_drawLine_5 (by repeat first | assumption | exact zup_eq | refine (zup_ne (by first | decide | omega)).trans ?_) ?_
  refine s_X2_get (q := 0) h33 h34 (by decide) (by decide) ?_
  rw [hG]
  refine rX3_drawLine_8 ?_
  refine rX3_drawLine_9 ?_
  refine rX3_drawLine_10 ?_
  refine rX3_drawLine_11 ?_
  refine rX3_drawLine_12 ?_
  refine rX3_drawLine_13 (by repeat first | assumption | exact zup_eq | refine (zup_ne (by first | decide | omega)).trans ?_) ?_
  refine s_X3_restAt hI hms hsr0 hpe hpe2 hph hmv ?_
  rw [show R (sr 0) ((ph + sr 0 * mv) % pe) = rAt pe R ph mv (sr 0) from rfl]
  generalize hx : rAt pe R ph mv (sr 0) = x
  refine rX3_drawLine_16 ?_
  refine rX3_drawLine_18 ?_
  refine rX3_drawLine_20 ?_
  refine rX3_drawLine_22 (fun hxU => ?_) (fun hxU => ?_)
  · -- the way on from 104, with step st2 in the field
    have go : ∀ (f1 : ZH) (st2 : Int32) (l5 l6 l7 : Option ZVal), SI f1 ms pe sr R ba st2 la → only [9] f f1 → dlf ms sr (rAt pe R ph mv) = some (x - nI (sr 0) * st2, st2) → Zv none 28 104 [some (zr 9), some (zi (nI ph)), some (zi (nI mv)), some (zi (nI (sr 0))), some (zi x), l5, l6, l7] [] sz f1 0 0 P := by
      intro f1 st2 l5 l6 l7 hI1 ho1 hd
      obtain ⟨g31, -⟩ := id hI1
      refine rX3_drawLine_104 ?_
      refine rX3_drawLine_105 ?_
      refine rX3_drawLine_107 ?_
      refine rX3_drawLine_108 ?_
      refine rX3_drawLine_109 (by repeat first | assumption | exact zup_eq | refine (zup_ne (by first | decide | omega)).trans ?_) ?_
      refine rX3_drawLine_112 ?_
      refine rX3_drawLine_113 ?_
      refine rX3_drawLine_114 (by repeat first | assumption | exact zup_eq | refine (zup_ne (by first | decide | omega)).trans ?_) ?_
      have hI2 := hI1.line (f' := zup f1 9 (zO 3 [zr 10, zr 11, zr 13, zi (nI ms), zi (nI pe), zi (x - nI (sr 0) * st2), zi st2])) zup_eq (fun j hj => zup_ne hj)
      have ho2 := only.trans ho1 (fun j hj => zup_ne (by simpa using hj) : only [9] f1 (zup f1 9 (zO 3 [zr 10, zr 11, zr 13, zi (nI ms), zi (nI pe), zi (x - nI (sr 0) * st2), zi st2])))
      have h := h _ _ _ hI2 ho2 (fun b s hbs => by rw [hd] at hbs; cases hbs; exact ⟨rfl, rfl⟩)
      rw [hd] at h
      have k31 := hI2.1
      generalize zup f1 9 (zO 3 [zr 10, zr 11, zr 13, zi (nI ms), zi (nI pe), zi (x - nI (sr 0) * st2), zi st2]) = f2 at h k31 ⊢
      refine rX3_drawLine_117 ?_
      refine rX3_drawLine_118 (by repeat first | assumption | exact zup_eq | refine (zup_ne (by first | decide | omega)).trans ?_) ?_
      refine rX3_drawLine_121 ?_
      refine rX3_drawLine_122 ?_
      refine rX3_drawLine_125  ?_
      refine s_X5_within ?_
      refine rX3_drawLine_128b (fun hb => ?_) (fun hb => ?_)
      · rw [zb_f (fun ⟨_, _, e, z, _⟩ => by cases e; exact hb z)] at h
        refine rX3_drawLine_148 ?_
        first | refine rX3_drawLine_149b ?_ | refine rX3_drawLine_149 (Or.inl rfl) ?_ | refine rX3_drawLine_149 (Or.inr rfl) ?_
        exact h
      · refine rX3_drawLine_131 ?_
        refine rX3_drawLine_132 (by repeat first | assumption | exact zup_eq | refine (zup_ne (by first | decide | omega)).trans ?_) ?_
        refine rX3_drawLine_135 ?_
        refine rX3_drawLine_136 ?_
        refine rX3_drawLine_138  ?_
        refine s_X5_within ?_
        refine rX3_drawLine_141b (fun hc => ?_) (fun hc => ?_)
        · rw [zb_f (fun ⟨_, _, e, _, z⟩ => by cases e; exact hc z)] at h
          refine rX3_drawLine_148 ?_
          first | refine rX3_drawLine_149b ?_ | refine rX3_drawLine_149 (Or.inl rfl) ?_ | refine rX3_drawLine_149 (Or.inr rfl) ?_
          exact h
        · rw [zb_t ⟨_, _, rfl, hb, hc⟩] at h
          refine rX3_drawLine_144 ?_
          refine rX3_drawLine_145 ?_
          first | refine rX3_drawLine_149b ?_ | refine rX3_drawLine_149 (Or.inl rfl) ?_ | refine rX3_drawLine_149 (Or.inr rfl) ?_
          exact h
    refine rX3_drawLine_27 ?_
    refine rX3_drawLine_28 ?_
    refine rX3_drawLine_29 (by repeat first | assumption | exact zup_eq | refine (zup_ne (by first | decide | omega)).trans ?_) ?_
    have hI0 := hI.line (f' := zup f 9 (zO 3 [zr 10, zr 11, zr 13, zi (nI ms), zi (nI pe), zi ba, zi 0])) zup_eq (fun j hj => zup_ne hj)
    have ho0 : only [9] f (zup f 9 (zO 3 [zr 10, zr 11, zr 13, zi (nI ms), zi (nI pe), zi ba, zi 0])) := fun j hj => zup_ne (by simpa using hj)
    generalize zup f 9 (zO 3 [zr 10, zr 11, zr 13, zi (nI ms), zi (nI pe), zi ba, zi 0]) = f1 at hI0 ho0 ⊢
    obtain ⟨k31, k32, k33, ⟨g3, k34, hg3⟩, k35, -⟩ := id hI0
    refine rX3_drawLine_32 ?_
    refine rX3_drawLine_33 (by repeat first | assumption | exact zup_eq | refine (zup_ne (by first | decide | omega)).trans ?_) ?_
    refine rX3_drawLine_36 ?_
    by_cases hm1 : 1 < ms
    · have hsr1 := hsr 1 hm1
      have hlt := hinc hm1
      have hG1 : g3 1 = nI (sr 1) := hg3 1 hm1
      have hap : nI (sr 1) - nI (sr 0) = nI (sr 1 - sr 0) := pk_sub (by omega)
      refine rX3_drawLine_37 (fun hbb => absurd hbb (Int32.not_le.mpr (nI_lt (a := 1) hm1 (by omega)))) (fun _ => ?_)
      refine rX3_drawLine_40 ?_
      refine rX3_drawLine_41 (by repeat first | assumption | exact zup_eq | refine (zup_ne (by first | decide | omega)).trans ?_) ?_
      refine rX3_drawLine_44 ?_
      refine rX3_drawLine_45 (by repeat first | assumption | exact zup_eq | refine (zup_ne (by first | decide | omega)).trans ?_) ?_
      refine s_X2_get (q := 1) k33 k34 (by decide) (by decide) ?_
      rw [hG1]
      refine rX3_drawLine_48 ?_
      refine rX3_drawLine_50 ?_
      refine rX3_drawLine_52 ?_
      refine rX3_drawLine_53 ?_
      refine rX3_drawLine_54 ?_
      refine rX3_drawLine_56 ?_
      refine rX3_drawLine_57 ?_
      refine rX3_drawLine_59 ?_
      refine rX3_drawLine_60 ?_
      refine rX3_drawLine_61 (by repeat first | assumption | exact zup_eq | refine (zup_ne (by first | decide | omega)).trans ?_) ?_
      refine s_X3_restAt hI0 hm1 hsr1 hpe hpe2 hph hmv ?_
      rw [show R (sr 1) ((ph + sr 1 * mv) % pe) = rAt pe R ph mv (sr 1) from rfl]
      generalize hyy : rAt pe R ph mv (sr 1) = y
      have hap0 : ¬ nI (sr 1) - nI (sr 0) = 0 := by rw [hap]; exact nI_ne (by omega) (by omega)
      have hd0 : dlf ms sr (rAt pe R ph mv) = if y = -100000 ∨ ¬ (y - x) - (y - x) / (nI (sr 1) - nI (sr 0)) * (nI (sr 1) - nI (sr 0)) = 0 then none else some (x - nI (sr 0) * ((y - x) / (nI (sr 1) - nI (sr 0))), (y - x) / (nI (sr 1) - nI (sr 0))) := by
        unfold dlf
        rw [hx, hyy, if_neg hxU, if_pos hm1]
      have bad : ∀ l7, dlf ms sr (rAt pe R ph mv) = none → Zv none 28 90 [some (zr 9), some (zi (nI ph)), some (zi (nI mv)), some (zi (nI (sr 0))), some (zi x), some (zi (nI (sr 1))), some (zi (nI (sr 1) - nI (sr 0))), l7] [] sz f1 0 0 P := by
        intro l7 hd
        have h := h f1 _ _ hI0 ho0 (fun b s hbs => by rw [hd] at hbs; cases hbs)
        rw [hd, zb_f (fun ⟨_, _, e, _⟩ => by cases e)] at h
        refine rX3_drawLine_90 ?_
        first | refine rX3_drawLine_91b ?_ | refine rX3_drawLine_91 (Or.inl rfl) ?_ | refine rX3_drawLine_91 (Or.inr rfl) ?_
        exact h
      refine rX3_drawLine_64 ?_
      refine rX3_drawLine_66 ?_
      refine rX3_drawLine_68 ?_
      refine rX3_drawLine_70 (fun hyU => ?_) (fun hyU => ?_)
      · rw [if_pos (Or.inl hyU)] at hd0
        exact bad _ hd0
      · refine rX3_drawLine_73 ?_
        refine rX3_drawLine_75 ?_
        refine rX3_drawLine_76 (fun hbb => absurd hbb (by rw [hap]; exact nI_nlt (b := 1) (by omega) (by omega))) (fun _ => ?_)
        refine rX3_drawLine_79 ?_
        refine rX3_drawLine_81 ?_
        refine rX3_drawLine_83 ?_
        refine rX3_drawLine_84 ?_
        refine rX3_drawLine_86 (by first | assumption | decide) ?_
        refine rX3_drawLine_87 (fun hz => ?_) (fun hz => ?_)
        · rw [if_neg (fun z => z.elim hyU (fun z2 => z2 hz))] at hd0
          refine rX3_drawLine_92 ?_
          refine rX3_drawLine_93 ?_
          refine rX3_drawLine_95 ?_
          refine rX3_drawLine_97 ?_
          refine rX3_drawLine_98 ?_
          refine rX3_drawLine_100 (by first | assumption | decide) ?_
          refine rX3_drawLine_101 (by repeat first | assumption | exact zup_eq | refine (zup_ne (by first | decide | omega)).trans ?_) ?_
          refine go _ _ _ _ _ (hI0.line zup_eq (fun j hj => zup_ne hj)) (only.trans ho0 (fun j hj => zup_ne (by simpa using hj))) hd0
        · rw [if_pos (Or.inr hz)] at hd0
          exact bad _ hd0
    · refine rX3_drawLine_37 (fun _ => ?_) (fun hbb => absurd (nI_le (b := 1) (by omega) (by decide)) hbb)
      refine go f1 0 _ _ _ hI0 ho0 ?_
      unfold dlf
      rw [hx, if_neg hxU, if_neg hm1]
  · have hd : dlf ms sr (rAt pe R ph mv) = none := by
      unfold dlf
      rw [hx, if_pos hxU]
    have h := h f _ _ hI only.refl (fun b s hbs => by rw [hd] at hbs; cases hbs)
    rw [hd, zb_f (fun ⟨_, _, e, _⟩ => by cases e)] at h
    refine rX3_drawLine_25 ?_
    first | refine rX3_drawLine_26b ?_ | refine rX3_drawLine_26 (Or.inl rfl) ?_ | refine rX3_drawLine_26 (Or.inr rfl) ?_
    exact h
/-- all further rings lie on the line -/
def onL (ms : Nat) (sr : Nat → Nat) (R : Nat → Int32) (ba st : Int32) : Prop := ∀ i, 2 ≤ i → i < ms → R (sr i) = ba + nI (sr i) * st
theorem s_X3_allOnLine {f : ZH} {ms pe : Nat} {sr : Nat → Nat} {R : Nat → Nat → Int32} {ba st : Int32} {la : Nat → Int32} {ph mv : Nat} (hI : SI f ms pe sr R ba st la) (hms2 : ms ≤ 12) (hsr : ∀ i, i < ms → sr i < 12) (hpe : 0 < pe) (hpe2 : pe ≤ 24) (hph : ph < pe) (hmv : mv < pe) (h : P (some (zi (zb (onL ms sr (rAt pe R ph mv) ba st)))) sz f) : Zv none 29 0 [some (zr 9), some (zi (nI ph)), some (zi (nI mv)), none, none] [] sz f 0 0 P := by
  obtain ⟨h31, h32, h33, ⟨g, h34, hg⟩, h35, g2, h36, hg2⟩ := id hI
  refine rX3_allOnLine_0 ?_
  refine rX3_allOnLine_1 ?_
  have key : ∀ (d i : Nat) (l4 : Option ZVal), 2 ≤ i → (i + d = ms ∨ (d = 0 ∧ ms ≤ i ∧ i = 2)) → (∀ j, 2 ≤ j → j < i → rAt pe R ph mv (sr j) = ba + nI (sr j) * st) → Zv none 29 2 [some (zr 9), some (zi (nI ph)), some (zi (nI mv)), some (zi (nI i)), l4] [] sz f 0 0 P := by
    intro d
    induction d with
    | zero =>
      intro i l4 hi hd hj
      have hmi : ms ≤ i := by omega
      rw [zb_t (p := onL ms sr (rAt pe R ph mv) ba st) (fun j h1 h2 => hj j h1 (by omega))] at h
      refine rX3_allOnLine_2 ?_
      refine rX3_allOnLine_3 ?_
      refine rX3_allOnLine_4 (by repeat first | assumption | exact zup_eq | refine (zup_ne (by first | decide | omega)).trans ?_) ?_
      refine rX3_allOnLine_7 (fun _ => ?_) (fun hbb => absurd (nI_le hmi (by omega)) hbb)
      refine rX3_allOnLine_51 ?_
      first | refine rX3_allOnLine_52b ?_ | refine rX3_allOnLine_52 (Or.inl rfl) ?_ | refine rX3_allOnLine_52 (Or.inr rfl) ?_
      exact h
    | succ d ih =>
      intro i l4 hi hd hj
      have him : i < ms := by omega
      have hsri := hsr i him
      refine rX3_allOnLine_2 ?_
      refine rX3_allOnLine_3 ?_
      refine rX3_allOnLine_4 (by repeat first | assumption | exact zup_eq | refine (zup_ne (by first | decide | omega)).trans ?_) ?_
      refine rX3_allOnLine_7 (fun hbb => absurd hbb (nI_ge him (by omega))) (fun _ => ?_)
      refine rX3_allOnLine_10 ?_
      refine rX3_allOnLine_11 (by repeat first | assumption | exact zup_eq | refine (zup_ne (by first | decide | omega)).trans ?_) ?_
      refine rX3_allOnLine_14 ?_
      refine rX3_allOnLine_15 (by repeat first | assumption | exact zup_eq | refine (zup_ne (by first | decide | omega)).trans ?_) ?_
      refine s_X2_get (by repeat first | assumption | exact zup_eq | refine (zup_ne (by first | decide | omega)).trans ?_) (by repeat first | assumption | exact zup_eq | refine (zup_ne (by first | decide | omega)).trans ?_) (by first | assumption | decide | omega) (by first | assumption | decide | omega) ?_
      rw [hg i him]
      refine rX3_allOnLine_18 ?_
      refine rX3_allOnLine_20 ?_
      refine rX3_allOnLine_21 ?_
      refine rX3_allOnLine_23 ?_
      refine rX3_allOnLine_24 ?_
      refine rX3_allOnLine_25 (by repeat first | assumption | exact zup_eq | refine (zup_ne (by first | decide | omega)).trans ?_) ?_
      refine s_X3_restAt hI him hsri hpe hpe2 hph hmv ?_
      refine rX3_allOnLine_28 ?_
      refine rX3_allOnLine_29 (by repeat first | assumption | exact zup_eq | refine (zup_ne (by first | decide | omega)).trans ?_) ?_
      refine rX3_allOnLine_32 ?_
      refine rX3_allOnLine_34 ?_
      refine rX3_allOnLine_35 (by repeat first | assumption | exact zup_eq | refine (zup_ne (by first | decide | omega)).trans ?_) ?_
      refine rX3_allOnLine_38 ?_
      refine rX3_allOnLine_39 ?_
      refine rX3_allOnLine_40 (fun hb => ?_) (fun hb => ?_)
      · refine rX3_allOnLine_45 ?_
        refine rX3_allOnLine_48 ?_
        rw [nI_1]
        refine ih (i + 1) _ (by omega) (by omega) (fun j h1 h2 => ?_)
        by_cases hji : j = i
        · rw [hji]; exact hb
        · exact hj j h1 (by omega)
      · rw [zb_f (p := onL ms sr (rAt pe R ph mv) ba st) (fun z => hb (z i hi him))] at h
        refine rX3_allOnLine_43 ?_
        first | refine rX3_allOnLine_44b ?_ | refine rX3_allOnLine_44 (Or.inl rfl) ?_ | refine rX3_allOnLine_44 (Or.inr rfl) ?_
        exact h
  by_cases hm : 2 ≤ ms
  · exact key (ms - 2) 2 none (by decide) (by omega) (fun j h1 h2 => absurd h2 (by omega))
  · exact key 0 2 none (by decide) (by omega) (fun j h1 h2 => absurd h2 (by omega))
end SE
