/-! THE REFERENCE: the makers of the plate -/
/-- what is left at click t, as the reference reckons it -/
def hrM (p : Nat → Int32) (n : Nat) (l os : Nat → Int32) (k t : Nat) : Option Int32 := if p (k * 48 + t) < 0 then none else some (p (k * 48 + t) - os 1 * lft n l (os 4 + nI k * os 5 + (0 + nI t)))
def grdL (hr : Nat → Option Int32) : Nat → Nat → Int32 → Int32
  | 0, _, x => x
  | d + 1, t, x => match hr t with
    | none => grdL hr d (t + 1) x
    | some y => if ¬ x = 99999 ∧ ¬ y = x then 99998 else grdL hr d (t + 1) y
def grd (p : Nat → Int32) (n : Nat) (l os : Nat → Int32) (k : Nat) : Int32 := grdL (hrM p n l os k) 48 0 99999
/-- the rings one by one: the first, its ground, the second, the step -/
def mkL (G : Nat → Int32) : Nat → Nat → Int32 → Int32 → Int32 → Int32 → Option (Int32 × Int32 × Int32)
  | 0, _, fi, on, _, st => some (fi, on, st)
  | d + 1, k, fi, on, se, st =>
    if G k = 99998 then none
    else if G k = 99999 then mkL G d (k + 1) fi on se st
    else if fi < 0 then mkL G d (k + 1) (nI k) (G k) se st
    else if se < 0 then
      if (G k - on) / (nI k - fi) * (nI k - fi) = G k - on then mkL G d (k + 1) fi on (nI k) ((G k - on) / (nI k - fi)) else none
    else if on + st * (nI k - fi) = G k then mkL G d (k + 1) fi on se st else none
noncomputable def okM (G : Nat → Int32) : Option (Int32 × Int32) := match mkL G 12 0 (-1) 0 (-1) 0 with
  | none => none
  | some (fi, on, st) => @ite _ (0 ≤ fi ∧ inR st 0 100 ∧ inR (on - st * fi) 0 1000) (Classical.propDecidable _) (some (on - st * fi, st)) none
section MR6
variable {n : Nat → Nat} {l : Nat → Nat → Int32} {o s p : Nat → Int32} {sz : Nat} {P : Option ZVal → Nat → ZH → Prop}
theorem m_ground {f : ZH} {q k : Nat} {os : Nat → Int32} (hM : MP f n l o s p) (hA : isArr f 41 6 os) (hq : q < 4) (ho : os 0 = nI q) (hn : 0 < n q) (hn2 : n q ≤ 24) (hk : k < 12) (h : P (some (zi (grd p (n q) (l q) os k))) sz f) : Zv none 112 0 [some (zr 37), some (zi (nI k)), none, none, none, none] [] sz f 0 0 P := by
  obtain ⟨h37, -, -, -, -, -, ⟨g, h43, hg⟩, -⟩ := id hM
  have key : ∀ (d t : Nat) (x : Int32) (l4 l5 : Option ZVal), t + d = 48 → P (some (zi (grdL (hrM p (n q) (l q) os k) d t x))) sz f → Zv none 112 5 [some (zr 37), some (zi (nI k)), some (zi x), some (zi (nI t)), l4, l5] [] sz f 0 0 P := by
    intro d
    induction d with
    | zero =>
      intro t x l4 l5 ht h
      obtain rfl : t = 48 := by omega
      refine rX6_ground_5 ?_
      refine rX6_ground_6 ?_
      refine rX6_ground_8 (fun _ => ?_) (fun hbb => absurd (by decide) hbb)
      refine rX6_ground_69 ?_
      refine rX6_ground_70 ?_
      exact h
    | succ d ih =>
      intro t x l4 l5 ht h
      rw [grdL] at h
      refine rX6_ground_5 ?_
      refine rX6_ground_6 ?_
      refine rX6_ground_8 (fun hbb => absurd hbb (nI_ge (b := 48) (by omega) (by decide))) (fun _ => ?_)
      refine rX6_ground_11 ?_
      refine rX6_ground_12 (by repeat first | assumption | exact zup_eq | refine (zup_ne (by first | decide | omega)).trans ?_) ?_
      refine rX6_ground_15 ?_
      refine rX6_ground_17 ?_
      refine rX6_ground_18 ?_
      refine rX6_ground_19 ?_
      refine rX6_ground_20 ?_
      rw [i48']
      refine rX6_ground_21N h43 (by omega) (by decide) ?_
      rw [hg _ (by omega)]
      refine rX6_ground_22 ?_
      refine rX6_ground_24 ?_
      refine rX6_ground_26 (fun h1 => ?_) (fun h1 => ?_)
      · rw [show hrM p (n q) (l q) os k t = none from if_pos h1] at h
        dsimp only at h
        refine rX6_ground_63 ?_
        refine rX6_ground_66 ?_
        rw [nI_1]
        exact ih (t + 1) _ _ _ (by omega) h
      · have e1 : hrM p (n q) (l q) os k t = some (p (k * 48 + t) - os 1 * lft (n q) (l q) (os 4 + nI k * os 5 + (0 + nI t))) := if_neg h1
        rw [e1] at h
        dsimp only at h
        refine rX6_ground_29 ?_
        refine rX6_ground_31 ?_
        refine rX6_ground_32 ?_
        refine rX6_ground_33 (by repeat first | assumption | exact zup_eq | refine (zup_ne (by first | decide | omega)).trans ?_) ?_
        refine rX6_ground_36 ?_
        refine rX6_ground_37 ?_
        refine rX6_ground_38 ?_
        refine rX6_ground_39 (by repeat first | assumption | exact zup_eq | refine (zup_ne (by first | decide | omega)).trans ?_) ?_
        refine m_lifted hM hA hq ho hn hn2 ?_
        refine rX6_ground_42 ?_
        generalize p (k * 48 + t) - os 1 * lft (n q) (l q) (os 4 + nI k * os 5 + (0 + nI t)) = y at h ⊢
        have go : ¬ (¬ x = 99999 ∧ ¬ y = x) → Zv none 112 60 [some (zr 37), some (zi (nI k)), some (zi x), some (zi (nI t)), some (zi (p (k * 48 + t))), some (zi y)] [] sz f 0 0 P := by
          intro hc
          rw [if_neg hc] at h
          refine rX6_ground_60 ?_
          refine rX6_ground_62 ?_
          refine rX6_ground_63 ?_
          refine rX6_ground_66 ?_
          rw [nI_1]
          exact ih (t + 1) _ _ _ (by omega) h
        refine rX6_ground_43 ?_
        refine rX6_ground_45 ?_
        refine rX6_ground_46 ?_
        refine rX6_ground_48 (fun h2 => ?_) (fun h2 => ?_)
        · exact go (fun z => z.1 h2)
        · refine rX6_ground_51 ?_
          refine rX6_ground_53 ?_
          refine rX6_ground_54 (fun h3 => ?_) (fun h3 => ?_)
          · exact go (fun z => z.2 h3)
          · rw [if_pos ⟨h2, h3⟩] at h
            refine rX6_ground_57 ?_
            refine rX6_ground_59 ?_
            exact h
  refine rX6_ground_0 ?_
  refine rX6_ground_2 ?_
  refine rX6_ground_3 ?_
  refine rX6_ground_4 ?_
  exact key 48 0 _ none none rfl h
theorem m_makes {f : ZH} {q : Nat} {os : Nat → Int32} (hM : MP f n l o s p) (hA : isArr f 41 6 os) (hq : q < 4) (ho : os 0 = nI q) (hn : 0 < n q) (hn2 : n q ≤ 24) (h : ∀ f' g', f' 41 = some (zA 6 g') → (∀ j, j ≠ 41 → f' j = f j) → (∀ b st, okM (grd p (n q) (l q) os) = some (b, st) → ∀ i, i < 6 → g' i = six (os 0) (os 1) b st (os 4) (os 5) i) → P (some (zi (zb (okM (grd p (n q) (l q) os) ≠ none)))) sz f') : Zv none 113 0 [some (zr 37), none, none, none, none, none, none] [] sz f 0 0 P := by
  obtain ⟨h37, -⟩ := id hM
  obtain ⟨g, h41, hg⟩ := id hA
  generalize hG : grd p (n q) (l q) os = G at h
  have hnone : mkL G 12 0 (-1) 0 (-1) 0 = none → P (some (zi 0)) sz f := by
    intro hz
    have hz2 : okM G = none := by unfold okM; rw [hz]
    have := h f g h41 (fun _ _ => rfl) (fun b st hbs => by rw [hz2] at hbs; cases hbs)
    rw [zb_f (fun z => z hz2)] at this
    exact this
  have key : ∀ (d k : Nat) (fi on se st : Int32) (l6 : Option ZVal), k + d = 12 → ((fi = -1 ∧ se = -1) ∨ ∃ k0, k0 < k ∧ fi = nI k0) → mkL G d k fi on se st = mkL G 12 0 (-1) 0 (-1) 0 → Zv none 113 12 [some (zr 37), some (zi fi), some (zi on), some (zi se), some (zi st), some (zi (nI k)), l6] [] sz f 0 0 P := by
    intro d
    induction d with
    | zero =>
      intro k fi on se st l6 hk hfi he
      obtain rfl : k = 12 := by omega
      rw [mkL] at he
      have hok : okM G = @ite _ (0 ≤ fi ∧ inR st 0 100 ∧ inR (on - st * fi) 0 1000) (Classical.propDecidable _) (some (on - st * fi, st)) none := by
        unfold okM
        rw [← he]
      have e1 : zup (zup f 41 (zA 6 (upd g 3 st))) 41 (zA 6 (upd (upd g 3 st) 2 (on - st * fi))) = zup f 41 (zA 6 (upd (upd g 3 st) 2 (on - st * fi))) := zup_zup
      have hg2 : ∀ b s', okM G = some (b, s') → ∀ i, i < 6 → upd (upd g 3 st) 2 (on - st * fi) i = six (os 0) (os 1) b s' (os 4) (os 5) i := by
        intro b s' hbs i hi
        rw [hok] at hbs
        split at hbs
        · cases hbs
          rcases (by omega : i = 0 ∨ i = 1 ∨ i = 2 ∨ i = 3 ∨ i = 4 ∨ i = 5) with rfl | rfl | rfl | rfl | rfl | rfl
          · exact hg 0 (by decide)
          · exact hg 1 (by decide)
          · rfl
          · rfl
          · exact hg 4 (by decide)
          · exact hg 5 (by decide)
        · cases hbs
      have h := h (zup f 41 (zA 6 (upd (upd g 3 st) 2 (on - st * fi)))) _ zup_eq (fun j hj => zup_ne hj) hg2
      refine rX6_makes_12 ?_
      refine rX6_makes_14 ?_
      refine rX6_makes_16 (fun _ => ?_) (fun hbb => absurd (by decide) hbb)
      refine rX6_makes_112 ?_
      refine rX6_makes_113 (by repeat first | assumption | exact zup_eq | refine (zup_ne (by first | decide | omega)).trans ?_) ?_
      refine rX6_makes_116 ?_
      refine rX6_makes_117 ?_
      refine rX6_makes_119N (q := 3) (by repeat first | assumption | exact zup_eq | refine (zup_ne (by first | decide | omega)).trans ?_) (by decide) (by decide) ?_
      refine rX6_makes_120 ?_
      refine rX6_makes_121 (by repeat first | assumption | exact zup_eq | refine (zup_ne (by first | decide | omega)).trans ?_) ?_
      refine rX6_makes_124 ?_
      refine rX6_makes_125 ?_
      refine rX6_makes_126 ?_
      refine rX6_makes_128 ?_
      refine rX6_makes_129 ?_
      refine rX6_makes_130 ?_
      refine rX6_makes_131N (q := 2) zup_eq (by decide) (by decide) ?_
      rw [zup_zup]
      have k41 : zup f 41 (zA 6 (upd (upd g 3 st) 2 (on - st * fi))) 41 = some (zA 6 (upd (upd g 3 st) 2 (on - st * fi))) := zup_eq
      have k37 : zup f 41 (zA 6 (upd (upd g 3 st) 2 (on - st * fi))) 37 = some (zO 6 [zr 38, zr 39, zr 40, zr 41, zr 42, zr 43, zr 44]) := (zup_ne (by decide)).trans h37
      generalize zup f 41 (zA 6 (upd (upd g 3 st) 2 (on - st * fi))) = f1 at h k41 k37 ⊢
      have no : ¬ (0 ≤ fi ∧ inR st 0 100 ∧ inR (on - st * fi) 0 1000) → Zv none 113 167 [some (zr 37), some (zi fi), some (zi on), some (zi se), some (zi st), some (zi (nI 12)), l6] [] sz f1 0 0 P := by
        intro hno
        rw [if_neg hno] at hok
        rw [zb_f (fun z => z hok)] at h
        refine rX6_makes_167 ?_
        first | refine rX6_makes_168b ?_ | refine rX6_makes_168 (Or.inl rfl) ?_ | refine rX6_makes_168 (Or.inr rfl) ?_
        exact h
      refine rX6_makes_132 ?_
      refine rX6_makes_133 (fun hb => ?_) (fun hb => ?_)
      · exact no (fun z => absurd hb (Int32.not_lt.mpr z.1))
      · refine rX6_makes_136 ?_
        refine rX6_makes_138 ?_
        refine rX6_makes_139 ?_
        refine rX6_makes_141  ?_
        refine m_in ?_
        refine rX6_makes_144b (fun hc => ?_) (fun hc => ?_)
        · exact no (fun z => hc z.2.1)
        · refine rX6_makes_147 ?_
          refine rX6_makes_148 (by repeat first | assumption | exact zup_eq | refine (zup_ne (by first | decide | omega)).trans ?_) ?_
          refine rX6_makes_151 ?_
          refine rX6_makes_152N (q := 2) (by repeat first | assumption | exact zup_eq | refine (zup_ne (by first | decide | omega)).trans ?_) (by decide) (by decide) ?_
          refine rX6_makes_153 ?_
          refine rX6_makes_154 ?_
          refine rX6_makes_157  ?_
          refine m_in ?_
          refine rX6_makes_160b (fun hd => ?_) (fun hd => ?_)
          · exact no (fun z => hd z.2.2)
          · rw [if_pos ⟨Int32.not_lt.mp hb, hc, hd⟩] at hok
            rw [zb_t (by rw [hok]; exact fun z => by cases z)] at h
            refine rX6_makes_163 ?_
            refine rX6_makes_164 ?_
            first | refine rX6_makes_168b ?_ | refine rX6_makes_168 (Or.inl rfl) ?_ | refine rX6_makes_168 (Or.inr rfl) ?_
            exact h
    | succ d ih =>
      intro k fi on se st l6 hk hfi he
      rw [mkL] at he
      have next : ∀ (fi on se st : Int32), ((fi = -1 ∧ se = -1) ∨ ∃ k0, k0 < k + 1 ∧ fi = nI k0) → mkL G d (k + 1) fi on se st = mkL G 12 0 (-1) 0 (-1) 0 → ∀ l6, Zv none 113 106 [some (zr 37), some (zi fi), some (zi on), some (zi se), some (zi st), some (zi (nI k)), l6] [] sz f 0 0 P := by
        intro fi on se st hfi he l6
        refine rX6_makes_106 ?_
        refine rX6_makes_109 ?_
        rw [nI_1]
        exact ih (k + 1) fi on se st _ (by omega) hfi he
      refine rX6_makes_12 ?_
      refine rX6_makes_14 ?_
      refine rX6_makes_16 (fun hbb => absurd hbb (nI_ge (b := 12) (by omega) (by decide))) (fun _ => ?_)
      refine rX6_makes_19 ?_
      refine rX6_makes_20 ?_
      refine rX6_makes_22 (by repeat first | assumption | exact zup_eq | refine (zup_ne (by first | decide | omega)).trans ?_) ?_
      refine m_ground hM hA hq ho hn hn2 (by omega) ?_
      rw [show grd p (n q) (l q) os k = G k by rw [hG]]
      refine rX6_makes_25 ?_
      refine rX6_makes_27 ?_
      refine rX6_makes_29 ?_
      refine rX6_makes_31 (fun h1 => ?_) (fun h1 => ?_)
      · rw [if_neg h1] at he
        refine rX6_makes_36 ?_
        refine rX6_makes_38 ?_
        refine rX6_makes_40 (fun h2 => ?_) (fun h2 => ?_)
        · rw [if_pos h2] at he
          exact next fi on se st (hfi.imp id (fun ⟨k0, h3, h4⟩ => ⟨k0, by omega, h4⟩)) he _
        · rw [if_neg h2] at he
          refine rX6_makes_43 ?_
          refine rX6_makes_44 (fun h3 => ?_) (fun h3 => ?_)
          · have h3n : ¬ fi < 0 := Int32.not_lt.mpr h3
            rw [if_neg h3n] at he
            obtain ⟨k0, hk0, rfl⟩ : ∃ k0, k0 < k ∧ fi = nI k0 := by
              rcases hfi with ⟨z, -⟩ | z
              · rw [z] at h3; exact absurd h3 (by decide)
              · exact z
            have hfk : (nI k0 = -1 ∧ se = -1) ∨ ∃ k1, k1 < k + 1 ∧ nI k0 = nI k1 := Or.inr ⟨k0, by omega, rfl⟩
            have hdv : ¬ nI k - nI k0 = 0 := by
              rw [pk_sub (by omega)]
              exact nI_ne (by omega) (by omega)
            refine rX6_makes_56 ?_
            refine rX6_makes_57 (fun h4 => ?_) (fun h4 => ?_)
            · rw [if_neg (Int32.not_lt.mpr h4)] at he
              refine rX6_makes_90 ?_
              refine rX6_makes_91 ?_
              refine rX6_makes_93 ?_
              refine rX6_makes_95 ?_
              refine rX6_makes_96 ?_
              refine rX6_makes_97 ?_
              refine rX6_makes_98 ?_
              refine rX6_makes_99 ?_
              refine rX6_makes_101 (fun h5 => ?_) (fun h5 => ?_)
              · rw [if_pos h5] at he
                exact next _ on se st hfk he _
              · rw [if_neg h5] at he
                refine rX6_makes_104 ?_
                first | refine rX6_makes_105b ?_ | refine rX6_makes_105 (Or.inl rfl) ?_ | refine rX6_makes_105 (Or.inr rfl) ?_
                exact hnone he.symm
            · rw [if_pos (Int32.not_le.mp h4)] at he
              refine rX6_makes_60 ?_
              refine rX6_makes_62 ?_
              refine rX6_makes_63 ?_
              refine rX6_makes_65 ?_
              refine rX6_makes_66 ?_
              refine rX6_makes_67 ?_
              refine rX6_makes_69 ?_
              refine rX6_makes_70 ?_
              refine rX6_makes_71 (by first | assumption | decide) ?_
              refine rX6_makes_72 ?_
              refine rX6_makes_74 ?_
              refine rX6_makes_76 ?_
              refine rX6_makes_78 ?_
              refine rX6_makes_79 ?_
              refine rX6_makes_80 ?_
              refine rX6_makes_81 ?_
              refine rX6_makes_83 ?_
              refine rX6_makes_84 ?_
              refine rX6_makes_85 (fun h5 => ?_) (fun h5 => ?_)
              · rw [if_pos h5] at he
                refine next _ on (nI k) _ (Or.inr ⟨k0, by omega, rfl⟩) he _
              · rw [if_neg h5] at he
                refine rX6_makes_88 ?_
                first | refine rX6_makes_89b ?_ | refine rX6_makes_89 (Or.inl rfl) ?_ | refine rX6_makes_89 (Or.inr rfl) ?_
                exact hnone he.symm
          · rw [if_pos (Int32.not_le.mp h3)] at he
            refine rX6_makes_47 ?_
            refine rX6_makes_49 ?_
            refine rX6_makes_50 ?_
            refine rX6_makes_52 ?_
            refine rX6_makes_53 ?_
            exact next (nI k) (G k) se st (Or.inr ⟨k, by omega, rfl⟩) he _
      · rw [if_pos h1] at he
        refine rX6_makes_34 ?_
        first | refine rX6_makes_35b ?_ | refine rX6_makes_35 (Or.inl rfl) ?_ | refine rX6_makes_35 (Or.inr rfl) ?_
        exact hnone he.symm
  refine rX6_makes_0 ?_
  refine rX6_makes_1 ?_
  refine rX6_makes_2 ?_
  refine rX6_makes_3 ?_
  refine rX6_makes_4 ?_
  refine rX6_makes_5 ?_
  refine rX6_makes_6 ?_
  refine rX6_makes_7 ?_
  refine rX6_makes_9 ?_
  refine rX6_makes_10 ?_
  exact key 12 0 (-1) 0 (-1) 0 none rfl (Or.inl ⟨rfl, rfl⟩) rfl
end MR6
