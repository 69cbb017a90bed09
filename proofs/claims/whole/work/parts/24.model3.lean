/-! THE REFERENCE: names, settings, slips -/
theorem wrow_eq {n : Nat} {l : Nat → Int32} {w : Int32} {i : Nat} (h : i < n) : wrow n l w i = wlf n l w i := if_pos h
theorem wrow_0 {n : Nat} {l : Nat → Int32} {w : Int32} {i : Nat} (h : n ≤ i) : wrow n l w i = 0 := if_neg (by omega)
section MR3
variable {n : Nat → Nat} {l : Nat → Nat → Int32} {o s p : Nat → Int32} {sz : Nat} {P : Option ZVal → Nat → ZH → Prop}
theorem m_name_bad {f : ZH} {r x : Int32} (hb : ¬ ((∃ q, q < 4 ∧ r = nI q) ∧ ∃ q, q < 4 ∧ x = nI q)) (h : P (some (zi (-1))) sz f) : Zv none 89 0 [some (zr 37), some (zi r), some (zi x), none, none, none] [] sz f 0 0 P := by
  refine rX6_name_0 ?_
  refine rX6_name_1  ?_
  refine m_isRosette ?_
  refine rX6_name_4b (fun _ => ?_) (fun hc => ?_)
  · refine rX6_name_14 ?_
    refine rX6_name_15 ?_
    exact h
  · rcases okR_cases r with ⟨q, hq, rfl⟩ | hr
    · rcases okR_cases x with ⟨q2, hq2, rfl⟩ | hx
      · exact absurd ⟨⟨q, hq, rfl⟩, q2, hq2, rfl⟩ hb
      · refine rX6_name_7 ?_
        refine rX6_name_8  ?_
        refine m_isRosette ?_
        refine rX6_name_11b (fun hbb => absurd hbb hx) (fun _ => ?_)
        refine rX6_name_14 ?_
        refine rX6_name_15 ?_
        exact h
    · exact absurd hc hr
theorem m_name_ok {f : ZH} {q q2 : Nat} (hM : MP f n l o s p) (hN : ∀ q, q < 4 → 0 < n q ∧ n q ≤ 24) (hL : ∀ q, q < 4 → rng (l q)) (hq : q < 4) (hq2 : q2 < 4) (h : ∀ f', MP f' (updN n q (n q2)) (updN l q (wrow (n q2) (l q2) (nI (way (n q2) (l q2))))) (dropT o q) s p → lo f f' → P (some (zi (nI (way (n q2) (l q2))))) sz f') : Zv none 89 0 [some (zr 37), some (zi (nI q)), some (zi (nI q2)), none, none, none] [] sz f 0 0 P := by
  obtain ⟨h37, ⟨gn, h38, hgn⟩, hl39, h40, h41, h42, h43, gh, h44⟩ := id hM
  obtain ⟨hn, hn2⟩ := hN q2 hq2
  refine rX6_name_0 ?_
  refine rX6_name_1  ?_
  refine m_isRosette ?_
  refine rX6_name_4b (fun hbb => absurd (inR03 hq) hbb) (fun _ => ?_)
  refine rX6_name_7 ?_
  refine rX6_name_8  ?_
  refine m_isRosette ?_
  refine rX6_name_11b (fun _ => ?_) (fun hbb => absurd (inR03 hq2) hbb)
  refine rX6_name_16 ?_
  refine rX6_name_17 ?_
  refine rX6_name_18 (by repeat first | assumption | exact zup_eq | refine (zup_ne (by first | decide | omega)).trans ?_) ?_
  refine m_turnOf hM hq2 hn hn2 (hL q2 hq2) ?_
  refine rX6_name_21 ?_
  refine rX6_name_22 ?_
  refine rX6_name_23 (by repeat first | assumption | exact zup_eq | refine (zup_ne (by first | decide | omega)).trans ?_) ?_
  refine rX6_name_26 ?_
  first | refine rX6_name_27N (by repeat first | assumption | exact zup_eq | refine (zup_ne (by first | decide | omega)).trans ?_) (by first | assumption | decide | omega) (by first | decide | omega) ?_ | refine rX6_name_27 (by repeat first | assumption | exact zup_eq | refine (zup_ne (by first | decide | omega)).trans ?_) (by first | assumption | decide) ?_
  rw [hgn q2 hq2]
  refine rX6_name_28 ?_
  refine rX6_name_30 ?_
  refine rX6_name_31 ?_
  generalize hw : nI (way (n q2) (l q2)) = w at h ⊢
  have up : ∀ g, MP (zup f 44 (zA 24 g)) n l o s p := by
    intro g
    obtain ⟨gl, h39, hgl⟩ := hl39
    obtain ⟨gx, h41⟩ := h41
    exact ⟨(zup_ne (by decide)).trans h37, ⟨gn, (zup_ne (by decide)).trans h38, hgn⟩, ⟨gl, (zup_ne (by decide)).trans h39, hgl⟩, h40.keep (zup_ne (by decide)), ⟨gx, (zup_ne (by decide)).trans h41⟩, h42.keep (zup_ne (by decide)), h43.keep (zup_ne (by decide)), g, zup_eq⟩
  have first : ∀ (d i : Nat) (g : Nat → Int32), i + d = n q2 → (∀ i', i' < i → g i' = wlf (n q2) (l q2) w i') → (∀ g', (∀ i', i' < n q2 → g' i' = wlf (n q2) (l q2) w i') → ∀ l5, Zv none 89 61 [some (zr 37), some (zi (nI q)), some (zi (nI q2)), some (zi w), some (zi (nI (n q2))), l5] [] sz (zup f 44 (zA 24 g')) 0 0 P) → Zv none 89 33 [some (zr 37), some (zi (nI q)), some (zi (nI q2)), some (zi w), some (zi (nI (n q2))), some (zi (nI i))] [] sz (zup f 44 (zA 24 g)) 0 0 P := by
    intro d
    induction d with
    | zero =>
      intro i g hi hg h
      obtain rfl : i = n q2 := by omega
      refine rX6_name_33 ?_
      refine rX6_name_35 ?_
      refine rX6_name_37 (fun _ => ?_) (fun hbb => absurd (nI_le (Nat.le_refl _) (by omega)) hbb)
      exact h g hg _
    | succ d ih =>
      intro i g hi hg h
      have hM1 := up g
      refine rX6_name_33 ?_
      refine rX6_name_35 ?_
      refine rX6_name_37 (fun hbb => absurd hbb (nI_ge (by omega) (by omega))) (fun _ => ?_)
      refine rX6_name_40 ?_
      refine rX6_name_41 (by repeat first | assumption | exact zup_eq | refine (zup_ne (by first | decide | omega)).trans ?_) ?_
      refine rX6_name_44 ?_
      refine rX6_name_46 ?_
      refine rX6_name_47 ?_
      refine rX6_name_48 ?_
      refine rX6_name_49 ?_
      refine rX6_name_51 (by repeat first | assumption | exact zup_eq | refine (zup_ne (by first | decide | omega)).trans ?_) ?_
      refine m_turned (by assumption) (by assumption) (by assumption) (by assumption) ?_
      first | refine rX6_name_54N (by repeat first | assumption | exact zup_eq | refine (zup_ne (by first | decide | omega)).trans ?_) (by first | assumption | decide | omega) (by first | decide | omega) ?_ | refine rX6_name_54 (by repeat first | assumption | exact zup_eq | refine (zup_ne (by first | decide | omega)).trans ?_) (by first | assumption | decide) ?_
      refine rX6_name_55 ?_
      refine rX6_name_58 ?_
      rw [nI_1, zup_zup]
      refine ih (i + 1) _ (by omega) (fun i' hi' => ?_) h
      by_cases hii : i' = i
      · rw [hii, upd_s]
      · rw [upd_n hii, hg i' (by omega)]
  have hfirst := first (n q2) 0 gh (by omega) (fun i' hi' => absurd hi' (by omega))
  rw [zup_id h44] at hfirst
  refine hfirst (fun g' hg' l5 => ?_)
  have hM1 := up g'
  have e0 : ∀ j, j ≠ 44 → zup f 44 (zA 24 g') j = f j := fun j hj => zup_ne hj
  have h44' : zup f 44 (zA 24 g') 44 = some (zA 24 g') := zup_eq
  generalize zup f 44 (zA 24 g') = f1 at hM1 e0 h44' ⊢
  have k37 := hM1.1
  refine rX6_name_61 ?_
  refine rX6_name_62 ?_
  refine rX6_name_63 ?_
  refine rX6_name_65 (by repeat first | assumption | exact zup_eq | refine (zup_ne (by first | decide | omega)).trans ?_) ?_
  refine m_begins hM1 hq (fun f2 hM2 e2 => ?_)
  have m44 : f2 44 = some (zA 24 g') := (e2 44 (by decide) (by decide) (by decide)).trans h44'
  obtain ⟨m37, m38, ⟨gl, m39, hgl⟩, m40, ⟨gx, m41⟩, m42, m43, -⟩ := hM2
  have hz : ∀ i, i < 24 → gl (24 * q + i) = 0 := fun i hi => by
    rw [hgl q hq i hi]; unfold updN; rw [if_pos rfl]
  have hk : ∀ r, r < 4 → r ≠ q → ∀ i, i < 24 → gl (24 * r + i) = l r i := fun r hr hrq i hi => by
    rw [hgl r hr i hi]; unfold updN; rw [if_neg hrq]
  have second : ∀ (d i : Nat) (g : Nat → Int32), i + d = n q2 → (∀ i', i' < i → g (24 * q + i') = wlf (n q2) (l q2) w i') → (∀ i', i ≤ i' → i' < 24 → g (24 * q + i') = 0) → (∀ x, x < 24 * q ∨ 24 * q + 24 ≤ x → g x = gl x) → Zv none 89 71 [some (zr 37), some (zi (nI q)), some (zi (nI q2)), some (zi w), some (zi (nI (n q2))), some (zi (nI i))] [] sz (zup f2 39 (zA 96 g)) 0 0 P := by
    intro d
    induction d with
    | zero =>
      intro i g hi h1 h2 h3
      obtain rfl : i = n q2 := by omega
      refine rX6_name_71 ?_
      refine rX6_name_73 ?_
      refine rX6_name_75 (fun _ => ?_) (fun hbb => absurd (nI_le (Nat.le_refl _) (by omega)) hbb)
      refine rX6_name_103 ?_
      refine rX6_name_104 ?_
      refine h _ ⟨(zup_ne (by decide)).trans m37, m38.keep (zup_ne (by decide)), ⟨g, zup_eq, fun r hr i hi => ?_⟩, m40.keep (zup_ne (by decide)), ⟨gx, (zup_ne (by decide)).trans m41⟩, m42.keep (zup_ne (by decide)), m43.keep (zup_ne (by decide)), g', (zup_ne (by decide)).trans m44⟩ (fun j hj => (zup_ne (by omega)).trans ((e2 j (by omega) (by omega) (by omega)).trans (e0 j (by omega))))
      unfold updN
      by_cases hrq : r = q
      · rw [if_pos hrq, hrq]
        by_cases hin : i < n q2
        · rw [h1 i hin, wrow_eq hin]
        · rw [h2 i (by omega) hi, wrow_0 (by omega)]
      · rw [if_neg hrq, h3 _ (by omega)]; exact hk r hr hrq i hi
    | succ d ih =>
      intro i g hi h1 h2 h3
      have k37 : zup f2 39 (zA 96 g) 37 = some (zO 6 [zr 38, zr 39, zr 40, zr 41, zr 42, zr 43, zr 44]) := (zup_ne (by decide)).trans m37
      have k44 : zup f2 39 (zA 96 g) 44 = some (zA 24 g') := (zup_ne (by decide)).trans m44
      refine rX6_name_71 ?_
      refine rX6_name_73 ?_
      refine rX6_name_75 (fun hbb => absurd hbb (nI_ge (by omega) (by omega))) (fun _ => ?_)
      refine rX6_name_78 ?_
      refine rX6_name_79 (by repeat first | assumption | exact zup_eq | refine (zup_ne (by first | decide | omega)).trans ?_) ?_
      refine rX6_name_82 ?_
      refine rX6_name_84 ?_
      refine rX6_name_85 ?_
      refine rX6_name_86 ?_
      refine rX6_name_88 ?_
      rw [i24]
      refine rX6_name_89 ?_
      refine rX6_name_90 (by repeat first | assumption | exact zup_eq | refine (zup_ne (by first | decide | omega)).trans ?_) ?_
      refine rX6_name_93 ?_
      first | refine rX6_name_95N (by repeat first | assumption | exact zup_eq | refine (zup_ne (by first | decide | omega)).trans ?_) (by first | assumption | decide | omega) (by first | decide | omega) ?_ | refine rX6_name_95 (by repeat first | assumption | exact zup_eq | refine (zup_ne (by first | decide | omega)).trans ?_) (by first | assumption | decide) ?_
      rw [hg' i (by omega)]
      refine rX6_name_96N zup_eq (by omega) (by decide) ?_
      refine rX6_name_97 ?_
      refine rX6_name_100 ?_
      rw [nI_1, zup_zup]
      refine ih (i + 1) _ (by omega) (fun i' hi' => ?_) (fun i' h4 h5 => ?_) (fun x hx => ?_)
      · by_cases hii : i' = i
        · rw [hii, upd_s]
        · rw [upd_n (by omega), h1 i' (by omega)]
      · rw [upd_n (by omega)]; exact h2 i' (by omega) h5
      · rw [upd_n (by omega)]; exact h3 x hx
  refine rX6_name_68 ?_
  refine rX6_name_69 ?_
  have hsecond := second (n q2) 0 gl (by omega) (fun i' hi' => absurd hi' (by omega)) (fun i' _ h5 => hz i' h5) (fun _ _ => rfl)
  rw [zup_id m39] at hsecond
  exact hsecond
theorem m_alike_bad {f : ZH} {r x : Int32} (hb : ¬ ((∃ q, q < 4 ∧ r = nI q) ∧ ∃ q, q < 4 ∧ x = nI q)) (h : P (some (zi (-1))) sz f) : Zv none 90 0 [some (zr 37), some (zi r), some (zi x)] [] sz f 0 0 P := by
  refine rX6_alike_0 ?_
  refine rX6_alike_1  ?_
  refine m_isRosette ?_
  refine rX6_alike_4b (fun _ => ?_) (fun hc => ?_)
  · refine rX6_alike_14 ?_
    refine rX6_alike_15 ?_
    exact h
  · rcases okR_cases r with ⟨q, hq, rfl⟩ | hr
    · rcases okR_cases x with ⟨q2, hq2, rfl⟩ | hx
      · exact absurd ⟨⟨q, hq, rfl⟩, q2, hq2, rfl⟩ hb
      · refine rX6_alike_7 ?_
        refine rX6_alike_8  ?_
        refine m_isRosette ?_
        refine rX6_alike_11b (fun hbb => absurd hbb hx) (fun _ => ?_)
        refine rX6_alike_14 ?_
        refine rX6_alike_15 ?_
        exact h
    · exact absurd hc hr
theorem m_alike_ok {f : ZH} {q q2 : Nat} (hM : MP f n l o s p) (hN : ∀ q, q < 4 → 0 < n q ∧ n q ≤ 24) (hL : ∀ q, q < 4 → rng (l q)) (hq : q < 4) (hq2 : q2 < 4) (h : P (some (zi (zb (sameNm (n q) (n q2) (l q) (l q2))))) sz f) : Zv none 90 0 [some (zr 37), some (zi (nI q)), some (zi (nI q2))] [] sz f 0 0 P := by
  obtain ⟨h37, ⟨gn, h38, hgn⟩, -⟩ := id hM
  obtain ⟨hn, hn1⟩ := hN q hq
  obtain ⟨hm, hm2⟩ := hN q2 hq2
  refine rX6_alike_0 ?_
  refine rX6_alike_1  ?_
  refine m_isRosette ?_
  refine rX6_alike_4b (fun hbb => absurd (inR03 hq) hbb) (fun _ => ?_)
  refine rX6_alike_7 ?_
  refine rX6_alike_8  ?_
  refine m_isRosette ?_
  refine rX6_alike_11b (fun _ => ?_) (fun hbb => absurd (inR03 hq2) hbb)
  refine rX6_alike_16 ?_
  refine rX6_alike_17 (by repeat first | assumption | exact zup_eq | refine (zup_ne (by first | decide | omega)).trans ?_) ?_
  refine rX6_alike_20 ?_
  first | refine rX6_alike_21N (by repeat first | assumption | exact zup_eq | refine (zup_ne (by first | decide | omega)).trans ?_) (by first | assumption | decide | omega) (by first | decide | omega) ?_ | refine rX6_alike_21 (by repeat first | assumption | exact zup_eq | refine (zup_ne (by first | decide | omega)).trans ?_) (by first | assumption | decide) ?_
  rw [hgn q hq]
  refine rX6_alike_22 ?_
  refine rX6_alike_23 (by repeat first | assumption | exact zup_eq | refine (zup_ne (by first | decide | omega)).trans ?_) ?_
  refine rX6_alike_26 ?_
  first | refine rX6_alike_27N (by repeat first | assumption | exact zup_eq | refine (zup_ne (by first | decide | omega)).trans ?_) (by first | assumption | decide | omega) (by first | decide | omega) ?_ | refine rX6_alike_27 (by repeat first | assumption | exact zup_eq | refine (zup_ne (by first | decide | omega)).trans ?_) (by first | assumption | decide) ?_
  rw [hgn q2 hq2]
  refine rX6_alike_28 (fun hb => ?_) (fun hb => ?_)
  · rw [zb_f (fun z => hb (congrArg nI z.1))] at h
    refine rX6_alike_54 ?_
    refine rX6_alike_55 ?_
    exact h
  · have hnn : n q = n q2 := (nI_eq (by omega) (by omega)).mp hb
    refine rX6_alike_31 ?_
    refine rX6_alike_32 ?_
    refine rX6_alike_33 ?_
    refine rX6_alike_34 ?_
    refine rX6_alike_35 (by repeat first | assumption | exact zup_eq | refine (zup_ne (by first | decide | omega)).trans ?_) ?_
    refine m_turnOf hM hq hn hn1 (hL q hq) ?_
    refine rX6_alike_38 ?_
    refine rX6_alike_39 ?_
    refine rX6_alike_40 ?_
    refine rX6_alike_41 (by repeat first | assumption | exact zup_eq | refine (zup_ne (by first | decide | omega)).trans ?_) ?_
    refine m_turnOf hM hq2 hm hm2 (hL q2 hq2) ?_
    refine rX6_alike_44 (by repeat first | assumption | exact zup_eq | refine (zup_ne (by first | decide | omega)).trans ?_) ?_
    refine m_against hM hq hn hn1 hq2 hm hm2 ?_
    have hz := zdif_eq (wlf_rng (hL q hq) hn hn1 (nI (way (n q) (l q)))) (wlf_rng (hL q2 hq2) hm hm2 (nI (way (n q2) (l q2)))) (n q) 0
    refine rX6_alike_47 (fun hc => ?_) (fun hc => ?_)
    · rw [zb_f (fun z => hc (hz.mpr (fun j _ hj => z.2 j (by omega))))] at h
      refine rX6_alike_54 ?_
      refine rX6_alike_55 ?_
      exact h
    · rw [zb_t (p := sameNm (n q) (n q2) (l q) (l q2)) ⟨hnn, fun i hi => hz.mp hc i (Nat.zero_le _) (by omega)⟩] at h
      refine rX6_alike_50 ?_
      refine rX6_alike_51 ?_
      refine rX6_alike_55 ?_
      exact h
theorem m_isSetting {f : ZH} {r ga ba st ph mo : Int32} (hM : MP f n l o s p) (hN : ∀ q, q < 4 → 0 < n q ∧ n q ≤ 24) (h : P (some (zi (zb (okS n r ga ba st ph mo)))) sz f) : Zv none 91 0 [some (zr 37), some (zi r), some (zi ga), some (zi ba), some (zi st), some (zi ph), some (zi mo)] [] sz f 0 0 P := by
  obtain ⟨h37, ⟨gn, h38, hgn⟩, -⟩ := id hM
  refine rX6_isSetting_0 ?_
  refine rX6_isSetting_1  ?_
  refine m_isRosette ?_
  refine rX6_isSetting_4b (fun hc => ?_) (fun hc => ?_)
  · rw [zb_f (fun ⟨q, h1, h2, _⟩ => hc (by rw [h2]; exact inR03 h1))] at h
    refine rX6_isSetting_76 ?_
    first | refine rX6_isSetting_77b ?_ | refine rX6_isSetting_77 (Or.inl rfl) ?_ | refine rX6_isSetting_77 (Or.inr rfl) ?_
    exact h
  · rcases okR_cases r with ⟨q, hq, rfl⟩ | hr
    · obtain ⟨hn, hn2⟩ := hN q hq
      have hno : ∀ {A : Prop}, (okS n (nI q) ga ba st ph mo → A) → ¬ A → P (some (zi 0)) sz f := fun hA hna => by
        rw [zb_f (fun z => hna (hA z))] at h
        exact h
      have hqq : ∀ q', q' < 4 → nI q = nI q' → q' = q := fun q' hq' e => ((nI_eq (by omega) (by omega)).mp e).symm
      refine rX6_isSetting_7 ?_
      refine rX6_isSetting_8 ?_
      refine rX6_isSetting_9 ?_
      refine rX6_isSetting_10  ?_
      refine m_in ?_
      refine rX6_isSetting_13b (fun hb => ?_) (fun c1 => ?_)
      · refine rX6_isSetting_76 ?_
        first | refine rX6_isSetting_77b ?_ | refine rX6_isSetting_77 (Or.inl rfl) ?_ | refine rX6_isSetting_77 (Or.inr rfl) ?_
        exact hno (fun ⟨_, _, _, z, _⟩ => z) hb
      refine rX6_isSetting_16 ?_
      refine rX6_isSetting_17 ?_
      refine rX6_isSetting_18 ?_
      refine rX6_isSetting_21  ?_
      refine m_in ?_
      refine rX6_isSetting_24b (fun hb => ?_) (fun c2 => ?_)
      · refine rX6_isSetting_76 ?_
        first | refine rX6_isSetting_77b ?_ | refine rX6_isSetting_77 (Or.inl rfl) ?_ | refine rX6_isSetting_77 (Or.inr rfl) ?_
        exact hno (fun ⟨_, _, _, _, z, _⟩ => z) hb
      refine rX6_isSetting_27 ?_
      refine rX6_isSetting_29 ?_
      refine rX6_isSetting_30 ?_
      refine rX6_isSetting_32  ?_
      refine m_in ?_
      refine rX6_isSetting_35b (fun hb => ?_) (fun c3 => ?_)
      · refine rX6_isSetting_76 ?_
        first | refine rX6_isSetting_77b ?_ | refine rX6_isSetting_77 (Or.inl rfl) ?_ | refine rX6_isSetting_77 (Or.inr rfl) ?_
        exact hno (fun ⟨_, _, _, _, _, z, _⟩ => z) hb
      refine rX6_isSetting_38 ?_
      refine rX6_isSetting_40 ?_
      refine rX6_isSetting_41 ?_
      refine rX6_isSetting_42 (by repeat first | assumption | exact zup_eq | refine (zup_ne (by first | decide | omega)).trans ?_) ?_
      refine rX6_isSetting_45 ?_
      first | refine rX6_isSetting_46N (by repeat first | assumption | exact zup_eq | refine (zup_ne (by first | decide | omega)).trans ?_) (by first | assumption | decide | omega) (by first | decide | omega) ?_ | refine rX6_isSetting_46 (by repeat first | assumption | exact zup_eq | refine (zup_ne (by first | decide | omega)).trans ?_) (by first | assumption | decide) ?_
      rw [hgn q hq]
      refine rX6_isSetting_47 ?_
      refine rX6_isSetting_48 ?_
      refine rX6_isSetting_49  ?_
      refine m_in ?_
      refine rX6_isSetting_52b (fun hb => ?_) (fun c4 => ?_)
      · refine rX6_isSetting_76 ?_
        first | refine rX6_isSetting_77b ?_ | refine rX6_isSetting_77 (Or.inl rfl) ?_ | refine rX6_isSetting_77 (Or.inr rfl) ?_
        exact hno (fun ⟨q', a1, a2, _, _, _, z, _⟩ => by rw [hqq q' a1 a2] at z; exact z) (fun z => hb ((sub1_le hn (by omega)).mpr z))
      refine rX6_isSetting_55 ?_
      refine rX6_isSetting_57 ?_
      refine rX6_isSetting_58 ?_
      refine rX6_isSetting_59 (by repeat first | assumption | exact zup_eq | refine (zup_ne (by first | decide | omega)).trans ?_) ?_
      refine rX6_isSetting_62 ?_
      first | refine rX6_isSetting_63N (by repeat first | assumption | exact zup_eq | refine (zup_ne (by first | decide | omega)).trans ?_) (by first | assumption | decide | omega) (by first | decide | omega) ?_ | refine rX6_isSetting_63 (by repeat first | assumption | exact zup_eq | refine (zup_ne (by first | decide | omega)).trans ?_) (by first | assumption | decide) ?_
      rw [hgn q hq]
      refine rX6_isSetting_64 ?_
      refine rX6_isSetting_65 ?_
      refine rX6_isSetting_66  ?_
      refine m_in ?_
      refine rX6_isSetting_69b (fun hb => ?_) (fun c5 => ?_)
      · refine rX6_isSetting_76 ?_
        first | refine rX6_isSetting_77b ?_ | refine rX6_isSetting_77 (Or.inl rfl) ?_ | refine rX6_isSetting_77 (Or.inr rfl) ?_
        exact hno (fun ⟨q', a1, a2, _, _, _, _, z⟩ => by rw [hqq q' a1 a2] at z; exact z) (fun z => hb ((sub1_le hn (by omega)).mpr z))
      rw [zb_t ⟨q, hq, rfl, c1, c2, c3, (sub1_le hn (by omega)).mp c4, (sub1_le hn (by omega)).mp c5⟩] at h
      refine rX6_isSetting_72 ?_
      refine rX6_isSetting_73 ?_
      first | refine rX6_isSetting_77b ?_ | refine rX6_isSetting_77 (Or.inl rfl) ?_ | refine rX6_isSetting_77 (Or.inr rfl) ?_
      exact h
    · exact absurd hc hr
theorem m_lays {f : ZH} {k : Nat} {g : Nat → Int32} {r ga ba st ph mo : Int32} (hk : f k = some (zA 6 g)) (h : ∀ f' g', f' k = some (zA 6 g') → (∀ i, i < 6 → g' i = six r ga ba st ph mo i) → (∀ j, j ≠ k → f' j = f j) → P none sz f') : Zv none 92 0 [some (zr k), some (zi r), some (zi ga), some (zi ba), some (zi st), some (zi ph), some (zi mo)] [] sz f 0 0 P := by
  first | refine rX6_lays_0 ?_ | refine rX6_lays_0n ?_
  refine rX6_lays_1 ?_
  refine rX6_lays_2 ?_
  refine rX6_lays_3N (q := 0) (by repeat first | assumption | exact zup_eq | refine (zup_ne (by first | decide | omega)).trans ?_) (by decide) (by decide) ?_
  first | refine rX6_lays_4 ?_ | refine rX6_lays_4n ?_
  refine rX6_lays_5 ?_
  refine rX6_lays_6 ?_
  refine rX6_lays_7N (q := 1) (by repeat first | assumption | exact zup_eq | refine (zup_ne (by first | decide | omega)).trans ?_) (by decide) (by decide) ?_
  first | refine rX6_lays_8 ?_ | refine rX6_lays_8n ?_
  refine rX6_lays_9 ?_
  refine rX6_lays_10 ?_
  refine rX6_lays_11N (q := 2) (by repeat first | assumption | exact zup_eq | refine (zup_ne (by first | decide | omega)).trans ?_) (by decide) (by decide) ?_
  first | refine rX6_lays_12 ?_ | refine rX6_lays_12n ?_
  refine rX6_lays_13 ?_
  refine rX6_lays_14 ?_
  refine rX6_lays_16N (q := 3) (by repeat first | assumption | exact zup_eq | refine (zup_ne (by first | decide | omega)).trans ?_) (by decide) (by decide) ?_
  first | refine rX6_lays_17 ?_ | refine rX6_lays_17n ?_
  refine rX6_lays_18 ?_
  refine rX6_lays_19 ?_
  refine rX6_lays_21N (q := 4) (by repeat first | assumption | exact zup_eq | refine (zup_ne (by first | decide | omega)).trans ?_) (by decide) (by decide) ?_
  first | refine rX6_lays_22 ?_ | refine rX6_lays_22n ?_
  refine rX6_lays_23 ?_
  refine rX6_lays_24 ?_
  refine rX6_lays_26N (q := 5) (by repeat first | assumption | exact zup_eq | refine (zup_ne (by first | decide | omega)).trans ?_) (by decide) (by decide) ?_
  refine rX6_lays_27 ?_
  refine h _ _ zup_eq (fun i hi => ?_) (fun j hj => ?_)
  · rcases (by omega : i = 0 ∨ i = 1 ∨ i = 2 ∨ i = 3 ∨ i = 4 ∨ i = 5) with rfl | rfl | rfl | rfl | rfl | rfl <;> rfl
  · repeat refine (zup_ne hj).trans ?_
    rfl
theorem m_setting_bad {f : ZH} {r ga ba st ph mo : Int32} (hM : MP f n l o s p) (hN : ∀ q, q < 4 → 0 < n q ∧ n q ≤ 24) (hb : ¬ okS n r ga ba st ph mo) (h : P (some (zi (-1))) sz f) : Zv none 93 0 [some (zr 37), some (zi r), some (zi ga), some (zi ba), some (zi st), some (zi ph), some (zi mo)] [] sz f 0 0 P := by
  have h37 := hM.1
  refine rX6_setting_0 ?_
  refine rX6_setting_1 ?_
  refine rX6_setting_2 ?_
  refine rX6_setting_3 ?_
  refine rX6_setting_4 ?_
  refine rX6_setting_6 ?_
  refine rX6_setting_8 ?_
  refine rX6_setting_10 (by repeat first | assumption | exact zup_eq | refine (zup_ne (by first | decide | omega)).trans ?_) ?_
  refine m_isSetting hM hN ?_
  refine rX6_setting_13b (fun hbb => absurd hbb hb) (fun _ => ?_)
  refine rX6_setting_16 ?_
  refine rX6_setting_17 ?_
  exact h
theorem m_setting_ok {f : ZH} {r ga ba st ph mo : Int32} (hM : MP f n l o s p) (hN : ∀ q, q < 4 → 0 < n q ∧ n q ≤ 24) (hb : okS n r ga ba st ph mo) (h : ∀ f', MP f' n l (six r ga ba st ph mo) s p → lo f f' → P (some (zi 0)) sz f') : Zv none 93 0 [some (zr 37), some (zi r), some (zi ga), some (zi ba), some (zi st), some (zi ph), some (zi mo)] [] sz f 0 0 P := by
  obtain ⟨h37, h38, ⟨gl, h39, hgl⟩, ⟨go, h40, -⟩, ⟨gx, h41⟩, h42, h43, gh, h44⟩ := id hM
  refine rX6_setting_0 ?_
  refine rX6_setting_1 ?_
  refine rX6_setting_2 ?_
  refine rX6_setting_3 ?_
  refine rX6_setting_4 ?_
  refine rX6_setting_6 ?_
  refine rX6_setting_8 ?_
  refine rX6_setting_10 (by repeat first | assumption | exact zup_eq | refine (zup_ne (by first | decide | omega)).trans ?_) ?_
  refine m_isSetting hM hN ?_
  refine rX6_setting_13b (fun _ => ?_) (fun hbb => absurd hb hbb)
  refine rX6_setting_18 ?_
  refine rX6_setting_19 (by repeat first | assumption | exact zup_eq | refine (zup_ne (by first | decide | omega)).trans ?_) ?_
  refine rX6_setting_22 ?_
  refine rX6_setting_23 ?_
  refine rX6_setting_24 ?_
  refine rX6_setting_25 ?_
  refine rX6_setting_27 ?_
  refine rX6_setting_29 ?_
  refine rX6_setting_31  ?_
  refine m_lays h40 (fun f1 g1 k40 hg1 e => ?_)
  refine rX6_setting_34 ?_
  refine rX6_setting_35 ?_
  exact h f1 ⟨(e _ (by decide)).trans h37, h38.keep (e _ (by decide)), ⟨gl, (e _ (by decide)).trans h39, hgl⟩, ⟨g1, k40, hg1⟩, ⟨gx, (e _ (by decide)).trans h41⟩, h42.keep (e _ (by decide)), h43.keep (e _ (by decide)), gh, (e _ (by decide)).trans h44⟩ (fun j hj => e j (by omega))
theorem m_told {f : ZH} {x : Int32} (hM : MP f n l o s p) (hbad : (x.toInt < 0 ∨ 5 < x.toInt) → P (some (zi (-1))) sz f) (hok : ∀ q, q < 6 → x = nI q → P (some (zi (o q))) sz f) : Zv none 94 0 [some (zr 37), some (zi x)] [] sz f 0 0 P := by
  obtain ⟨h37, -, -, ⟨go, h40, hgo⟩, -⟩ := id hM
  refine rX6_told_0 ?_
  refine rX6_told_1 ?_
  refine rX6_told_2 ?_
  refine rX6_told_3  ?_
  refine m_in ?_
  refine rX6_told_6b (fun hb => ?_) (fun hb => ?_)
  · refine rX6_told_18 ?_
    refine rX6_told_19 ?_
    refine hbad ?_
    by_cases h1 : x.toInt < 0
    · exact Or.inl h1
    · by_cases h2 : 5 < x.toInt
      · exact Or.inr h2
      · exact absurd ⟨Int32.le_iff_toInt_le.mpr (show (0 : Int32).toInt ≤ x.toInt by rw [show (0 : Int32).toInt = 0 from rfl]; omega), Int32.le_iff_toInt_le.mpr (show x.toInt ≤ (5 : Int32).toInt by rw [show (5 : Int32).toInt = 5 from rfl]; omega)⟩ hb
  · obtain ⟨q, -, hq, rfl⟩ := inR_nI (a := 0) (m := 5) (by decide) (by decide) hb
    refine rX6_told_9 ?_
    refine rX6_told_10 (by repeat first | assumption | exact zup_eq | refine (zup_ne (by first | decide | omega)).trans ?_) ?_
    refine rX6_told_13 ?_
    first | refine rX6_told_14N (by repeat first | assumption | exact zup_eq | refine (zup_ne (by first | decide | omega)).trans ?_) (by first | assumption | decide | omega) (by first | decide | omega) ?_ | refine rX6_told_14 (by repeat first | assumption | exact zup_eq | refine (zup_ne (by first | decide | omega)).trans ?_) (by first | assumption | decide) ?_
    rw [hgo q (by omega)]
    refine rX6_told_15 ?_
    refine rX6_told_19 ?_
    exact hok q (by omega) rfl
theorem m_slip_bad {f : ZH} {r x : Int32} (hb : ¬ (inR r 0 11 ∧ inR x (-24) 24)) (h : P (some (zi (-100))) sz f) : Zv none 95 0 [some (zr 37), some (zi r), some (zi x), none] [] sz f 0 0 P := by
  refine rX6_slip_0 ?_
  refine rX6_slip_1 ?_
  refine rX6_slip_2 ?_
  refine rX6_slip_4  ?_
  refine m_in ?_
  refine rX6_slip_7b (fun _ => ?_) (fun hc => ?_)
  · refine rX6_slip_21 ?_
    refine rX6_slip_23 ?_
    exact h
  · refine rX6_slip_10 ?_
    refine rX6_slip_11 ?_
    refine rX6_slip_13 ?_
    refine rX6_slip_15  ?_
    refine m_in ?_
    refine rX6_slip_18b (fun hbb => absurd hbb (fun z => hb ⟨hc, z⟩)) (fun _ => ?_)
    refine rX6_slip_21 ?_
    refine rX6_slip_23 ?_
    exact h
theorem m_slip_ok {f : ZH} {r : Nat} {x : Int32} (hM : MP f n l o s p) (hr : r < 12) (hx : inR x (-24) 24) (h : ∀ f', MP f' n l o (upd s r x) p → lo f f' → P (some (zi (s r))) sz f') : Zv none 95 0 [some (zr 37), some (zi (nI r)), some (zi x), none] [] sz f 0 0 P := by
  obtain ⟨h37, h38, ⟨gl, h39, hgl⟩, h40, ⟨gx, h41⟩, ⟨gs, h42, hgs⟩, h43, gh, h44⟩ := id hM
  refine rX6_slip_0 ?_
  refine rX6_slip_1 ?_
  refine rX6_slip_2 ?_
  refine rX6_slip_4  ?_
  refine m_in ?_
  refine rX6_slip_7b (fun hbb => absurd (inR011 hr) hbb) (fun _ => ?_)
  refine rX6_slip_10 ?_
  refine rX6_slip_11 ?_
  refine rX6_slip_13 ?_
  refine rX6_slip_15  ?_
  refine m_in ?_
  refine rX6_slip_18b (fun _ => ?_) (fun hbb => absurd hx hbb)
  refine rX6_slip_24 ?_
  refine rX6_slip_25 (by repeat first | assumption | exact zup_eq | refine (zup_ne (by first | decide | omega)).trans ?_) ?_
  refine rX6_slip_28 ?_
  first | refine rX6_slip_29N (by repeat first | assumption | exact zup_eq | refine (zup_ne (by first | decide | omega)).trans ?_) (by first | assumption | decide | omega) (by first | decide | omega) ?_ | refine rX6_slip_29 (by repeat first | assumption | exact zup_eq | refine (zup_ne (by first | decide | omega)).trans ?_) (by first | assumption | decide) ?_
  refine rX6_slip_30 ?_
  refine rX6_slip_31 ?_
  refine rX6_slip_32 (by repeat first | assumption | exact zup_eq | refine (zup_ne (by first | decide | omega)).trans ?_) ?_
  refine rX6_slip_35 ?_
  refine rX6_slip_36 ?_
  first | refine rX6_slip_37N (by repeat first | assumption | exact zup_eq | refine (zup_ne (by first | decide | omega)).trans ?_) (by first | assumption | decide | omega) (by first | decide | omega) ?_ | refine rX6_slip_37 (by repeat first | assumption | exact zup_eq | refine (zup_ne (by first | decide | omega)).trans ?_) (by first | assumption | decide) ?_
  refine rX6_slip_38 ?_
  refine rX6_slip_39 ?_
  rw [hgs r hr]
  refine h _ ⟨(zup_ne (by decide)).trans h37, h38.keep (zup_ne (by decide)), ⟨gl, (zup_ne (by decide)).trans h39, hgl⟩, h40.keep (zup_ne (by decide)), ⟨gx, (zup_ne (by decide)).trans h41⟩, ⟨_, zup_eq, fun i hi => ?_⟩, h43.keep (zup_ne (by decide)), gh, (zup_ne (by decide)).trans h44⟩ (fun j hj => zup_ne (by omega))
  by_cases hir : i = r
  · rw [hir, upd_s, upd_s]
  · rw [upd_n hir, upd_n hir, hgs i hi]
end MR3
