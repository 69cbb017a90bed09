/-! THE REFERENCE: makersTo, makers, maker; it is made -/
/-- the candidate k of rosette r with period pe, before base and step are told -/
def cand (r pe k : Nat) : Nat → Int32 := six (nI r) (nI (1 + k / (pe * pe))) 0 0 (nI (k / pe % pe)) (nI (k % pe))
noncomputable def cM (p : Nat → Int32) (n : Nat) (l : Nat → Int32) (r pe k : Nat) : List (Nat → Int32) := match okM (grd p n l (cand r pe k)) with
  | some (b, st) => [six (nI r) (nI (1 + k / (pe * pe))) b st (nI (k / pe % pe)) (nI (k % pe))]
  | none => []
theorem cM_le (p : Nat → Int32) (n : Nat) (l : Nat → Int32) (r pe k : Nat) : (cM p n l r pe k).length ≤ 1 := by
  unfold cM
  split <;> simp
noncomputable def mkR (p : Nat → Int32) (n : Nat → Nat) (l : Nat → Nat → Int32) (r : Nat) : List (Nat → Int32) := mkRow (fun k => cM p (n r) (l r) r (per (n r) (l r)) k) (4 * per (n r) (l r) * per (n r) (l r)) 0
noncomputable def mkRs (p : Nat → Int32) (n : Nat → Nat) (l : Nat → Nat → Int32) : Nat → Nat → List (Nat → Int32)
  | 0, _ => []
  | d + 1, r => mkR p n l r ++ mkRs p n l d (r + 1)
theorem mkRow_le (c : Nat → List (Nat → Int32)) (hc : ∀ m, (c m).length ≤ 1) : ∀ d m, (mkRow c d m).length ≤ d
  | 0, m => Nat.le_refl _
  | d + 1, m => by
    have := mkRow_le c hc d (m + 1)
    have := hc m
    rw [mkRow, List.length_append]
    omega
section MR7
variable {n : Nat → Nat} {l : Nat → Nat → Int32} {o s p : Nat → Int32} {sz : Nat} {P : Option ZVal → Nat → ZH → Prop}
theorem MP.other {f f' : ZH} (hM : MP f n l o s p) (e : ∀ j, j ≠ 41 → f' j = f j) (h : ∃ g, f' 41 = some (zA 6 g)) : MP f' n l o s p := by
  obtain ⟨h37, h38, ⟨gl, h39, hgl⟩, h40, ⟨gx, h41⟩, h42, h43, gh, h44⟩ := hM
  exact ⟨(e _ (by decide)).trans h37, h38.keep (e _ (by decide)), ⟨gl, (e _ (by decide)).trans h39, hgl⟩, h40.keep (e _ (by decide)), h, h42.keep (e _ (by decide)), h43.keep (e _ (by decide)), gh, (e _ (by decide)).trans h44⟩
/-- how makersTo(x) ends: at the W-th maker, or with them all -/
theorem m_makersTo {f : ZH} {x : Int32} {W : Nat} (hM : MP f n l o s p) (hN : ∀ q, q < 4 → 0 < n q ∧ n q ≤ 24) (hW : 0 < W) (hx : ∀ m, m < 9999 → (nI m = x ↔ m + 1 = W)) (h : ∀ f', MP f' n l o s p → (∀ j, j ≠ 41 → f' j = f j) → (W ≤ (mkRs p n l 4 0).length → ∃ g, f' 41 = some (zA 6 g) ∧ ∀ i, i < 6 → g i = ((mkRs p n l 4 0).getD (W - 1) (fun _ => 0)) i) → P (some (zi (nI ((mkRs p n l 4 0).take W).length))) sz f') : Zv none 114 0 [some (zr 37), some (zi x), none, none, none, none] [] sz f 0 0 P := by
  have h37 := hM.1
  generalize hAll : mkRs p n l 4 0 = All at h
  -- one rosette
  have inner : ∀ (r pe : Nat), r < 4 → pe = per (n r) (l r) → ∀ (d k fo : Nat) (f1 : ZH), k + d = 4 * pe * pe → fo < W → fo + d ≤ 2304 * (r + 1) → MP f1 n l o s p → (∀ j, j ≠ 41 → f1 j = f j) → (fo + (mkRow (fun k => cM p (n r) (l r) r pe k) d k).length < W → ∀ f2, MP f2 n l o s p → (∀ j, j ≠ 41 → f2 j = f j) → ∀ l5, Zv none 114 87 [some (zr 37), some (zi x), some (zi (nI (fo + (mkRow (fun k => cM p (n r) (l r) r pe k) d k).length))), some (zi (nI pe)), some (zi (nI r)), l5] [] sz f2 0 0 P) → (W ≤ fo + (mkRow (fun k => cM p (n r) (l r) r pe k) d k).length → ∀ f2 g, MP f2 n l o s p → (∀ j, j ≠ 41 → f2 j = f j) → f2 41 = some (zA 6 g) → (∀ i, i < 6 → g i = ((mkRow (fun k => cM p (n r) (l r) r pe k) d k).getD (W - 1 - fo) (fun _ => 0)) i) → P (some (zi (nI W))) sz f2) → Zv none 114 23 [some (zr 37), some (zi x), some (zi (nI fo)), some (zi (nI pe)), some (zi (nI r)), some (zi (nI k))] [] sz f1 0 0 P := by
    intro r pe hr hpe d
    obtain ⟨hn, hn2⟩ := hN r hr
    have hp := per_pos (l := l r) hn
    rw [← hpe] at hp
    have hpp : pe * pe ≤ 24 * 24 := Nat.mul_le_mul (by omega) (by omega)
    have hpp0 : 0 < pe * pe := Nat.mul_pos hp.1 hp.1
    have hb : 4 * pe * pe ≤ 2304 := by
      rw [Nat.mul_assoc]
      omega
    have hpe0 : ¬ nI pe = 0 := nI_ne hp.1 (by omega)
    have hpp1 : ¬ nI pe * nI pe = 0 := by rw [pk_mul]; exact nI_ne hpp0 (by omega)
    induction d with
    | zero =>
      intro k fo f1 hk hfo hsm hM1 e1 h1 h2
      have h1 := h1 (by rw [mkRow, List.length_nil]; exact hfo) f1 hM1 e1 (some (zi (nI k)))
      rw [mkRow, List.length_nil, Nat.add_zero] at h1
      refine rX6_makersTo_23 ?_
      refine rX6_makersTo_25 ?_
      refine rX6_makersTo_26 ?_
      refine rX6_makersTo_27 ?_
      refine rX6_makersTo_28 ?_
      refine rX6_makersTo_29 ?_
      rw [show (4 : Int32) * nI pe * nI pe = nI (4 * pe * pe) by rw [show (4 : Int32) = nI 4 from rfl, pk_mul, pk_mul]]
      refine rX6_makersTo_30 (fun _ => ?_) (fun hbb => absurd (nI_le (by omega) (by omega)) hbb)
      exact h1
    | succ d ih =>
      intro k fo f1 hk hfo hsm hM1 e1 h1 h2
      have k37 := hM1.1
      obtain ⟨gx, k41⟩ := hM1.2.2.2.2.1
      have hkp : k / pe < 2 ^ 31 := Nat.lt_of_le_of_lt (Nat.div_le_self k pe) (by omega)
      rw [mkRow] at h1 h2
      refine rX6_makersTo_23 ?_
      refine rX6_makersTo_25 ?_
      refine rX6_makersTo_26 ?_
      refine rX6_makersTo_27 ?_
      refine rX6_makersTo_28 ?_
      refine rX6_makersTo_29 ?_
      rw [show (4 : Int32) * nI pe * nI pe = nI (4 * pe * pe) by rw [show (4 : Int32) = nI 4 from rfl, pk_mul, pk_mul]]
      refine rX6_makersTo_30 (fun hbb => absurd hbb (nI_ge (by omega) (by omega))) (fun _ => ?_)
      refine rX6_makersTo_33 ?_
      refine rX6_makersTo_34 (by repeat first | assumption | exact zup_eq | refine (zup_ne (by first | decide | omega)).trans ?_) ?_
      refine rX6_makersTo_37 ?_
      refine rX6_makersTo_39 ?_
      refine rX6_makersTo_40 ?_
      refine rX6_makersTo_42 ?_
      refine rX6_makersTo_43 ?_
      refine rX6_makersTo_44 ?_
      refine rX6_makersTo_45 (by first | assumption | decide) ?_
      rw [pk_mul, pk_div (by omega) hpp0 (by omega)]
      refine rX6_makersTo_46 ?_
      rw [show (1 : Int32) + nI (k / (pe * pe)) = nI (1 + k / (pe * pe)) from nI_add 1 _]
      refine rX6_makersTo_47 ?_
      refine rX6_makersTo_48 ?_
      refine rX6_makersTo_49 ?_
      refine rX6_makersTo_51 ?_
      refine rX6_makersTo_52 (by first | assumption | decide) ?_
      rw [pk_div (by omega) hp.1 (by omega)]
      refine rX6_makersTo_53 ?_
      refine rX6_makersTo_54 (by first | assumption | decide) ?_
      rw [pk_rem hkp hp.1 (by omega)]
      refine rX6_makersTo_55 ?_
      refine rX6_makersTo_57 ?_
      refine rX6_makersTo_58 (by first | assumption | decide) ?_
      rw [pk_rem (by omega) hp.1 (by omega)]
      refine rX6_makersTo_59  ?_
      refine m_lays k41 (fun f2 g2 m41 hg2 e2 => ?_)
      have hM2 : MP f2 n l o s p := hM1.other e2 ⟨g2, m41⟩
      have hA2 : isArr f2 41 6 (cand r pe k) := ⟨g2, m41, hg2⟩
      have m37 := hM2.1
      refine rX6_makersTo_62 ?_
      refine rX6_makersTo_63 (by repeat first | assumption | exact zup_eq | refine (zup_ne (by first | decide | omega)).trans ?_) ?_
      refine m_makes hM2 hA2 hr rfl hn hn2 (fun f3 g3 q41 e3 hg3 => ?_)
      have hM3 : MP f3 n l o s p := hM2.other e3 ⟨g3, q41⟩
      have e4 : ∀ j, j ≠ 41 → f3 j = f j := fun j hj => (e3 j hj).trans ((e2 j hj).trans (e1 j hj))
      refine rX6_makersTo_66b (fun hb => ?_) (fun hb => ?_)
      · have hc : cM p (n r) (l r) r pe k = [] := by
          unfold cM
          cases hz : okM (grd p (n r) (l r) (cand r pe k)) with
          | none => rfl
          | some bs => exact absurd (by rw [hz]; exact fun z => by cases z) hb
        rw [hc, List.nil_append] at h1 h2
        refine rX6_makersTo_81 ?_
        refine rX6_makersTo_84 ?_
        rw [nI_1]
        exact ih (k + 1) fo f3 (by omega) hfo (by omega) hM3 e4 h1 h2
      · obtain ⟨b, st, hbs⟩ : ∃ b st, okM (grd p (n r) (l r) (cand r pe k)) = some (b, st) := by
          cases hz : okM (grd p (n r) (l r) (cand r pe k)) with
          | none => exact absurd hz hb
          | some bs => exact ⟨bs.1, bs.2, rfl⟩
        have hc : cM p (n r) (l r) r pe k = [six (nI r) (nI (1 + k / (pe * pe))) b st (nI (k / pe % pe)) (nI (k % pe))] := by
          unfold cM
          rw [hbs]
        have hg4 : ∀ i, i < 6 → g3 i = six (nI r) (nI (1 + k / (pe * pe))) b st (nI (k / pe % pe)) (nI (k % pe)) i := hg3 b st hbs
        rw [hc] at h1 h2
        rw [List.length_append, List.length_singleton] at h1 h2
        refine rX6_makersTo_69 ?_
        refine rX6_makersTo_70 ?_
        refine rX6_makersTo_71 (fun hi => ?_) (fun hi => ?_)
        · have hfo1 : ¬ fo + 1 = W := fun z => hi ((hx fo (by omega)).mpr z)
          rw [← Nat.add_assoc] at h1 h2
          refine rX6_makersTo_78 ?_
          refine rX6_makersTo_81 ?_
          refine rX6_makersTo_84 ?_
          rw [nI_1, nI_1]
          refine ih (k + 1) (fo + 1) f3 (by omega) (by omega) (by omega) hM3 e4 h1 (fun h3 f5 g5 hM5 e5 h5 hg5 => h2 h3 f5 g5 hM5 e5 h5 (fun i hi6 => ?_))
          rw [hg5 i hi6, show W - 1 - fo = (W - 1 - (fo + 1)) + 1 by omega]
          rfl
        · have hfo1 : fo + 1 = W := (hx fo (by omega)).mp hi
          have h2 := h2 (by omega) f3 g3 hM3 e4 q41 (fun i hi6 => by rw [hg4 i hi6, show W - 1 - fo = 0 by omega]; rfl)
          rw [← hfo1] at h2
          refine rX6_makersTo_74 ?_
          refine rX6_makersTo_75 ?_
          refine rX6_makersTo_76 ?_
          refine rX6_makersTo_77 ?_
          rw [nI_1]
          exact h2
  have outer : ∀ (d r fo : Nat) (f1 : ZH) (l3 l5 : Option ZVal), r + d = 4 → fo < W → fo ≤ 2304 * r → MP f1 n l o s p → (∀ j, j ≠ 41 → f1 j = f j) → (∃ Pre, All = Pre ++ mkRs p n l d r ∧ Pre.length = fo) → Zv none 114 7 [some (zr 37), some (zi x), some (zi (nI fo)), l3, some (zi (nI r)), l5] [] sz f1 0 0 P := by
    intro d
    induction d with
    | zero =>
      intro r fo f1 l3 l5 hr hfo hfb hM1 e1 hpre
      obtain ⟨Pre, hA, hlen⟩ := hpre
      rw [mkRs, List.append_nil] at hA
      have h := h f1 hM1 e1 (fun z => absurd z (by rw [hA]; omega))
      rw [List.take_of_length_le (by rw [hA]; omega), hA, hlen] at h
      obtain rfl : r = 4 := by omega
      refine rX6_makersTo_7 ?_
      refine rX6_makersTo_9 ?_
      refine rX6_makersTo_10 (fun _ => ?_) (fun hbb => absurd (by decide) hbb)
      refine rX6_makersTo_93 ?_
      refine rX6_makersTo_94 ?_
      exact h
    | succ d ih =>
      intro r fo f1 l3 l5 hr hfo hfb hM1 e1 hpre
      have hr4 : r < 4 := by omega
      have k37 := hM1.1
      obtain ⟨Pre, hA, hlen⟩ := hpre
      rw [mkRs] at hA
      obtain ⟨hn, hn2⟩ := hN r hr4
      have hp := per_pos (l := l r) hn
      refine rX6_makersTo_7 ?_
      refine rX6_makersTo_9 ?_
      refine rX6_makersTo_10 (fun hbb => absurd hbb (nI_ge (b := 4) hr4 (by decide))) (fun _ => ?_)
      refine rX6_makersTo_13 ?_
      refine rX6_makersTo_14 ?_
      refine rX6_makersTo_16 (by repeat first | assumption | exact zup_eq | refine (zup_ne (by first | decide | omega)).trans ?_) ?_
      refine m_period hM1 hr4 hn hn2 ?_
      generalize hpe : per (n r) (l r) = pe at hp ⊢
      have hpp : pe * pe ≤ 24 * 24 := Nat.mul_le_mul (by omega) (by omega)
      have hb : 4 * pe * pe ≤ 2304 := by
        rw [Nat.mul_assoc]
        omega
      have hR : mkR p n l r = mkRow (fun k => cM p (n r) (l r) r pe k) (4 * pe * pe) 0 := by
        unfold mkR
        rw [hpe]
      have hRl : (mkRow (fun k => cM p (n r) (l r) r pe k) (4 * pe * pe) 0).length ≤ 4 * pe * pe := mkRow_le _ (fun m => cM_le p (n r) (l r) r pe m) _ _
      rw [hR] at hA
      generalize hLL : mkRow (fun k => cM p (n r) (l r) r pe k) (4 * pe * pe) 0 = LL at hA hRl
      refine rX6_makersTo_19 ?_
      refine rX6_makersTo_20 ?_
      refine rX6_makersTo_21 ?_
      refine inner r pe hr4 hpe.symm (4 * pe * pe) 0 fo f1 (by omega) hfo (by omega) hM1 e1 (fun hlt f2 hM2 e2 l5 => ?_) (fun hge f2 g2 hM2 e2 k41 hg2 => ?_)
      · rw [hLL] at hlt ⊢
        refine rX6_makersTo_87 ?_
        refine rX6_makersTo_90 ?_
        rw [nI_1]
        exact ih (r + 1) (fo + LL.length) f2 _ _ (by omega) hlt (by omega) hM2 e2 ⟨Pre ++ LL, by rw [hA, List.append_assoc], by rw [List.length_append, hlen]⟩
      · rw [hLL] at hge hg2
        have hAl : All.length = fo + (LL.length + (mkRs p n l d (r + 1)).length) := by rw [hA, List.length_append, List.length_append, hlen]
        have h := h f2 hM2 e2 (fun _ => ⟨g2, k41, fun i hi => by
          rw [hg2 i hi, hA, List.getD_eq_getElem?_getD, List.getD_eq_getElem?_getD, List.getElem?_append_right (by omega), List.getElem?_append_left (by omega), hlen]⟩)
        rw [List.length_take, Nat.min_eq_left (by omega)] at h
        exact h
  refine rX6_makersTo_0 ?_
  refine rX6_makersTo_1 ?_
  refine rX6_makersTo_2 ?_
  refine rX6_makersTo_3 ?_
  refine rX6_makersTo_4 ?_
  refine rX6_makersTo_5 ?_
  exact outer 4 0 0 f _ none rfl hW (Nat.zero_le _) hM (fun _ _ => rfl) ⟨[], hAll.symm, rfl⟩
theorem mkRs_le (hN : ∀ q, q < 4 → 0 < n q ∧ n q ≤ 24) : ∀ d r, r + d = 4 → (mkRs p n l d r).length ≤ 2304 * d
  | 0, r, _ => Nat.le_refl _
  | d + 1, r, h => by
    have h1 := mkRs_le hN d (r + 1) (by omega)
    obtain ⟨hn, hn2⟩ := hN r (by omega)
    have hp := per_pos (l := l r) hn
    have hpp : per (n r) (l r) * per (n r) (l r) ≤ 24 * 24 := Nat.mul_le_mul (by omega) (by omega)
    have h2 : (mkR p n l r).length ≤ 4 * per (n r) (l r) * per (n r) (l r) := mkRow_le _ (fun m => cM_le p (n r) (l r) r _ m) _ _
    rw [Nat.mul_assoc] at h2
    rw [mkRs, List.length_append]
    omega
theorem lo41 {f f' : ZH} (e : ∀ j, j ≠ 41 → f' j = f j) : lo f f' := fun j hj => e j (by omega)
theorem m_makers {f : ZH} (hM : MP f n l o s p) (hN : ∀ q, q < 4 → 0 < n q ∧ n q ≤ 24) (h : ∀ f', MP f' n l o s p → lo f f' → P (some (zi (nI (mkRs p n l 4 0).length))) sz f') : Zv none 115 0 [some (zr 37)] [] sz f 0 0 P := by
  have h37 := hM.1
  have hle := mkRs_le (p := p) (l := l) hN 4 0 rfl
  refine rX6_makers_0 ?_
  refine rX6_makers_1 ?_
  refine rX6_makers_2 (by repeat first | assumption | exact zup_eq | refine (zup_ne (by first | decide | omega)).trans ?_) ?_
  refine m_makersTo (W := 10000) hM hN (by decide) (fun m hm => ⟨fun z => ?_, fun z => absurd z (by omega)⟩) (fun f1 hM1 e1 _ => ?_)
  · have h1 := congrArg Int32.toInt z
    rw [nI_toInt (by omega), show (-1 : Int32).toInt = -1 from rfl] at h1
    omega
  · rw [List.take_of_length_le (by omega)]
    refine rX6_makers_5 ?_
    exact h f1 hM1 (lo41 e1)
theorem m_maker_bad {f : ZH} {x w : Int32} (hb : x < 0 ∨ ¬ inR w 0 5) (h : P (some (zi (-1))) sz f) : Zv none 116 0 [some (zr 37), some (zi x), some (zi w)] [] sz f 0 0 P := by
  refine rX6_maker_0 ?_
  refine rX6_maker_1 (fun h1 => ?_) (fun h1 => ?_)
  · refine rX6_maker_13 ?_
    refine rX6_maker_14 ?_
    exact h
  · have hb := hb.resolve_left h1
    refine rX6_maker_4 ?_
    refine rX6_maker_5 ?_
    refine rX6_maker_6 ?_
    refine rX6_maker_7  ?_
    refine m_in ?_
    refine rX6_maker_10b (fun hbb => absurd hbb hb) (fun _ => ?_)
    refine rX6_maker_13 ?_
    refine rX6_maker_14 ?_
    exact h
theorem m_maker_ok {f : ZH} {k w : Nat} (hM : MP f n l o s p) (hN : ∀ q, q < 4 → 0 < n q ∧ n q ≤ 24) (hk : k < 2 ^ 31) (hw : w < 6) (hbig : ∀ f', MP f' n l o s p → lo f f' → (mkRs p n l 4 0).length ≤ k → P (some (zi (-4))) sz f') (hok : ∀ f', MP f' n l o s p → lo f f' → (hkl : k < (mkRs p n l 4 0).length) → P (some (zi ((mkRs p n l 4 0)[k] w))) sz f') : Zv none 116 0 [some (zr 37), some (zi (nI k)), some (zi (nI w))] [] sz f 0 0 P := by
  have h37 := hM.1
  have hle := mkRs_le (p := p) (l := l) hN 4 0 rfl
  refine rX6_maker_0 ?_
  refine rX6_maker_1 (fun hbb => absurd hbb (nI_pos hk)) (fun _ => ?_)
  refine rX6_maker_4 ?_
  refine rX6_maker_5 ?_
  refine rX6_maker_6 ?_
  refine rX6_maker_7  ?_
  refine m_in ?_
  refine rX6_maker_10b (fun _ => ?_) (fun hbb => absurd ⟨nI_pos' (by omega), nI_le (b := 5) (by omega) (by decide)⟩ hbb)
  refine rX6_maker_15 ?_
  refine rX6_maker_16 ?_
  refine rX6_maker_17 (by repeat first | assumption | exact zup_eq | refine (zup_ne (by first | decide | omega)).trans ?_) ?_
  refine m_makersTo (W := k + 1) hM hN (by omega) (fun m hm => ⟨fun z => by rw [(nI_eq (by omega) hk).mp z], fun z => by rw [show m = k by omega]⟩) (fun f1 hM1 e1 hla => ?_)
  have k37 := hM1.1
  rw [List.length_take] at *
  refine rX6_maker_20 ?_
  by_cases hkl : k < (mkRs p n l 4 0).length
  · obtain ⟨g, k41, hg⟩ := hla (by omega)
    refine rX6_maker_21 (fun hbb => absurd hbb (Int32.not_le.mpr (nI_lt (by omega) (by omega)))) (fun _ => ?_)
    refine rX6_maker_24 ?_
    refine rX6_maker_25 (by repeat first | assumption | exact zup_eq | refine (zup_ne (by first | decide | omega)).trans ?_) ?_
    refine rX6_maker_28 ?_
    first | refine rX6_maker_29N (by repeat first | assumption | exact zup_eq | refine (zup_ne (by first | decide | omega)).trans ?_) (by first | assumption | decide | omega) (by first | decide | omega) ?_ | refine rX6_maker_29 (by repeat first | assumption | exact zup_eq | refine (zup_ne (by first | decide | omega)).trans ?_) (by first | assumption | decide) ?_
    rw [hg w hw, show k + 1 - 1 = k by omega, List.getD_eq_getElem?_getD, List.getElem?_eq_getElem hkl]
    refine rX6_maker_30 ?_
    refine rX6_maker_35 ?_
    exact hok f1 hM1 (lo41 e1) hkl
  · refine rX6_maker_21 (fun _ => ?_) (fun hbb => absurd (nI_le (by omega) hk) hbb)
    refine rX6_maker_33 ?_
    refine rX6_maker_35 ?_
    exact hbig f1 hM1 (lo41 e1) (by omega)
end MR7
theorem m_init {f : ZH} {P : Option ZVal → Nat → ZH → Prop} (hk : f 37 = some (zO 6 [zu, zu, zu, zu, zu, zu, zu])) (h : ∀ f', MP f' (fun _ => 1) (fun _ _ => 0) (six 0 1 0 0 0 0) (fun _ => 0) (fun _ => -1) → lo f f' → P none 45 f') : Zv none 75 0 [some (zr 37), none] [] 38 f 0 0 P := by
  refine rX6_init_0 ?_
  refine rX6_init_1 ?_
  refine rX6_init_4 ?_
  refine rX6_init_5 ?_
  refine rX6_init_6 (N := 4) (by decide) rfl (by decide) ⟨by omega, by omega⟩ ?_
  refine rX6_init_8 (by repeat first | assumption | exact zup_eq | refine (zup_ne (by first | decide | omega)).trans ?_) ?_
  refine rX6_init_11 ?_
  refine rX6_init_12 ?_
  refine rX6_init_14 (N := 96) (by decide) rfl (by decide) ⟨by omega, by omega⟩ ?_
  refine rX6_init_16 (by repeat first | assumption | exact zup_eq | refine (zup_ne (by first | decide | omega)).trans ?_) ?_
  refine rX6_init_19 ?_
  refine rX6_init_20 ?_
  refine rX6_init_22 (N := 6) (by decide) rfl (by decide) ⟨by omega, by omega⟩ ?_
  refine rX6_init_24 (by repeat first | assumption | exact zup_eq | refine (zup_ne (by first | decide | omega)).trans ?_) ?_
  refine rX6_init_27 ?_
  refine rX6_init_28 ?_
  refine rX6_init_30 (N := 6) (by decide) rfl (by decide) ⟨by omega, by omega⟩ ?_
  refine rX6_init_32 (by repeat first | assumption | exact zup_eq | refine (zup_ne (by first | decide | omega)).trans ?_) ?_
  refine rX6_init_35 ?_
  refine rX6_init_36 ?_
  refine rX6_init_38 (N := 12) (by decide) rfl (by decide) ⟨by omega, by omega⟩ ?_
  refine rX6_init_40 (by repeat first | assumption | exact zup_eq | refine (zup_ne (by first | decide | omega)).trans ?_) ?_
  refine rX6_init_43 ?_
  refine rX6_init_44 ?_
  refine rX6_init_47 (N := 576) (by decide) rfl (by decide) ⟨by omega, by omega⟩ ?_
  refine rX6_init_49 (by repeat first | assumption | exact zup_eq | refine (zup_ne (by first | decide | omega)).trans ?_) ?_
  refine rX6_init_52 ?_
  refine rX6_init_53 ?_
  refine rX6_init_55 (N := 24) (by decide) rfl (by decide) ⟨by omega, by omega⟩ ?_
  refine rX6_init_57 (by repeat first | assumption | exact zup_eq | refine (zup_ne (by first | decide | omega)).trans ?_) ?_
  have key2 : ∀ (d k : Nat) (f1 : ZH) (g : Nat → Int32) (kc ks : Nat), k + d = 576 → kc ≤ 7 → ks ≤ 724 → f1 37 = some (zO 6 [zr 38, zr 39, zr 40, zr 41, zr 42, zr 43, zr 44]) → f1 43 = some (zA 576 g) → (∀ i, i < k → g i = -1) → isArr f1 38 4 (fun _ => 1) → isArr f1 39 96 (fun _ => 0) → isArr f1 40 6 (six 0 1 0 0 0 0) → isArr f1 41 6 (fun _ => 0) → isArr f1 42 12 (fun _ => 0) → isArr f1 44 24 (fun _ => 0) → lo f f1 → Zv none 75 89 [some (zr 37), some (zi (nI k))] [] 45 f1 kc ks P := by
    intro d
    induction d with
    | zero =>
      intro k f1 g kc ks hk hkc hks k37 k43 hg h38 h39 h40 h41 h42 h44 e1
      obtain rfl : k = 576 := by omega
      refine rX6_init_89 ?_
      refine rX6_init_90 ?_
      refine rX6_init_93 (fun _ => ?_) (fun hbb => absurd (by decide) hbb)
      refine rX6_init_109 ?_
      obtain ⟨gl, h39, hgl⟩ := h39
      obtain ⟨gx, h41, -⟩ := h41
      obtain ⟨gh, h44, -⟩ := h44
      exact h f1 ⟨k37, h38, ⟨gl, h39, fun r j hr hj => hgl _ (by omega)⟩, h40, ⟨gx, h41⟩, h42, ⟨g, k43, hg⟩, gh, h44⟩ e1
    | succ d ih =>
      intro k f1 g kc ks hk hkc hks k37 k43 hg h38 h39 h40 h41 h42 h44 e1
      refine rX6_init_89 ?_
      refine rX6_init_90 ?_
      refine rX6_init_93 (fun hbb => absurd hbb (nI_ge (b := 576) (by omega) (by decide))) (fun _ => ?_)
      refine rX6_init_96 ?_
      refine rX6_init_97 (by repeat first | assumption | exact zup_eq | refine (zup_ne (by first | decide | omega)).trans ?_) ?_
      refine rX6_init_100 ?_
      refine rX6_init_101 ?_
      refine rX6_init_102N k43 (by omega) (by decide) ?_
      refine rX6_init_103 ?_
      refine rX6_init_106 ?_
      rw [nI_1]
      have E : ∀ j, j ≠ 43 → zup f1 43 (zA 576 (upd g k (-1))) j = f1 j := fun j hj => zup_ne hj
      refine ih (k + 1) _ (upd g k (-1)) _ _ (by omega) hkc hks ((E _ (by decide)).trans k37) zup_eq (fun i hi => ?_) (h38.keep (E _ (by decide))) (h39.keep (E _ (by decide))) (h40.keep (E _ (by decide))) (h41.keep (E _ (by decide))) (h42.keep (E _ (by decide))) (h44.keep (E _ (by decide))) (fun j hj => (E j (by omega)).trans (e1 j hj))
      by_cases hik : i = k
      · rw [hik, upd_s]
      · rw [upd_n hik]; exact hg i (by omega)
  have key1 : ∀ (d r : Nat) (f1 : ZH) (g : Nat → Int32) (kc ks : Nat), r + d = 4 → kc ≤ 7 → ks ≤ 724 → f1 37 = some (zO 6 [zr 38, zr 39, zr 40, zr 41, zr 42, zr 43, zr 44]) → f1 38 = some (zA 4 g) → (∀ i, i < r → g i = 1) → isArr f1 39 96 (fun _ => 0) → isArr f1 40 6 (fun _ => 0) → isArr f1 41 6 (fun _ => 0) → isArr f1 42 12 (fun _ => 0) → isArr f1 43 576 (fun _ => 0) → isArr f1 44 24 (fun _ => 0) → lo f f1 → Zv none 75 62 [some (zr 37), some (zi (nI r))] [] 45 f1 kc ks P := by
    intro d
    induction d with
    | zero =>
      intro r f1 g kc ks hr hkc hks k37 k38 hg h39 h40 h41 h42 h43 h44 e1
      obtain rfl : r = 4 := by omega
      obtain ⟨go, k40, hgo⟩ := h40
      obtain ⟨gp, k43, -⟩ := h43
      refine rX6_init_62 ?_
      refine rX6_init_63 ?_
      refine rX6_init_64 (fun _ => ?_) (fun hbb => absurd (by decide) hbb)
      refine rX6_init_80 ?_
      refine rX6_init_81 (by repeat first | assumption | exact zup_eq | refine (zup_ne (by first | decide | omega)).trans ?_) ?_
      refine rX6_init_84 ?_
      refine rX6_init_85 ?_
      refine rX6_init_86N (q := 1) k40 (by decide) (by decide) ?_
      refine rX6_init_87 ?_
      refine rX6_init_88 ?_
      have E : ∀ j, j ≠ 40 → zup f1 40 (zA 6 (upd go 1 1)) j = f1 j := fun j hj => zup_ne hj
      refine key2 576 0 _ gp _ _ rfl hkc hks ((E _ (by decide)).trans k37) ((E _ (by decide)).trans k43) (fun i hi => absurd hi (by omega)) ⟨g, (E _ (by decide)).trans k38, hg⟩ (h39.keep (E _ (by decide))) ⟨_, zup_eq, fun i hi => ?_⟩ (h41.keep (E _ (by decide))) (h42.keep (E _ (by decide))) (h44.keep (E _ (by decide))) (fun j hj => (E j (by omega)).trans (e1 j hj))
      by_cases hi1 : i = 1
      · rw [hi1, upd_s]; rfl
      · rw [upd_n hi1, hgo i hi]
        match i, hi, hi1 with
        | 0, _, _ => rfl
        | 2, _, _ => rfl
        | 3, _, _ => rfl
        | 4, _, _ => rfl
        | 5, _, _ => rfl
    | succ d ih =>
      intro r f1 g kc ks hr hkc hks k37 k38 hg h39 h40 h41 h42 h43 h44 e1
      refine rX6_init_62 ?_
      refine rX6_init_63 ?_
      refine rX6_init_64 (fun hbb => absurd hbb (nI_ge (b := 4) (by omega) (by decide))) (fun _ => ?_)
      refine rX6_init_67 ?_
      refine rX6_init_68 (by repeat first | assumption | exact zup_eq | refine (zup_ne (by first | decide | omega)).trans ?_) ?_
      refine rX6_init_71 ?_
      refine rX6_init_72 ?_
      refine rX6_init_73N k38 (by omega) (by decide) ?_
      refine rX6_init_74 ?_
      refine rX6_init_77 ?_
      rw [nI_1]
      have E : ∀ j, j ≠ 38 → zup f1 38 (zA 4 (upd g r 1)) j = f1 j := fun j hj => zup_ne hj
      refine ih (r + 1) _ (upd g r 1) _ _ (by omega) hkc hks ((E _ (by decide)).trans k37) zup_eq (fun i hi => ?_) (h39.keep (E _ (by decide))) (h40.keep (E _ (by decide))) (h41.keep (E _ (by decide))) (h42.keep (E _ (by decide))) (h43.keep (E _ (by decide))) (h44.keep (E _ (by decide))) (fun j hj => (E j (by omega)).trans (e1 j hj))
      by_cases hik : i = r
      · rw [hik, upd_s]
      · rw [upd_n hik]; exact hg i (by omega)
  refine rX6_init_60 ?_
  refine rX6_init_61 ?_
  exact key1 4 0 _ (fun _ => 0) _ _ rfl (by decide) (by decide) zup_eq (by repeat first | assumption | exact zup_eq | refine (zup_ne (by first | decide | omega)).trans ?_) (fun i hi => absurd hi (by omega)) ⟨_, (by repeat first | assumption | exact zup_eq | refine (zup_ne (by first | decide | omega)).trans ?_), fun _ _ => rfl⟩ ⟨_, (by repeat first | assumption | exact zup_eq | refine (zup_ne (by first | decide | omega)).trans ?_), fun _ _ => rfl⟩ ⟨_, (by repeat first | assumption | exact zup_eq | refine (zup_ne (by first | decide | omega)).trans ?_), fun _ _ => rfl⟩ ⟨_, (by repeat first | assumption | exact zup_eq | refine (zup_ne (by first | decide | omega)).trans ?_), fun _ _ => rfl⟩ ⟨_, (by repeat first | assumption | exact zup_eq | refine (zup_ne (by first | decide | omega)).trans ?_), fun _ _ => rfl⟩ ⟨_, (by repeat first | assumption | exact zup_eq | refine (zup_ne (by first | decide | omega)).trans ?_), fun _ _ => rfl⟩ (fun j hj => by repeat first | exact zup_ne (by omega) | refine (zup_ne (by omega)).trans ?_)
