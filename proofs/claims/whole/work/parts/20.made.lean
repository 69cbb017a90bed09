/-! THE LATHE'S CALLS makers, maker, shown; THE LATHE IS MADE -/
/-- all settings that make the plate -/
noncomputable def MK (n : Nat → Nat) (l : Nat → Nat → Int32) (p : Nat → Int32) : List (Nat → Int32) := mkAll p n l (msn p) (srk p) (if msn p = 0 then 0 else 4) 0
theorem lstf_take {α : Type} (old : α) (L : List α) (k : Nat) (h : k < L.length) : lstf old (L.take (k + 1)) = L[k] := by
  rw [List.take_succ_eq_append_getElem h, lstf_app]
  rfl
section LC6
variable {n : Nat → Nat} {l : Nat → Nat → Int32} {o s p : Nat → Int32} {sz : Nat} {f : ZH} {P : Option ZVal → Nat → ZH → Prop}
theorem hi_s4 {f f' : ZH} (h : only S4 f f') : hi f f' := fun j hj => h j (by simp; omega)
theorem c_makers (hC : CP f n l o s p) (hI : Inv n l o s p) (h : ∀ f', CP f' n l o s p → hi f f' → P (some (zi (nI ((MK n l p).take 9216).length))) sz f') : Zv none 59 0 [some (zr 0)] [] sz f 0 0 P := by
  have hT := hC.1
  have hT0 := hT.1
  obtain ⟨⟨_, _, _, _, h31⟩, -⟩ := hC.2.2.2.2.2.2.2
  refine rX5_makers_0 ?_
  refine rX5_makers_1 (by repeat first | assumption | exact zup_eq | refine (zup_ne (by first | decide | omega)).trans ?_) ?_
  refine rX5_makers_4 ?_
  refine rX5_makers_5 (by repeat first | assumption | exact zup_eq | refine (zup_ne (by first | decide | omega)).trans ?_) ?_
  refine rX5_makers_8 ?_
  refine rX5_makers_9 (by repeat first | assumption | exact zup_eq | refine (zup_ne (by first | decide | omega)).trans ?_) ?_
  refine rX5_makers_12 ?_
  refine rX5_makers_15 (by repeat first | assumption | exact zup_eq | refine (zup_ne (by first | decide | omega)).trans ?_) ?_
  refine s_X3_find (W := 9216) hT hC.2.1 hI.1 hC.2.2.2.2.2.1 hC.2.2.2.2.2.2.2 (by decide) (fun f1 hS1 _ ho1 => ?_)
  refine rX5_makers_18 ?_
  exact h f1 (hC.srch ho1 hS1) (hi_s4 ho1)
theorem c_maker_bad {x w : Int32} (hb : x < 0 ∨ ¬ inR w 0 5) (h : P (some (zi (-1))) sz f) : Zv none 60 0 [some (zr 0), some (zi x), some (zi w)] [] sz f 0 0 P := by
  refine rX5_maker_0 ?_
  refine rX5_maker_1 (fun h1 => ?_) (fun h1 => ?_)
  · refine rX5_maker_13 ?_
    refine rX5_maker_14 ?_
    exact h
  · have hb := hb.resolve_left h1
    refine rX5_maker_4 ?_
    refine rX5_maker_5 ?_
    refine rX5_maker_6 ?_
    refine rX5_maker_7  ?_
    refine s_X5_within ?_
    refine rX5_maker_10b (fun hbb => absurd hbb hb) (fun _ => ?_)
    refine rX5_maker_13 ?_
    refine rX5_maker_14 ?_
    exact h
theorem c_maker_ok {k w : Nat} (hC : CP f n l o s p) (hI : Inv n l o s p) (hk : k < 2 ^ 31) (hw : w < 6) (hbig : ∀ f', CP f' n l o s p → hi f f' → (9216 ≤ k ∨ (MK n l p).length ≤ k) → P (some (zi (-4))) sz f') (hok : ∀ f', CP f' n l o s p → hi f f' → (hkl : k < (MK n l p).length) → P (some (zi ((MK n l p)[k] w))) sz f') : Zv none 60 0 [some (zr 0), some (zi (nI k)), some (zi (nI w))] [] sz f 0 0 P := by
  have hT := hC.1
  have hT0 := hT.1
  obtain ⟨⟨_, _, _, _, h31⟩, -⟩ := hC.2.2.2.2.2.2.2
  refine rX5_maker_0 ?_
  refine rX5_maker_1 (fun hbb => absurd hbb (nI_pos hk)) (fun _ => ?_)
  refine rX5_maker_4 ?_
  refine rX5_maker_5 ?_
  refine rX5_maker_6 ?_
  refine rX5_maker_7  ?_
  refine s_X5_within ?_
  refine rX5_maker_10b (fun _ => ?_) (fun hbb => absurd ⟨nI_pos' (by omega), nI_le (b := 5) (by omega) (by decide)⟩ hbb)
  refine rX5_maker_15 ?_
  refine rX5_maker_16 ?_
  by_cases hk2 : 9216 ≤ k
  · refine rX5_maker_19 (fun _ => ?_) (fun hbb => absurd (nI_le (a := 9216) hk2 hk) hbb)
    refine rX5_maker_44 ?_
    refine rX5_maker_46 ?_
    exact hbig f hC hi_rfl (Or.inl hk2)
  · refine rX5_maker_19 (fun hbb => absurd hbb (nI_ge (b := 9216) (by omega) (by decide))) (fun _ => ?_)
    refine rX5_maker_22 ?_
    refine rX5_maker_23 (by repeat first | assumption | exact zup_eq | refine (zup_ne (by first | decide | omega)).trans ?_) ?_
    refine rX5_maker_26 ?_
    refine rX5_maker_27 (by repeat first | assumption | exact zup_eq | refine (zup_ne (by first | decide | omega)).trans ?_) ?_
    refine rX5_maker_30 ?_
    refine rX5_maker_31 (by repeat first | assumption | exact zup_eq | refine (zup_ne (by first | decide | omega)).trans ?_) ?_
    refine rX5_maker_34 ?_
    refine rX5_maker_35 ?_
    refine rX5_maker_36 ?_
    rw [nI_1]
    refine rX5_maker_37 (by repeat first | assumption | exact zup_eq | refine (zup_ne (by first | decide | omega)).trans ?_) ?_
    refine s_X3_find (W := k + 1) hT hC.2.1 hI.1 hC.2.2.2.2.2.1 hC.2.2.2.2.2.2.2 (by omega) (fun f1 hS1 hla ho1 => ?_)
    have hC1 : CP f1 n l o s p := hC.srch ho1 hS1
    have hT1 := hC1.1.1
    obtain ⟨⟨_, _, _, _, k31⟩, -⟩ := hS1
    rw [show mkAll p n l (msn p) (srk p) (if msn p = 0 then 0 else 4) 0 = MK n l p from rfl] at hla ⊢
    have hlen := len_take_le (MK n l p) (k + 1)
    rw [List.length_take] at hlen hla ⊢
    refine rX5_maker_40 ?_
    by_cases hkl : k < (MK n l p).length
    · refine rX5_maker_41 (fun _ => ?_) (fun hbb => absurd (nI_lt (by omega) (by omega)) hbb)
      obtain ⟨la, h32⟩ := hla (by omega)
      rw [lstf_take la _ k hkl] at h32
      unfold isSet at h32
      refine rX5_maker_47 ?_
      refine rX5_maker_48 (by repeat first | assumption | exact zup_eq | refine (zup_ne (by first | decide | omega)).trans ?_) ?_
      refine rX5_maker_51 (by repeat first | assumption | exact zup_eq | refine (zup_ne (by first | decide | omega)).trans ?_) ?_
      refine rX5_maker_54 ?_
      refine rX5_maker_55 (by repeat first | assumption | exact zup_eq | refine (zup_ne (by first | decide | omega)).trans ?_) ?_
      refine s_X4_part h32 (fun y hy => ?_)
      refine rX5_maker_58 ?_
      have e : y = (MK n l p)[k] w := by
        rcases hy with ⟨q, hq, hx, hy⟩ | ⟨hx, -⟩
        · have hqw : w = q := (nI_eq (by omega) (by omega)).mp hx
          subst hqw
          rcases (by omega : w = 0 ∨ w = 1 ∨ w = 2 ∨ w = 3 ∨ w = 4 ∨ w = 5) with rfl | rfl | rfl | rfl | rfl | rfl <;> exact (Option.some.inj hy).symm
        · rw [nI_toInt (by omega)] at hx
          omega
      rw [e]
      exact hok f1 hC1 (hi_s4 ho1) hkl
    · refine rX5_maker_41 (fun hbb => absurd hbb (nI_nlt (by omega) (by omega))) (fun _ => ?_)
      refine rX5_maker_44 ?_
      refine rX5_maker_46 ?_
      exact hbig f1 hC1 (hi_s4 ho1) (Or.inr (by omega))
theorem c_shown {q : Nat} (hC : CP f n l o s p) (hI : Inv n l o s p) (hq : q < 4) (ho : o 0 = nI q) (h : ∀ f' g, CP f' n l o s p → hi f f' → (∀ k, k < 12 → g k = fbits (fitB (n q) (l q) o p k) (n q)) → P (some (zi (match fOff (n q) (l q) o p with | none => -4 | some F => ans2 (shw (fun r c => bt (band g (12 - r) r (-1)) (fm c (n q))) (F + 1) 0)))) sz f') : Zv none 62 0 [some (zr 0), none, none, none, none] [] sz f 0 0 P := by
  obtain ⟨hn, hn2⟩ := hI.1 q hq
  refine s_X5_shown hC.1 hC.2.2.1 hq ho (hC.2.1 q hq) hn hn2 hC.2.2.2.2.2.1 hC.2.2.2.2.2.2.1 (fun g hg => ?_)
  exact h _ g (hC.fit (fun j hj => zup_ne (by simpa using hj)) zup_eq) (fun j hj => zup_ne (by omega)) hg
end LC6
section CTOR
variable {P : Option ZVal → Nat → ZH → Prop}
theorem s_X1_init {k : Nat} {f : ZH} (hk : f k = some (zO 1 [zu, zu, zi 0])) (h : ∀ f', isRos f' k 1 (fun _ => 0) → (∀ j, j < k → f' j = f j) → P none (k + 5) f') : Zv none 6 0 [some (zr k)] [] (k + 1) f 0 0 P := by
  refine rX1_init_0 ?_
  refine rX1_init_1 ?_
  refine rX1_init_4 ?_
  refine rX1_init_5 ⟨by omega, by omega⟩ ?_
  refine rX1_init_8 ?_
  refine rX1_init_9 ?_
  refine rX1_init_11 ⟨by omega, by omega⟩ ?_
  refine s_X2_init (n := 24) zup_eq (by omega) (by decide) ?_
  refine rX1_init_14 (by repeat first | assumption | exact zup_eq | refine (zup_ne (by first | decide | omega)).trans ?_) ?_
  refine rX1_init_17 ?_
  refine rX1_init_18 ⟨by omega, by omega⟩ ?_
  refine rX1_init_21 ?_
  refine rX1_init_22 ?_
  refine rX1_init_24 ⟨by omega, by omega⟩ ?_
  refine s_X2_init (n := 24) zup_eq (by omega) (by decide) ?_
  refine rX1_init_27 (by repeat first | assumption | exact zup_eq | refine (zup_ne (by first | decide | omega)).trans ?_) ?_
  refine rX1_init_30 ?_
  refine rX1_init_31 ?_
  refine rX1_init_32 (by repeat first | assumption | exact zup_eq | refine (zup_ne (by first | decide | omega)).trans ?_) ?_
  refine rX1_init_35 ?_
  refine h _ ⟨zup_eq, (by repeat first | assumption | exact zup_eq | refine (zup_ne (by first | decide | omega)).trans ?_), ⟨fun _ => 0, (by repeat first | assumption | exact zup_eq | refine (zup_ne (by first | decide | omega)).trans ?_), fun _ _ => rfl⟩, (by repeat first | assumption | exact zup_eq | refine (zup_ne (by first | decide | omega)).trans ?_), fun _ => 0, (by repeat first | assumption | exact zup_eq | refine (zup_ne (by first | decide | omega)).trans ?_)⟩ (fun j hj => ?_)
  repeat refine (zup_ne (by omega)).trans ?_
  rfl
theorem s_X0_init {f : ZH} (hk : f 6 = some (zO 0 [zu])) (h : ∀ f', isPl f' (fun _ => -1) → (∀ j, j < 6 → f' j = f j) → P none 9 f') : Zv none 0 0 [some (zr 6), none] [] 7 f 0 0 P := by
  refine rX0_init_0 ?_
  refine rX0_init_1 ?_
  refine rX0_init_4 ?_
  refine rX0_init_5 ⟨by omega, by omega⟩ ?_
  refine rX0_init_8 ?_
  refine rX0_init_9 ?_
  refine rX0_init_12 ⟨by omega, by omega⟩ ?_
  refine s_X2_init (n := 576) zup_eq (by decide) (by decide) ?_
  refine rX0_init_15 (by repeat first | assumption | exact zup_eq | refine (zup_ne (by first | decide | omega)).trans ?_) ?_
  refine rX0_init_18 ?_
  refine rX0_init_19 ?_
  have key : ∀ (d i : Nat) (f1 : ZH) (g : Nat → Int32) (kc ks : Nat), i + d = 576 → kc ≤ 2 → ks ≤ 577 → f1 6 = some (zO 0 [zr 7]) → f1 7 = some (zO 2 [zr 8]) → f1 8 = some (zA 576 g) → (∀ q, q < i → g q = -1) → (∀ j, j < 6 → f1 j = f j) → Zv none 0 20 [some (zr 6), some (zi (nI i))] [] 9 f1 kc ks P := by
    intro d
    induction d with
    | zero =>
      intro i f1 g kc ks hi hkc hks k6 k7 k8 hg e
      obtain rfl : i = 576 := by omega
      refine rX0_init_20 ?_
      refine rX0_init_21 ?_
      refine rX0_init_24 (fun _ => ?_) (fun hbb => absurd (by decide) hbb)
      refine rX0_init_42 ?_
      exact h f1 ⟨k6, k7, g, k8, hg⟩ e
    | succ d ih =>
      intro i f1 g kc ks hi hkc hks k6 k7 k8 hg e
      refine rX0_init_20 ?_
      refine rX0_init_21 ?_
      refine rX0_init_24 (fun hbb => absurd hbb (nI_ge (b := 576) (by omega) (by decide))) (fun _ => ?_)
      refine rX0_init_27 ?_
      refine rX0_init_28 (by repeat first | assumption | exact zup_eq | refine (zup_ne (by first | decide | omega)).trans ?_) ?_
      refine rX0_init_31 ?_
      refine rX0_init_32 ?_
      refine rX0_init_33 ⟨by omega, by omega⟩ (by repeat first | assumption | exact zup_eq | refine (zup_ne (by first | decide | omega)).trans ?_) ?_
      refine s_X2_put (by repeat first | assumption | exact zup_eq | refine (zup_ne (by first | decide | omega)).trans ?_) (by repeat first | assumption | exact zup_eq | refine (zup_ne (by first | decide | omega)).trans ?_) (by first | assumption | decide | omega) (by first | assumption | decide | omega) ?_
      refine rX0_init_36 ?_
      refine rX0_init_39 ?_
      rw [nI_1]
      refine ih (i + 1) _ (upd g i (-1)) _ _ (by omega) (by omega) (by omega) ((zup_ne (by decide)).trans k6) ((zup_ne (by decide)).trans k7) zup_eq (fun q hq => ?_) (fun j hj => (zup_ne (by omega)).trans (e j hj))
      by_cases hqi : q = i
      · rw [hqi, upd_s]
      · rw [upd_n hqi, hg q (by omega)]
  refine key 576 0 _ (fun _ => 0) _ _ rfl (by decide) (by decide) zup_eq (by repeat first | assumption | exact zup_eq | refine (zup_ne (by first | decide | omega)).trans ?_) (by repeat first | assumption | exact zup_eq | refine (zup_ne (by first | decide | omega)).trans ?_) (fun q hq => absurd hq (by omega)) (fun j hj => ?_)
  repeat refine (zup_ne (by omega)).trans ?_
  rfl
theorem s_X3_init {f : ZH} (hk : f 9 = some (zO 3 [zu, zu, zu, zi 0, zi 0, zi 0, zi 0])) (h : ∀ f', isSrch f' → (∀ j, j < 9 → f' j = f j) → P none 15 f') : Zv none 20 0 [some (zr 9)] [] 10 f 0 0 P := by
  refine rX3_init_0 ?_
  refine rX3_init_1 ?_
  refine rX3_init_4 ?_
  refine rX3_init_5 ⟨by omega, by omega⟩ ?_
  refine rX3_init_8 ?_
  refine rX3_init_9 ⟨by omega, by omega⟩ ?_
  refine s_X4_init zup_eq (fun f1 h1 e1 => ?_)
  have k31 : f1 9 = some (zO 3 [zu, zu, zu, zi 0, zi 0, zi 0, zi 0]) := (e1 9 (by decide)).trans ((zup_ne (by decide)).trans hk)
  have e1' : ∀ j, j < 9 → f1 j = f j := fun j hj => (e1 j (by omega)).trans (zup_ne (by omega))
  refine rX3_init_12 (by repeat first | assumption | exact zup_eq | refine (zup_ne (by first | decide | omega)).trans ?_) ?_
  refine rX3_init_15 ?_
  refine rX3_init_16 ⟨by omega, by omega⟩ ?_
  refine rX3_init_19 ?_
  refine rX3_init_20 ?_
  refine rX3_init_22 ⟨by omega, by omega⟩ ?_
  refine s_X2_init (n := 12) zup_eq (by decide) (by decide) ?_
  refine rX3_init_25 (by repeat first | assumption | exact zup_eq | refine (zup_ne (by first | decide | omega)).trans ?_) ?_
  refine rX3_init_28 ?_
  refine rX3_init_29 ⟨by omega, by omega⟩ ?_
  refine rX3_init_32 ?_
  refine rX3_init_33 ?_
  refine rX3_init_36 ⟨by omega, by omega⟩ ?_
  refine s_X2_init (n := 288) zup_eq (by decide) (by decide) ?_
  refine rX3_init_39 (by repeat first | assumption | exact zup_eq | refine (zup_ne (by first | decide | omega)).trans ?_) ?_
  refine rX3_init_42 ?_
  refine rX3_init_43 ?_
  refine rX3_init_44 (by repeat first | assumption | exact zup_eq | refine (zup_ne (by first | decide | omega)).trans ?_) ?_
  refine rX3_init_47 ?_
  refine rX3_init_48 ?_
  refine rX3_init_49 (by repeat first | assumption | exact zup_eq | refine (zup_ne (by first | decide | omega)).trans ?_) ?_
  refine rX3_init_52 ?_
  refine rX3_init_53 ?_
  refine rX3_init_54 (by repeat first | assumption | exact zup_eq | refine (zup_ne (by first | decide | omega)).trans ?_) ?_
  refine rX3_init_57 ?_
  refine rX3_init_58 ?_
  refine rX3_init_59 (by repeat first | assumption | exact zup_eq | refine (zup_ne (by first | decide | omega)).trans ?_) ?_
  refine rX3_init_62 ?_
  refine h _ ⟨⟨0, 1, 0, 0, zup_eq⟩, ⟨six 0 1 0 0 0 0, (by repeat first | assumption | exact zup_eq | refine (zup_ne (by first | decide | omega)).trans ?_)⟩, (by repeat first | assumption | exact zup_eq | refine (zup_ne (by first | decide | omega)).trans ?_), ⟨fun _ => 0, (by repeat first | assumption | exact zup_eq | refine (zup_ne (by first | decide | omega)).trans ?_)⟩, (by repeat first | assumption | exact zup_eq | refine (zup_ne (by first | decide | omega)).trans ?_), fun _ => 0, (by repeat first | assumption | exact zup_eq | refine (zup_ne (by first | decide | omega)).trans ?_)⟩ (fun j hj => ?_)
  repeat refine (zup_ne (by omega)).trans ?_
  exact e1' j hj
end CTOR
