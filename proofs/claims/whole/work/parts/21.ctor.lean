/-! THE LATHE IS MADE -/
theorem ctor_room {ks d : Nat} (h : ks + 1157 * (d + 1) + 2 ≤ 7545) : ks + 3 + 1154 ≤ 7545 := by
  rw [Nat.mul_succ] at h
  rw [Nat.add_assoc]
  exact Nat.le_trans (Nat.le_trans (Nat.add_le_add_left (Nat.le_add_left _ _) ks) (Nat.le_add_right _ _)) h
theorem s_X5_init {f : ZH} {P : Option ZVal → Nat → ZH → Prop} (hk : f 0 = some (zO 5 [zu, zu, zu, zu, zu, zu, zu])) (h : ∀ f', CP f' (fun _ => 1) (fun _ _ => 0) (six 0 1 0 0 0 0) (fun _ => 0) (fun _ => -1) → P none 37 f') : Zv none 34 0 [some (zr 0), none] [] 1 f 0 0 P := by
  refine rX5_init_0 ?_
  refine rX5_init_1 ?_
  refine rX5_init_4 ?_
  refine rX5_init_5 ?_
  refine rX5_init_6 (N := 4) (by decide) rfl (by decide) ⟨by omega, by omega⟩ ?_
  refine rX5_init_9 (by repeat first | assumption | exact zup_eq | refine (zup_ne (by first | decide | omega)).trans ?_) ?_
  refine rX5_init_12 ?_
  refine rX5_init_13 ⟨by omega, by omega⟩ ?_
  refine rX5_init_16 ?_
  refine rX5_init_17 ⟨by omega, by omega⟩ ?_
  refine s_X4_init zup_eq (fun f1 h1 e1 => ?_)
  have a0 : f1 0 = some (zO 5 [zr 1, zu, zu, zu, zu, zu, zu]) := (e1 0 (by decide)).trans (by repeat first | assumption | exact zup_eq | refine (zup_ne (by first | decide | omega)).trans ?_)
  have a1 : f1 1 = some (zQ 4 (fun _ => none)) := (e1 1 (by decide)).trans (by repeat first | assumption | exact zup_eq | refine (zup_ne (by first | decide | omega)).trans ?_)
  refine rX5_init_20 (by repeat first | assumption | exact zup_eq | refine (zup_ne (by first | decide | omega)).trans ?_) ?_
  refine rX5_init_23 ?_
  refine rX5_init_24 ⟨by omega, by omega⟩ ?_
  refine rX5_init_27 ?_
  refine rX5_init_28 ⟨by omega, by omega⟩ ?_
  refine s_X4_init zup_eq (fun f2 h2 e2 => ?_)
  have b0 : f2 0 = some (zO 5 [zr 1, zr 2, zu, zu, zu, zu, zu]) := (e2 0 (by decide)).trans (by repeat first | assumption | exact zup_eq | refine (zup_ne (by first | decide | omega)).trans ?_)
  have b1 : f2 1 = some (zQ 4 (fun _ => none)) := (e2 1 (by decide)).trans (by repeat first | assumption | exact zup_eq | refine (zup_ne (by first | decide | omega)).trans ?_)
  have b2 : f2 2 = some (zO 4 [zi 0, zi 1, zi 0, zi 0, zi 0, zi 0]) := (e2 2 (by decide)).trans (by repeat first | assumption | exact zup_eq | refine (zup_ne (by first | decide | omega)).trans ?_)
  refine rX5_init_31 (by repeat first | assumption | exact zup_eq | refine (zup_ne (by first | decide | omega)).trans ?_) ?_
  refine rX5_init_34 ?_
  refine rX5_init_35 ⟨by omega, by omega⟩ ?_
  refine rX5_init_38 ?_
  refine rX5_init_39 ?_
  refine rX5_init_41 ⟨by omega, by omega⟩ ?_
  refine s_X2_init (n := 12) zup_eq (by decide) (by decide) ?_
  refine rX5_init_44 (by repeat first | assumption | exact zup_eq | refine (zup_ne (by first | decide | omega)).trans ?_) ?_
  refine rX5_init_47 ?_
  refine rX5_init_48 ⟨by omega, by omega⟩ ?_
  refine rX5_init_51 ?_
  refine rX5_init_52 ⟨by omega, by omega⟩ ?_
  refine s_X0_init zup_eq (fun f3 h3 e3 => ?_)
  have c0 : f3 0 = some (zO 5 [zr 1, zr 2, zr 3, zr 4, zu, zu, zu]) := (e3 0 (by decide)).trans (by repeat first | assumption | exact zup_eq | refine (zup_ne (by first | decide | omega)).trans ?_)
  have c1 : f3 1 = some (zQ 4 (fun _ => none)) := (e3 1 (by decide)).trans (by repeat first | assumption | exact zup_eq | refine (zup_ne (by first | decide | omega)).trans ?_)
  have c2 : f3 2 = some (zO 4 [zi 0, zi 1, zi 0, zi 0, zi 0, zi 0]) := (e3 2 (by decide)).trans (by repeat first | assumption | exact zup_eq | refine (zup_ne (by first | decide | omega)).trans ?_)
  have c3 : f3 3 = some (zO 4 [zi 0, zi 1, zi 0, zi 0, zi 0, zi 0]) := (e3 3 (by decide)).trans (by repeat first | assumption | exact zup_eq | refine (zup_ne (by first | decide | omega)).trans ?_)
  have c4 : f3 4 = some (zO 2 [zr 5]) := (e3 4 (by decide)).trans (by repeat first | assumption | exact zup_eq | refine (zup_ne (by first | decide | omega)).trans ?_)
  have c5 : f3 5 = some (zA 12 (fun _ => 0)) := (e3 5 (by decide)).trans (by repeat first | assumption | exact zup_eq | refine (zup_ne (by first | decide | omega)).trans ?_)
  refine rX5_init_55 (by repeat first | assumption | exact zup_eq | refine (zup_ne (by first | decide | omega)).trans ?_) ?_
  refine rX5_init_58 ?_
  refine rX5_init_59 ⟨by omega, by omega⟩ ?_
  refine rX5_init_62 ?_
  refine rX5_init_63 ⟨by omega, by omega⟩ ?_
  refine s_X3_init zup_eq (fun f4 h5 e5 => ?_)
  have d0 : f4 0 = some (zO 5 [zr 1, zr 2, zr 3, zr 4, zr 6, zu, zu]) := (e5 0 (by decide)).trans (by repeat first | assumption | exact zup_eq | refine (zup_ne (by first | decide | omega)).trans ?_)
  have d1 : f4 1 = some (zQ 4 (fun _ => none)) := (e5 1 (by decide)).trans (by repeat first | assumption | exact zup_eq | refine (zup_ne (by first | decide | omega)).trans ?_)
  have d2 : f4 2 = some (zO 4 [zi 0, zi 1, zi 0, zi 0, zi 0, zi 0]) := (e5 2 (by decide)).trans (by repeat first | assumption | exact zup_eq | refine (zup_ne (by first | decide | omega)).trans ?_)
  have d3 : f4 3 = some (zO 4 [zi 0, zi 1, zi 0, zi 0, zi 0, zi 0]) := (e5 3 (by decide)).trans (by repeat first | assumption | exact zup_eq | refine (zup_ne (by first | decide | omega)).trans ?_)
  have d4 : f4 4 = some (zO 2 [zr 5]) := (e5 4 (by decide)).trans (by repeat first | assumption | exact zup_eq | refine (zup_ne (by first | decide | omega)).trans ?_)
  have d5 : f4 5 = some (zA 12 (fun _ => 0)) := (e5 5 (by decide)).trans (by repeat first | assumption | exact zup_eq | refine (zup_ne (by first | decide | omega)).trans ?_)
  have d6 : isPl f4 (fun _ => -1) := h3.keep ((e5 6 (by decide)).trans (by repeat refine (zup_ne (by first | decide | omega)).trans ?_; rfl)) ((e5 7 (by decide)).trans (by repeat refine (zup_ne (by first | decide | omega)).trans ?_; rfl)) ((e5 8 (by decide)).trans (by repeat refine (zup_ne (by first | decide | omega)).trans ?_; rfl))
  refine rX5_init_66 (by repeat first | assumption | exact zup_eq | refine (zup_ne (by first | decide | omega)).trans ?_) ?_
  refine rX5_init_69 ?_
  refine rX5_init_70 ⟨by omega, by omega⟩ ?_
  refine rX5_init_73 ?_
  refine rX5_init_74 ?_
  refine rX5_init_76 ⟨by omega, by omega⟩ ?_
  refine s_X2_init (n := 12) zup_eq (by decide) (by decide) ?_
  refine rX5_init_79 (by repeat first | assumption | exact zup_eq | refine (zup_ne (by first | decide | omega)).trans ?_) ?_
  refine rX5_init_82 ?_
  refine rX5_init_83 ?_
  have key : ∀ (d i : Nat) (f4 : ZH) (g : Nat → Option Nat) (kc ks : Nat), i + d = 4 → kc + 5 * d ≤ 36 → ks + 1157 * d + 2 ≤ 7545 → f4 0 = some (zO 5 [zr 1, zr 2, zr 3, zr 4, zr 6, zr 9, zr 15]) → f4 1 = some (zQ 4 g) → (∀ r, r < i → g r = some (17 + 5 * r)) → (∀ r, r < i → isRos f4 (17 + 5 * r) 1 (fun _ => 0)) → isSet f4 2 (six 0 1 0 0 0 0) → isSet f4 3 (six 0 1 0 0 0 0) → isSlip f4 (fun _ => 0) → isPl f4 (fun _ => -1) → isFit f4 → isSrch f4 → Zv none 34 84 [some (zr 0), some (zi (nI i))] [] (17 + 5 * i) f4 kc ks P := by
    intro d
    induction d with
    | zero =>
      intro i f4 g kc ks hi hkc hks k0 k1 hg hR h2 h3 h4 h5 h6 h8
      obtain rfl : i = 4 := by omega
      refine rX5_init_84 ?_
      refine rX5_init_85 ?_
      refine rX5_init_86 (by repeat first | assumption | exact zup_eq | refine (zup_ne (by first | decide | omega)).trans ?_) ?_
      first | refine rX5_init_89 (by repeat first | assumption | exact zup_eq | refine (zup_ne (by first | decide | omega)).trans ?_) ?_ | refine rX5_init_89Q (by repeat first | assumption | exact zup_eq | refine (zup_ne (by first | decide | omega)).trans ?_) ?_
      refine rX5_init_90 (fun _ => ?_) (fun hbb => absurd (by decide) hbb)
      refine rX5_init_112 ?_
      exact h _ ⟨⟨k0, g, k1, hg⟩, hR, h2, ⟨_, h3⟩, h4, h5, h6, h8⟩
    | succ d ih =>
      intro i f4 g kc ks hi hkc hks k0 k1 hg hR h2 h3 h4 h5 h6 h8
      have q1 : kc + 1 + 4 ≤ 36 := by omega
      have q2 : ks + 3 + 1154 ≤ 7545 := ctor_room hks
      refine rX5_init_84 ?_
      refine rX5_init_85 ?_
      refine rX5_init_86 (by repeat first | assumption | exact zup_eq | refine (zup_ne (by first | decide | omega)).trans ?_) ?_
      first | refine rX5_init_89 (by repeat first | assumption | exact zup_eq | refine (zup_ne (by first | decide | omega)).trans ?_) ?_ | refine rX5_init_89Q (by repeat first | assumption | exact zup_eq | refine (zup_ne (by first | decide | omega)).trans ?_) ?_
      refine rX5_init_90 (fun hbb => absurd hbb (nI_ge (b := 4) (by omega) (by decide))) (fun _ => ?_)
      refine rX5_init_93 ?_
      refine rX5_init_94 (by repeat first | assumption | exact zup_eq | refine (zup_ne (by first | decide | omega)).trans ?_) ?_
      refine rX5_init_97 ?_
      refine rX5_init_98 ⟨by omega, by omega⟩ ?_
      refine rX5_init_101 ?_
      refine rX5_init_102 ⟨q1, q2⟩ ?_
      refine s_X1_init zup_eq (fun f5 hR5 e5 => ?_)
      have e6 : ∀ j, j < 17 + 5 * i → f5 j = f4 j := fun j hj => (e5 j hj).trans (zup_ne (by omega))
      have m0 := (e6 0 (by omega)).trans k0
      have m1 := (e6 1 (by omega)).trans k1
      have mR := hR5.1
      refine rX5_init_105N (by repeat first | assumption | exact zup_eq | refine (zup_ne (by first | decide | omega)).trans ?_) (by repeat first | assumption | exact zup_eq | refine (zup_ne (by first | decide | omega)).trans ?_) (by first | assumption | decide | omega) (by first | decide | omega) ?_
      refine rX5_init_106 ?_
      refine rX5_init_109 ?_
      rw [nI_1]
      have E : ∀ j, j ≠ 1 → zup f5 1 (zQ 4 (va_up g i (some (17 + 5 * i)))) j = f5 j := fun j hj => zup_ne hj
      refine ih (i + 1) _ (va_up g i (some (17 + 5 * i))) _ _ (by omega) (by omega) (by omega) ((E 0 (by decide)).trans m0) zup_eq (fun r hr => ?_) (fun r hr => ?_) (h2.keep ((E _ (by decide)).trans (e6 _ (by omega)))) (h3.keep ((E _ (by decide)).trans (e6 _ (by omega)))) (h4.keep ((E _ (by decide)).trans (e6 _ (by omega))) ((E _ (by decide)).trans (e6 _ (by omega)))) (h5.keep ((E _ (by decide)).trans (e6 _ (by omega))) ((E _ (by decide)).trans (e6 _ (by omega))) ((E _ (by decide)).trans (e6 _ (by omega)))) (h6.keep ((E _ (by decide)).trans (e6 _ (by omega))) ((E _ (by decide)).trans (e6 _ (by omega)))) (h8.keep fun j h9 h14 => (E j (by omega)).trans (e6 j (by omega)))
      · by_cases hri : r = i
        · subst hri
          exact if_pos rfl
        · exact (if_neg hri).trans (hg r (by omega))
      · by_cases hri : r = i
        · subst hri
          exact hR5.keep (E _ (by omega)) (E _ (by omega)) (E _ (by omega)) (E _ (by omega)) (E _ (by omega))
        · exact (hR r (by omega)).keep ((E _ (by omega)).trans (e6 _ (by omega))) ((E _ (by omega)).trans (e6 _ (by omega))) ((E _ (by omega)).trans (e6 _ (by omega))) ((E _ (by omega)).trans (e6 _ (by omega))) ((E _ (by omega)).trans (e6 _ (by omega)))
  refine key 4 0 _ (fun _ => none) _ _ rfl (by decide) (by decide) zup_eq (by repeat first | assumption | exact zup_eq | refine (zup_ne (by first | decide | omega)).trans ?_) (fun r hr => absurd hr (by omega)) (fun r hr => absurd hr (by omega)) (by repeat first | assumption | exact zup_eq | refine (zup_ne (by first | decide | omega)).trans ?_) (by repeat first | assumption | exact zup_eq | refine (zup_ne (by first | decide | omega)).trans ?_) ⟨(by repeat first | assumption | exact zup_eq | refine (zup_ne (by first | decide | omega)).trans ?_), fun _ => 0, (by repeat first | assumption | exact zup_eq | refine (zup_ne (by first | decide | omega)).trans ?_), fun _ _ => rfl⟩ (d6.keep (by repeat refine (zup_ne (by first | decide | omega)).trans ?_; rfl) (by repeat refine (zup_ne (by first | decide | omega)).trans ?_; rfl) (by repeat refine (zup_ne (by first | decide | omega)).trans ?_; rfl)) ⟨(by repeat first | assumption | exact zup_eq | refine (zup_ne (by first | decide | omega)).trans ?_), fun _ => 0, (by repeat first | assumption | exact zup_eq | refine (zup_ne (by first | decide | omega)).trans ?_)⟩ (h5.keep fun j h9 h14 => ?_)
  repeat refine (zup_ne (by omega)).trans ?_
  rfl
