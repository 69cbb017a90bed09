/-! THE REFERENCE: rosettes and settings -/
def rng (l : Nat → Int32) : Prop := ∀ i, i < 24 → -20 ≤ (l i).toInt ∧ (l i).toInt ≤ 20
theorem wlf_rng {n : Nat} {l : Nat → Int32} (hl : rng l) (hn : 0 < n) (hn2 : n ≤ 24) (w : Int32) (i : Nat) : -20 ≤ (wlf n l w i).toInt ∧ (wlf n l w i).toInt ≤ 20 := by
  unfold wlf lft
  split
  · exact hl _ (by have := fm_lt (x := w + nI i) hn; omega)
  · exact hl _ (by have := fm_lt (x := w - 100 - nI i) hn; omega)
theorem sub_small {x y : Int32} (hx : -20 ≤ x.toInt ∧ x.toInt ≤ 20) (hy : -20 ≤ y.toInt ∧ y.toInt ≤ 20) : (x - y = 0 ↔ x = y) ∧ (x - y < 0 ↔ x < y) := by
  have e : (x - y).toInt = x.toInt - y.toInt := Jvm.Kit.i32_sub (by omega) (by omega)
  refine ⟨⟨fun h => ?_, fun h => ?_⟩, ⟨fun h => ?_, fun h => ?_⟩⟩
  · rw [h] at e
    rw [show (0 : Int32).toInt = 0 from rfl] at e
    exact Int32.toInt_inj.mp (by omega)
  · apply Int32.toInt_inj.mp
    rw [e, h, show (0 : Int32).toInt = 0 from rfl]
    omega
  · have := Int32.lt_iff_toInt_lt.mp h
    rw [e, show (0 : Int32).toInt = 0 from rfl] at this
    exact Int32.lt_iff_toInt_lt.mpr (by omega)
  · have := Int32.lt_iff_toInt_lt.mp h
    refine Int32.lt_iff_toInt_lt.mpr ?_
    rw [e, show (0 : Int32).toInt = 0 from rfl]
    omega
theorem zdif_lex {a b : Nat → Int32} (ha : ∀ i, -20 ≤ (a i).toInt ∧ (a i).toInt ≤ 20) (hb : ∀ i, -20 ≤ (b i).toInt ∧ (b i).toInt ≤ 20) : ∀ d i, (zdif a b d i < 0 ↔ zlex a b d i = true)
  | 0, i => ⟨fun h => absurd h (by rw [zdif]; decide), fun h => by rw [zlex] at h; cases h⟩
  | d + 1, i => by
    obtain ⟨e1, e2⟩ := sub_small (ha i) (hb i)
    rw [zdif, zlex]
    by_cases hz : a i - b i = 0
    · rw [if_pos hz, if_pos (e1.mp hz)]
      exact zdif_lex ha hb d (i + 1)
    · rw [if_neg hz, if_neg (fun z => hz (e1.mpr z)), decide_eq_true_eq]
      exact e2
theorem zdif_eq {a b : Nat → Int32} (ha : ∀ i, -20 ≤ (a i).toInt ∧ (a i).toInt ≤ 20) (hb : ∀ i, -20 ≤ (b i).toInt ∧ (b i).toInt ≤ 20) : ∀ d i, (zdif a b d i = 0 ↔ ∀ j, i ≤ j → j < i + d → a j = b j)
  | 0, i => ⟨fun _ j h1 h2 => absurd h2 (by omega), fun _ => by rw [zdif]⟩
  | d + 1, i => by
    obtain ⟨e1, e2⟩ := sub_small (ha i) (hb i)
    rw [zdif]
    by_cases hz : a i - b i = 0
    · rw [if_pos hz, zdif_eq ha hb d (i + 1)]
      refine ⟨fun h j h1 h2 => ?_, fun h j h1 h2 => h j (by omega) (by omega)⟩
      rcases Nat.eq_or_lt_of_le h1 with rfl | h3
      · exact e1.mp hz
      · exact h j h3 (by omega)
    · rw [if_neg hz]
      exact ⟨fun h => absurd h hz, fun h => e1.mpr (h i (Nat.le_refl _) (by omega))⟩
theorem zlex_self (a : Nat → Int32) : ∀ d i, zlex a a d i = false
  | 0, i => rfl
  | d + 1, i => by rw [zlex, if_pos rfl]; exact zlex_self a d (i + 1)
theorem way_eq {n : Nat} {l : Nat → Int32} (hn : 0 < n) : zbst n l 100 n 0 (zbst n l 0 n 0 0) = way n l := by
  unfold way
  congr 1
  rw [show n = (n - 1) + 1 by omega, zbst, ← show n = (n - 1) + 1 by omega, if_neg (by rw [zlex_self]; exact Bool.false_ne_true)]
def lo (f f' : ZH) : Prop := ∀ j, j < 37 → f' j = f j
section MR2
variable {n : Nat → Nat} {l : Nat → Nat → Int32} {o s p : Nat → Int32} {sz : Nat} {P : Option ZVal → Nat → ZH → Prop}
theorem m_turnOf {f : ZH} {r : Nat} (hM : MP f n l o s p) (hr : r < 4) (hn : 0 < n r) (hn2 : n r ≤ 24) (hl : rng (l r)) (h : P (some (zi (nI (way (n r) (l r))))) sz f) : Zv none 88 0 [some (zr 37), some (zi (nI r)), none, none] [] sz f 0 0 P := by
  rw [← way_eq hn] at h
  obtain ⟨h37, ⟨gn, h38, hgn⟩, -⟩ := id hM
  have W := fun (w : Int32) (i : Nat) => wlf_rng hl hn hn2 w i
  have second : ∀ (d t b : Nat), t + d = n r → P (some (zi (nI (zbst (n r) (l r) 100 d t b)))) sz f → Zv none 88 40 [some (zr 37), some (zi (nI r)), some (zi (nI b)), some (zi (nI (100 + t)))] [] sz f 0 0 P := by
    intro d
    induction d with
    | zero =>
      intro t b ht h
      refine rX6_turnOf_40 ?_
      refine rX6_turnOf_41 ?_
      refine rX6_turnOf_43 ?_
      refine rX6_turnOf_44 (by repeat first | assumption | exact zup_eq | refine (zup_ne (by first | decide | omega)).trans ?_) ?_
      refine rX6_turnOf_47 ?_
      first | refine rX6_turnOf_48N (by repeat first | assumption | exact zup_eq | refine (zup_ne (by first | decide | omega)).trans ?_) (by first | assumption | decide | omega) (by first | decide | omega) ?_ | refine rX6_turnOf_48 (by repeat first | assumption | exact zup_eq | refine (zup_ne (by first | decide | omega)).trans ?_) (by first | assumption | decide) ?_
      rw [hgn r hr]
      refine rX6_turnOf_49 ?_
      rw [show (100 : Int32) + nI (n r) = nI (100 + n r) from nI_add 100 _]
      refine rX6_turnOf_50 (fun _ => ?_) (fun hbb => absurd (nI_le (by omega) (by omega)) hbb)
      refine rX6_turnOf_76 ?_
      refine rX6_turnOf_77 ?_
      exact h
    | succ d ih =>
      intro t b ht h
      rw [zbst] at h
      refine rX6_turnOf_40 ?_
      refine rX6_turnOf_41 ?_
      refine rX6_turnOf_43 ?_
      refine rX6_turnOf_44 (by repeat first | assumption | exact zup_eq | refine (zup_ne (by first | decide | omega)).trans ?_) ?_
      refine rX6_turnOf_47 ?_
      first | refine rX6_turnOf_48N (by repeat first | assumption | exact zup_eq | refine (zup_ne (by first | decide | omega)).trans ?_) (by first | assumption | decide | omega) (by first | decide | omega) ?_ | refine rX6_turnOf_48 (by repeat first | assumption | exact zup_eq | refine (zup_ne (by first | decide | omega)).trans ?_) (by first | assumption | decide) ?_
      rw [hgn r hr]
      refine rX6_turnOf_49 ?_
      rw [show (100 : Int32) + nI (n r) = nI (100 + n r) from nI_add 100 _]
      refine rX6_turnOf_50 (fun hbb => absurd hbb (nI_ge (by omega) (by omega))) (fun _ => ?_)
      refine rX6_turnOf_53 ?_
      refine rX6_turnOf_54 ?_
      refine rX6_turnOf_55 ?_
      refine rX6_turnOf_56 ?_
      refine rX6_turnOf_57 ?_
      refine rX6_turnOf_58 (by repeat first | assumption | exact zup_eq | refine (zup_ne (by first | decide | omega)).trans ?_) ?_
      refine m_against hM hr hn hn2 hr hn hn2 ?_
      have hz := zdif_lex (W (nI (100 + t))) (W (nI b)) (n r) 0
      refine rX6_turnOf_61 (fun hb => ?_) (fun hb => ?_)
      · rw [if_neg (fun z => absurd (hz.mpr z) (Int32.not_lt.mpr hb))] at h
        refine rX6_turnOf_68 ?_
        refine rX6_turnOf_69 ?_
        refine rX6_turnOf_70 ?_
        refine rX6_turnOf_73 ?_
        rw [nI_1]
        exact ih (t + 1) b (by omega) h
      · rw [if_pos (hz.mp (Int32.not_le.mp hb))] at h
        refine rX6_turnOf_64 ?_
        refine rX6_turnOf_65 ?_
        refine rX6_turnOf_69 ?_
        refine rX6_turnOf_70 ?_
        refine rX6_turnOf_73 ?_
        rw [nI_1]
        exact ih (t + 1) (100 + t) (by omega) h
  have first : ∀ (d t b : Nat), t + d = n r → P (some (zi (nI (zbst (n r) (l r) 100 (n r) 0 (zbst (n r) (l r) 0 d t b))))) sz f → Zv none 88 4 [some (zr 37), some (zi (nI r)), some (zi (nI b)), some (zi (nI t))] [] sz f 0 0 P := by
    intro d
    induction d with
    | zero =>
      intro t b ht h
      refine rX6_turnOf_4 ?_
      refine rX6_turnOf_5 ?_
      refine rX6_turnOf_6 (by repeat first | assumption | exact zup_eq | refine (zup_ne (by first | decide | omega)).trans ?_) ?_
      refine rX6_turnOf_9 ?_
      first | refine rX6_turnOf_10N (by repeat first | assumption | exact zup_eq | refine (zup_ne (by first | decide | omega)).trans ?_) (by first | assumption | decide | omega) (by first | decide | omega) ?_ | refine rX6_turnOf_10 (by repeat first | assumption | exact zup_eq | refine (zup_ne (by first | decide | omega)).trans ?_) (by first | assumption | decide) ?_
      rw [hgn r hr]
      refine rX6_turnOf_11 (fun _ => ?_) (fun hbb => absurd (nI_le (by omega) (by omega)) hbb)
      refine rX6_turnOf_37 ?_
      refine rX6_turnOf_39 ?_
      exact second (n r) 0 b (by omega) h
    | succ d ih =>
      intro t b ht h
      rw [zbst, Nat.zero_add] at h
      refine rX6_turnOf_4 ?_
      refine rX6_turnOf_5 ?_
      refine rX6_turnOf_6 (by repeat first | assumption | exact zup_eq | refine (zup_ne (by first | decide | omega)).trans ?_) ?_
      refine rX6_turnOf_9 ?_
      first | refine rX6_turnOf_10N (by repeat first | assumption | exact zup_eq | refine (zup_ne (by first | decide | omega)).trans ?_) (by first | assumption | decide | omega) (by first | decide | omega) ?_ | refine rX6_turnOf_10 (by repeat first | assumption | exact zup_eq | refine (zup_ne (by first | decide | omega)).trans ?_) (by first | assumption | decide) ?_
      rw [hgn r hr]
      refine rX6_turnOf_11 (fun hbb => absurd hbb (nI_ge (by omega) (by omega))) (fun _ => ?_)
      refine rX6_turnOf_14 ?_
      refine rX6_turnOf_15 ?_
      refine rX6_turnOf_16 ?_
      refine rX6_turnOf_17 ?_
      refine rX6_turnOf_18 ?_
      refine rX6_turnOf_19 (by repeat first | assumption | exact zup_eq | refine (zup_ne (by first | decide | omega)).trans ?_) ?_
      refine m_against hM hr hn hn2 hr hn hn2 ?_
      have hz := zdif_lex (W (nI t)) (W (nI b)) (n r) 0
      refine rX6_turnOf_22 (fun hb => ?_) (fun hb => ?_)
      · rw [if_neg (fun z => absurd (hz.mpr z) (Int32.not_lt.mpr hb))] at h
        refine rX6_turnOf_29 ?_
        refine rX6_turnOf_30 ?_
        refine rX6_turnOf_31 ?_
        refine rX6_turnOf_34 ?_
        rw [nI_1]
        exact ih (t + 1) b (by omega) h
      · rw [if_pos (hz.mp (Int32.not_le.mp hb))] at h
        refine rX6_turnOf_25 ?_
        refine rX6_turnOf_26 ?_
        refine rX6_turnOf_30 ?_
        refine rX6_turnOf_31 ?_
        refine rX6_turnOf_34 ?_
        rw [nI_1]
        exact ih (t + 1) t (by omega) h
  refine rX6_turnOf_0 ?_
  refine rX6_turnOf_1 ?_
  refine rX6_turnOf_2 ?_
  refine rX6_turnOf_3 ?_
  exact first (n r) 0 0 (by omega) h
theorem m_begins {f : ZH} {q m : Nat} (hM : MP f n l o s p) (hq : q < 4) (h : ∀ f', MP f' (updN n q m) (updN l q (fun _ => 0)) (dropT o q) s p → (∀ j, j ≠ 38 → j ≠ 39 → j ≠ 40 → f' j = f j) → P none sz f') : Zv none 78 0 [some (zr 37), some (zi (nI q)), some (zi (nI m)), none] [] sz f 0 0 P := by
  obtain ⟨h37, ⟨gn, h38, hgn⟩, ⟨gl, h39, hgl⟩, ⟨go, h40, hgo⟩, ⟨gx, h41⟩, ⟨gs, h42, hgs⟩, ⟨gp, h43, hgp⟩, gh, h44⟩ := id hM
  have key : ∀ (d i : Nat) (f1 : ZH) (g : Nat → Int32), i + d = 24 → f1 38 = some (zA 4 (upd gn q (nI m))) → f1 39 = some (zA 96 g) → (∀ j, j ≠ 38 → j ≠ 39 → f1 j = f j) → (∀ i', i' < i → g (24 * q + i') = 0) → (∀ x, x < 24 * q ∨ 24 * q + 24 ≤ x → g x = gl x) → Zv none 78 9 [some (zr 37), some (zi (nI q)), some (zi (nI m)), some (zi (nI i))] [] sz f1 0 0 P := by
    intro d
    induction d with
    | zero =>
      intro i f1 g hi k38 k39 e hz hk
      obtain rfl : i = 24 := by omega
      have k37 : f1 37 = some (zO 6 [zr 38, zr 39, zr 40, zr 41, zr 42, zr 43, zr 44]) := (e 37 (by decide) (by decide)).trans h37
      have k40 : f1 40 = some (zA 6 go) := (e 40 (by decide) (by decide)).trans h40
      have hl2 : ∀ r, r < 4 → ∀ i, i < 24 → g (24 * r + i) = updN l q (fun _ => 0) r i := by
        intro r hr i hi
        unfold updN
        by_cases hrq : r = q
        · rw [if_pos hrq, hrq]; exact hz i hi
        · rw [if_neg hrq, hk _ (by omega)]; exact hgl r hr i hi
      have hn2 : ∀ r, r < 4 → upd gn q (nI m) r = nI (updN n q m r) := by
        intro r hr
        unfold updN
        by_cases hrq : r = q
        · rw [if_pos hrq, hrq, upd_s]
        · rw [if_neg hrq, upd_n hrq]; exact hgn r hr
      refine rX6_begins_9 ?_
      refine rX6_begins_10 ?_
      refine rX6_begins_12 (fun _ => ?_) (fun hbb => absurd (by decide) hbb)
      refine rX6_begins_33 ?_
      refine rX6_begins_34 (by repeat first | assumption | exact zup_eq | refine (zup_ne (by first | decide | omega)).trans ?_) ?_
      refine rX6_begins_37 ?_
      refine rX6_begins_38N (q := 0) (by repeat first | assumption | exact zup_eq | refine (zup_ne (by first | decide | omega)).trans ?_) (by decide) (by decide) ?_
      refine rX6_begins_39 ?_
      rw [hgo 0 (by decide)]
      refine rX6_begins_40 (fun hb => ?_) (fun hb => ?_)
      · refine rX6_begins_57 ?_
        refine h f1 ⟨k37, ⟨_, k38, hn2⟩, ⟨g, k39, hl2⟩, ⟨go, k40, fun i hi => ?_⟩, ⟨gx, (e _ (by decide) (by decide)).trans h41⟩, ⟨gs, (e _ (by decide) (by decide)).trans h42, hgs⟩, ⟨gp, (e _ (by decide) (by decide)).trans h43, hgp⟩, gh, (e _ (by decide) (by decide)).trans h44⟩ (fun j h1 h2 _ => e j h1 h2)
        rw [hgo i hi, dropT, if_neg (fun z : nI q = o 0 => hb z.symm)]
        split <;> rfl
      · have hb2 : o 0 = nI q := hb
        refine rX6_begins_43 ?_
        refine rX6_begins_44 (by repeat first | assumption | exact zup_eq | refine (zup_ne (by first | decide | omega)).trans ?_) ?_
        refine rX6_begins_47 ?_
        refine rX6_begins_48 ?_
        refine rX6_begins_49N (q := 4) (by repeat first | assumption | exact zup_eq | refine (zup_ne (by first | decide | omega)).trans ?_) (by decide) (by decide) ?_
        refine rX6_begins_50 ?_
        refine rX6_begins_51 (by repeat first | assumption | exact zup_eq | refine (zup_ne (by first | decide | omega)).trans ?_) ?_
        refine rX6_begins_54 ?_
        refine rX6_begins_55 ?_
        refine rX6_begins_56N (q := 5) (by repeat first | assumption | exact zup_eq | refine (zup_ne (by first | decide | omega)).trans ?_) (by decide) (by decide) ?_
        refine rX6_begins_57 ?_
        refine h _ ⟨(zup_ne (by decide)).trans ((zup_ne (by decide)).trans k37), ⟨_, (zup_ne (by decide)).trans ((zup_ne (by decide)).trans k38), hn2⟩, ⟨g, (zup_ne (by decide)).trans ((zup_ne (by decide)).trans k39), hl2⟩, ⟨_, zup_eq, fun i hi => ?_⟩, ⟨gx, (zup_ne (by decide)).trans ((zup_ne (by decide)).trans ((e _ (by decide) (by decide)).trans h41))⟩, ⟨gs, (zup_ne (by decide)).trans ((zup_ne (by decide)).trans ((e _ (by decide) (by decide)).trans h42)), hgs⟩, ⟨gp, (zup_ne (by decide)).trans ((zup_ne (by decide)).trans ((e _ (by decide) (by decide)).trans h43)), hgp⟩, gh, (zup_ne (by decide)).trans ((zup_ne (by decide)).trans ((e _ (by decide) (by decide)).trans h44))⟩ (fun j h1 h2 h3 => (zup_ne h3).trans ((zup_ne h3).trans (e j h1 h2)))
        rw [dropT, if_pos hb2.symm]
        by_cases h5 : i = 5
        · rw [h5, upd_s]; rfl
        · rw [upd_n h5]
          by_cases h4 : i = 4
          · rw [h4, upd_s]; rfl
          · rw [upd_n h4, if_neg (by omega)]; exact hgo i hi
    | succ d ih =>
      intro i f1 g hi k38 k39 e hz hk
      have k37 : f1 37 = some (zO 6 [zr 38, zr 39, zr 40, zr 41, zr 42, zr 43, zr 44]) := (e 37 (by decide) (by decide)).trans h37
      refine rX6_begins_9 ?_
      refine rX6_begins_10 ?_
      refine rX6_begins_12 (fun hbb => absurd hbb (nI_ge (b := 24) (by omega) (by decide))) (fun _ => ?_)
      refine rX6_begins_15 ?_
      refine rX6_begins_16 (by repeat first | assumption | exact zup_eq | refine (zup_ne (by first | decide | omega)).trans ?_) ?_
      refine rX6_begins_19 ?_
      refine rX6_begins_21 ?_
      refine rX6_begins_22 ?_
      refine rX6_begins_23 ?_
      refine rX6_begins_24 ?_
      rw [i24]
      refine rX6_begins_25 ?_
      refine rX6_begins_26N k39 (by omega) (by decide) ?_
      refine rX6_begins_27 ?_
      refine rX6_begins_30 ?_
      rw [nI_1]
      refine ih (i + 1) _ _ (by omega) ((zup_ne (by decide)).trans k38) zup_eq (fun j h1 h2 => (zup_ne h2).trans (e j h1 h2)) (fun i' hi' => ?_) (fun x hx => ?_)
      · by_cases hii : i' = i
        · rw [hii, upd_s]
        · rw [upd_n (by omega), hz i' (by omega)]
      · rw [upd_n (by omega)]; exact hk x hx
  refine rX6_begins_0 ?_
  refine rX6_begins_1 (by repeat first | assumption | exact zup_eq | refine (zup_ne (by first | decide | omega)).trans ?_) ?_
  refine rX6_begins_4 ?_
  refine rX6_begins_5 ?_
  first | refine rX6_begins_6N (by repeat first | assumption | exact zup_eq | refine (zup_ne (by first | decide | omega)).trans ?_) (by first | assumption | decide | omega) (by first | decide | omega) ?_ | refine rX6_begins_6 (by repeat first | assumption | exact zup_eq | refine (zup_ne (by first | decide | omega)).trans ?_) (by first | assumption | decide) ?_
  refine rX6_begins_7 ?_
  refine rX6_begins_8 ?_
  exact key 24 0 _ gl rfl zup_eq ((zup_ne (by decide)).trans h39) (fun j h1 _ => zup_ne h1) (fun i' hi' => absurd hi' (by omega)) (fun _ _ => rfl)
theorem m_rosette_bad {f : ZH} {r x : Int32} (hb : ¬ ((∃ q, q < 4 ∧ r = nI q) ∧ inR x 1 24)) (h : P (some (zi (-1))) sz f) : Zv none 79 0 [some (zr 37), some (zi r), some (zi x)] [] sz f 0 0 P := by
  refine rX6_rosette_0 ?_
  refine rX6_rosette_1  ?_
  refine m_isRosette ?_
  refine rX6_rosette_4b (fun _ => ?_) (fun hc => ?_)
  · refine rX6_rosette_17 ?_
    refine rX6_rosette_18 ?_
    exact h
  · rcases okR_cases r with ⟨q, hq, rfl⟩ | hr
    · refine rX6_rosette_7 ?_
      refine rX6_rosette_8 ?_
      refine rX6_rosette_9 ?_
      refine rX6_rosette_11  ?_
      refine m_in ?_
      refine rX6_rosette_14b (fun hbb => absurd hbb (fun z => hb ⟨⟨q, hq, rfl⟩, z⟩)) (fun _ => ?_)
      refine rX6_rosette_17 ?_
      refine rX6_rosette_18 ?_
      exact h
    · exact absurd hc hr
theorem m_rosette_ok {f : ZH} {q m : Nat} (hM : MP f n l o s p) (hq : q < 4) (hm : 1 ≤ m) (hm2 : m ≤ 24) (h : ∀ f', MP f' (updN n q m) (updN l q (fun _ => 0)) (dropT o q) s p → lo f f' → P (some (zi (nI m))) sz f') : Zv none 79 0 [some (zr 37), some (zi (nI q)), some (zi (nI m))] [] sz f 0 0 P := by
  have h37 := hM.1
  refine rX6_rosette_0 ?_
  refine rX6_rosette_1  ?_
  refine m_isRosette ?_
  refine rX6_rosette_4b (fun hbb => absurd (inR03 hq) hbb) (fun _ => ?_)
  refine rX6_rosette_7 ?_
  refine rX6_rosette_8 ?_
  refine rX6_rosette_9 ?_
  refine rX6_rosette_11  ?_
  refine m_in ?_
  refine rX6_rosette_14b (fun _ => ?_) (fun hbb => absurd ⟨nI_le (a := 1) hm (by omega), nI_le (b := 24) hm2 (by decide)⟩ hbb)
  refine rX6_rosette_19 ?_
  refine rX6_rosette_20 ?_
  refine rX6_rosette_21 ?_
  refine rX6_rosette_22 (by repeat first | assumption | exact zup_eq | refine (zup_ne (by first | decide | omega)).trans ?_) ?_
  refine m_begins hM hq (fun f1 hM1 e1 => ?_)
  refine rX6_rosette_25 ?_
  refine rX6_rosette_26 ?_
  exact h f1 hM1 (fun j hj => e1 j (by omega) (by omega) (by omega))
theorem sub1_le {x : Int32} {m : Nat} (hm : 0 < m) (hm2 : m < 2 ^ 31) : (inR x 0 (nI m - 1)) ↔ (0 ≤ x ∧ x < nI m) := by
  rw [show nI m - 1 = nI (m - 1) from pk_sub (b := 1) hm]
  unfold inR
  rw [Int32.le_iff_toInt_le (y := nI (m - 1)), Int32.lt_iff_toInt_lt, nI_toInt (by omega), nI_toInt hm2]
  refine ⟨fun ⟨h1, h2⟩ => ⟨h1, by omega⟩, fun ⟨h1, h2⟩ => ⟨h1, by omega⟩⟩
theorem m_lift_bad {f : ZH} {r x v : Int32} (hM : MP f n l o s p) (hN : ∀ q, q < 4 → 0 < n q ∧ n q ≤ 24) (hb : ¬ ∃ q, q < 4 ∧ r = nI q ∧ (0 ≤ x ∧ x < nI (n q)) ∧ inR v (-20) 20) (h : P (some (zi (-100))) sz f) : Zv none 80 0 [some (zr 37), some (zi r), some (zi x), some (zi v), none] [] sz f 0 0 P := by
  obtain ⟨h37, ⟨gn, h38, hgn⟩, -⟩ := id hM
  refine rX6_lift_0 ?_
  refine rX6_lift_1  ?_
  refine m_isRosette ?_
  refine rX6_lift_4b (fun _ => ?_) (fun hc => ?_)
  · refine rX6_lift_34 ?_
    refine rX6_lift_36 ?_
    exact h
  · rcases okR_cases r with ⟨q, hq, rfl⟩ | hr
    · obtain ⟨hn, hn2⟩ := hN q hq
      refine rX6_lift_7 ?_
      refine rX6_lift_8 ?_
      refine rX6_lift_9 ?_
      refine rX6_lift_10 (by repeat first | assumption | exact zup_eq | refine (zup_ne (by first | decide | omega)).trans ?_) ?_
      refine rX6_lift_13 ?_
      first | refine rX6_lift_14N (by repeat first | assumption | exact zup_eq | refine (zup_ne (by first | decide | omega)).trans ?_) (by first | assumption | decide | omega) (by first | decide | omega) ?_ | refine rX6_lift_14 (by repeat first | assumption | exact zup_eq | refine (zup_ne (by first | decide | omega)).trans ?_) (by first | assumption | decide) ?_
      rw [hgn q hq]
      refine rX6_lift_15 ?_
      refine rX6_lift_16 ?_
      refine rX6_lift_17  ?_
      refine m_in ?_
      refine rX6_lift_20b (fun _ => ?_) (fun hd => ?_)
      · refine rX6_lift_34 ?_
        refine rX6_lift_36 ?_
        exact h
      · refine rX6_lift_23 ?_
        refine rX6_lift_24 ?_
        refine rX6_lift_26 ?_
        refine rX6_lift_28  ?_
        refine m_in ?_
        refine rX6_lift_31b (fun hbb => absurd hbb (fun z => hb ⟨q, hq, rfl, (sub1_le hn (by omega)).mp hd, z⟩)) (fun _ => ?_)
        refine rX6_lift_34 ?_
        refine rX6_lift_36 ?_
        exact h
    · exact absurd hc hr
theorem m_lift_ok {f : ZH} {q k : Nat} {v : Int32} (hM : MP f n l o s p) (hN : ∀ q, q < 4 → 0 < n q ∧ n q ≤ 24) (hq : q < 4) (hk : k < n q) (hv : inR v (-20) 20) (h : ∀ f', MP f' n (updN l q (upd (l q) k v)) o s p → lo f f' → P (some (zi (l q k))) sz f') : Zv none 80 0 [some (zr 37), some (zi (nI q)), some (zi (nI k)), some (zi v), none] [] sz f 0 0 P := by
  obtain ⟨h37, ⟨gn, h38, hgn⟩, ⟨gl, h39, hgl⟩, h40, ⟨gx, h41⟩, h42, h43, gh, h44⟩ := id hM
  obtain ⟨hn, hn2⟩ := hN q hq
  rw [← hgl q hq k (by omega)] at h
  refine rX6_lift_0 ?_
  refine rX6_lift_1  ?_
  refine m_isRosette ?_
  refine rX6_lift_4b (fun hbb => absurd (inR03 hq) hbb) (fun _ => ?_)
  refine rX6_lift_7 ?_
  refine rX6_lift_8 ?_
  refine rX6_lift_9 ?_
  refine rX6_lift_10 (by repeat first | assumption | exact zup_eq | refine (zup_ne (by first | decide | omega)).trans ?_) ?_
  refine rX6_lift_13 ?_
  first | refine rX6_lift_14N (by repeat first | assumption | exact zup_eq | refine (zup_ne (by first | decide | omega)).trans ?_) (by first | assumption | decide | omega) (by first | decide | omega) ?_ | refine rX6_lift_14 (by repeat first | assumption | exact zup_eq | refine (zup_ne (by first | decide | omega)).trans ?_) (by first | assumption | decide) ?_
  rw [hgn q hq]
  refine rX6_lift_15 ?_
  refine rX6_lift_16 ?_
  refine rX6_lift_17  ?_
  refine m_in ?_
  refine rX6_lift_20b (fun hbb => absurd ((sub1_le hn (by omega)).mpr ⟨nI_pos' (by omega), nI_lt hk (by omega)⟩) hbb) (fun _ => ?_)
  refine rX6_lift_23 ?_
  refine rX6_lift_24 ?_
  refine rX6_lift_26 ?_
  refine rX6_lift_28  ?_
  refine m_in ?_
  refine rX6_lift_31b (fun _ => ?_) (fun hbb => absurd hv hbb)
  refine rX6_lift_37 ?_
  refine rX6_lift_38 (by repeat first | assumption | exact zup_eq | refine (zup_ne (by first | decide | omega)).trans ?_) ?_
  refine rX6_lift_41 ?_
  refine rX6_lift_43 ?_
  refine rX6_lift_44 ?_
  refine rX6_lift_45 ?_
  refine rX6_lift_46 ?_
  rw [i24]
  refine rX6_lift_47N h39 (by omega) (by decide) ?_
  refine rX6_lift_48 ?_
  refine rX6_lift_50 ?_
  refine rX6_lift_51 (by repeat first | assumption | exact zup_eq | refine (zup_ne (by first | decide | omega)).trans ?_) ?_
  refine rX6_lift_54 ?_
  refine rX6_lift_56 ?_
  refine rX6_lift_57 ?_
  refine rX6_lift_58 ?_
  refine rX6_lift_59 ?_
  rw [i24]
  refine rX6_lift_60 ?_
  refine rX6_lift_61N h39 (by omega) (by decide) ?_
  refine rX6_lift_62 ?_
  refine rX6_lift_64 ?_
  refine h _ ⟨(zup_ne (by decide)).trans h37, ⟨gn, (zup_ne (by decide)).trans h38, hgn⟩, ⟨_, zup_eq, fun r hr i hi => ?_⟩, h40.keep (zup_ne (by decide)), ⟨gx, (zup_ne (by decide)).trans h41⟩, h42.keep (zup_ne (by decide)), h43.keep (zup_ne (by decide)), gh, (zup_ne (by decide)).trans h44⟩ (fun j hj => zup_ne (by omega))
  unfold updN
  by_cases hrq : r = q
  · rw [if_pos hrq, hrq]
    by_cases hik : i = k
    · rw [hik, upd_s, upd_s]
    · rw [upd_n hik, upd_n (by omega)]; exact hgl q hq i hi
  · rw [if_neg hrq, upd_n (by omega)]; exact hgl r hr i hi
theorem m_at_bad {f : ZH} {r x : Int32} (hM : MP f n l o s p) (hN : ∀ q, q < 4 → 0 < n q ∧ n q ≤ 24) (hb : ¬ ∃ q, q < 4 ∧ r = nI q ∧ (0 ≤ x ∧ x < nI (n q))) (h : P (some (zi (-100))) sz f) : Zv none 81 0 [some (zr 37), some (zi r), some (zi x)] [] sz f 0 0 P := by
  obtain ⟨h37, ⟨gn, h38, hgn⟩, -⟩ := id hM
  refine rX6_at_0 ?_
  refine rX6_at_1  ?_
  refine m_isRosette ?_
  refine rX6_at_4b (fun _ => ?_) (fun hc => ?_)
  · refine rX6_at_37 ?_
    refine rX6_at_39 ?_
    exact h
  · rcases okR_cases r with ⟨q, hq, rfl⟩ | hr
    · obtain ⟨hn, hn2⟩ := hN q hq
      refine rX6_at_7 ?_
      refine rX6_at_8 ?_
      refine rX6_at_9 ?_
      refine rX6_at_10 (by repeat first | assumption | exact zup_eq | refine (zup_ne (by first | decide | omega)).trans ?_) ?_
      refine rX6_at_13 ?_
      first | refine rX6_at_14N (by repeat first | assumption | exact zup_eq | refine (zup_ne (by first | decide | omega)).trans ?_) (by first | assumption | decide | omega) (by first | decide | omega) ?_ | refine rX6_at_14 (by repeat first | assumption | exact zup_eq | refine (zup_ne (by first | decide | omega)).trans ?_) (by first | assumption | decide) ?_
      rw [hgn q hq]
      refine rX6_at_15 ?_
      refine rX6_at_16 ?_
      refine rX6_at_17  ?_
      refine m_in ?_
      refine rX6_at_20b (fun _ => ?_) (fun hbb => absurd hbb (fun z => hb ⟨q, hq, rfl, (sub1_le hn (by omega)).mp z⟩))
      refine rX6_at_37 ?_
      refine rX6_at_39 ?_
      exact h
    · exact absurd hc hr
theorem m_at_ok {f : ZH} {q k : Nat} (hM : MP f n l o s p) (hN : ∀ q, q < 4 → 0 < n q ∧ n q ≤ 24) (hq : q < 4) (hk : k < n q) (h : P (some (zi (l q k))) sz f) : Zv none 81 0 [some (zr 37), some (zi (nI q)), some (zi (nI k))] [] sz f 0 0 P := by
  obtain ⟨h37, ⟨gn, h38, hgn⟩, ⟨gl, h39, hgl⟩, -⟩ := id hM
  obtain ⟨hn, hn2⟩ := hN q hq
  rw [← hgl q hq k (by omega)] at h
  refine rX6_at_0 ?_
  refine rX6_at_1  ?_
  refine m_isRosette ?_
  refine rX6_at_4b (fun hbb => absurd (inR03 hq) hbb) (fun _ => ?_)
  refine rX6_at_7 ?_
  refine rX6_at_8 ?_
  refine rX6_at_9 ?_
  refine rX6_at_10 (by repeat first | assumption | exact zup_eq | refine (zup_ne (by first | decide | omega)).trans ?_) ?_
  refine rX6_at_13 ?_
  first | refine rX6_at_14N (by repeat first | assumption | exact zup_eq | refine (zup_ne (by first | decide | omega)).trans ?_) (by first | assumption | decide | omega) (by first | decide | omega) ?_ | refine rX6_at_14 (by repeat first | assumption | exact zup_eq | refine (zup_ne (by first | decide | omega)).trans ?_) (by first | assumption | decide) ?_
  rw [hgn q hq]
  refine rX6_at_15 ?_
  refine rX6_at_16 ?_
  refine rX6_at_17  ?_
  refine m_in ?_
  refine rX6_at_20b (fun hbb => absurd ((sub1_le hn (by omega)).mpr ⟨nI_pos' (by omega), nI_lt hk (by omega)⟩) hbb) (fun _ => ?_)
  refine rX6_at_23 ?_
  refine rX6_at_24 (by repeat first | assumption | exact zup_eq | refine (zup_ne (by first | decide | omega)).trans ?_) ?_
  refine rX6_at_27 ?_
  refine rX6_at_29 ?_
  refine rX6_at_30 ?_
  refine rX6_at_31 ?_
  refine rX6_at_32 ?_
  rw [i24]
  refine rX6_at_33N h39 (by omega) (by decide) ?_
  refine rX6_at_34 ?_
  refine rX6_at_39 ?_
  exact h
theorem m_about_bad {f : ZH} {r x : Int32} (hb : ¬ ((∃ q, q < 4 ∧ r = nI q) ∧ inR x 0 1)) (h : P (some (zi (-1))) sz f) : Zv none 85 0 [some (zr 37), some (zi r), some (zi x)] [] sz f 0 0 P := by
  refine rX6_about_0 ?_
  refine rX6_about_1  ?_
  refine m_isRosette ?_
  refine rX6_about_4b (fun _ => ?_) (fun hc => ?_)
  · refine rX6_about_16 ?_
    refine rX6_about_17 ?_
    refine rX6_about_38 ?_
    exact h
  · rcases okR_cases r with ⟨q, hq, rfl⟩ | hr
    · refine rX6_about_7 ?_
      refine rX6_about_8 ?_
      refine rX6_about_9 ?_
      refine rX6_about_10  ?_
      refine m_in ?_
      refine rX6_about_13b (fun hbb => absurd hbb (fun z => hb ⟨⟨q, hq, rfl⟩, z⟩)) (fun _ => ?_)
      refine rX6_about_16 ?_
      refine rX6_about_17 ?_
      refine rX6_about_38 ?_
      exact h
    · exact absurd hc hr
theorem m_about_ok {f : ZH} {q : Nat} {x : Int32} (hM : MP f n l o s p) (hN : ∀ q, q < 4 → 0 < n q ∧ n q ≤ 24) (hq : q < 4) (hx : inR x 0 1) (h : P (some (zi (if x = 0 then nI (n q) else nI (per (n q) (l q))))) sz f) : Zv none 85 0 [some (zr 37), some (zi (nI q)), some (zi x)] [] sz f 0 0 P := by
  obtain ⟨h37, ⟨gn, h38, hgn⟩, -⟩ := id hM
  obtain ⟨hn, hn2⟩ := hN q hq
  refine rX6_about_0 ?_
  refine rX6_about_1  ?_
  refine m_isRosette ?_
  refine rX6_about_4b (fun hbb => absurd (inR03 hq) hbb) (fun _ => ?_)
  refine rX6_about_7 ?_
  refine rX6_about_8 ?_
  refine rX6_about_9 ?_
  refine rX6_about_10  ?_
  refine m_in ?_
  refine rX6_about_13b (fun _ => ?_) (fun hbb => absurd hx hbb)
  refine rX6_about_20 ?_
  refine rX6_about_21 (fun hb => ?_) (fun hb => ?_)
  · rw [if_neg hb] at h
    refine rX6_about_33 ?_
    refine rX6_about_34 ?_
    refine rX6_about_35 (by repeat first | assumption | exact zup_eq | refine (zup_ne (by first | decide | omega)).trans ?_) ?_
    refine m_period (by assumption) (by assumption) (by assumption) (by assumption) ?_
    refine rX6_about_38 ?_
    exact h
  · rw [if_pos hb] at h
    refine rX6_about_24 ?_
    refine rX6_about_25 (by repeat first | assumption | exact zup_eq | refine (zup_ne (by first | decide | omega)).trans ?_) ?_
    refine rX6_about_28 ?_
    first | refine rX6_about_29N (by repeat first | assumption | exact zup_eq | refine (zup_ne (by first | decide | omega)).trans ?_) (by first | assumption | decide | omega) (by first | decide | omega) ?_ | refine rX6_about_29 (by repeat first | assumption | exact zup_eq | refine (zup_ne (by first | decide | omega)).trans ?_) (by first | assumption | decide) ?_
    rw [hgn q hq]
    refine rX6_about_30 ?_
    refine rX6_about_38 ?_
    exact h
end MR2
