/-! THE SEARCH: notes, and the settings found in order -/
def SB (f : ZH) (ms : Nat) (sr : Nat → Nat) (pv ba st : Int32) (la : Nat → Int32) : Prop := f 9 = some (zO 3 [zr 10, zr 11, zr 13, zi (nI ms), zi pv, zi ba, zi st]) ∧ isSet f 10 la ∧ f 11 = some (zO 2 [zr 12]) ∧ (∃ g, f 12 = some (zA 12 g) ∧ ∀ i, i < ms → g i = nI (sr i)) ∧ f 13 = some (zO 2 [zr 14]) ∧ ∃ g, f 14 = some (zA 288 g)
theorem SI.sb {f : ZH} {ms pe : Nat} {sr : Nat → Nat} {R : Nat → Nat → Int32} {ba st : Int32} {la : Nat → Int32} (h : SI f ms pe sr R ba st la) : SB f ms sr (nI pe) ba st la := by
  obtain ⟨h1, h2, h3, h4, h5, g, h6, -⟩ := h
  exact ⟨h1, h2, h3, h4, h5, g, h6⟩
abbrev S4 : List Nat := [9, 10, 12, 14]
theorem only.ros {f f' : ZH} {q n : Nat} {l : Nat → Int32} (h : only S4 f f') (hq : q < 4) (hR : isRos f (17 + 5 * q) n l) : isRos f' (17 + 5 * q) n l :=
  hR.keep (h _ (by simp; omega)) (h _ (by simp; omega)) (h _ (by simp; omega)) (h _ (by simp; omega)) (h _ (by simp; omega))
theorem only.pl {f f' : ZH} {p : Nat → Int32} (h : only S4 f f') (hP : isPl f p) : isPl f' p := hP.keep (h _ (by decide)) (h _ (by decide)) (h _ (by decide))
theorem only.top {f f' : ZH} (h : only S4 f f') (hP : isTop f) : isTop f' := hP.keep (h _ (by decide)) (h _ (by decide))
theorem only.s4 {f f' : ZH} {a : Nat} (h : only [a] f f') (ha : a ∈ S4) : only S4 f f' := h.mono (fun j hj => by
  rw [List.mem_singleton.mp hj]; exact ha)
theorem only.up {f : ZH} {a : Nat} {c : ZC} (ha : a ∈ S4) : only S4 f (zup f a c) := fun j hj => zup_ne (fun e => hj (e ▸ ha))
section SE2
variable {n : Nat} {l p : Nat → Int32} {sz : Nat} {P : Option ZVal → Nat → ZH → Prop}
theorem s_X3_noteRests {f0 f : ZH} {k ms pe : Nat} {sr : Nat → Nat} {ga ba st : Int32} {la : Nat → Int32} {q : Nat} (hk : k = 17 + 5 * q) (hq : q < 4) (hI : SB f ms sr (nI pe) ba st la) (ho : only S4 f0 f) (hPl : isPl f0 p) (hR : isRos f0 k n l) (hn : 0 < n) (hn2 : n ≤ 24) (hms2 : ms ≤ 12) (hsr : ∀ i, i < ms → sr i < 12) (hpe : 0 < pe) (hpe2 : pe ≤ 24) (h : ∀ f', SI f' ms pe sr (rst p n l ga) ba st la → only S4 f0 f' → P none sz f') : Zv none 25 0 [some (zr 9), some (zr 6), some (zr k), some (zi ga), none, none, none] [] sz f 0 0 P := by
  subst hk
  obtain ⟨h31, h32, h33, ⟨g, h34, hg⟩, h35, g2, h36⟩ := hI
  refine rX3_noteRests_0 ?_
  refine rX3_noteRests_1 ?_
  -- the heap with the rests g3
  have inner : ∀ (d t i : Nat) (g3 : Nat → Int32), t + d = pe → i < ms → (∀ i', i' < i → ∀ u, u < pe → g3 (sr i' * 24 + u) = rst p n l ga (sr i') u) → (∀ u, u < t → g3 (sr i * 24 + u) = rst p n l ga (sr i) u) → (∀ g4, (∀ i', i' < i + 1 → ∀ u, u < pe → g4 (sr i' * 24 + u) = rst p n l ga (sr i') u) → Zv none 25 67 [some (zr 9), some (zr 6), some (zr (17 + 5 * q)), some (zi ga), some (zi (nI i)), some (zi (nI (sr i))), some (zi (nI pe))] [] sz (zup f 14 (zA 288 g4)) 0 0 P) → Zv none 25 26 [some (zr 9), some (zr 6), some (zr (17 + 5 * q)), some (zi ga), some (zi (nI i)), some (zi (nI (sr i))), some (zi (nI t))] [] sz (zup f 14 (zA 288 g3)) 0 0 P := by
    intro d
    induction d with
    | zero =>
      intro t i g3 ht hi hd hc h
      obtain rfl : t = pe := by omega
      refine rX3_noteRests_26 ?_
      refine rX3_noteRests_28 ?_
      refine rX3_noteRests_29 (by repeat first | assumption | exact zup_eq | refine (zup_ne (by first | decide | omega)).trans ?_) ?_
      refine rX3_noteRests_32 (fun _ => ?_) (fun hbb => absurd (nI_le (by omega) (by omega)) hbb)
      refine h g3 (fun i' hi' u hu => ?_)
      by_cases hii : i' = i
      · rw [hii]; exact hc u hu
      · exact hd i' (by omega) u hu
    | succ d ih =>
      intro t i g3 ht hi hd hc h
      have ho1 : only S4 f0 (zup f 14 (zA 288 g3)) := ho.trans (only.up (by decide))
      have hPl1 := ho1.pl hPl
      have hR1 := ho1.ros hq hR
      have hsri := hsr i hi
      have k31 : zup f 14 (zA 288 g3) 9 = some (zO 3 [zr 10, zr 11, zr 13, zi (nI ms), zi (nI pe), zi ba, zi st]) := (zup_ne (by decide)).trans h31
      refine rX3_noteRests_26 ?_
      refine rX3_noteRests_28 ?_
      refine rX3_noteRests_29 (by repeat first | assumption | exact zup_eq | refine (zup_ne (by first | decide | omega)).trans ?_) ?_
      refine rX3_noteRests_32 (fun hbb => absurd hbb (nI_ge (by omega) (by omega))) (fun _ => ?_)
      refine rX3_noteRests_35 ?_
      refine rX3_noteRests_36 (by repeat first | assumption | exact zup_eq | refine (zup_ne (by first | decide | omega)).trans ?_) ?_
      refine rX3_noteRests_39 ?_
      refine rX3_noteRests_41 ?_
      refine rX3_noteRests_43 ?_
      refine rX3_noteRests_44 ?_
      refine rX3_noteRests_46 ?_
      rw [show nI (sr i) * 24 = nI (sr i * 24) from pk_mul (sr i) 24, nI_add]
      refine rX3_noteRests_47 ?_
      first | refine rX3_noteRests_48 ?_ | refine rX3_noteRests_48n ?_
      refine rX3_noteRests_49 ?_
      first | refine rX3_noteRests_51 ?_ | refine rX3_noteRests_51n ?_
      refine rX3_noteRests_52 ?_
      refine rX3_noteRests_53 ?_
      refine rX3_noteRests_55 (by repeat first | assumption | exact zup_eq | refine (zup_ne (by first | decide | omega)).trans ?_) ?_
      refine s_X3_restOfRing hPl1 hR1 hn hn2 hsri ?_
      refine rX3_noteRests_58 (by repeat first | assumption | exact zup_eq | refine (zup_ne (by first | decide | omega)).trans ?_) ?_
      refine s_X2_put (by repeat first | assumption | exact zup_eq | refine (zup_ne (by first | decide | omega)).trans ?_) (by repeat first | assumption | exact zup_eq | refine (zup_ne (by first | decide | omega)).trans ?_) (by first | assumption | decide | omega) (by first | assumption | decide | omega) ?_
      refine rX3_noteRests_61 ?_
      refine rX3_noteRests_64 ?_
      rw [nI_1, zup_zup]
      refine ih (t + 1) i _ (by omega) hi (fun i' hi' u hu => ?_) (fun u hu => ?_) h
      · by_cases he : sr i' * 24 + u = sr i * 24 + t
        · have e1 : sr i' = sr i := by omega
          have e2 : u = t := by omega
          rw [he, upd_s, e1, e2]
          rfl
        · rw [upd_n he]; exact hd i' hi' u hu
      · by_cases he : u = t
        · rw [he, upd_s]; rfl
        · rw [upd_n (by omega)]; exact hc u (by omega)
  have outer : ∀ (d i : Nat) (g3 : Nat → Int32) (l4 l5 : Option ZVal), i + d = ms → (∀ i', i' < i → ∀ u, u < pe → g3 (sr i' * 24 + u) = rst p n l ga (sr i') u) → Zv none 25 3 [some (zr 9), some (zr 6), some (zr (17 + 5 * q)), some (zi ga), some (zi (nI i)), l4, l5] [] sz (zup f 14 (zA 288 g3)) 0 0 P := by
    intro d
    induction d with
    | zero =>
      intro i g3 l4 l5 hi hd
      obtain rfl : i = ms := by omega
      refine rX3_noteRests_3 ?_
      refine rX3_noteRests_5 ?_
      refine rX3_noteRests_6 (by repeat first | assumption | exact zup_eq | refine (zup_ne (by first | decide | omega)).trans ?_) ?_
      refine rX3_noteRests_9 (fun _ => ?_) (fun hbb => absurd (nI_le (by omega) (by omega)) hbb)
      refine rX3_noteRests_73 ?_
      refine h _ ⟨(zup_ne (by decide)).trans h31, h32.keep (zup_ne (by decide)), (zup_ne (by decide)).trans h33, ⟨g, (zup_ne (by decide)).trans h34, hg⟩, (zup_ne (by decide)).trans h35, g3, zup_eq, hd⟩ (ho.trans (only.up (by decide)))
    | succ d ih =>
      intro i g3 l4 l5 hi hd
      have him : i < ms := by omega
      refine rX3_noteRests_3 ?_
      refine rX3_noteRests_5 ?_
      refine rX3_noteRests_6 (by repeat first | assumption | exact zup_eq | refine (zup_ne (by first | decide | omega)).trans ?_) ?_
      refine rX3_noteRests_9 (fun hbb => absurd hbb (nI_ge him (by omega))) (fun _ => ?_)
      refine rX3_noteRests_12 ?_
      refine rX3_noteRests_13 (by repeat first | assumption | exact zup_eq | refine (zup_ne (by first | decide | omega)).trans ?_) ?_
      refine rX3_noteRests_16 ?_
      refine rX3_noteRests_18 (by repeat first | assumption | exact zup_eq | refine (zup_ne (by first | decide | omega)).trans ?_) ?_
      refine s_X2_get (by repeat first | assumption | exact zup_eq | refine (zup_ne (by first | decide | omega)).trans ?_) (by repeat first | assumption | exact zup_eq | refine (zup_ne (by first | decide | omega)).trans ?_) (by first | assumption | decide | omega) (by first | assumption | decide | omega) ?_
      rw [hg i him]
      refine rX3_noteRests_21 ?_
      refine rX3_noteRests_23 ?_
      refine rX3_noteRests_24 ?_
      refine inner pe 0 i g3 (by omega) him hd (fun u hu => absurd hu (by omega)) (fun g4 hg4 => ?_)
      refine rX3_noteRests_67 ?_
      refine rX3_noteRests_70 ?_
      rw [nI_1]
      exact ih (i + 1) g4 _ _ (by omega) hg4
  have := outer ms 0 g2 none none (by omega) (fun i' hi' => absurd hi' (by omega))
  rw [zup_id h36] at this
  exact this
theorem s_X3_noteSeenRings {f0 f : ZH} {m0 pv ba st : Int32} {la : Nat → Int32} (h31 : f 9 = some (zO 3 [zr 10, zr 11, zr 13, zi m0, zi pv, zi ba, zi st])) (h32 : isSet f 10 la) (h33 : f 11 = some (zO 2 [zr 12])) (h34 : ∃ g, f 12 = some (zA 12 g)) (h35 : f 13 = some (zO 2 [zr 14])) (h36 : ∃ g, f 14 = some (zA 288 g)) (ho : only S4 f0 f) (hPl : isPl f0 p) (h : ∀ f', SB f' (msn p) (srk p) pv ba st la → only S4 f0 f' → P none sz f') : Zv none 24 0 [some (zr 9), some (zr 6), none] [] sz f 0 0 P := by
  obtain ⟨g0, h34⟩ := h34
  obtain ⟨g6, h36⟩ := h36
  have key : ∀ (d k : Nat) (f1 : ZH) (g : Nat → Int32), k + d = 12 → f1 9 = some (zO 3 [zr 10, zr 11, zr 13, zi (nI (srl p k).length), zi pv, zi ba, zi st]) → f1 12 = some (zA 12 g) → (∀ i, i < (srl p k).length → g i = nI ((srl p k).getD i 0)) → (∀ j, j ≠ 9 → j ≠ 12 → f1 j = f j) → Zv none 24 7 [some (zr 9), some (zr 6), some (zi (nI k))] [] sz f1 0 0 P := by
    intro d
    induction d with
    | zero =>
      intro k f1 g hk k31 k34 hg e
      obtain rfl : k = 12 := by omega
      refine rX3_noteSeenRings_7 ?_
      refine rX3_noteSeenRings_8 ?_
      refine rX3_noteSeenRings_10 (fun _ => ?_) (fun hbb => absurd (by decide) hbb)
      refine rX3_noteSeenRings_49 ?_
      refine h f1 ⟨k31, h32.keep (e _ (by decide) (by decide)), by rw [e 11 (by decide) (by decide)]; exact h33, ⟨g, k34, hg⟩, by rw [e 13 (by decide) (by decide)]; exact h35, g6, by rw [e 14 (by decide) (by decide)]; exact h36⟩ (ho.trans (fun j hj => e j (fun z => hj (z ▸ by decide)) (fun z => hj (z ▸ by decide))))
    | succ d ih =>
      intro k f1 g hk k31 k34 hg e
      have k33 : f1 11 = some (zO 2 [zr 12]) := by rw [e 11 (by decide) (by decide)]; exact h33
      have ho1 : only S4 f0 f1 := ho.trans (fun j hj => e j (fun z => hj (z ▸ by decide)) (fun z => hj (z ▸ by decide)))
      have hPl1 := ho1.pl hPl
      have hPl10 := hPl1.1
      have hlen := srl_len p k
      have hle := cntB_le (seenB p k) 48
      refine rX3_noteSeenRings_7 ?_
      refine rX3_noteSeenRings_8 ?_
      refine rX3_noteSeenRings_10 (fun hbb => absurd hbb (nI_ge (b := 12) (by omega) (by decide))) (fun _ => ?_)
      first | refine rX3_noteSeenRings_13 ?_ | refine rX3_noteSeenRings_13n ?_
      refine rX3_noteSeenRings_14 ?_
      refine rX3_noteSeenRings_15 (by repeat first | assumption | exact zup_eq | refine (zup_ne (by first | decide | omega)).trans ?_) ?_
      refine s_X0_seenIn (by assumption) (by first | assumption | omega) ?_
      by_cases hs : 0 < cntB (seenB p k) 48
      · have hsk : seenR p k = true := decide_eq_true hs
        refine rX3_noteSeenRings_18 (fun hbb => absurd hbb (nI_nle hs (by omega))) (fun _ => ?_)
        refine rX3_noteSeenRings_21 ?_
        refine rX3_noteSeenRings_22 (by repeat first | assumption | exact zup_eq | refine (zup_ne (by first | decide | omega)).trans ?_) ?_
        refine rX3_noteSeenRings_25 ?_
        refine rX3_noteSeenRings_26 (by repeat first | assumption | exact zup_eq | refine (zup_ne (by first | decide | omega)).trans ?_) ?_
        refine rX3_noteSeenRings_29 ?_
        refine rX3_noteSeenRings_30 (by repeat first | assumption | exact zup_eq | refine (zup_ne (by first | decide | omega)).trans ?_) ?_
        refine s_X2_put k33 k34 (by omega) (by decide) ?_
        have k31' : zup f1 12 (zA 12 (upd g (srl p k).length (nI k))) 9 = some (zO 3 [zr 10, zr 11, zr 13, zi (nI (srl p k).length), zi pv, zi ba, zi st]) := (zup_ne (by decide)).trans k31
        refine rX3_noteSeenRings_33 ?_
        refine rX3_noteSeenRings_34 ?_
        refine rX3_noteSeenRings_35 (by repeat first | assumption | exact zup_eq | refine (zup_ne (by first | decide | omega)).trans ?_) ?_
        refine rX3_noteSeenRings_38 ?_
        refine rX3_noteSeenRings_39 ?_
        refine rX3_noteSeenRings_40 (by repeat first | assumption | exact zup_eq | refine (zup_ne (by first | decide | omega)).trans ?_) ?_
        refine rX3_noteSeenRings_43 ?_
        refine rX3_noteSeenRings_46 ?_
        rw [nI_1, nI_1]
        have hsucc : srl p (k + 1) = srl p k ++ [k] := by rw [srl_succ, if_pos hsk]
        refine ih (k + 1) _ (upd g (srl p k).length (nI k)) (by omega) ?_ ((zup_ne (by decide)).trans zup_eq) (fun i hi => ?_) (fun j h1 h2 => (zup_ne h1).trans ((zup_ne h2).trans (e j h1 h2)))
        · rw [hsucc, List.length_append]
          exact zup_eq
        · rw [hsucc, List.length_append, List.length_singleton] at hi
          rw [hsucc, List.getD_eq_getElem?_getD]
          by_cases hik : i = (srl p k).length
          · rw [hik, upd_s, List.getElem?_append_right (Nat.le_refl _), Nat.sub_self]
            rfl
          · rw [upd_n hik, List.getElem?_append_left (by omega), ← List.getD_eq_getElem?_getD]
            exact hg i (by omega)
      · have hsk : ¬ seenR p k = true := fun z => hs (of_decide_eq_true z)
        have hsucc : srl p (k + 1) = srl p k := by rw [srl_succ, if_neg hsk, List.append_nil]
        refine rX3_noteSeenRings_18 (fun _ => ?_) (fun hbb => absurd (by rw [show cntB (seenB p k) 48 = 0 by omega]; decide) hbb)
        refine rX3_noteSeenRings_43 ?_
        refine rX3_noteSeenRings_46 ?_
        rw [nI_1]
        exact ih (k + 1) f1 g (by omega) (by rw [hsucc]; exact k31) k34 (by rw [hsucc]; exact hg) e
  refine rX3_noteSeenRings_0 ?_
  refine rX3_noteSeenRings_1 ?_
  refine rX3_noteSeenRings_2 (by repeat first | assumption | exact zup_eq | refine (zup_ne (by first | decide | omega)).trans ?_) ?_
  refine rX3_noteSeenRings_5 ?_
  refine rX3_noteSeenRings_6 ?_
  exact key 12 0 _ g0 rfl zup_eq ((zup_ne (by decide)).trans h34) (fun i hi => absurd hi (Nat.not_lt_zero i)) (fun j h1 _ => zup_ne h1)
/-- the last of a list -/
def lstf {α : Type} (old : α) (L : List α) : α := L.foldl (fun _ x => x) old
theorem lstf_app {α : Type} (old : α) (L M : List α) : lstf old (L ++ M) = lstf (lstf old L) M := List.foldl_append
theorem take_app {α : Type} (L M : List α) (w : Nat) : (L ++ M).take w = L.take w ++ M.take (w - (L.take w).length) := by
  rw [List.take_append, List.length_take]
  congr 2
  omega
theorem len_take_le {α : Type} (L : List α) (w : Nat) : (L.take w).length ≤ w := by rw [List.length_take]; omega
/-- a setting that makes the plate, if this one does -/
noncomputable def mkc (r : Nat) (ga : Int32) (ms pe : Nat) (sr : Nat → Nat) (R : Nat → Nat → Int32) (ph mv : Nat) : List (Nat → Int32) := match dlf ms sr (rAt pe R ph mv) with
  | some (ba, st) => @ite _ ((inR ba 0 1000 ∧ inR st 0 100) ∧ onL ms sr (rAt pe R ph mv) ba st) (Classical.propDecidable _) [six (nI r) ga ba st (nI ph) (nI mv)] []
  | none => []
noncomputable def mkRow (c : Nat → List (Nat → Int32)) : Nat → Nat → List (Nat → Int32)
  | 0, _ => []
  | d + 1, m => c m ++ mkRow c d (m + 1)
noncomputable def mkGain (r : Nat) (ga : Int32) (ms pe : Nat) (sr : Nat → Nat) (R : Nat → Nat → Int32) : List (Nat → Int32) := mkRow (fun ph => mkRow (fun mv => mkc r ga ms pe sr R ph mv) pe 0) pe 0
theorem mkc_le (r : Nat) (ga : Int32) (ms pe : Nat) (sr : Nat → Nat) (R : Nat → Nat → Int32) (ph mv : Nat) : (mkc r ga ms pe sr R ph mv).length ≤ 1 := by
  unfold mkc
  split
  · split <;> simp
  · simp
theorem s_X3_findOfGain {f0 f : ZH} {r ms pe W : Nat} {sr : Nat → Nat} {R : Nat → Nat → Int32} {ga ba st : Int32} {la : Nat → Int32} (hI : SI f ms pe sr R ba st la) (ho : only S4 f0 f) (hms : 0 < ms) (hms2 : ms ≤ 12) (hsr : ∀ i, i < ms → sr i < 12) (hinc : 1 < ms → sr 0 < sr 1) (hpe : 0 < pe) (hpe2 : pe ≤ 24) (hW : W ≤ 9216) (h : ∀ f' ba' st', SI f' ms pe sr R ba' st' (lstf la ((mkGain r ga ms pe sr R).take W)) → only S4 f0 f' → P (some (zi (nI ((mkGain r ga ms pe sr R).take W).length))) sz f') : Zv none 23 0 [some (zr 9), some (zi (nI r)), some (zi ga), some (zi (nI W)), none, none, none] [] sz f 0 0 P := by
  refine rX3_findOfGain_0 ?_
  refine rX3_findOfGain_1 ?_
  refine rX3_findOfGain_3 ?_
  refine rX3_findOfGain_4 ?_
  have inner : ∀ (d mv ph fo : Nat) (f1 : ZH) (ba st : Int32) (la : Nat → Int32), mv + d = pe → ph < pe → fo ≤ W → SI f1 ms pe sr R ba st la → only S4 f0 f1 → (∀ f2 ba' st', SI f2 ms pe sr R ba' st' (lstf la ((mkRow (fun mv => mkc r ga ms pe sr R ph mv) d mv).take (W - fo))) → only S4 f0 f2 → ∀ l6, Zv none 23 91 [some (zr 9), some (zi (nI r)), some (zi ga), some (zi (nI W)), some (zi (nI (fo + ((mkRow (fun mv => mkc r ga ms pe sr R ph mv) d mv).take (W - fo)).length))), some (zi (nI ph)), l6] [] sz f2 0 0 P) → Zv none 23 24 [some (zr 9), some (zi (nI r)), some (zi ga), some (zi (nI W)), some (zi (nI fo)), some (zi (nI ph)), some (zi (nI mv))] [] sz f1 0 0 P := by
    intro d
    induction d with
    | zero =>
      intro mv ph fo f1 ba st la hmv hph hfo hI ho h
      have k31 := hI.1
      have h := h f1 ba st (by rw [mkRow, List.take_nil]; exact hI) ho (some (zi (nI mv)))
      rw [mkRow, List.take_nil, List.length_nil, Nat.add_zero] at h
      refine rX3_findOfGain_24 ?_
      refine rX3_findOfGain_26 ?_
      refine rX3_findOfGain_27 (by repeat first | assumption | exact zup_eq | refine (zup_ne (by first | decide | omega)).trans ?_) ?_
      refine rX3_findOfGain_30 (fun _ => ?_) (fun hbb => absurd (nI_le (by omega) (by omega)) hbb)
      exact h
    | succ d ih =>
      intro mv ph fo f1 ba st la hmv hph hfo hI ho h
      have k31 := hI.1
      rw [mkRow, take_app] at h
      refine rX3_findOfGain_24 ?_
      refine rX3_findOfGain_26 ?_
      refine rX3_findOfGain_27 (by repeat first | assumption | exact zup_eq | refine (zup_ne (by first | decide | omega)).trans ?_) ?_
      refine rX3_findOfGain_30 (fun hbb => absurd hbb (nI_ge (by omega) (by omega))) (fun _ => ?_)
      refine rX3_findOfGain_33 ?_
      refine rX3_findOfGain_35 ?_
      by_cases hfw : fo < W
      · refine rX3_findOfGain_36 (fun hbb => absurd hbb (nI_ge hfw (by omega))) (fun _ => ?_)
        have hfull : (mkc r ga ms pe sr R ph mv).take (W - fo) = mkc r ga ms pe sr R ph mv := List.take_of_length_le (by have := mkc_le r ga ms pe sr R ph mv; omega)
        rw [hfull] at h
        -- nothing found here
        have no : mkc r ga ms pe sr R ph mv = [] → ∀ f2 ba' st', SI f2 ms pe sr R ba' st' la → only S4 f0 f2 → Zv none 23 85 [some (zr 9), some (zi (nI r)), some (zi ga), some (zi (nI W)), some (zi (nI fo)), some (zi (nI ph)), some (zi (nI mv))] [] sz f2 0 0 P := by
          intro he f2 ba' st' hI2 ho2
          rw [he, List.nil_append, List.length_nil, Nat.sub_zero] at h
          refine rX3_findOfGain_85 ?_
          refine rX3_findOfGain_88 ?_
          rw [nI_1]
          exact ih (mv + 1) ph fo f2 ba' st' la (by omega) hph hfo hI2 ho2 h
        refine rX3_findOfGain_39 ?_
        refine rX3_findOfGain_40 ?_
        refine rX3_findOfGain_42 ?_
        refine rX3_findOfGain_44 (by repeat first | assumption | exact zup_eq | refine (zup_ne (by first | decide | omega)).trans ?_) ?_
        refine s_X3_drawLine hI hms hms2 hsr hinc hpe hpe2 hph (by omega) (fun f2 b2 t2 hI2 ho2 hbs => ?_)
        have ho2 := ho.trans (ho2.s4 (by decide))
        refine rX3_findOfGain_47b (fun hb => ?_) (fun hb => ?_)
        · refine no ?_ f2 b2 t2 hI2 ho2
          unfold mkc
          cases hd : dlf ms sr (rAt pe R ph mv) with
          | none => rfl
          | some bs =>
            obtain ⟨b, t⟩ := bs
            dsimp only
            rw [if_neg (fun z => hb ⟨b, t, hd, z.1.1, z.1.2⟩)]
        · obtain ⟨b, t, hd, c1, c2⟩ := hb
          obtain ⟨rfl, rfl⟩ := hbs b t hd
          have m31 := hI2.1
          have m32 := hI2.2.1
          unfold isSet at m32
          refine rX3_findOfGain_50 ?_
          refine rX3_findOfGain_51 ?_
          refine rX3_findOfGain_53 ?_
          refine rX3_findOfGain_55 (by repeat first | assumption | exact zup_eq | refine (zup_ne (by first | decide | omega)).trans ?_) ?_
          refine s_X3_allOnLine hI2 hms2 hsr hpe hpe2 hph (by omega) ?_
          refine rX3_findOfGain_58b (fun hc => ?_) (fun hc => ?_)
          · refine no ?_ f2 _ _ hI2 ho2
            unfold mkc
            rw [hd]
            dsimp only
            rw [if_neg (fun z => hc z.2)]
          · have he : mkc r ga ms pe sr R ph mv = [six (nI r) ga b2 t2 (nI ph) (nI mv)] := by
              unfold mkc
              rw [hd]
              dsimp only
              rw [if_pos ⟨⟨c1, c2⟩, hc⟩]
            rw [he, List.length_singleton] at h
            refine rX3_findOfGain_61 ?_
            refine rX3_findOfGain_62 (by repeat first | assumption | exact zup_eq | refine (zup_ne (by first | decide | omega)).trans ?_) ?_
            refine rX3_findOfGain_65 ?_
            refine rX3_findOfGain_66 ?_
            refine rX3_findOfGain_67 ?_
            refine rX3_findOfGain_68 (by repeat first | assumption | exact zup_eq | refine (zup_ne (by first | decide | omega)).trans ?_) ?_
            refine rX3_findOfGain_71 ?_
            refine rX3_findOfGain_72 (by repeat first | assumption | exact zup_eq | refine (zup_ne (by first | decide | omega)).trans ?_) ?_
            refine rX3_findOfGain_75 ?_
            refine rX3_findOfGain_77 ?_
            refine rX3_findOfGain_79 (by repeat first | assumption | exact zup_eq | refine (zup_ne (by first | decide | omega)).trans ?_) ?_
            refine s_X4_become m32 (fun f3 hS3 hf3 => ?_)
            have hI3 : SI f3 ms pe sr R b2 t2 (six (nI r) ga b2 t2 (nI ph) (nI mv)) := by
              obtain ⟨a1, a2, a3, ⟨g4, a4, a4'⟩, a5, g6, a6, a6'⟩ := hI2
              exact ⟨by rw [hf3 9 (by decide)]; exact a1, hS3, by rw [hf3 11 (by decide)]; exact a3, ⟨g4, by rw [hf3 12 (by decide)]; exact a4, a4'⟩, by rw [hf3 13 (by decide)]; exact a5, g6, by rw [hf3 14 (by decide)]; exact a6, a6'⟩
            have ho3 : only S4 f0 f3 := ho2.trans (fun j hj => hf3 j (fun e => hj (e ▸ by decide)))
            refine rX3_findOfGain_82 ?_
            refine rX3_findOfGain_85 ?_
            refine rX3_findOfGain_88 ?_
            rw [nI_1, nI_1]
            refine ih (mv + 1) ph (fo + 1) f3 b2 t2 _ (by omega) hph (by omega) hI3 ho3 (fun f4 b4 t4 hI4 ho4 l6 => ?_)
            rw [show W - (fo + 1) = W - fo - 1 by omega] at hI4 ⊢
            have h := h f4 b4 t4 (by rw [lstf_app]; exact hI4) ho4 l6
            rw [List.length_append, List.length_singleton, ← Nat.add_assoc] at h
            exact h
      · refine rX3_findOfGain_36 (fun _ => ?_) (fun hbb => absurd (nI_le (by omega) (by omega)) hbb)
        have hz : W - fo = 0 := by omega
        rw [hz] at h
        have h := h f1 ba st (by simpa [lstf] using hI) ho (some (zi (nI mv)))
        simp only [List.take_zero, Nat.zero_sub, List.append_nil, List.length_nil, Nat.add_zero] at h
        exact h
  have outer : ∀ (d ph fo : Nat) (f1 : ZH) (ba st : Int32) (la : Nat → Int32) (l6 : Option ZVal), ph + d = pe → fo ≤ W → SI f1 ms pe sr R ba st la → only S4 f0 f1 → (∀ f2 ba' st', SI f2 ms pe sr R ba' st' (lstf la ((mkRow (fun ph => mkRow (fun mv => mkc r ga ms pe sr R ph mv) pe 0) d ph).take (W - fo))) → only S4 f0 f2 → P (some (zi (nI (fo + ((mkRow (fun ph => mkRow (fun mv => mkc r ga ms pe sr R ph mv) pe 0) d ph).take (W - fo)).length)))) sz f2) → Zv none 23 6 [some (zr 9), some (zi (nI r)), some (zi ga), some (zi (nI W)), some (zi (nI fo)), some (zi (nI ph)), l6] [] sz f1 0 0 P := by
    intro d
    induction d with
    | zero =>
      intro ph fo f1 ba st la l6 hph hfo hI ho h
      have k31 := hI.1
      have h := h f1 ba st (by rw [mkRow, List.take_nil]; exact hI) ho
      rw [mkRow, List.take_nil, List.length_nil, Nat.add_zero] at h
      refine rX3_findOfGain_6 ?_
      refine rX3_findOfGain_8 ?_
      refine rX3_findOfGain_9 (by repeat first | assumption | exact zup_eq | refine (zup_ne (by first | decide | omega)).trans ?_) ?_
      refine rX3_findOfGain_12 (fun _ => ?_) (fun hbb => absurd (nI_le (by omega) (by omega)) hbb)
      refine rX3_findOfGain_97 ?_
      refine rX3_findOfGain_99 ?_
      exact h
    | succ d ih =>
      intro ph fo f1 ba st la l6 hph hfo hI ho h
      have k31 := hI.1
      rw [mkRow, take_app] at h
      refine rX3_findOfGain_6 ?_
      refine rX3_findOfGain_8 ?_
      refine rX3_findOfGain_9 (by repeat first | assumption | exact zup_eq | refine (zup_ne (by first | decide | omega)).trans ?_) ?_
      refine rX3_findOfGain_12 (fun hbb => absurd hbb (nI_ge (by omega) (by omega))) (fun _ => ?_)
      refine rX3_findOfGain_15 ?_
      refine rX3_findOfGain_17 ?_
      by_cases hfw : fo < W
      · refine rX3_findOfGain_18 (fun hbb => absurd hbb (nI_ge hfw (by omega))) (fun _ => ?_)
        refine rX3_findOfGain_21 ?_
        refine rX3_findOfGain_22 ?_
        refine inner pe 0 ph fo f1 ba st la (by omega) (by omega) hfo hI ho (fun f2 b2 t2 hI2 ho2 l6 => ?_)
        have hA := len_take_le (mkRow (fun mv => mkc r ga ms pe sr R ph mv) pe 0) (W - fo)
        generalize (mkRow (fun mv => mkc r ga ms pe sr R ph mv) pe 0).take (W - fo) = A at h hI2 hA ⊢
        refine rX3_findOfGain_91 ?_
        refine rX3_findOfGain_94 ?_
        rw [nI_1]
        refine ih (ph + 1) (fo + A.length) f2 b2 t2 _ _ (by omega) (by omega) hI2 ho2 (fun f3 b3 t3 hI3 ho3 => ?_)
        rw [show W - (fo + A.length) = W - fo - A.length by omega] at hI3 ⊢
        have h := h f3 b3 t3 (by rw [lstf_app]; exact hI3) ho3
        rw [List.length_append, ← Nat.add_assoc] at h
        exact h
      · refine rX3_findOfGain_18 (fun _ => ?_) (fun hbb => absurd (nI_le (by omega) (by omega)) hbb)
        have hz : W - fo = 0 := by omega
        rw [hz] at h
        have h := h f1 ba st (by simpa [lstf] using hI) ho
        simp only [List.take_zero, Nat.zero_sub, List.append_nil, List.length_nil, Nat.add_zero] at h
        refine rX3_findOfGain_97 ?_
        refine rX3_findOfGain_99 ?_
        exact h
  refine outer pe 0 0 f ba st la none (by omega) (Nat.zero_le _) hI ho (fun f2 b2 t2 hI2 ho2 => ?_)
  rw [Nat.zero_add]
  exact h f2 b2 t2 hI2 ho2
/-- the makers of a rosette, gain by gain from ga on -/
noncomputable def mkGains (p : Nat → Int32) (n : Nat) (l : Nat → Int32) (r ms pe : Nat) (sr : Nat → Nat) : Nat → Nat → List (Nat → Int32)
  | 0, _ => []
  | d + 1, ga => mkGain r (nI ga) ms pe sr (rst p n l (nI ga)) ++ mkGains p n l r ms pe sr d (ga + 1)
theorem s_X3_findOfRosette {f0 f : ZH} {q ms W : Nat} {sr : Nat → Nat} {pv ba st : Int32} {la : Nat → Int32} (hq : q < 4) (hI : SB f ms sr pv ba st la) (ho : only S4 f0 f) (hPl : isPl f0 p) (hR : isRos f0 (17 + 5 * q) n l) (hn : 0 < n) (hn2 : n ≤ 24) (hms : 0 < ms) (hms2 : ms ≤ 12) (hsr : ∀ i, i < ms → sr i < 12) (hinc : 1 < ms → sr 0 < sr 1) (hW : W ≤ 9216) (h : ∀ f' pv' ba' st', SB f' ms sr pv' ba' st' (lstf la ((mkGains p n l q ms (per n l) sr 4 1).take W)) → only S4 f0 f' → P (some (zi (nI ((mkGains p n l q ms (per n l) sr 4 1).take W).length))) sz f') : Zv none 22 0 [some (zr 9), some (zr 6), some (zi (nI q)), some (zr (17 + 5 * q)), some (zi (nI W)), none, none] [] sz f 0 0 P := by
  obtain ⟨hp0, hp1⟩ := per_pos (l := l) hn
  have hR1 := ho.ros hq hR
  have hR11 := hR1.1
  have h31 := hI.1
  refine rX3_findOfRosette_0 ?_
  first | refine rX3_findOfRosette_1 ?_ | refine rX3_findOfRosette_1n ?_
  refine rX3_findOfRosette_2 (by repeat first | assumption | exact zup_eq | refine (zup_ne (by first | decide | omega)).trans ?_) ?_
  refine s_X1_period hR1 hn hn2 ?_
  generalize hpe : per n l = pe at h hp0 hp1 ⊢
  refine rX3_findOfRosette_5 (by repeat first | assumption | exact zup_eq | refine (zup_ne (by first | decide | omega)).trans ?_) ?_
  refine rX3_findOfRosette_8 ?_
  refine rX3_findOfRosette_9 ?_
  refine rX3_findOfRosette_11 ?_
  refine rX3_findOfRosette_12 ?_
  have hI1 : SB (zup f 9 (zO 3 [zr 10, zr 11, zr 13, zi (nI ms), zi (nI pe), zi ba, zi st])) ms sr (nI pe) ba st la := by
    obtain ⟨a1, a2, a3, ⟨g4, a4, a4'⟩, a5, g6, a6⟩ := hI
    exact ⟨zup_eq, a2.keep (zup_ne (by decide)), (zup_ne (by decide)).trans a3, ⟨g4, (zup_ne (by decide)).trans a4, a4'⟩, (zup_ne (by decide)).trans a5, g6, (zup_ne (by decide)).trans a6⟩
  have ho1 : only S4 f0 (zup f 9 (zO 3 [zr 10, zr 11, zr 13, zi (nI ms), zi (nI pe), zi ba, zi st])) := ho.trans (only.up (by decide))
  generalize zup f 9 (zO 3 [zr 10, zr 11, zr 13, zi (nI ms), zi (nI pe), zi ba, zi st]) = f1 at hI1 ho1 ⊢
  have key : ∀ (d ga fo : Nat) (f1 : ZH) (ba st : Int32) (la : Nat → Int32), ga + d = 5 → 1 ≤ ga → fo ≤ W → SB f1 ms sr (nI pe) ba st la → only S4 f0 f1 → (∀ f' ba' st', SB f' ms sr (nI pe) ba' st' (lstf la ((mkGains p n l q ms pe sr d ga).take (W - fo))) → only S4 f0 f' → P (some (zi (nI (fo + ((mkGains p n l q ms pe sr d ga).take (W - fo)).length)))) sz f') → Zv none 22 14 [some (zr 9), some (zr 6), some (zi (nI q)), some (zr (17 + 5 * q)), some (zi (nI W)), some (zi (nI fo)), some (zi (nI ga))] [] sz f1 0 0 P := by
    intro d
    induction d with
    | zero =>
      intro ga fo f1 ba st la hga hga1 hfo hI ho h
      have h := h f1 ba st (by rw [mkGains, List.take_nil]; exact hI) ho
      rw [mkGains, List.take_nil, List.length_nil, Nat.add_zero] at h
      refine rX3_findOfRosette_14 ?_
      refine rX3_findOfRosette_16 ?_
      refine rX3_findOfRosette_17 (fun _ => ?_) (fun hbb => absurd (nI_lt (a := 4) (by omega) (by omega)) hbb)
      refine rX3_findOfRosette_58 ?_
      refine rX3_findOfRosette_60 ?_
      exact h
    | succ d ih =>
      intro ga fo f1 ba st la hga hga1 hfo hI ho h
      rw [mkGains, take_app] at h
      refine rX3_findOfRosette_14 ?_
      refine rX3_findOfRosette_16 ?_
      refine rX3_findOfRosette_17 (fun hbb => absurd hbb (nI_nlt (a := 4) (by omega) (by decide))) (fun _ => ?_)
      refine rX3_findOfRosette_20 ?_
      refine rX3_findOfRosette_22 ?_
      by_cases hfw : fo < W
      · refine rX3_findOfRosette_24 (fun hbb => absurd hbb (nI_ge hfw (by omega))) (fun _ => ?_)
        have k31 := hI.1
        refine rX3_findOfRosette_27 ?_
        first | refine rX3_findOfRosette_28 ?_ | refine rX3_findOfRosette_28n ?_
        first | refine rX3_findOfRosette_29 ?_ | refine rX3_findOfRosette_29n ?_
        refine rX3_findOfRosette_30 ?_
        refine rX3_findOfRosette_32 (by repeat first | assumption | exact zup_eq | refine (zup_ne (by first | decide | omega)).trans ?_) ?_
        refine s_X3_noteRests rfl hq hI ho hPl hR hn hn2 hms2 hsr hp0 (by omega) (fun f2 hI2 ho2 => ?_)
        have m31 := hI2.1
        refine rX3_findOfRosette_35 ?_
        refine rX3_findOfRosette_37 ?_
        refine rX3_findOfRosette_38 ?_
        refine rX3_findOfRosette_39 ?_
        refine rX3_findOfRosette_41 ?_
        refine rX3_findOfRosette_43 ?_
        refine rX3_findOfRosette_45 ?_
        rw [pk_sub hfo]
        refine rX3_findOfRosette_46 (by repeat first | assumption | exact zup_eq | refine (zup_ne (by first | decide | omega)).trans ?_) ?_
        refine s_X3_findOfGain hI2 ho2 hms hms2 hsr hinc hp0 (by omega) (by omega) (fun f3 b3 t3 hI3 ho3 => ?_)
        have hA := len_take_le (mkGain q (nI ga) ms pe sr (rst p n l (nI ga))) (W - fo)
        generalize (mkGain q (nI ga) ms pe sr (rst p n l (nI ga))).take (W - fo) = A at h hI3 hA ⊢
        refine rX3_findOfRosette_49 ?_
        refine rX3_findOfRosette_50 ?_
        refine rX3_findOfRosette_52 ?_
        refine rX3_findOfRosette_55 ?_
        rw [nI_1, nI_add]
        refine ih (ga + 1) (fo + A.length) f3 b3 t3 _ (by omega) (by omega) (by omega) hI3.sb ho3 (fun f4 b4 t4 hI4 ho4 => ?_)
        rw [show W - (fo + A.length) = W - fo - A.length by omega] at hI4 ⊢
        have h := h f4 b4 t4 (by rw [lstf_app]; exact hI4) ho4
        rw [List.length_append, ← Nat.add_assoc] at h
        exact h
      · refine rX3_findOfRosette_24 (fun _ => ?_) (fun hbb => absurd (nI_le (by omega) (by omega)) hbb)
        have hz : W - fo = 0 := by omega
        rw [hz] at h
        have h := h f1 ba st (by simpa [lstf] using hI) ho
        simp only [List.take_zero, Nat.zero_sub, List.append_nil, List.length_nil, Nat.add_zero] at h
        refine rX3_findOfRosette_58 ?_
        refine rX3_findOfRosette_60 ?_
        exact h
  refine key 4 1 0 f1 ba st la rfl (by decide) (Nat.zero_le _) hI1 ho1 (fun f2 b2 t2 hI2 ho2 => ?_)
  rw [Nat.zero_add]
  exact h f2 _ b2 t2 hI2 ho2
end SE2
section SE3
variable {n : Nat → Nat} {l : Nat → Nat → Int32} {p : Nat → Int32} {sz : Nat} {P : Option ZVal → Nat → ZH → Prop}
/-- all makers, rosette by rosette from r on -/
noncomputable def mkAll (p : Nat → Int32) (n : Nat → Nat) (l : Nat → Nat → Int32) (ms : Nat) (sr : Nat → Nat) : Nat → Nat → List (Nat → Int32)
  | 0, _ => []
  | d + 1, r => mkGains p (n r) (l r) r ms (per (n r) (l r)) sr 4 1 ++ mkAll p n l ms sr d (r + 1)
theorem srk_inc (p : Nat → Int32) (h : 1 < msn p) : srk p 0 < srk p 1 := by
  have hs : (srl p 12).Pairwise (· < ·) := List.Pairwise.filter _ List.pairwise_lt_range
  unfold msn at h
  have e0 : srk p 0 = (srl p 12)[0]'(by omega) := by unfold srk; rw [List.getD_eq_getElem?_getD, List.getElem?_eq_getElem (by omega)]; rfl
  have e1 : srk p 1 = (srl p 12)[1]'(by omega) := by unfold srk; rw [List.getD_eq_getElem?_getD, List.getElem?_eq_getElem (by omega)]; rfl
  rw [e0, e1]
  exact List.pairwise_iff_getElem.mp hs 0 1 (by omega) (by omega) (by decide)
theorem s_X3_find {f : ZH} {W : Nat} (hT : isTop f) (hR : ∀ r, r < 4 → isRos f (17 + 5 * r) (n r) (l r)) (hn : ∀ q, q < 4 → 0 < n q ∧ n q ≤ 24) (hPl : isPl f p) (hS : isSrch f) (hW : W ≤ 9216) (h : ∀ f', isSrch f' → (0 < ((mkAll p n l (msn p) (srk p) (if msn p = 0 then 0 else 4) 0).take W).length → ∃ la, isSet f' 10 (lstf la ((mkAll p n l (msn p) (srk p) (if msn p = 0 then 0 else 4) 0).take W))) → only S4 f f' → P (some (zi (nI ((mkAll p n l (msn p) (srk p) (if msn p = 0 then 0 else 4) 0).take W).length))) sz f') : Zv none 21 0 [some (zr 9), some (zr 1), some (zr 6), some (zi (nI W)), none, none, none] [] sz f 0 0 P := by
  obtain ⟨⟨m0, pv, ba, st, h31⟩, ⟨la, h32⟩, h33, h34, h35, h36⟩ := hS
  refine rX3_find_0 ?_
  first | refine rX3_find_1 ?_ | refine rX3_find_1n ?_
  refine rX3_find_2 (by repeat first | assumption | exact zup_eq | refine (zup_ne (by first | decide | omega)).trans ?_) ?_
  refine s_X3_noteSeenRings h31 h32 h33 h34 h35 h36 only.refl hPl (fun f1 hI1 ho1 => ?_)
  have k31 := hI1.1
  have sbS : ∀ {f' pv' ba' st' la'}, SB f' (msn p) (srk p) pv' ba' st' la' → isSrch f' := fun ⟨a1, a2, a3, ⟨g, a4, _⟩, a5, a6⟩ => ⟨⟨_, _, _, _, a1⟩, ⟨_, a2⟩, a3, ⟨g, a4⟩, a5, a6⟩
  have hms2 := msn_le p
  refine rX3_find_5 ?_
  refine rX3_find_6 (by repeat first | assumption | exact zup_eq | refine (zup_ne (by first | decide | omega)).trans ?_) ?_
  by_cases hm : msn p = 0
  · rw [if_pos hm] at h
    have h := h f1 (sbS hI1) (fun z => by rw [mkAll, List.take_nil] at z; exact absurd z (by decide)) ho1
    rw [mkAll, List.take_nil] at h
    refine rX3_find_9 (fun hbb => absurd (by rw [hm]; rfl) hbb) (fun _ => ?_)
    refine rX3_find_12 ?_
    refine rX3_find_13 ?_
    exact h
  · rw [if_neg hm] at h
    refine rX3_find_9 (fun _ => ?_) (fun hbb => absurd hbb (nI_ne (by omega) (by omega)))
    refine rX3_find_14 ?_
    refine rX3_find_15 ?_
    refine rX3_find_17 ?_
    refine rX3_find_18 ?_
    have key : ∀ (d r fo : Nat) (f1 : ZH) (pv ba st : Int32) (la : Nat → Int32) (l4 : Option ZVal), r + d = 4 → fo ≤ W → SB f1 (msn p) (srk p) pv ba st la → only S4 f f1 → (∀ f' pv' ba' st', SB f' (msn p) (srk p) pv' ba' st' (lstf la ((mkAll p n l (msn p) (srk p) d r).take (W - fo))) → only S4 f f' → P (some (zi (nI (fo + ((mkAll p n l (msn p) (srk p) d r).take (W - fo)).length)))) sz f') → Zv none 21 20 [some (zr 9), some (zr 1), some (zr 6), some (zi (nI W)), some (zi (nI fo)), some (zi (nI r)), l4] [] sz f1 0 0 P := by
      intro d
      induction d with
      | zero =>
        intro r fo f1 pv ba st la l4 hr hfo hI ho h
        obtain rfl : r = 4 := by omega
        have k31 := hI.1
        obtain ⟨hT0, g1, hT1, hg1⟩ := ho.top hT
        have h := h f1 pv ba st (by rw [mkAll, List.take_nil]; exact hI) ho
        rw [mkAll, List.take_nil, List.length_nil, Nat.add_zero] at h
        refine rX3_find_20 ?_
        first | refine rX3_find_22 ?_ | refine rX3_find_22n ?_
        first | refine rX3_find_23 (by repeat first | assumption | exact zup_eq | refine (zup_ne (by first | decide | omega)).trans ?_) ?_ | refine rX3_find_23Q (by repeat first | assumption | exact zup_eq | refine (zup_ne (by first | decide | omega)).trans ?_) ?_
        refine rX3_find_24 (fun _ => ?_) (fun hbb => absurd (by decide) hbb)
        refine rX3_find_68 ?_
        refine rX3_find_70 ?_
        exact h
      | succ d ih =>
        intro r fo f1 pv ba st la l4 hr hfo hI ho h
        have hr4 : r < 4 := by omega
        have k31 := hI.1
        obtain ⟨hT0, g1, hT1, hg1⟩ := ho.top hT
        rw [mkAll, take_app] at h
        refine rX3_find_20 ?_
        first | refine rX3_find_22 ?_ | refine rX3_find_22n ?_
        first | refine rX3_find_23 (by repeat first | assumption | exact zup_eq | refine (zup_ne (by first | decide | omega)).trans ?_) ?_ | refine rX3_find_23Q (by repeat first | assumption | exact zup_eq | refine (zup_ne (by first | decide | omega)).trans ?_) ?_
        refine rX3_find_24 (fun hbb => absurd hbb (nI_ge (b := 4) hr4 (by decide))) (fun _ => ?_)
        refine rX3_find_27 ?_
        refine rX3_find_29 ?_
        by_cases hfw : fo < W
        · refine rX3_find_30 (fun hbb => absurd hbb (nI_ge hfw (by omega))) (fun _ => ?_)
          first | refine rX3_find_33 ?_ | refine rX3_find_33n ?_
          refine rX3_find_34 ?_
          refine rX3_find_36N (by repeat first | assumption | exact zup_eq | refine (zup_ne (by first | decide | omega)).trans ?_) (by first | assumption | decide | omega) (by first | decide | omega) ?_
          rw [hg1 r hr4]
          refine rX3_find_37 (x := 17 + 5 * r) ?_
          first | refine rX3_find_39 ?_ | refine rX3_find_39n ?_
          first | refine rX3_find_41 ?_ | refine rX3_find_41n ?_
          refine rX3_find_44 ?_
          refine rX3_find_46 ?_
          first | refine rX3_find_47 ?_ | refine rX3_find_47n ?_
          refine rX3_find_48 ?_
          first | refine rX3_find_50 ?_ | refine rX3_find_50n ?_
          refine rX3_find_52 ?_
          refine rX3_find_53 ?_
          refine rX3_find_55 ?_
          rw [pk_sub hfo]
          refine rX3_find_56 (by repeat first | assumption | exact zup_eq | refine (zup_ne (by first | decide | omega)).trans ?_) ?_
          refine s_X3_findOfRosette hr4 hI ho hPl (hR r hr4) (hn r hr4).1 (hn r hr4).2 (by omega) hms2 (fun i hi => srk_lt hi) (srk_inc p) (by omega) (fun f3 p3 b3 t3 hI3 ho3 => ?_)
          have hA := len_take_le (mkGains p (n r) (l r) r (msn p) (per (n r) (l r)) (srk p) 4 1) (W - fo)
          generalize (mkGains p (n r) (l r) r (msn p) (per (n r) (l r)) (srk p) 4 1).take (W - fo) = A at h hI3 hA ⊢
          refine rX3_find_59 ?_
          refine rX3_find_60 ?_
          refine rX3_find_62 ?_
          refine rX3_find_65 ?_
          rw [nI_1, nI_add]
          refine ih (r + 1) (fo + A.length) f3 p3 b3 t3 _ _ (by omega) (by omega) hI3 ho3 (fun f4 p4 b4 t4 hI4 ho4 => ?_)
          rw [show W - (fo + A.length) = W - fo - A.length by omega] at hI4 ⊢
          have h := h f4 p4 b4 t4 (by rw [lstf_app]; exact hI4) ho4
          rw [List.length_append, ← Nat.add_assoc] at h
          exact h
        · refine rX3_find_30 (fun _ => ?_) (fun hbb => absurd (nI_le (by omega) (by omega)) hbb)
          have hz : W - fo = 0 := by omega
          rw [hz] at h
          have h := h f1 pv ba st (by simpa [lstf] using hI) ho
          simp only [List.take_zero, Nat.zero_sub, List.append_nil, List.length_nil, Nat.add_zero] at h
          refine rX3_find_68 ?_
          refine rX3_find_70 ?_
          exact h
    refine key 4 0 0 f1 pv ba st la none rfl (Nat.zero_le _) hI1 ho1 (fun f2 p2 b2 t2 hI2 ho2 => ?_)
    rw [Nat.zero_add]
    exact h f2 (sbS hI2) (fun _ => ⟨la, hI2.2.1⟩) ho2
end SE3
