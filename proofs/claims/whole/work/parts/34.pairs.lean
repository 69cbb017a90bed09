/-! EACH CALL OF THE LAW: both sides give the same answer and come to like states -/
theorem ge0_nI {x : Int32} (h : 0 ≤ x) : ∃ k, k < 2 ^ 31 ∧ x = nI k := by
  have h1 := Jvm.Kit.i32_nonneg.mp h
  have h2 := x.toInt_lt
  exact ⟨x.toInt.toNat, by omega, i32_eq_nI (by omega) (by omega)⟩
theorem idx_nI {x : Int32} {m : Nat} (hm : m ≤ 24) (h : 0 ≤ x ∧ x < nI m) : ∃ k, k < m ∧ x = nI k := by
  have h1 := Jvm.Kit.i32_nonneg.mp h.1
  have h2 := Int32.lt_iff_toInt_lt.mp h.2
  rw [nI_toInt (by omega)] at h2
  exact ⟨x.toInt.toNat, by omega, i32_eq_nI (by omega) (by omega)⟩
def Both (n : Nat → Nat) (l : Nat → Nat → Int32) (o s p : Nat → Int32) (jc : Nat) (lc : List (Option ZVal)) (jm : Nat) (lm : List (Option ZVal)) : Prop := ∃ (v : Int32) (n' : Nat → Nat) (l' : Nat → Nat → Int32) (o' s' p' : Nat → Int32), Inv n' l' o' s' p' ∧ (∀ (f : ZH) (sz : Nat) (P : Option ZVal → Nat → ZH → Prop), CP f n l o s p → (∀ f', CP f' n' l' o' s' p' → hi f f' → P (some (zi v)) sz f') → Zv none jc 0 lc [] sz f 0 0 P) ∧ (∀ (f : ZH) (sz : Nat) (P : Option ZVal → Nat → ZH → Prop), MP f n l o s p → (∀ f', MP f' n' l' o' s' p' → lo f f' → P (some (zi v)) sz f') → Zv none jm 0 lm [] sz f 0 0 P)
theorem MP_hi {f f' : ZH} {n : Nat → Nat} {l : Nat → Nat → Int32} {o s p : Nat → Int32} (hM : MP f n l o s p) (e : hi f f') : MP f' n l o s p := by
  obtain ⟨h37, h38, ⟨gl, h39, hgl⟩, h40, ⟨gx, h41⟩, h42, h43, gh, h44⟩ := hM
  exact ⟨(e _ (by decide)).trans h37, h38.keep (e _ (by decide)), ⟨gl, (e _ (by decide)).trans h39, hgl⟩, h40.keep (e _ (by decide)), ⟨gx, (e _ (by decide)).trans h41⟩, h42.keep (e _ (by decide)), h43.keep (e _ (by decide)), gh, (e _ (by decide)).trans h44⟩
theorem CP_lo {f f' : ZH} {n : Nat → Nat} {l : Nat → Nat → Int32} {o s p : Nat → Int32} (hC : CP f n l o s p) (e : lo f f') : CP f' n l o s p := by
  obtain ⟨h0, hR, h2, ⟨o', h3⟩, h4, h5, h6, h7⟩ := hC
  refine ⟨h0.keep (e _ (by decide)) (e _ (by decide)), fun r hr => (hR r hr).keep (e _ (by omega)) (e _ (by omega)) (e _ (by omega)) (e _ (by omega)) (e _ (by omega)), h2.keep (e _ (by decide)), ⟨o', h3.keep (e _ (by decide))⟩, h4.keep (e _ (by decide)) (e _ (by decide)), h5.keep (e _ (by decide)) (e _ (by decide)) (e _ (by decide)), h6.keep (e _ (by decide)) (e _ (by decide)), h7.keep (fun j h1 h2 => e j (by omega))⟩
section PR
variable {n : Nat → Nat} {l : Nat → Nat → Int32} {o s p : Nat → Int32}
theorem pr_rosette (hI : Inv n l o s p) (r x : Int32) : Both n l o s p 35 [some (zr 0), some (zi r), some (zi x), none] 79 [some (zr 37), some (zi r), some (zi x)] := by
  by_cases hb : (∃ q, q < 4 ∧ r = nI q) ∧ inR x 1 24
  · obtain ⟨⟨q, hq, rfl⟩, hx⟩ := hb
    obtain ⟨m, h1, h2, rfl⟩ := inR_nI (a := 1) (m := 24) (by decide) (by decide) hx
    exact ⟨nI m, _, _, _, _, _, inv_anew (q := q) hI h1 h2 rng_0, fun f sz P hC k => c_rosette_ok hC hq h1 h2 (fun f' h1 h2 => k f' h1 h2), fun f sz P hM k => m_rosette_ok hM hq h1 h2 (fun f' h1 h2 => k f' h1 h2)⟩
  · exact ⟨-1, n, l, o, s, p, hI, fun f sz P hC k => c_rosette_bad hC hb (k f hC (fun _ _ => rfl)), fun f sz P hM k => m_rosette_bad hb (k f hM (fun _ _ => rfl))⟩
theorem pr_lift (hI : Inv n l o s p) (r x v : Int32) : Both n l o s p 36 [some (zr 0), some (zi r), some (zi x), some (zi v), none, none] 80 [some (zr 37), some (zi r), some (zi x), some (zi v), none] := by
  by_cases hb : ∃ q, q < 4 ∧ r = nI q ∧ (0 ≤ x ∧ x < nI (n q)) ∧ inR v (-20) 20
  · obtain ⟨q, hq, rfl, hx, hv⟩ := hb
    obtain ⟨hn, hn2⟩ := hI.1 q hq
    obtain ⟨j, hj, rfl⟩ := idx_nI hn2 hx
    exact ⟨l q j, _, _, _, _, _, inv_lift (q := q) hI hv, fun f sz P hC k => c_lift_ok hC hI hq hj hv (fun f' h1 h2 => k f' h1 h2), fun f sz P hM k => m_lift_ok hM hI.1 hq hj hv (fun f' h1 h2 => k f' h1 h2)⟩
  · exact ⟨-100, n, l, o, s, p, hI, fun f sz P hC k => c_lift_bad hC hb (k f hC (fun _ _ => rfl)), fun f sz P hM k => m_lift_bad hM hI.1 hb (k f hM (fun _ _ => rfl))⟩
theorem pr_at (hI : Inv n l o s p) (r x : Int32) : Both n l o s p 37 [some (zr 0), some (zi r), some (zi x), none] 81 [some (zr 37), some (zi r), some (zi x)] := by
  by_cases hb : ∃ q, q < 4 ∧ r = nI q ∧ (0 ≤ x ∧ x < nI (n q))
  · obtain ⟨q, hq, rfl, hx⟩ := hb
    obtain ⟨hn, hn2⟩ := hI.1 q hq
    obtain ⟨j, hj, rfl⟩ := idx_nI hn2 hx
    exact ⟨l q j, n, l, o, s, p, hI, fun f sz P hC k => c_at_ok hC hI hq hj (k f hC (fun _ _ => rfl)), fun f sz P hM k => m_at_ok hM hI.1 hq hj (k f hM (fun _ _ => rfl))⟩
  · exact ⟨-100, n, l, o, s, p, hI, fun f sz P hC k => c_at_bad hC hb (k f hC (fun _ _ => rfl)), fun f sz P hM k => m_at_bad hM hI.1 hb (k f hM (fun _ _ => rfl))⟩
theorem pr_about (hI : Inv n l o s p) (r x : Int32) : Both n l o s p 38 [some (zr 0), some (zi r), some (zi x), none] 85 [some (zr 37), some (zi r), some (zi x)] := by
  by_cases hb : (∃ q, q < 4 ∧ r = nI q) ∧ inR x 0 1
  · obtain ⟨⟨q, hq, rfl⟩, hx⟩ := hb
    exact ⟨_, n, l, o, s, p, hI, fun f sz P hC k => c_about_ok hC hI hq hx (k f hC (fun _ _ => rfl)), fun f sz P hM k => m_about_ok hM hI.1 hq hx (k f hM (fun _ _ => rfl))⟩
  · exact ⟨-1, n, l, o, s, p, hI, fun f sz P hC k => c_about_bad hC hb (k f hC (fun _ _ => rfl)), fun f sz P hM k => m_about_bad hb (k f hM (fun _ _ => rfl))⟩
theorem pr_name (hI : Inv n l o s p) (r x : Int32) : Both n l o s p 39 [some (zr 0), some (zi r), some (zi x), none, none, none] 89 [some (zr 37), some (zi r), some (zi x), none, none, none] := by
  by_cases hb : (∃ q, q < 4 ∧ r = nI q) ∧ ∃ q, q < 4 ∧ x = nI q
  · obtain ⟨⟨q, hq, rfl⟩, q2, hq2, rfl⟩ := hb
    obtain ⟨hn, hn2⟩ := hI.1 q2 hq2
    exact ⟨_, _, _, _, _, _, inv_anew (q := q) hI hn hn2 (rng_wrow (inv_rng hI hq2) hn hn2 _), fun f sz P hC k => c_name_ok hC hI hq hq2 (fun f' h1 h2 => k f' h1 h2), fun f sz P hM k => m_name_ok hM hI.1 hI.2.1 hq hq2 (fun f' h1 h2 => k f' h1 h2)⟩
  · exact ⟨-1, n, l, o, s, p, hI, fun f sz P hC k => c_name_bad hC hb (k f hC (fun _ _ => rfl)), fun f sz P hM k => m_name_bad hb (k f hM (fun _ _ => rfl))⟩
theorem pr_alike (hI : Inv n l o s p) (r x : Int32) : Both n l o s p 40 [some (zr 0), some (zi r), some (zi x), none, none] 90 [some (zr 37), some (zi r), some (zi x)] := by
  by_cases hb : (∃ q, q < 4 ∧ r = nI q) ∧ ∃ q, q < 4 ∧ x = nI q
  · obtain ⟨⟨q, hq, rfl⟩, q2, hq2, rfl⟩ := hb
    exact ⟨_, n, l, o, s, p, hI, fun f sz P hC k => c_alike_ok hC hI hq hq2 (k f hC (fun _ _ => rfl)), fun f sz P hM k => m_alike_ok hM hI.1 hI.2.1 hq hq2 (k f hM (fun _ _ => rfl))⟩
  · exact ⟨-1, n, l, o, s, p, hI, fun f sz P hC k => c_alike_bad hC hb (k f hC (fun _ _ => rfl)), fun f sz P hM k => m_alike_bad hb (k f hM (fun _ _ => rfl))⟩
theorem pr_setting (hI : Inv n l o s p) (r ga ba st ph mo : Int32) : Both n l o s p 43 [some (zr 0), some (zi r), some (zi ga), some (zi ba), some (zi st), some (zi ph), some (zi mo)] 93 [some (zr 37), some (zi r), some (zi ga), some (zi ba), some (zi st), some (zi ph), some (zi mo)] := by
  by_cases hb : okS n r ga ba st ph mo
  · skip
    exact ⟨0, _, _, _, _, _, inv_set hI hb, fun f sz P hC k => c_setting_ok hC hb (fun f' h1 h2 => k f' h1 h2), fun f sz P hM k => m_setting_ok hM hI.1 hb (fun f' h1 h2 => k f' h1 h2)⟩
  · exact ⟨-1, n, l, o, s, p, hI, fun f sz P hC k => c_setting_bad hC hb (k f hC (fun _ _ => rfl)), fun f sz P hM k => m_setting_bad hM hI.1 hb (k f hM (fun _ _ => rfl))⟩
theorem pr_told (hI : Inv n l o s p) (x : Int32) : Both n l o s p 44 [some (zr 0), some (zi x)] 94 [some (zr 37), some (zi x)] := by
  by_cases hb : x.toInt < 0 ∨ 5 < x.toInt
  · have hno : ∀ q, q < 6 → x = nI q → False := fun q hq e => by
      rw [e, nI_toInt (by omega)] at hb
      omega
    exact ⟨-1, n, l, o, s, p, hI, fun f sz P hC k => c_told hC (fun _ => (k f hC (fun _ _ => rfl))) (fun q hq e => (hno q hq e).elim), fun f sz P hM k => m_told hM (fun _ => (k f hM (fun _ _ => rfl))) (fun q hq e => (hno q hq e).elim)⟩
  · obtain ⟨q, hq, hx⟩ := i32_lit (m := 5) hb (by decide)
    have hun : ∀ q', q' < 6 → x = nI q' → q' = q := fun q' hq' e => by
      rw [hx] at e
      exact ((nI_eq (by omega) (by omega)).mp e).symm
    exact ⟨o q, n, l, o, s, p, hI, fun f sz P hC k => c_told hC (fun z => absurd z hb) (fun q' hq' e => by rw [hun q' hq' e]; exact (k f hC (fun _ _ => rfl))), fun f sz P hM k => m_told hM (fun z => absurd z hb) (fun q' hq' e => by rw [hun q' hq' e]; exact (k f hM (fun _ _ => rfl)))⟩
theorem pr_slip (hI : Inv n l o s p) (r x : Int32) : Both n l o s p 45 [some (zr 0), some (zi r), some (zi x), none] 95 [some (zr 37), some (zi r), some (zi x), none] := by
  by_cases hb : inR r 0 11 ∧ inR x (-24) 24
  · obtain ⟨hr, hx⟩ := hb
    obtain ⟨j, -, hj, rfl⟩ := inR_nI (a := 0) (m := 11) (by decide) (by decide) hr
    exact ⟨s j, _, _, _, _, _, inv_slips (k := j) hI hx, fun f sz P hC k => c_slip_ok hC (by omega) hx (fun f' h1 h2 => k f' h1 h2), fun f sz P hM k => m_slip_ok hM (by omega) hx (fun f' h1 h2 => k f' h1 h2)⟩
  · exact ⟨-100, n, l, o, s, p, hI, fun f sz P hC k => c_slip_bad hC hb (k f hC (fun _ _ => rfl)), fun f sz P hM k => m_slip_bad hb (k f hM (fun _ _ => rfl))⟩
theorem pr_place (hI : Inv n l o s p) (r x : Int32) : Both n l o s p 48 [some (zr 0), some (zi r), some (zi x)] 100 [some (zr 37), some (zi r), some (zi x)] := by
  by_cases hb : inR r 0 11 ∧ inR x 0 10000
  · obtain ⟨hr, hx⟩ := hb
    obtain ⟨q, hq, ho⟩ := hI.2.2.1
    obtain ⟨hn, hn2⟩ := hI.1 q hq
    obtain ⟨j, -, hj, rfl⟩ := inR_nI (a := 0) (m := 11) (by decide) (by decide) hr
    exact ⟨_, n, l, o, s, p, hI, fun f sz P hC k => c_place_ok hC hI hq ho (by omega) hx (k f hC (fun _ _ => rfl)), fun f sz P hM k => m_place_ok hM hq ho hn hn2 (by omega) hx (k f hM (fun _ _ => rfl))⟩
  · exact ⟨-100000, n, l, o, s, p, hI, fun f sz P hC k => c_place_bad hC hb (k f hC (fun _ _ => rfl)), fun f sz P hM k => m_place_bad hb (k f hM (fun _ _ => rfl))⟩
theorem pr_closes (hI : Inv n l o s p) : Both n l o s p 49 [some (zr 0), none, none, none] 101 [some (zr 37), none, none] := by
  obtain ⟨q, hq, ho⟩ := hI.2.2.1
  obtain ⟨hn, hn2⟩ := hI.1 q hq
  exact ⟨_, n, l, o, s, p, hI, fun f sz P hC k => c_closes hC hI hq ho (k f hC (fun _ _ => rfl)), fun f sz P hM k => m_closes hM hq ho hn hn2 (k f hM (fun _ _ => rfl))⟩
theorem pr_thin (hI : Inv n l o s p) (x w : Int32) : Both n l o s p 50 [some (zr 0), some (zi x), some (zi w), none, none] 103 [some (zr 37), some (zi x), some (zi w), none, none] := by
  by_cases hb : inR x 2 12 ∧ inR w (-1000) 1000
  · obtain ⟨hx, hw⟩ := hb
    obtain ⟨q, hq, ho⟩ := hI.2.2.1
    obtain ⟨hn, hn2⟩ := hI.1 q hq
    obtain ⟨m, h1, h2, rfl⟩ := inR_nI (a := 2) (m := 12) (by decide) (by decide) hx
    exact ⟨_, n, l, o, s, p, hI, fun f sz P hC k => c_thin_ok hC hI hq ho h1 h2 hw (k f hC (fun _ _ => rfl)), fun f sz P hM k => m_thin_ok hM hq ho hn hn2 h1 h2 hw (k f hM (fun _ _ => rfl))⟩
  · exact ⟨-1, n, l, o, s, p, hI, fun f sz P hC k => c_thin_bad hC hb (k f hC (fun _ _ => rfl)), fun f sz P hM k => m_thin_bad hb (k f hM (fun _ _ => rfl))⟩
theorem pr_wall (hI : Inv n l o s p) (x : Int32) : Both n l o s p 51 [some (zr 0), some (zi x), none, none, none] 104 [some (zr 37), some (zi x), none, none, none] := by
  by_cases hb : inR x 2 12
  · have hx := hb
    obtain ⟨q, hq, ho⟩ := hI.2.2.1
    obtain ⟨hn, hn2⟩ := hI.1 q hq
    obtain ⟨m, h1, h2, rfl⟩ := inR_nI (a := 2) (m := 12) (by decide) (by decide) hx
    exact ⟨_, n, l, o, s, p, hI, fun f sz P hC k => c_wall_ok hC hI hq ho h1 h2 (k f hC (fun _ _ => rfl)), fun f sz P hM k => m_wall_ok hM hq ho hn hn2 h1 h2 (by rw [wall_same hI hq (by omega)]; exact (k f hM (fun _ _ => rfl)))⟩
  · exact ⟨-100000, n, l, o, s, p, hI, fun f sz P hC k => c_wall_bad hC hb (k f hC (fun _ _ => rfl)), fun f sz P hM k => m_wall_bad hb (k f hM (fun _ _ => rfl))⟩
theorem pr_meets (hI : Inv n l o s p) (r x c w : Int32) : Both n l o s p 52 [some (zr 0), some (zi r), some (zi x), some (zi c), some (zi w)] 105 [some (zr 37), some (zi r), some (zi x), some (zi c), some (zi w), none] := by
  by_cases hb : inR r 0 11 ∧ inR x 0 10000 ∧ inR c 0 47 ∧ inR w 0 100
  · obtain ⟨hr, hx, hc, hw⟩ := hb
    obtain ⟨q, hq, ho⟩ := hI.2.2.1
    obtain ⟨hn, hn2⟩ := hI.1 q hq
    obtain ⟨j, -, hj, rfl⟩ := inR_nI (a := 0) (m := 11) (by decide) (by decide) hr
    exact ⟨_, n, l, o, s, p, hI, fun f sz P hC k => c_meets_ok hC hI hq ho (by omega) hx hc hw (k f hC (fun _ _ => rfl)), fun f sz P hM k => m_meets_ok hM hq ho hn hn2 (by omega) hx hc hw (k f hM (fun _ _ => rfl))⟩
  · exact ⟨-1, n, l, o, s, p, hI, fun f sz P hC k => c_meets_bad hC hb (k f hC (fun _ _ => rfl)), fun f sz P hM k => m_meets_bad hb (k f hM (fun _ _ => rfl))⟩
theorem pr_overlaid (hI : Inv n l o s p) (x r ga ba st ph mo : Int32) : Both n l o s p 53 [some (zr 0), some (zi x), some (zi r), some (zi ga), some (zi ba), some (zi st), some (zi ph), some (zi mo), none, none, none] 106 [some (zr 37), some (zi x), some (zi r), some (zi ga), some (zi ba), some (zi st), some (zi ph), some (zi mo), none, none, none] := by
  by_cases hb : inR x 1 12 ∧ okS n r ga ba st ph mo
  · obtain ⟨hx, hok⟩ := hb
    obtain ⟨q, hq, ho⟩ := hI.2.2.1
    obtain ⟨hn, hn2⟩ := hI.1 q hq
    obtain ⟨m, h1, h2, rfl⟩ := inR_nI (a := 1) (m := 12) (by decide) (by decide) hx
    obtain ⟨q2, hq2, rfl, -⟩ := id hok
    exact ⟨_, _, _, _, _, _, hI, fun f sz P hC k => c_overlaid_ok hC hI hq ho hq2 h1 h2 hok (fun f' h1 h2 => k f' h1 h2), fun f sz P hM k => m_overlaid_ok hM hI.1 hq ho hq2 h1 h2 hok (fun f' h1 h2 => k f' h1 h2)⟩
  · exact ⟨-1, n, l, o, s, p, hI, fun f sz P hC k => c_overlaid_bad hC hb (k f hC (fun _ _ => rfl)), fun f sz P hM k => m_overlaid_bad hM hI.1 hb (k f hM (fun _ _ => rfl))⟩
theorem pr_see (hI : Inv n l o s p) (r x v : Int32) : Both n l o s p 57 [some (zr 0), some (zi r), some (zi x), some (zi v), none] 107 [some (zr 37), some (zi r), some (zi x), some (zi v), none] := by
  by_cases hb : inR r 0 11 ∧ inR x 0 47 ∧ inR v (-1) 2000
  · obtain ⟨hr, hx, hv⟩ := hb
    obtain ⟨j, -, hj, rfl⟩ := inR_nI (a := 0) (m := 11) (by decide) (by decide) hr
    obtain ⟨t, -, ht, rfl⟩ := inR_nI (a := 0) (m := 47) (by decide) (by decide) hx
    exact ⟨_, _, _, _, _, _, inv_plate hI (pOK_put (k := j * 48 + t) (inv_pOK hI) hv), fun f sz P hC k => c_see_ok hC (by omega) (by omega) hv (fun f' h1 h2 => k f' h1 h2), fun f sz P hM k => m_see_ok hM (by omega) (by omega) hv (fun f' h1 h2 => k f' h1 h2)⟩
  · exact ⟨-100, n, l, o, s, p, hI, fun f sz P hC k => c_see_bad hC hb (k f hC (fun _ _ => rfl)), fun f sz P hM k => m_see_bad hb (k f hM (fun _ _ => rfl))⟩
theorem pr_print (hI : Inv n l o s p) (x : Int32) : Both n l o s p 58 [some (zr 0), some (zi x), none, none] 111 [some (zr 37), some (zi x), none, none, none] := by
  by_cases hb : inR x 1 12
  · have hx := hb
    obtain ⟨q, hq, ho⟩ := hI.2.2.1
    obtain ⟨hn, hn2⟩ := hI.1 q hq
    obtain ⟨m, h1, h2, rfl⟩ := inR_nI (a := 1) (m := 12) (by decide) (by decide) hx
    have hp := pOK_prt (n := n q) (l := l q) (o := o) (s := s) m
    exact ⟨_, _, _, _, _, _, inv_plate hI hp, fun f sz P hC k => c_print_ok hC hI hq ho h1 h2 (fun f' h1 h2 => k f' h1 h2), fun f sz P hM k => m_print_ok hM hq ho hn hn2 h1 h2 (fun f' h1 h2 => by rw [← sum_seen hp 12 (Nat.le_refl _)]; exact k f' h1 h2)⟩
  · exact ⟨-1, n, l, o, s, p, hI, fun f sz P hC k => c_print_bad hC hb (k f hC (fun _ _ => rfl)), fun f sz P hM k => m_print_bad hb (k f hM (fun _ _ => rfl))⟩
theorem pr_makers (hI : Inv n l o s p) : Both n l o s p 59 [some (zr 0)] 115 [some (zr 37)] := by
  exact ⟨nI (mkRs p n l 4 0).length, n, l, o, s, p, hI, fun f sz P hC k => c_makers hC hI (fun f' h1 h2 => by rw [List.take_of_length_le (MK_len hI), MK_same hI]; exact k f' h1 h2), fun f sz P hM k => m_makers hM hI.1 (fun f' h1 h2 => k f' h1 h2)⟩
theorem pr_maker (hI : Inv n l o s p) (x w : Int32) : Both n l o s p 60 [some (zr 0), some (zi x), some (zi w)] 116 [some (zr 37), some (zi x), some (zi w)] := by
  by_cases hb : x < 0 ∨ ¬ inR w 0 5
  · exact ⟨-1, n, l, o, s, p, hI, fun f sz P hC k => c_maker_bad hb (k f hC (fun _ _ => rfl)), fun f sz P hM k => m_maker_bad hb (k f hM (fun _ _ => rfl))⟩
  · have hx : ¬ x < 0 := fun z => hb (Or.inl z)
    have hw : inR w 0 5 := Classical.byContradiction (fun z => hb (Or.inr z))
    obtain ⟨w, -, hw, rfl⟩ := inR_nI (a := 0) (m := 5) (by decide) (by decide) hw
    obtain ⟨j, hj, rfl⟩ := ge0_nI (Int32.not_lt.mp hx)
    have hMK := MK_same hI
    have hlen := MK_len hI
    by_cases hjl : j < (mkRs p n l 4 0).length
    · refine ⟨(mkRs p n l 4 0)[j] w, n, l, o, s, p, hI, fun f sz P hC k => c_maker_ok hC hI hj (by omega) (fun f' h1 h2 hbig => ?_) (fun f' h1 h2 hkl => ?_), fun f sz P hM k => m_maker_ok hM hI.1 hj (by omega) (fun f' h1 h2 hbig => absurd hjl (by omega)) (fun f' h1 h2 hkl => k f' h1 h2)⟩
      · rw [hMK] at hbig hlen
        exact absurd hjl (by omega)
      · have e : (MK n l p)[j] = (mkRs p n l 4 0)[j] := by
          congr 1
        rw [e]
        exact k f' h1 h2
    · exact ⟨-4, n, l, o, s, p, hI, fun f sz P hC k => c_maker_ok hC hI hj (by omega) (fun f' h1 h2 hbig => k f' h1 h2) (fun f' h1 h2 hkl => absurd (by rw [hMK] at hkl; exact hkl) hjl), fun f sz P hM k => m_maker_ok hM hI.1 hj (by omega) (fun f' h1 h2 hbig => k f' h1 h2) (fun f' h1 h2 hkl => absurd hkl hjl)⟩
theorem pr_off (hI : Inv n l o s p) : Both n l o s p 61 [some (zr 0), none, none, none, none] 117 [some (zr 37), none, none, none, none] := by
  obtain ⟨q, hq, ho⟩ := hI.2.2.1
  obtain ⟨hn, hn2⟩ := hI.1 q hq
  exact ⟨_, n, l, o, s, p, hI, fun f sz P hC k => c_off hC hI hq ho (by rw [off_same (inv_pOK hI)]; exact (k f hC (fun _ _ => rfl))), fun f sz P hM k => m_off hM hq ho hn hn2 (k f hM (fun _ _ => rfl))⟩
theorem pr_shown (hI : Inv n l o s p) : Both n l o s p 62 [some (zr 0), none, none, none, none] 119 [some (zr 37), none, none] := by
  obtain ⟨q, hq, ho⟩ := hI.2.2.1
  obtain ⟨hn, hn2⟩ := hI.1 q hq
  have hp := inv_pOK hI
  cases hF : fOff (n q) (l q) o p with
  | none =>
    exact ⟨-4, n, l, o, s, p, hI, fun f sz P hC k => c_shown hC hI hq ho (fun f' g h1 h2 hg => by rw [hF]; exact k f' h1 h2), fun f sz P hM k => m_shown hM hq ho hn hn2 (fun _ => (k f hM (fun _ _ => rfl))) (fun z => absurd ((made_0 hp).mpr hF) z)⟩
  | some F =>
    exact ⟨_, n, l, o, s, p, hI, fun f sz P hC k => c_shown hC hI hq ho (fun f' g h1 h2 hg => by rw [hF]; show P (some (zi (ans2 (shw (fun r c => bt (band g (12 - r) r (-1)) (fm c (n q))) (F + 1) 0)))) sz f'; rw [shown_same hp hn hn2 hI.2.2.2.2.2.2.2.2.1 hI.2.2.2.2.2.2.2.2.2 hg hF]; exact k f' h1 h2), fun f sz P hM k => m_shown hM hq ho hn hn2 (fun z => absurd ((made_0 hp).mp z) (by rw [hF]; exact fun z => by cases z)) (fun _ => (k f hM (fun _ _ => rfl)))⟩
theorem pr_count (hI : Inv n l o s p) (x : Int32) : Both n l o s p 63 [some (zr 0), some (zi x)] 120 [some (zr 37), some (zi x), none, none] := by
  have hp := inv_pOK hI
  have V : ∀ (v : Int32), (x = 0 → v = nI (cntB (posB p) 576)) → (x = 1 → v = nI (cntB (ringB p) 12)) → (x = 2 → v = nI (cntB (fun k => decide (¬ s k = 0)) 12)) → ((x.toInt < 0 ∨ 2 < x.toInt) → v = -1) → Both n l o s p 63 [some (zr 0), some (zi x)] 120 [some (zr 37), some (zi x), none, none] := by
    intro v e0 e1 e2 e3
    refine ⟨v, n, l, o, s, p, hI, fun f sz P hC k => c_count hC (fun z => ?_) (fun z => ?_) (fun z => ?_) (fun z => ?_), fun f sz P hM k => m_count hM (fun z => ?_) (fun z => ?_) (fun z => ?_) (fun z => ?_)⟩
    · rw [sum_seen hp 12 (Nat.le_refl _), ← e0 z]; exact (k f hC (fun _ _ => rfl))
    · rw [rings_seen hp, ← e1 z]; exact (k f hC (fun _ _ => rfl))
    · rw [← e2 z]; exact (k f hC (fun _ _ => rfl))
    · rw [← e3 z]; exact (k f hC (fun _ _ => rfl))
    · rw [← e0 z]; exact (k f hM (fun _ _ => rfl))
    · rw [← e1 z]; exact (k f hM (fun _ _ => rfl))
    · rw [← e2 z]; exact (k f hM (fun _ _ => rfl))
    · rw [← e3 z]; exact (k f hM (fun _ _ => rfl))
  by_cases hb : x.toInt < 0 ∨ 2 < x.toInt
  · refine V (-1) (fun z => ?_) (fun z => ?_) (fun z => ?_) (fun _ => rfl)
    · rw [z] at hb; exact absurd hb (by decide)
    · rw [z] at hb; exact absurd hb (by decide)
    · rw [z] at hb; exact absurd hb (by decide)
  · obtain ⟨q, hq, rfl⟩ := i32_lit (m := 2) hb (by decide)
    have d : ∀ a b : Nat, a ≤ 2 → b ≤ 2 → ¬ a = b → ¬ nI a = nI b := fun a b ha hb hab z => hab ((nI_eq (by omega) (by omega)).mp z)
    match q, hq, hb with
    | 0, _, hb => exact V _ (fun _ => rfl) (fun z => absurd z (d 0 1 (by decide) (by decide) (by decide))) (fun z => absurd z (d 0 2 (by decide) (by decide) (by decide))) (fun z => absurd z hb)
    | 1, _, hb => exact V _ (fun z => absurd z (d 1 0 (by decide) (by decide) (by decide))) (fun _ => rfl) (fun z => absurd z (d 1 2 (by decide) (by decide) (by decide))) (fun z => absurd z hb)
    | 2, _, hb => exact V _ (fun z => absurd z (d 2 0 (by decide) (by decide) (by decide))) (fun z => absurd z (d 2 1 (by decide) (by decide) (by decide))) (fun _ => rfl) (fun z => absurd z hb)
end PR
