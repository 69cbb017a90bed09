/-! BOTH SIDES ANSWER THE SAME: the makers in their order -/
theorem mr_ext {c c' : Nat → List (Nat → Int32)} : ∀ d m, (∀ i, m ≤ i → i < m + d → c i = c' i) → mkRow c d m = mkRow c' d m
  | 0, _, _ => rfl
  | d + 1, m, h => by rw [mkRow, mkRow, h m (Nat.le_refl _) (by omega), mr_ext d (m + 1) (fun i h1 h2 => h i (by omega) (by omega))]
theorem mr_nil {c : Nat → List (Nat → Int32)} : ∀ d m, (∀ i, m ≤ i → i < m + d → c i = []) → mkRow c d m = []
  | 0, _, _ => rfl
  | d + 1, m, h => by rw [mkRow, h m (Nat.le_refl _) (by omega), mr_nil d (m + 1) (fun i h1 h2 => h i (by omega) (by omega))]; rfl
theorem mr_app {c : Nat → List (Nat → Int32)} : ∀ d e m, mkRow c (d + e) m = mkRow c d m ++ mkRow c e (m + d)
  | 0, e, m => by rw [Nat.zero_add, mkRow, List.nil_append, Nat.add_zero]
  | d + 1, e, m => by rw [show d + 1 + e = (d + e) + 1 by omega, mkRow, mkRow, mr_app d e (m + 1), List.append_assoc, show m + 1 + d = m + (d + 1) by omega]
theorem mr_shift {c : Nat → List (Nat → Int32)} (a : Nat) : ∀ d m, mkRow c d (a + m) = mkRow (fun i => c (a + i)) d m
  | 0, _ => rfl
  | d + 1, m => by rw [mkRow, mkRow, Nat.add_assoc, mr_shift a d (m + 1)]
theorem mr_nest {c : Nat → List (Nat → Int32)} (b : Nat) : ∀ a k, mkRow c (a * b) (k * b) = mkRow (fun i => mkRow (fun j => c (i * b + j)) b 0) a k
  | 0, k => by rw [Nat.zero_mul]; rfl
  | a + 1, k => by
    rw [Nat.succ_mul, Nat.add_comm (a * b) b, mr_app, mkRow, ← mr_nest b a (k + 1), Nat.succ_mul, ← mr_shift (k * b) b 0, Nat.add_zero]
theorem gains_row (p : Nat → Int32) (n : Nat) (l : Nat → Int32) (r ms pe : Nat) (sr : Nat → Nat) : ∀ d ga, mkGains p n l r ms pe sr d ga = mkRow (fun g => mkGain r (nI g) ms pe sr (rst p n l (nI g))) d ga
  | 0, _ => rfl
  | d + 1, ga => by rw [mkGains, mkRow, gains_row p n l r ms pe sr d (ga + 1)]
theorem okM_ln {p : Nat → Int32} {n : Nat} {l : Nat → Int32} {r : Int32} {ga ph mv : Nat} (hp : pOK p) (hn : 0 < n) (hn2 : n ≤ 24) (hl : rng l) (hga : ga ≤ 4) (hph : ph < per n l) (hmv : mv < per n l) : okM (grd p n l (six r (nI ga) 0 0 (nI ph) (nI mv))) = if msn p = 0 then none else lnO (msn p) (srk p) (rAt (per n l) (rst p n l (nI ga)) ph mv) := by
  have hk := fun k hk => rst_grd (r := r) (k := k) hp hn hn2 hl hga hk hph hmv
  generalize grd p n l (six r (nI ga) 0 0 (nI ph) (nI mv)) = G at *
  generalize rAt (per n l) (rst p n l (nI ga)) ph mv = H at *
  have e : okM G = okL (mkL G 12 0 (-1) 0 (-1) 0) := rfl
  rw [e, mkL_list (b := seenR p) (fun k h12 => ⟨(hk k h12).1, fun hs => ?_⟩) 12 0 _ _ _ _ rfl]
  · rw [← List.range_eq_range']
    exact ok_line (srl p 12) (fun k hm => ⟨(srl_lt p hm).1, (hk k (srl_lt p hm).1).2 (srl_lt p hm).2⟩)
  · rcases (hk k h12).2 hs with ⟨_, z⟩ | ⟨_, z⟩
    · rw [z]; decide
    · exact (vb_ne z).2.1
def lsO (F : Int32 → Int32 → List (Nat → Int32)) : Option (Int32 × Int32) → List (Nat → Int32)
  | some (b, st) => F b st
  | none => []
theorem mkc_ln (r : Nat) (ga : Int32) (ms pe : Nat) (sr : Nat → Nat) (R : Nat → Nat → Int32) (ph mv : Nat) : mkc r ga ms pe sr R ph mv = lsO (fun b st => [six (nI r) ga b st (nI ph) (nI mv)]) (lnO ms sr (rAt pe R ph mv)) := by
  cases hd : dlf ms sr (rAt pe R ph mv) with
  | none =>
    rw [lnO_none hd]
    unfold mkc
    rw [hd]
    rfl
  | some q =>
    obtain ⟨ba, st⟩ := q
    by_cases h : (inR ba 0 1000 ∧ inR st 0 100) ∧ onL ms sr (rAt pe R ph mv) ba st
    · rw [lnO_t hd h]
      unfold mkc
      rw [hd]
      exact if_pos h
    · rw [lnO_f hd h]
      unfold mkc
      rw [hd]
      exact if_neg h
theorem k_div {g ph mv pe : Nat} (hph : ph < pe) (hmv : mv < pe) : ((g * pe + ph) * pe + mv) / (pe * pe) = g ∧ ((g * pe + ph) * pe + mv) / pe % pe = ph ∧ ((g * pe + ph) * pe + mv) % pe = mv := by
  have hpe : 0 < pe := by omega
  have e1 : ((g * pe + ph) * pe + mv) / pe = g * pe + ph := by
    rw [Nat.mul_comm, Nat.mul_add_div hpe, Nat.div_eq_of_lt hmv, Nat.add_zero]
  have e2 : (g * pe + ph) / pe = g := by
    rw [Nat.mul_comm, Nat.mul_add_div hpe, Nat.div_eq_of_lt hph, Nat.add_zero]
  refine ⟨?_, ?_, ?_⟩
  · rw [← Nat.div_div_eq_div_mul, e1, e2]
  · rw [e1, Nat.mul_comm, Nat.mul_add_mod, Nat.mod_eq_of_lt hph]
  · rw [Nat.mul_comm, Nat.mul_add_mod, Nat.mod_eq_of_lt hmv]
theorem cM_ln {p : Nat → Int32} {n : Nat} {l : Nat → Int32} {r g ph mv : Nat} (hp : pOK p) (hn : 0 < n) (hn2 : n ≤ 24) (hl : rng l) (hg : g < 4) (hph : ph < per n l) (hmv : mv < per n l) : cM p n l r (per n l) ((g * per n l + ph) * per n l + mv) = if msn p = 0 then [] else mkc r (nI (1 + g)) (msn p) (per n l) (srk p) (rst p n l (nI (1 + g))) ph mv := by
  obtain ⟨e1, e2, e3⟩ := k_div (g := g) hph hmv
  have h := okM_ln (r := nI r) (ga := 1 + g) hp hn hn2 hl (by omega) hph hmv
  unfold cM cand
  rw [e1, e2, e3, h]
  by_cases hm : msn p = 0
  · rw [if_pos hm, if_pos hm]
  · rw [if_neg hm, if_neg hm, mkc_ln]
    cases lnO (msn p) (srk p) (rAt (per n l) (rst p n l (nI (1 + g))) ph mv) with
    | none => rfl
    | some q => rfl
theorem mkR_nest (p : Nat → Int32) (n : Nat → Nat) (l : Nat → Nat → Int32) (r : Nat) : mkR p n l r = mkRow (fun g => mkRow (fun ph => mkRow (fun mv => cM p (n r) (l r) r (per (n r) (l r)) ((g * per (n r) (l r) + ph) * per (n r) (l r) + mv)) (per (n r) (l r)) 0) (per (n r) (l r)) 0) 4 0 := by
  unfold mkR
  generalize per (n r) (l r) = pe
  have h1 := mr_nest (c := fun k => cM p (n r) (l r) r pe k) pe (4 * pe) 0
  rw [Nat.zero_mul] at h1
  have h2 := mr_nest (c := fun i => mkRow (fun j => cM p (n r) (l r) r pe (i * pe + j)) pe 0) pe 4 0
  rw [Nat.zero_mul] at h2
  rw [h1, h2]
section MK
variable {n : Nat → Nat} {l : Nat → Nat → Int32} {o s p : Nat → Int32}
theorem mkR_gains (hI : Inv n l o s p) (hm : ¬ msn p = 0) {r : Nat} (hr : r < 4) : mkR p n l r = mkGains p (n r) (l r) r (msn p) (per (n r) (l r)) (srk p) 4 1 := by
  obtain ⟨hn, hn2⟩ := hI.1 r hr
  rw [mkR_nest, gains_row]
  have e := mr_shift (c := fun g => mkGain r (nI g) (msn p) (per (n r) (l r)) (srk p) (rst p (n r) (l r) (nI g))) 1 4 0
  refine Eq.trans ?_ e.symm
  refine mr_ext 4 0 (fun g _ hg => mr_ext _ 0 (fun ph _ hph => mr_ext _ 0 (fun mv _ hmv => ?_)))
  rw [cM_ln (inv_pOK hI) hn hn2 (inv_rng hI hr) (by omega) (by omega) (by omega), if_neg hm]
theorem mkR_nil (hI : Inv n l o s p) (hm : msn p = 0) {r : Nat} (hr : r < 4) : mkR p n l r = [] := by
  obtain ⟨hn, hn2⟩ := hI.1 r hr
  rw [mkR_nest]
  refine mr_nil 4 0 (fun g _ hg => mr_nil _ 0 (fun ph _ hph => mr_nil _ 0 (fun mv _ hmv => ?_)))
  rw [cM_ln (inv_pOK hI) hn hn2 (inv_rng hI hr) (by omega) (by omega) (by omega), if_pos hm]
theorem MK_same (hI : Inv n l o s p) : MK n l p = mkRs p n l 4 0 := by
  unfold MK
  by_cases hm : msn p = 0
  · rw [if_pos hm]
    have h : ∀ d r, r + d = 4 → mkRs p n l d r = [] := by
      intro d
      induction d with
      | zero => intro r _; rfl
      | succ d ih => intro r hr; rw [mkRs, mkR_nil hI hm (by omega), ih (r + 1) (by omega)]; rfl
    rw [h 4 0 rfl]
    rfl
  · rw [if_neg hm]
    have h : ∀ d r, r + d = 4 → mkAll p n l (msn p) (srk p) d r = mkRs p n l d r := by
      intro d
      induction d with
      | zero => intro r _; rfl
      | succ d ih => intro r hr; rw [mkAll, mkRs, mkR_gains hI hm (by omega), ih (r + 1) (by omega)]
    exact h 4 0 rfl
theorem MK_len (hI : Inv n l o s p) : (MK n l p).length ≤ 9216 := by
  rw [MK_same hI]
  exact mkRs_le hI.1 4 0 rfl
end MK
