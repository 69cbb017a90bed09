/-! THE WALK BEGINS: the law's entry -/
theorem zIn7 : ∀ ci, ci < 7 → Cond.instantiable (zCl ci).1 (zCl ci).2.2 ∈ lw_tbl := by
  intro ci h
  match ci, h with
  | 0, _ => exact List.mem_of_getElem? (i := 107) (by decide +kernel)
  | 1, _ => exact List.mem_of_getElem? (i := 155) (by decide +kernel)
  | 2, _ => exact List.mem_of_getElem? (i := 93) (by decide +kernel)
  | 3, _ => exact List.mem_of_getElem? (i := 123) (by decide +kernel)
  | 4, _ => exact List.mem_of_getElem? (i := 62) (by decide +kernel)
  | 5, _ => exact List.mem_of_getElem? (i := 52) (by decide +kernel)
  | 6, _ => exact List.mem_of_getElem? (i := 492) (by decide +kernel)
  | k + 7, h => exact absurd h (by omega)
theorem zKnown {s : State} {args : Array Value} (hts : ∀ w ∈ lw_tbl, w.before args s = true) : ∃ D : va_G, ∀ (k : Nat) (q : vw_C), vwCl[k]? = some q → u_Kn s q.1 q.2.1 q.2.2 (D.1 k) (D.2 k) := by
  have h : ∀ ci, ∃ (cC : ClassId) (iS : Nat → Nat), ci < 7 → u_Kn s (zCl ci).1 (zCl ci).2.1 (zCl ci).2.2 cC iS := by
    intro ci
    by_cases h7 : ci < 7
    · obtain ⟨cC, iS, hk⟩ := u_known (n := (zCl ci).2.2) (fun w hw => hts w (zT_sub w hw)) (zWk ci h7) (hts _ (zIn7 ci h7))
      exact ⟨cC, iS, fun _ => hk⟩
    · exact ⟨0, fun _ => 0, fun z => absurd z h7⟩
  refine ⟨(fun ci => (h ci).choose, fun ci => (h ci).choose_spec.choose), fun k q hq => ?_⟩
  have h7 : k < 7 := (List.getElem?_eq_some_iff.mp hq).1
  have h1 := (zTyk k h7).2.2
  rw [hq] at h1
  cases h1
  exact (h k).choose_spec.choose_spec h7
theorem zTypes {s : State} {args : Array Value} (hts : ∀ w ∈ lw_tbl, w.before args s = true) : ∃ cI cQ : ClassId, ∀ (k : Nat) (q : ClassId × FieldType), (zTys cI cQ)[k]? = some q → ArrOfT s q.1 q.2 ∧ va_RA s q.1 q.2 := by
  obtain ⟨cI, kI, compI, a1, a2, a3⟩ := Cond.arrayClass_spec (hts _ (zT_sub _ zT_arr))
  obtain ⟨comp, cQ, kQ, b1, b2, b3, b4, b5⟩ := Cond.arrayOver_spec (hts _ zT_over)
  refine ⟨cI, cQ, fun k q hq => ?_⟩
  match k, hq with
  | 0, hq =>
    cases hq
    exact ⟨fun N z => ⟨(fun k h => by cases h), kI, a2, compI, a3⟩, a1⟩
  | 1, hq =>
    cases hq
    exact ⟨fun N z => ⟨(fun k h => by cases h), kQ, b3, comp, b4⟩, kQ, comp, b3, b4, b1, b5⟩
  | k + 2, hq => cases hq
theorem zNests {s : State} {args : Array Value} (hts : ∀ w ∈ lw_tbl, w.before args s = true) : ∀ w ∈ zNs, va_Nw w s := by
  intro w hw
  obtain ⟨h1, h2⟩ := List.mem_filter.mp hw
  have h3 := hts w h1
  rcases zNk_cases h2 with ⟨a, i, b, n, d, k, rfl⟩ | ⟨a, i, x, k, rfl⟩ | ⟨C, rfl⟩
  · exact va_Nw.of rfl h3
  · exact va_Nw.of rfl h3
  · exact va_AO.of h3
theorem zB125 : zB 125 = code := rfl
theorem zStart {p : Program} {l : Launch} {e : Env} {s : State} {m : MethodId} {below : List Frame} {meth : Method} {c : Code} {b L : Nat} {xs : Nat → Int32} {Q : State → Prop} (hL : L ≤ 4096) (hx : p.tables.exec = Jvm.exec) (hb : c.code = code) (hml : c.maxLocals = 4) (hown : s.vm.findClass "RoseLatheLaw" = some m.cls) (hts : ∀ w ∈ lw_tbl, w.before #[Value.ref b] s = true) (hX : va_X b L xs s s.heap) (hbl : b < s.heap.size) (hret : ∀ (pc : Nat) (H : Heap) (lsA : Array Slot), decode code pc = .ok (.ireturn, 1) → W p l e room_1 s m #[Value.ref b] below meth c H [] 600000 7302250 Q (F0 m pc lsA [.int 1])) : W p l e room_1 s m #[Value.ref b] below meth c s.heap [] 0 0 Q (entryFrame m ([Value.ref b] : List Value).toArray 4) := by
  obtain ⟨D, hD⟩ := zKnown hts
  obtain ⟨cI, cQ, hT⟩ := zTypes hts
  have hl := lv_entry ([.ref b]) (n := 4) (Nat.le_of_ble_eq_true rfl)
  rw [lg_entry_eq]
  generalize (lg_sl ([.ref b]) ++ List.replicate (4 - (lg_sl ([.ref b])).length) Slot.unset).toArray = ls at hl ⊢
  have hC : zCx (some (L, xs)) 125 p room_1 s m #[Value.ref b] meth c D cI cQ s.heap.size b := ⟨hx, hb.trans zB125.symm, hml, hown, fun w hw => hts w (zT_sub w hw), zNests hts, fun z => absurd z (by decide), ⟨hD, hT⟩, Nat.le_refl _, ⟨by decide, by decide, by decide, by decide⟩, hX, hbl⟩
  refine lw_all (xs := xs) hL p l e room_1 s m #[Value.ref b] below meth c D cI cQ s.heap.size b Q hC (fun r sz' f' hr pc H locs lsA kc ks hH hS hkc hks hi => ?_) s.heap [] ls ⟨rfl, fun k c h => by cases h⟩ va_S.rf hl rfl (Nat.zero_le _) (Nat.zero_le _)
  subst hr
  rcases hi with ⟨x, ty, h1, h2, h3, h4⟩ | ⟨h1, -⟩ | ⟨C, o, h1, h2, h3⟩
  · refine va_forget (fun q hq => hS.2.2 q hq) ?_
    refine W.widen (k := 600000) (n := 7302250) hkc hks ?_
    rw [zB125] at h4
    exact hret pc H lsA h4
  · cases h1
  · have h1 : some FieldType.boolean = some (.object C) := h1
    cases h1
