/-! VALUES, CELLS AND HEAPS BY NUMBER. A reference is a number k: its cell lies at bs + k, where bs is the heap's size as the law begins; 'zsc' is the law's script. 'Zv X j pc ls st sz f kc ks P': whenever the machine stands in method j at pc, with these locals, this stack and this heap, it comes to the method's return with an answer and a heap that P takes. -/
abbrev ZVal : Type := Option (Int32 ⊕ Option Nat)
def zi (x : Int32) : ZVal := some (.inl x)
def zr (k : Nat) : ZVal := some (.inr (some k))
def zu : ZVal := none
def zsc : ZVal := some (.inr none)
def zo (r : Option Nat) : ZVal := match r with
  | none => zu
  | some k => zr k
abbrev ZC : Type := (Nat × (Nat → Int32)) ⊕ ((Nat × (Nat → Option Nat)) ⊕ (Nat × List ZVal))
def zA (n : Nat) (g : Nat → Int32) : ZC := .inl (n, g)
def zQ (n : Nat) (g : Nat → Option Nat) : ZC := .inr (.inl (n, g))
def zO (ci : Nat) (vs : List ZVal) : ZC := .inr (.inr (ci, vs))
abbrev ZH : Type := Nat → Option ZC
def zup (f : ZH) (k : Nat) (c : ZC) : ZH := fun j => if j = k then some c else f j
theorem zup_eq {f : ZH} {k : Nat} {c : ZC} : zup f k c k = some c := if_pos rfl
theorem zup_ne {f : ZH} {k j : Nat} {c : ZC} (h : j ≠ k) : zup f k c j = f j := if_neg h
def zpush (r : Option ZVal) (l : List ZVal) : List ZVal := match r with
  | none => l
  | some v => v :: l
def zvv (bs b : Nat) : ZVal → Value
  | none => .null
  | some (.inl x) => .int x
  | some (.inr (some k)) => .ref (bs + k)
  | some (.inr none) => .ref b
def zcv (cI cQ : ClassId) (bs b : Nat) : ZC → va_E
  | .inl (n, g) => .inl (cI, n, .inl g)
  | .inr (.inl (n, g)) => .inl (cQ, n, .inr (.inr (.inr (.inr (fun i => (g i).map (fun k => bs + k))))))
  | .inr (.inr (ci, vs)) => .inr (ci, vs.map (zvv bs b))
abbrev zTys (cI cQ : ClassId) : List (ClassId × FieldType) := [(cI, .int), (cQ, .object RX1)]
def zHp (D : va_G) (cI cQ : ClassId) (bs b sz : Nat) (f : ZH) (H : Heap) : Prop := H.size = bs + sz ∧ ∀ (k : Nat) (c : ZC), f k = some c → k < sz ∧ va_at D vwCl (bs + k, zcv cI cQ bs b c) H
def zNk : Cond → Bool
  | .fieldLinkNest _ _ _ _ _ _ => true
  | .methodLinkNest _ _ _ _ => true
  | .arrayOver (.object _) => true
  | _ => false
def zNs : List Cond := lw_tbl.filter zNk
theorem zNs_in {w : Cond} {i : Nat} (h : lw_tbl[i]? = some w) (hk : zNk w = true) : w ∈ zNs := List.mem_filter.mpr ⟨List.mem_of_getElem? h, hk⟩
theorem zNk_cases {w : Cond} (h : zNk w = true) : (∃ a i b n d k, w = .fieldLinkNest a i b n d k) ∨ (∃ a i x k, w = .methodLinkNest a i x k) ∨ ∃ C, w = .arrayOver (.object C) := by
  unfold zNk at h
  split at h
  · exact Or.inl ⟨_, _, _, _, _, _, rfl⟩
  · exact Or.inr (Or.inl ⟨_, _, _, _, rfl⟩)
  · exact Or.inr (Or.inr ⟨_, rfl⟩)
  · cases h
theorem zNw_warm {w : Cond} {s U : State} (hk : zNk w = true) (hW : s.WarmedH U.vm) (h : va_Nw w s) : va_Nw w U := by
  rcases zNk_cases hk with ⟨a, i, b, n, d, k, rfl⟩ | ⟨a, i, x, k, rfl⟩ | ⟨C, rfl⟩
  · exact va_Nw.warmF hW h
  · exact va_Nw.warmM hW h
  · exact va_AO.moved hW.alike h
theorem zNw_same {w : Cond} {u U : State} (hk : zNk w = true) (hv : u.vm = U.vm) (h : va_Nw w u) : va_Nw w U := by
  rcases zNk_cases hk with ⟨a, i, b, n, d, k, rfl⟩ | ⟨a, i, x, k, rfl⟩ | ⟨C, rfl⟩
  · exact va_Nw.same rfl hv h
  · exact va_Nw.same rfl hv h
  · exact va_AO.moved (by rw [hv]; exact Vm.Alike.refl _) h
abbrev ZX : Type := Option (Nat × (Nat → Int32))
def zScr (X : ZX) (bs b : Nat) (s : State) : Prop := match X with
  | none => True
  | some (L, xs) => va_X b L xs s s.heap ∧ b < bs
def zCx (X : ZX) (j : Nat) (p : Program) (R : Room) (s : State) (m : MethodId) (args : Array Value) (meth : Method) (c : Code) (D : va_G) (cI cQ : ClassId) (bs b : Nat) : Prop :=
  p.tables.exec = Jvm.exec ∧ c.code = zB j ∧ c.maxLocals = zML j ∧ s.vm.findClass (zRn (zC j)) = some m.cls ∧ (∀ w ∈ zT, w.before args s = true) ∧ (∀ w ∈ zNs, va_Nw w s) ∧ ((zy j).name = "<init>" → meth.name = "<init>") ∧ va_K D vwCl (zTys cI cQ) s ∧ bs ≤ s.heap.size ∧ (zRf j ≤ R.frames ∧ zRl j ≤ R.locals ∧ zMc j ≤ R.cells ∧ zMs j ≤ R.slots) ∧ zScr X bs b s
def zRins (j : Nat) (r : Option ZVal) (pc : Nat) : Prop :=
  (∃ (x : Int32) (ty : FieldType), r = some (zi x) ∧ zRet j = some ty ∧ narrow ty (.int x) = .int x ∧ decode (zB j) pc = .ok (.ireturn, 1)) ∨ (r = none ∧ zRet j = none ∧ decode (zB j) pc = .ok (.return_, 1)) ∨ (∃ (C : String) (o : Option Nat), zRet j = some (.object C) ∧ r = some (zo o) ∧ decode (zB j) pc = .ok (.areturn, 1))
def zprs (g : ZVal → Value) : Nat → List (Option ZVal) → List (Nat × Value)
  | _, [] => []
  | i, none :: l => zprs g (i + 1) l
  | i, some v :: l => (i, g v) :: zprs g (i + 1) l
theorem zprs_mem {g : ZVal → Value} : ∀ {l : List (Option ZVal)} {i : Nat} {q : Nat × Value}, q ∈ zprs g i l ↔ ∃ (k : Nat) (v : ZVal), l[k]? = some (some v) ∧ q = (i + k, g v)
  | [], i, q => by simp [zprs]
  | none :: l, i, q => by
    rw [show zprs g i (none :: l) = zprs g (i + 1) l from rfl, zprs_mem]
    constructor
    · rintro ⟨k, v, h, rfl⟩
      exact ⟨k + 1, v, by simpa using h, by simp; omega⟩
    · rintro ⟨k, v, h, rfl⟩
      cases k with
      | zero => simp at h
      | succ k => exact ⟨k, v, by simpa using h, by simp; omega⟩
  | some w :: l, i, q => by
    rw [show zprs g i (some w :: l) = (i, g w) :: zprs g (i + 1) l from rfl, List.mem_cons, zprs_mem]
    constructor
    · rintro (rfl | ⟨k, v, h, rfl⟩)
      · exact ⟨0, w, rfl, rfl⟩
      · exact ⟨k + 1, v, by simpa using h, by simp; omega⟩
    · rintro ⟨k, v, h, rfl⟩
      cases k with
      | zero =>
        have h1 : some w = some v := Option.some.inj h
        cases h1
        exact Or.inl rfl
      | succ k => exact Or.inr ⟨k, v, by simpa using h, by simp; omega⟩
theorem lv_mono {ls : Array Slot} {n : Nat} {l l' : List (Nat × Value)} (h : lv_has ls n l) (hl : ∀ q ∈ l', q ∈ l) : lv_has ls n l' := ⟨h.1, h.2.1, fun q hq => h.2.2 q (hl q hq)⟩
theorem zload {lsA : Array Slot} {n k : Nat} {g : ZVal → Value} {ls : List (Option ZVal)} {v : ZVal} (h : lv_has lsA n (zprs g 0 ls)) (hk : ls[k]? = some (some v)) : lsA[k]? = some (.val (g v)) :=
  h.2.2 (k, g v) (zprs_mem.mpr ⟨k, v, hk, by simp⟩)
theorem zvv_cat (bs b : Nat) (v : ZVal) : (zvv bs b v).category = 1 := by
  rcases v with _ | x | _ | k <;> rfl
theorem zvv_sum (bs b : Nat) (l : List ZVal) : ((l.map (zvv bs b)).map fun v => v.category).sum = l.length := by
  induction l with
  | nil => rfl
  | cons v l ih => simp only [List.map_cons, List.sum_cons, List.length_cons, ih, zvv_cat]; omega
theorem zstore {lsA' : Array Slot} {n k bs b : Nat} {ls : List (Option ZVal)} {v : ZVal} (h : lv_has lsA' n ((k, zvv bs b v) :: (zprs (zvv bs b) 0 ls).filter (fun q => !(q.1 == k) && !(q.1 + 1 == k && q.2.category == 2)))) : lv_has lsA' n (zprs (zvv bs b) 0 (ls.set k (some v))) := by
  refine lv_mono h fun q hq => ?_
  obtain ⟨i, w, hi, rfl⟩ := zprs_mem.mp hq
  simp only [Nat.zero_add]
  by_cases hik : i = k
  · subst hik
    have hl : i < (ls.set i (some v)).length := (List.getElem?_eq_some_iff.mp hi).1
    rw [List.length_set] at hl
    rw [List.getElem?_set_self hl] at hi
    cases hi
    exact List.mem_cons_self
  · rw [List.getElem?_set_ne (Ne.symm hik)] at hi
    refine List.mem_cons_of_mem _ (List.mem_filter.mpr ⟨zprs_mem.mpr ⟨i, w, hi, by simp⟩, ?_⟩)
    simp [hik, zvv_cat]
theorem zargs {bs b : Nat} : ∀ (as : List ZVal) (i n : Nat), zprs (zvv bs b) i (as.map some ++ List.replicate n none) = lv_args i (as.map (zvv bs b))
  | [], i, n => by
    show zprs (zvv bs b) i (List.replicate n none) = []
    induction n generalizing i with
    | zero => rfl
    | succ n ih => exact ih (i + 1)
  | v :: as, i, n => by
    show (i, zvv bs b v) :: zprs (zvv bs b) (i + 1) (as.map some ++ List.replicate n none) = (i, zvv bs b v) :: lv_args (if (zvv bs b v).category = 2 then i + 2 else i + 1) (as.map (zvv bs b))
    rw [zvv_cat, zargs as (i + 1) n]
    rfl
theorem zsl_len (bs b : Nat) (as : List ZVal) : (lg_sl (as.map (zvv bs b))).length = as.length := by
  induction as with
  | nil => rfl
  | cons v as ih =>
    show (List.flatMap _ (zvv bs b v :: as.map (zvv bs b))).length = _
    rw [List.flatMap_cons, List.length_append]
    have h1 : (if (zvv bs b v).category = 2 then [Slot.val (zvv bs b v), .second] else [Slot.val (zvv bs b v)]).length = 1 := by rw [zvv_cat]; rfl
    rw [h1, List.length_cons]
    have h2 : (List.flatMap (fun v : Value => if v.category = 2 then [Slot.val v, .second] else [Slot.val v]) (as.map (zvv bs b))).length = as.length := ih
    omega
/-- from here the method comes to its return, with an answer and a heap that P takes -/
def Zv (X : ZX) (j pc : Nat) (ls : List (Option ZVal)) (st : List ZVal) (sz : Nat) (f : ZH) (kc ks : Nat) (P : Option ZVal → Nat → ZH → Prop) : Prop :=
  ∀ (p : Program) (l : Launch) (e : Env) (R : Room) (s : State) (m : MethodId) (args : Array Value) (below : List Frame) (meth : Method) (c : Code) (D : va_G) (cI cQ : ClassId) (bs b : Nat) (Q : State → Prop), zCx X j p R s m args meth c D cI cQ bs b →
    (∀ (r : Option ZVal) (sz' : Nat) (f' : ZH), P r sz' f' → ∀ (pc : Nat) (H : Heap) (locs : List Loc) (lsA : Array Slot) (kc ks : Nat), zHp D cI cQ bs b sz' f' H → va_S (fun q => bs ≤ q) s.heap H locs → kc ≤ zMc j → ks ≤ zMs j → zRins j r pc → W p l e R s m args below meth c H locs kc ks Q (F0 m pc lsA (r.toList.map (zvv bs b)))) →
    ∀ (H : Heap) (locs : List Loc) (lsA : Array Slot), zHp D cI cQ bs b sz f H → va_S (fun q => bs ≤ q) s.heap H locs → lv_has lsA (zML j) (zprs (zvv bs b) 0 ls) → ls.length = zML j → kc ≤ zMc j → ks ≤ zMs j → W p l e R s m args below meth c H locs kc ks Q (F0 m pc lsA (st.map (zvv bs b)))
section ZR
variable {X : ZX} {j pc : Nat} {ls : List (Option ZVal)} {st : List ZVal} {sz : Nat} {f : ZH} {kc ks : Nat} {P : Option ZVal → Nat → ZH → Prop}
theorem zr_iret {x : Int32} (hd : decode (zB j) pc = .ok (.ireturn, 1)) (hr : zRet j = some .int) (hP : P (some (zi x)) sz f) : Zv X j pc ls [zi x] sz f kc ks P := by
  intro p l e R s m args below meth c D cI cQ bs b Q hC hret H locs lsA hH hS hl hn hkc hks
  exact hret _ _ _ hP pc H locs lsA kc ks hH hS hkc hks (Or.inl ⟨x, .int, rfl, hr, rfl, hd⟩)
theorem zr_bret {x : Int32} (hd : decode (zB j) pc = .ok (.ireturn, 1)) (hr : zRet j = some .boolean) (hx : x = 0 ∨ x = 1) (hP : P (some (zi x)) sz f) : Zv X j pc ls [zi x] sz f kc ks P := by
  intro p l e R s m args below meth c D cI cQ bs b Q hC hret H locs lsA hH hS hl hn hkc hks
  exact hret _ _ _ hP pc H locs lsA kc ks hH hS hkc hks (Or.inl ⟨x, .boolean, rfl, hr, by rcases hx with rfl | rfl <;> rfl, hd⟩)
theorem zr_vret (hd : decode (zB j) pc = .ok (.return_, 1)) (hr : zRet j = none) (hP : P none sz f) : Zv X j pc ls [] sz f kc ks P := by
  intro p l e R s m args below meth c D cI cQ bs b Q hC hret H locs lsA hH hS hl hn hkc hks
  exact hret _ _ _ hP pc H locs lsA kc ks hH hS hkc hks (Or.inr (Or.inl ⟨rfl, hr, hd⟩))
theorem zr_aret {o : Option Nat} {C : String} (hd : decode (zB j) pc = .ok (.areturn, 1)) (hr : zRet j = some (.object C)) (hP : P (some (zo o)) sz f) : Zv X j pc ls [zo o] sz f kc ks P := by
  intro p l e R s m args below meth c D cI cQ bs b Q hC hret H locs lsA hH hS hl hn hkc hks
  exact hret _ _ _ hP pc H locs lsA kc ks hH hS hkc hks (Or.inr (Or.inr ⟨C, o, hr, rfl, hd⟩))
theorem zr_null (hd : decode (zB j) pc = .ok (.aconst_null, 1)) (k : Zv X j (pc + 1) ls (zu :: st) sz f kc ks P) : Zv X j pc ls st sz f kc ks P := by
  intro p l e R s m args below meth c D cI cQ bs b Q hC hret H locs lsA hH hS hl hn hkc hks
  exact lv_null hC.1 hC.2.1 hd (k _ _ _ _ _ _ _ _ _ _ _ _ _ _ _ _ hC hret H locs lsA hH hS hl hn hkc hks)
theorem zr_iconst {n : Int} {v : Int32} (hd : decode (zB j) pc = .ok (.iconst n, 1)) (hv : Int32.ofInt n = v) (k : Zv X j (pc + 1) ls (zi v :: st) sz f kc ks P) : Zv X j pc ls st sz f kc ks P := by
  intro p l e R s m args below meth c D cI cQ bs b Q hC hret H locs lsA hH hS hl hn hkc hks
  exact lv_iconst hC.1 hC.2.1 hd hv (k _ _ _ _ _ _ _ _ _ _ _ _ _ _ _ _ hC hret H locs lsA hH hS hl hn hkc hks)
theorem zr_bipush {n : Int} {v : Int32} (hd : decode (zB j) pc = .ok (.bipush n, 2)) (hv : (Int8.ofInt n).toInt32 = v) (k : Zv X j (pc + 2) ls (zi v :: st) sz f kc ks P) : Zv X j pc ls st sz f kc ks P := by
  intro p l e R s m args below meth c D cI cQ bs b Q hC hret H locs lsA hH hS hl hn hkc hks
  exact lv_bipush hC.1 hC.2.1 hd hv (k _ _ _ _ _ _ _ _ _ _ _ _ _ _ _ _ hC hret H locs lsA hH hS hl hn hkc hks)
theorem zr_sipush {n : Int} {v : Int32} (hd : decode (zB j) pc = .ok (.sipush n, 3)) (hv : (Int16.ofInt n).toInt32 = v) (k : Zv X j (pc + 3) ls (zi v :: st) sz f kc ks P) : Zv X j pc ls st sz f kc ks P := by
  intro p l e R s m args below meth c D cI cQ bs b Q hC hret H locs lsA hH hS hl hn hkc hks
  exact lv_sipush hC.1 hC.2.1 hd hv (k _ _ _ _ _ _ _ _ _ _ _ _ _ _ _ _ hC hret H locs lsA hH hS hl hn hkc hks)
theorem zKt {i : Nat} {q : (Nat × Nat) × Int32 × Nat} (h : zKtab[i]? = some q) : Cond.constant (zRn q.1.1) q.1.2 q.2.1 ∈ zT := zT_of (List.all_eq_true.mp zKtab_ok q (List.mem_of_getElem? h))
theorem zr_ldc {i ix p0 : Nat} {v : Int32} (hd : decode (zB j) pc = .ok (.ldc ix, 2)) (hi : zKtab[i]? = some ((zC j, ix), v, p0)) (k : Zv X j (pc + 2) ls (zi v :: st) sz f kc ks P) : Zv X j pc ls st sz f kc ks P := by
  intro p l e R s m args below meth c D cI cQ bs b Q hC hret H locs lsA hH hS hl hn hkc hks
  exact lv_ldc hC.1 hC.2.1 hC.2.2.2.1 (hC.2.2.2.2.1 _ (zKt hi)) hd (k _ _ _ _ _ _ _ _ _ _ _ _ _ _ _ _ hC hret H locs lsA hH hS hl hn hkc hks)
theorem zr_iload_n {q : Fin 4} {i : Nat} {x : Int32} (hd : decode (zB j) pc = .ok (.iload_n q, 1)) (hi : (q : Nat) = i) (hx : ls[i]? = some (some (zi x))) (k : Zv X j (pc + 1) ls (zi x :: st) sz f kc ks P) : Zv X j pc ls st sz f kc ks P := by
  intro p l e R s m args below meth c D cI cQ bs b Q hC hret H locs lsA hH hS hl hn hkc hks
  exact lv_iload_n hC.1 hC.2.1 hd hi (zload hl hx) (k _ _ _ _ _ _ _ _ _ _ _ _ _ _ _ _ hC hret H locs lsA hH hS hl hn hkc hks)
theorem zr_iload {i : Nat} {x : Int32} (hd : decode (zB j) pc = .ok (.iload i, 2)) (hx : ls[i]? = some (some (zi x))) (k : Zv X j (pc + 2) ls (zi x :: st) sz f kc ks P) : Zv X j pc ls st sz f kc ks P := by
  intro p l e R s m args below meth c D cI cQ bs b Q hC hret H locs lsA hH hS hl hn hkc hks
  exact lv_iload hC.1 hC.2.1 hd (zload hl hx) (k _ _ _ _ _ _ _ _ _ _ _ _ _ _ _ _ hC hret H locs lsA hH hS hl hn hkc hks)
theorem zr_aload_n {q : Fin 4} {i : Nat} {v : Option (Option Nat)} (hd : decode (zB j) pc = .ok (.aload_n q, 1)) (hi : (q : Nat) = i) (hx : ls[i]? = some (some (v.map .inr))) (k : Zv X j (pc + 1) ls (v.map .inr :: st) sz f kc ks P) : Zv X j pc ls st sz f kc ks P := by
  intro p l e R s m args below meth c D cI cQ bs b Q hC hret H locs lsA hH hS hl hn hkc hks
  have kk := k _ _ _ _ _ _ _ _ _ _ _ _ _ _ _ _ hC hret H locs lsA hH hS hl hn hkc hks
  rcases v with _ | _ | a
  · exact lv_aload_nN hC.1 hC.2.1 hd hi (zload hl hx) kk
  · exact lv_aload_n hC.1 hC.2.1 hd hi (zload hl hx) kk
  · exact lv_aload_n hC.1 hC.2.1 hd hi (zload hl hx) kk
theorem zr_aload {i : Nat} {v : Option (Option Nat)} (hd : decode (zB j) pc = .ok (.aload i, 2)) (hx : ls[i]? = some (some (v.map .inr))) (k : Zv X j (pc + 2) ls (v.map .inr :: st) sz f kc ks P) : Zv X j pc ls st sz f kc ks P := by
  intro p l e R s m args below meth c D cI cQ bs b Q hC hret H locs lsA hH hS hl hn hkc hks
  have kk := k _ _ _ _ _ _ _ _ _ _ _ _ _ _ _ _ hC hret H locs lsA hH hS hl hn hkc hks
  rcases v with _ | _ | a
  · exact lv_aloadN hC.1 hC.2.1 hd (zload hl hx) kk
  · exact lv_aload hC.1 hC.2.1 hd (zload hl hx) kk
  · exact lv_aload hC.1 hC.2.1 hd (zload hl hx) kk
theorem zr_istore_n {q : Fin 4} {i : Nat} {x : Int32} (hd : decode (zB j) pc = .ok (.istore_n q, 1)) (hi : (q : Nat) = i) (hin : i < ls.length) (k : Zv X j (pc + 1) (ls.set i (some (zi x))) st sz f kc ks P) : Zv X j pc ls (zi x :: st) sz f kc ks P := by
  intro p l e R s m args below meth c D cI cQ bs b Q hC hret H locs lsA hH hS hl hn hkc hks
  exact lv_istore_n hC.1 hC.2.1 hd hi hl (by rw [← hn]; exact hin) rfl (fun ls' hl' => k _ _ _ _ _ _ _ _ _ _ _ _ _ _ _ _ hC hret H locs ls' hH hS (zstore (v := zi x) hl') (by rw [List.length_set]; exact hn) hkc hks)
theorem zr_istore {i : Nat} {x : Int32} (hd : decode (zB j) pc = .ok (.istore i, 2)) (hin : i < ls.length) (k : Zv X j (pc + 2) (ls.set i (some (zi x))) st sz f kc ks P) : Zv X j pc ls (zi x :: st) sz f kc ks P := by
  intro p l e R s m args below meth c D cI cQ bs b Q hC hret H locs lsA hH hS hl hn hkc hks
  exact lv_istore hC.1 hC.2.1 hd hl (by rw [← hn]; exact hin) rfl (fun ls' hl' => k _ _ _ _ _ _ _ _ _ _ _ _ _ _ _ _ hC hret H locs ls' hH hS (zstore (v := zi x) hl') (by rw [List.length_set]; exact hn) hkc hks)
theorem zr_astore_n {q : Fin 4} {i : Nat} {v : Option (Option Nat)} (hd : decode (zB j) pc = .ok (.astore_n q, 1)) (hi : (q : Nat) = i) (hin : i < ls.length) (k : Zv X j (pc + 1) (ls.set i (some (v.map .inr))) st sz f kc ks P) : Zv X j pc ls (v.map .inr :: st) sz f kc ks P := by
  intro p l e R s m args below meth c D cI cQ bs b Q hC hret H locs lsA hH hS hl hn hkc hks
  rcases v with _ | _ | a
  · exact lv_astore_nN hC.1 hC.2.1 hd hi hl (by rw [← hn]; exact hin) rfl (fun ls' hl' => k _ _ _ _ _ _ _ _ _ _ _ _ _ _ _ _ hC hret H locs ls' hH hS (zstore (v := none) hl') (by rw [List.length_set]; exact hn) hkc hks)
  · exact lv_astore_n hC.1 hC.2.1 hd hi hl (by rw [← hn]; exact hin) rfl (fun ls' hl' => k _ _ _ _ _ _ _ _ _ _ _ _ _ _ _ _ hC hret H locs ls' hH hS (zstore (v := zsc) hl') (by rw [List.length_set]; exact hn) hkc hks)
  · exact lv_astore_n hC.1 hC.2.1 hd hi hl (by rw [← hn]; exact hin) rfl (fun ls' hl' => k _ _ _ _ _ _ _ _ _ _ _ _ _ _ _ _ hC hret H locs ls' hH hS (zstore (v := zr a) hl') (by rw [List.length_set]; exact hn) hkc hks)
theorem zr_astore {i : Nat} {v : Option (Option Nat)} (hd : decode (zB j) pc = .ok (.astore i, 2)) (hin : i < ls.length) (k : Zv X j (pc + 2) (ls.set i (some (v.map .inr))) st sz f kc ks P) : Zv X j pc ls (v.map .inr :: st) sz f kc ks P := by
  intro p l e R s m args below meth c D cI cQ bs b Q hC hret H locs lsA hH hS hl hn hkc hks
  rcases v with _ | _ | a
  · exact lv_astoreN hC.1 hC.2.1 hd hl (by rw [← hn]; exact hin) rfl (fun ls' hl' => k _ _ _ _ _ _ _ _ _ _ _ _ _ _ _ _ hC hret H locs ls' hH hS (zstore (v := none) hl') (by rw [List.length_set]; exact hn) hkc hks)
  · exact lv_astore hC.1 hC.2.1 hd hl (by rw [← hn]; exact hin) rfl (fun ls' hl' => k _ _ _ _ _ _ _ _ _ _ _ _ _ _ _ _ hC hret H locs ls' hH hS (zstore (v := zsc) hl') (by rw [List.length_set]; exact hn) hkc hks)
  · exact lv_astore hC.1 hC.2.1 hd hl (by rw [← hn]; exact hin) rfl (fun ls' hl' => k _ _ _ _ _ _ _ _ _ _ _ _ _ _ _ _ hC hret H locs ls' hH hS (zstore (v := zr a) hl') (by rw [List.length_set]; exact hn) hkc hks)
theorem zr_iinc {i : Nat} {n : Int} {x v : Int32} (hd : decode (zB j) pc = .ok (.iinc i n, 3)) (hx : ls[i]? = some (some (zi x))) (hv : x + Int32.ofInt n = v) (k : Zv X j (pc + 3) (ls.set i (some (zi v))) st sz f kc ks P) : Zv X j pc ls st sz f kc ks P := by
  intro p l e R s m args below meth c D cI cQ bs b Q hC hret H locs lsA hH hS hl hn hkc hks
  have hin : i < ls.length := (List.getElem?_eq_some_iff.mp hx).1
  obtain ⟨q, hq⟩ := List.getElem?_of_mem ((zprs_mem (g := zvv bs b) (l := ls) (i := 0) (q := (i, Value.int x))).mpr ⟨i, zi x, hx, by simp [zvv, zi]⟩)
  exact lv_iinc hC.1 hC.2.1 hd hl hq hv (by rw [← hn]; exact hin) rfl (fun ls' hl' => k _ _ _ _ _ _ _ _ _ _ _ _ _ _ _ _ hC hret H locs ls' hH hS (zstore (v := zi v) hl') (by rw [List.length_set]; exact hn) hkc hks)
theorem zr_iadd {x y : Int32} (hd : decode (zB j) pc = .ok (.iadd, 1)) (k : Zv X j (pc + 1) ls (zi (x + y) :: st) sz f kc ks P) : Zv X j pc ls (zi y :: zi x :: st) sz f kc ks P := by
  intro p l e R s m args below meth c D cI cQ bs b Q hC hret H locs lsA hH hS hl hn hkc hks
  exact lv_iadd hC.1 hC.2.1 hd (k _ _ _ _ _ _ _ _ _ _ _ _ _ _ _ _ hC hret H locs lsA hH hS hl hn hkc hks)
theorem zr_isub {x y : Int32} (hd : decode (zB j) pc = .ok (.isub, 1)) (k : Zv X j (pc + 1) ls (zi (x - y) :: st) sz f kc ks P) : Zv X j pc ls (zi y :: zi x :: st) sz f kc ks P := by
  intro p l e R s m args below meth c D cI cQ bs b Q hC hret H locs lsA hH hS hl hn hkc hks
  exact lv_isub hC.1 hC.2.1 hd (k _ _ _ _ _ _ _ _ _ _ _ _ _ _ _ _ hC hret H locs lsA hH hS hl hn hkc hks)
theorem zr_imul {x y : Int32} (hd : decode (zB j) pc = .ok (.imul, 1)) (k : Zv X j (pc + 1) ls (zi (x * y) :: st) sz f kc ks P) : Zv X j pc ls (zi y :: zi x :: st) sz f kc ks P := by
  intro p l e R s m args below meth c D cI cQ bs b Q hC hret H locs lsA hH hS hl hn hkc hks
  exact lv_imul hC.1 hC.2.1 hd (k _ _ _ _ _ _ _ _ _ _ _ _ _ _ _ _ hC hret H locs lsA hH hS hl hn hkc hks)
theorem zr_iand {x y : Int32} (hd : decode (zB j) pc = .ok (.iand, 1)) (k : Zv X j (pc + 1) ls (zi (x &&& y) :: st) sz f kc ks P) : Zv X j pc ls (zi y :: zi x :: st) sz f kc ks P := by
  intro p l e R s m args below meth c D cI cQ bs b Q hC hret H locs lsA hH hS hl hn hkc hks
  exact lv_iand hC.1 hC.2.1 hd (k _ _ _ _ _ _ _ _ _ _ _ _ _ _ _ _ hC hret H locs lsA hH hS hl hn hkc hks)
theorem zr_ior {x y : Int32} (hd : decode (zB j) pc = .ok (.ior, 1)) (k : Zv X j (pc + 1) ls (zi (x ||| y) :: st) sz f kc ks P) : Zv X j pc ls (zi y :: zi x :: st) sz f kc ks P := by
  intro p l e R s m args below meth c D cI cQ bs b Q hC hret H locs lsA hH hS hl hn hkc hks
  exact lv_ior hC.1 hC.2.1 hd (k _ _ _ _ _ _ _ _ _ _ _ _ _ _ _ _ hC hret H locs lsA hH hS hl hn hkc hks)
theorem zr_ixor {x y : Int32} (hd : decode (zB j) pc = .ok (.ixor, 1)) (k : Zv X j (pc + 1) ls (zi (x ^^^ y) :: st) sz f kc ks P) : Zv X j pc ls (zi y :: zi x :: st) sz f kc ks P := by
  intro p l e R s m args below meth c D cI cQ bs b Q hC hret H locs lsA hH hS hl hn hkc hks
  exact lv_ixor hC.1 hC.2.1 hd (k _ _ _ _ _ _ _ _ _ _ _ _ _ _ _ _ hC hret H locs lsA hH hS hl hn hkc hks)
theorem zr_ishl {x y : Int32} (hd : decode (zB j) pc = .ok (.ishl, 1)) (k : Zv X j (pc + 1) ls (zi (x <<< (y &&& 31)) :: st) sz f kc ks P) : Zv X j pc ls (zi y :: zi x :: st) sz f kc ks P := by
  intro p l e R s m args below meth c D cI cQ bs b Q hC hret H locs lsA hH hS hl hn hkc hks
  exact lv_ishl hC.1 hC.2.1 hd (k _ _ _ _ _ _ _ _ _ _ _ _ _ _ _ _ hC hret H locs lsA hH hS hl hn hkc hks)
theorem zr_ishr {x y : Int32} (hd : decode (zB j) pc = .ok (.ishr, 1)) (k : Zv X j (pc + 1) ls (zi (x >>> (y &&& 31)) :: st) sz f kc ks P) : Zv X j pc ls (zi y :: zi x :: st) sz f kc ks P := by
  intro p l e R s m args below meth c D cI cQ bs b Q hC hret H locs lsA hH hS hl hn hkc hks
  exact lv_ishr hC.1 hC.2.1 hd (k _ _ _ _ _ _ _ _ _ _ _ _ _ _ _ _ hC hret H locs lsA hH hS hl hn hkc hks)
theorem zr_idiv {x y : Int32} (hd : decode (zB j) pc = .ok (.idiv, 1)) (hy : ¬ y = 0) (k : Zv X j (pc + 1) ls (zi (x / y) :: st) sz f kc ks P) : Zv X j pc ls (zi y :: zi x :: st) sz f kc ks P := by
  intro p l e R s m args below meth c D cI cQ bs b Q hC hret H locs lsA hH hS hl hn hkc hks
  exact lv_idiv hC.1 hC.2.1 hd hy (k _ _ _ _ _ _ _ _ _ _ _ _ _ _ _ _ hC hret H locs lsA hH hS hl hn hkc hks)
theorem zr_irem {x y : Int32} (hd : decode (zB j) pc = .ok (.irem, 1)) (hy : ¬ y = 0) (k : Zv X j (pc + 1) ls (zi (x - x / y * y) :: st) sz f kc ks P) : Zv X j pc ls (zi y :: zi x :: st) sz f kc ks P := by
  intro p l e R s m args below meth c D cI cQ bs b Q hC hret H locs lsA hH hS hl hn hkc hks
  exact lv_irem hC.1 hC.2.1 hd hy (k _ _ _ _ _ _ _ _ _ _ _ _ _ _ _ _ hC hret H locs lsA hH hS hl hn hkc hks)
theorem zr_ineg {x : Int32} (hd : decode (zB j) pc = .ok (.ineg, 1)) (k : Zv X j (pc + 1) ls (zi (-x) :: st) sz f kc ks P) : Zv X j pc ls (zi x :: st) sz f kc ks P := by
  intro p l e R s m args below meth c D cI cQ bs b Q hC hret H locs lsA hH hS hl hn hkc hks
  exact lv_ineg hC.1 hC.2.1 hd (k _ _ _ _ _ _ _ _ _ _ _ _ _ _ _ _ hC hret H locs lsA hH hS hl hn hkc hks)
theorem zr_dup {v : ZVal} (hd : decode (zB j) pc = .ok (.dup, 1)) (k : Zv X j (pc + 1) ls (v :: v :: st) sz f kc ks P) : Zv X j pc ls (v :: st) sz f kc ks P := by
  intro p l e R s m args below meth c D cI cQ bs b Q hC hret H locs lsA hH hS hl hn hkc hks
  exact lv_dup hC.1 hC.2.1 hd (zvv_cat bs b v) (k _ _ _ _ _ _ _ _ _ _ _ _ _ _ _ _ hC hret H locs lsA hH hS hl hn hkc hks)
theorem zr_if_eq {x : Int32} {off : Int} {tgt : Nat} (hd : decode (zB j) pc = .ok (.ifCond .eq off, 3)) (ht : (pc : Int) + off = (tgt : Int)) (kt : x = 0 → Zv X j tgt ls st sz f kc ks P) (kf : ¬ x = 0 → Zv X j (pc + 3) ls st sz f kc ks P) : Zv X j pc ls (zi x :: st) sz f kc ks P := by
  intro p l e R s m args below meth c D cI cQ bs b Q hC hret H locs lsA hH hS hl hn hkc hks
  exact lv_if_eq hC.1 hC.2.1 hd ht (fun h => kt h _ _ _ _ _ _ _ _ _ _ _ _ _ _ _ _ hC hret H locs lsA hH hS hl hn hkc hks) (fun h => kf h _ _ _ _ _ _ _ _ _ _ _ _ _ _ _ _ hC hret H locs lsA hH hS hl hn hkc hks)
theorem zr_icmp_eq {x y : Int32} {off : Int} {tgt : Nat} (hd : decode (zB j) pc = .ok (.if_icmp .eq off, 3)) (ht : (pc : Int) + off = (tgt : Int)) (kt : x = y → Zv X j tgt ls st sz f kc ks P) (kf : ¬ x = y → Zv X j (pc + 3) ls st sz f kc ks P) : Zv X j pc ls (zi y :: zi x :: st) sz f kc ks P := by
  intro p l e R s m args below meth c D cI cQ bs b Q hC hret H locs lsA hH hS hl hn hkc hks
  exact lv_icmp_eq hC.1 hC.2.1 hd ht (fun h => kt h _ _ _ _ _ _ _ _ _ _ _ _ _ _ _ _ hC hret H locs lsA hH hS hl hn hkc hks) (fun h => kf h _ _ _ _ _ _ _ _ _ _ _ _ _ _ _ _ hC hret H locs lsA hH hS hl hn hkc hks)
theorem zr_if_ne {x : Int32} {off : Int} {tgt : Nat} (hd : decode (zB j) pc = .ok (.ifCond .ne off, 3)) (ht : (pc : Int) + off = (tgt : Int)) (kt : ¬ x = 0 → Zv X j tgt ls st sz f kc ks P) (kf : x = 0 → Zv X j (pc + 3) ls st sz f kc ks P) : Zv X j pc ls (zi x :: st) sz f kc ks P := by
  intro p l e R s m args below meth c D cI cQ bs b Q hC hret H locs lsA hH hS hl hn hkc hks
  exact lv_if_ne hC.1 hC.2.1 hd ht (fun h => kt h _ _ _ _ _ _ _ _ _ _ _ _ _ _ _ _ hC hret H locs lsA hH hS hl hn hkc hks) (fun h => kf h _ _ _ _ _ _ _ _ _ _ _ _ _ _ _ _ hC hret H locs lsA hH hS hl hn hkc hks)
theorem zr_icmp_ne {x y : Int32} {off : Int} {tgt : Nat} (hd : decode (zB j) pc = .ok (.if_icmp .ne off, 3)) (ht : (pc : Int) + off = (tgt : Int)) (kt : ¬ x = y → Zv X j tgt ls st sz f kc ks P) (kf : x = y → Zv X j (pc + 3) ls st sz f kc ks P) : Zv X j pc ls (zi y :: zi x :: st) sz f kc ks P := by
  intro p l e R s m args below meth c D cI cQ bs b Q hC hret H locs lsA hH hS hl hn hkc hks
  exact lv_icmp_ne hC.1 hC.2.1 hd ht (fun h => kt h _ _ _ _ _ _ _ _ _ _ _ _ _ _ _ _ hC hret H locs lsA hH hS hl hn hkc hks) (fun h => kf h _ _ _ _ _ _ _ _ _ _ _ _ _ _ _ _ hC hret H locs lsA hH hS hl hn hkc hks)
theorem zr_if_lt {x : Int32} {off : Int} {tgt : Nat} (hd : decode (zB j) pc = .ok (.ifCond .lt off, 3)) (ht : (pc : Int) + off = (tgt : Int)) (kt : x < 0 → Zv X j tgt ls st sz f kc ks P) (kf : ¬ x < 0 → Zv X j (pc + 3) ls st sz f kc ks P) : Zv X j pc ls (zi x :: st) sz f kc ks P := by
  intro p l e R s m args below meth c D cI cQ bs b Q hC hret H locs lsA hH hS hl hn hkc hks
  exact lv_if_lt hC.1 hC.2.1 hd ht (fun h => kt h _ _ _ _ _ _ _ _ _ _ _ _ _ _ _ _ hC hret H locs lsA hH hS hl hn hkc hks) (fun h => kf h _ _ _ _ _ _ _ _ _ _ _ _ _ _ _ _ hC hret H locs lsA hH hS hl hn hkc hks)
theorem zr_icmp_lt {x y : Int32} {off : Int} {tgt : Nat} (hd : decode (zB j) pc = .ok (.if_icmp .lt off, 3)) (ht : (pc : Int) + off = (tgt : Int)) (kt : x < y → Zv X j tgt ls st sz f kc ks P) (kf : ¬ x < y → Zv X j (pc + 3) ls st sz f kc ks P) : Zv X j pc ls (zi y :: zi x :: st) sz f kc ks P := by
  intro p l e R s m args below meth c D cI cQ bs b Q hC hret H locs lsA hH hS hl hn hkc hks
  exact lv_icmp_lt hC.1 hC.2.1 hd ht (fun h => kt h _ _ _ _ _ _ _ _ _ _ _ _ _ _ _ _ hC hret H locs lsA hH hS hl hn hkc hks) (fun h => kf h _ _ _ _ _ _ _ _ _ _ _ _ _ _ _ _ hC hret H locs lsA hH hS hl hn hkc hks)
theorem zr_if_ge {x : Int32} {off : Int} {tgt : Nat} (hd : decode (zB j) pc = .ok (.ifCond .ge off, 3)) (ht : (pc : Int) + off = (tgt : Int)) (kt : 0 ≤ x → Zv X j tgt ls st sz f kc ks P) (kf : ¬ 0 ≤ x → Zv X j (pc + 3) ls st sz f kc ks P) : Zv X j pc ls (zi x :: st) sz f kc ks P := by
  intro p l e R s m args below meth c D cI cQ bs b Q hC hret H locs lsA hH hS hl hn hkc hks
  exact lv_if_ge hC.1 hC.2.1 hd ht (fun h => kt h _ _ _ _ _ _ _ _ _ _ _ _ _ _ _ _ hC hret H locs lsA hH hS hl hn hkc hks) (fun h => kf h _ _ _ _ _ _ _ _ _ _ _ _ _ _ _ _ hC hret H locs lsA hH hS hl hn hkc hks)
theorem zr_icmp_ge {x y : Int32} {off : Int} {tgt : Nat} (hd : decode (zB j) pc = .ok (.if_icmp .ge off, 3)) (ht : (pc : Int) + off = (tgt : Int)) (kt : y ≤ x → Zv X j tgt ls st sz f kc ks P) (kf : ¬ y ≤ x → Zv X j (pc + 3) ls st sz f kc ks P) : Zv X j pc ls (zi y :: zi x :: st) sz f kc ks P := by
  intro p l e R s m args below meth c D cI cQ bs b Q hC hret H locs lsA hH hS hl hn hkc hks
  exact lv_icmp_ge hC.1 hC.2.1 hd ht (fun h => kt h _ _ _ _ _ _ _ _ _ _ _ _ _ _ _ _ hC hret H locs lsA hH hS hl hn hkc hks) (fun h => kf h _ _ _ _ _ _ _ _ _ _ _ _ _ _ _ _ hC hret H locs lsA hH hS hl hn hkc hks)
theorem zr_if_gt {x : Int32} {off : Int} {tgt : Nat} (hd : decode (zB j) pc = .ok (.ifCond .gt off, 3)) (ht : (pc : Int) + off = (tgt : Int)) (kt : 0 < x → Zv X j tgt ls st sz f kc ks P) (kf : ¬ 0 < x → Zv X j (pc + 3) ls st sz f kc ks P) : Zv X j pc ls (zi x :: st) sz f kc ks P := by
  intro p l e R s m args below meth c D cI cQ bs b Q hC hret H locs lsA hH hS hl hn hkc hks
  exact lv_if_gt hC.1 hC.2.1 hd ht (fun h => kt h _ _ _ _ _ _ _ _ _ _ _ _ _ _ _ _ hC hret H locs lsA hH hS hl hn hkc hks) (fun h => kf h _ _ _ _ _ _ _ _ _ _ _ _ _ _ _ _ hC hret H locs lsA hH hS hl hn hkc hks)
theorem zr_icmp_gt {x y : Int32} {off : Int} {tgt : Nat} (hd : decode (zB j) pc = .ok (.if_icmp .gt off, 3)) (ht : (pc : Int) + off = (tgt : Int)) (kt : y < x → Zv X j tgt ls st sz f kc ks P) (kf : ¬ y < x → Zv X j (pc + 3) ls st sz f kc ks P) : Zv X j pc ls (zi y :: zi x :: st) sz f kc ks P := by
  intro p l e R s m args below meth c D cI cQ bs b Q hC hret H locs lsA hH hS hl hn hkc hks
  exact lv_icmp_gt hC.1 hC.2.1 hd ht (fun h => kt h _ _ _ _ _ _ _ _ _ _ _ _ _ _ _ _ hC hret H locs lsA hH hS hl hn hkc hks) (fun h => kf h _ _ _ _ _ _ _ _ _ _ _ _ _ _ _ _ hC hret H locs lsA hH hS hl hn hkc hks)
theorem zr_if_le {x : Int32} {off : Int} {tgt : Nat} (hd : decode (zB j) pc = .ok (.ifCond .le off, 3)) (ht : (pc : Int) + off = (tgt : Int)) (kt : x ≤ 0 → Zv X j tgt ls st sz f kc ks P) (kf : ¬ x ≤ 0 → Zv X j (pc + 3) ls st sz f kc ks P) : Zv X j pc ls (zi x :: st) sz f kc ks P := by
  intro p l e R s m args below meth c D cI cQ bs b Q hC hret H locs lsA hH hS hl hn hkc hks
  exact lv_if_le hC.1 hC.2.1 hd ht (fun h => kt h _ _ _ _ _ _ _ _ _ _ _ _ _ _ _ _ hC hret H locs lsA hH hS hl hn hkc hks) (fun h => kf h _ _ _ _ _ _ _ _ _ _ _ _ _ _ _ _ hC hret H locs lsA hH hS hl hn hkc hks)
theorem zr_icmp_le {x y : Int32} {off : Int} {tgt : Nat} (hd : decode (zB j) pc = .ok (.if_icmp .le off, 3)) (ht : (pc : Int) + off = (tgt : Int)) (kt : x ≤ y → Zv X j tgt ls st sz f kc ks P) (kf : ¬ x ≤ y → Zv X j (pc + 3) ls st sz f kc ks P) : Zv X j pc ls (zi y :: zi x :: st) sz f kc ks P := by
  intro p l e R s m args below meth c D cI cQ bs b Q hC hret H locs lsA hH hS hl hn hkc hks
  exact lv_icmp_le hC.1 hC.2.1 hd ht (fun h => kt h _ _ _ _ _ _ _ _ _ _ _ _ _ _ _ _ hC hret H locs lsA hH hS hl hn hkc hks) (fun h => kf h _ _ _ _ _ _ _ _ _ _ _ _ _ _ _ _ hC hret H locs lsA hH hS hl hn hkc hks)
theorem zr_goto {off : Int} {tgt : Nat} (hd : decode (zB j) pc = .ok (.goto off, 3)) (ht : (pc : Int) + off = (tgt : Int)) (k : Zv X j tgt ls st sz f kc ks P) : Zv X j pc ls st sz f kc ks P := by
  intro p l e R s m args below meth c D cI cQ bs b Q hC hret H locs lsA hH hS hl hn hkc hks
  exact lv_goto hC.1 hC.2.1 hd ht (k _ _ _ _ _ _ _ _ _ _ _ _ _ _ _ _ hC hret H locs lsA hH hS hl hn hkc hks)
theorem zr_ifnonnull {a : Nat} {off : Int} {tgt : Nat} (hd : decode (zB j) pc = .ok (.ifnonnull off, 3)) (ht : (pc : Int) + off = (tgt : Int)) (k : Zv X j tgt ls st sz f kc ks P) : Zv X j pc ls (zr a :: st) sz f kc ks P := by
  intro p l e R s m args below meth c D cI cQ bs b Q hC hret H locs lsA hH hS hl hn hkc hks
  exact lv_ifnonnull hC.1 hC.2.1 hd ht (k _ _ _ _ _ _ _ _ _ _ _ _ _ _ _ _ hC hret H locs lsA hH hS hl hn hkc hks)
theorem zr_ifnonnullN {off : Int} (hd : decode (zB j) pc = .ok (.ifnonnull off, 3)) (k : Zv X j (pc + 3) ls st sz f kc ks P) : Zv X j pc ls (zu :: st) sz f kc ks P := by
  intro p l e R s m args below meth c D cI cQ bs b Q hC hret H locs lsA hH hS hl hn hkc hks
  exact lv_ifnonnullN hC.1 hC.2.1 hd (k _ _ _ _ _ _ _ _ _ _ _ _ _ _ _ _ hC hret H locs lsA hH hS hl hn hkc hks)
theorem zr_ifnull {a : Nat} {off : Int} (hd : decode (zB j) pc = .ok (.ifnull off, 3)) (k : Zv X j (pc + 3) ls st sz f kc ks P) : Zv X j pc ls (zr a :: st) sz f kc ks P := by
  intro p l e R s m args below meth c D cI cQ bs b Q hC hret H locs lsA hH hS hl hn hkc hks
  exact lv_ifnull hC.1 hC.2.1 hd (k _ _ _ _ _ _ _ _ _ _ _ _ _ _ _ _ hC hret H locs lsA hH hS hl hn hkc hks)
theorem zr_ifnullN {off : Int} {tgt : Nat} (hd : decode (zB j) pc = .ok (.ifnull off, 3)) (ht : (pc : Int) + off = (tgt : Int)) (k : Zv X j tgt ls st sz f kc ks P) : Zv X j pc ls (zu :: st) sz f kc ks P := by
  intro p l e R s m args below meth c D cI cQ bs b Q hC hret H locs lsA hH hS hl hn hkc hks
  exact lv_ifnullN hC.1 hC.2.1 hd ht (k _ _ _ _ _ _ _ _ _ _ _ _ _ _ _ _ hC hret H locs lsA hH hS hl hn hkc hks)
theorem zr_swOut {dflt lo hi : Int} {offs : Array Int} {len : Nat} {x : Int32} {tgt : Nat} (hd : decode (zB j) pc = .ok (.tableswitch dflt lo hi offs, len)) (h : x.toInt < lo ∨ hi < x.toInt) (ht : (pc : Int) + dflt = (tgt : Int)) (k : Zv X j tgt ls st sz f kc ks P) : Zv X j pc ls (zi x :: st) sz f kc ks P := by
  intro p l e R s m args below meth c D cI cQ bs b Q hC hret H locs lsA hH hS hl hn hkc hks
  exact lv_tableOut hC.1 hC.2.1 hd h ht (k _ _ _ _ _ _ _ _ _ _ _ _ _ _ _ _ hC hret H locs lsA hH hS hl hn hkc hks)
theorem zr_swIn {dflt lo hi : Int} {offs : Array Int} {len : Nat} {x : Int32} {off : Int} {tgt : Nat} (hd : decode (zB j) pc = .ok (.tableswitch dflt lo hi offs, len)) (h1 : ¬ x.toInt < lo) (h2 : ¬ hi < x.toInt) (ho : offs[(x.toInt - lo).toNat]? = some off) (ht : (pc : Int) + off = (tgt : Int)) (k : Zv X j tgt ls st sz f kc ks P) : Zv X j pc ls (zi x :: st) sz f kc ks P := by
  intro p l e R s m args below meth c D cI cQ bs b Q hC hret H locs lsA hH hS hl hn hkc hks
  exact lv_tableIn hC.1 hC.2.1 hd h1 h2 ho ht (k _ _ _ _ _ _ _ _ _ _ _ _ _ _ _ _ hC hret H locs lsA hH hS hl hn hkc hks)
theorem va_one {D : va_G} {q : Nat × va_E} {H : Heap} (h : va_at D vwCl q H) : va_P D vwCl [q] H := by
  intro k q' hk
  cases k with
  | zero => cases hk; exact h
  | succ k => simp at hk
theorem zHp.set {D : va_G} {cI cQ : ClassId} {bs b k : Nat} {H H1 : Heap} {c : ZC} (h : zHp D cI cQ bs b sz f H) (hk : k < sz) (he : va_at D vwCl (bs + k, zcv cI cQ bs b c) H1) (z : H1.size = H.size) (oq : ∀ q : Nat, q ≠ bs + k → H1[q]? = H[q]?) : zHp D cI cQ bs b sz (zup f k c) H1 := by
  refine ⟨z.trans h.1, fun i ci hi => ?_⟩
  by_cases hik : i = k
  · subst hik
    rw [zup_eq] at hi
    cases hi
    exact ⟨hk, he⟩
  · rw [zup_ne hik] at hi
    obtain ⟨h1, h2⟩ := h.2 i ci hi
    exact ⟨h1, h2.kept (oq _ (by show bs + i ≠ bs + k; omega))⟩
theorem zHp.push {D : va_G} {cI cQ : ClassId} {bs b : Nat} {H H1 : Heap} {c : ZC} (h : zHp D cI cQ bs b sz f H) (he : va_at D vwCl (bs + sz, zcv cI cQ bs b c) H1) (z : H1.size = H.size + 1) (oq : ∀ q : Nat, q < H.size → H1[q]? = H[q]?) : zHp D cI cQ bs b (sz + 1) (zup f sz c) H1 := by
  refine ⟨by rw [z, h.1]; omega, fun i ci hi => ?_⟩
  by_cases hik : i = sz
  · subst hik
    rw [zup_eq] at hi
    cases hi
    exact ⟨by omega, he⟩
  · rw [zup_ne hik] at hi
    obtain ⟨h1, h2⟩ := h.2 i ci hi
    refine ⟨by omega, h2.kept (oq _ ?_)⟩
    show bs + i < H.size
    rw [h.1]
    omega
theorem zFt {i : Nat} {c ix ci k p0 : Nat} {nest : Bool} (h : zFtab[i]? = some ((c, ix), (ci, k, nest), p0)) : ci < 7 ∧ k < (zCl ci).2.2 ∧ (nest = false → Cond.fieldLink (zRn c) ix (zCl ci).1 ((zCl ci).2.1 k).2.1 ((zCl ci).2.1 k).2.2.1 ∈ zT) ∧ (nest = true → Cond.fieldLinkNest (zRn c) ix (zCl ci).1 ((zCl ci).2.1 k).2.1 ((zCl ci).2.1 k).2.2.1 RX5 ∈ zNs) := by
  have h1 := List.all_eq_true.mp zFtab_ok _ (List.mem_of_getElem? h)
  cases nest with
  | false =>
    simp only [zFtabOk, Bool.and_eq_true, decide_eq_true_eq] at h1
    exact ⟨h1.1.1, h1.1.2, fun _ => zT_in (List.mem_of_getElem? h1.2.1) h1.2.2, fun h => by cases h⟩
  | true =>
    simp only [zFtabOk, Bool.and_eq_true, decide_eq_true_eq] at h1
    exact ⟨h1.1.1, h1.1.2, fun h => (by cases h), fun _ => zNs_in h1.2 rfl⟩
theorem zOwn : ∀ ci, ci < 7 → ∀ q, q < (zCl ci).2.2 → ((zCl ci).2.1 q).1 = (zCl ci).1 := by decide +kernel
theorem zr_get {i ix ci q p0 a : Nat} {vs : List ZVal} {v : ZVal} (hd : decode (zB j) pc = .ok (.getfield ix, 3)) (hi : zFtab[i]? = some ((zC j, ix), (ci, q, false), p0)) (hf : f a = some (zO ci vs)) (hv : vs[q]? = some v) (k : Zv X j (pc + 3) ls (v :: st) sz f kc ks P) : Zv X j pc ls (zr a :: st) sz f kc ks P := by
  intro p l e R s m args below meth c D cI cQ bs b Q hC hret H locs lsA hH hS hl hn hkc hks
  obtain ⟨h1, h2, h3, -⟩ := zFt hi
  have hP := va_one (hH.2 a _ hf).2
  exact va_get (v := zvv bs b v) (fs := vs.map (zvv bs b)) hC.1 hC.2.1 hC.2.2.2.2.1 (zWk ci h1) hC.2.2.2.1 hC.2.2.2.2.2.2.2.1 hP 0 rfl (zTyk ci h1).2.2 q h2 (hC.2.2.2.2.1 _ (h3 rfl)) (fun _ hx => by rw [zOwn ci h1 q h2] at hx; exact hx) (by rw [List.getElem?_map, hv]; rfl) hd (k _ _ _ _ _ _ _ _ _ _ _ _ _ _ _ _ hC hret H locs lsA hH hS hl hn hkc hks)
theorem zr_getN {i ix ci q p0 a : Nat} {vs : List ZVal} {v : ZVal} (hd : decode (zB j) pc = .ok (.getfield ix, 3)) (hi : zFtab[i]? = some ((zC j, ix), (ci, q, true), p0)) (hf : f a = some (zO ci vs)) (hv : vs[q]? = some v) (k : Zv X j (pc + 3) ls (v :: st) sz f kc ks P) : Zv X j pc ls (zr a :: st) sz f kc ks P := by
  intro p l e R s m args below meth c D cI cQ bs b Q hC hret H locs lsA hH hS hl hn hkc hks
  obtain ⟨h1, h2, -, h3⟩ := zFt hi
  have hP := va_one (hH.2 a _ hf).2
  exact va_getN (v := zvv bs b v) (fs := vs.map (zvv bs b)) hC.1 hC.2.1 hC.2.2.2.2.1 (zWk ci h1) hC.2.2.2.1 hC.2.2.2.2.2.2.2.1 hP 0 rfl (zTyk ci h1).2.2 q h2 (va_Nw.use rfl (hC.2.2.2.2.2.1 _ (h3 rfl))) (fun _ hx => by rw [zOwn ci h1 q h2] at hx; exact hx) (by rw [List.getElem?_map, hv]; rfl) hd (k _ _ _ _ _ _ _ _ _ _ _ _ _ _ _ _ hC hret H locs lsA hH hS hl hn hkc hks)
def zfit (ty : FieldType) (v : ZVal) : Bool := match ty, v with
  | .int, some (.inl _) => true
  | .object _, none => true
  | .object _, some (.inr (some _)) => true
  | .array _, none => true
  | .array _, some (.inr (some _)) => true
  | _, _ => false
theorem zfit_ok {ty : FieldType} {v : ZVal} (h : zfit ty v = true) (bs b : Nat) : narrow ty (zvv bs b v) = zvv bs b v ∧ fits ty (zvv bs b v) = true := by
  unfold zfit at h
  split at h
  all_goals first | exact ⟨rfl, rfl⟩ | cases h
theorem zr_put {i ix ci q p0 a : Nat} {vs : List ZVal} {v : ZVal} (hd : decode (zB j) pc = .ok (.putfield ix, 3)) (hi : zFtab[i]? = some ((zC j, ix), (ci, q, false), p0)) (hf : f a = some (zO ci vs)) (hq : q < vs.length) (hfit : zfit (zty ci q) v = true) (hfin : ((zCl ci).2.1 q).2.2.2 = false) (k : Zv X j (pc + 3) ls st sz (zup f a (zO ci (vs.set q v))) kc ks P) : Zv X j pc ls (v :: zr a :: st) sz f kc ks P := by
  intro p l e R s m args below meth c D cI cQ bs b Q hC hret H locs lsA hH hS hl hn hkc hks
  obtain ⟨h1, h2, h3, -⟩ := zFt hi
  obtain ⟨hty, hnm, hcl⟩ := zTyk ci h1
  obtain ⟨hx, hb, -, hown, hts, -, -, hK, hbs, -⟩ := id hC
  have hap := va_apart (own := zRn (zC j)) hts (zWk ci h1) (zty ci) hty hnm hK hcl
  obtain ⟨hak, r, g1, cell, q1, q2, q3, q4⟩ := hH.2 a _ hf
  have hr : r = ((zCl ci).1, (zCl ci).2.1, (zCl ci).2.2) := Option.some.inj (g1.symm.trans hcl)
  subst hr
  obtain ⟨hSl, hfc, kC, hkC, hkind⟩ := hK.1 ci _ hcl
  obtain ⟨cf, kf, fi, fd, hif, hsl⟩ := hSl q h2
  have hlay := hts _ (zWk ci h1 _ (u_in_lay h2))
  unfold u_lay at hlay
  rw [if_neg (by rw [hfin]; decide)] at hlay
  have hst := (u_facts hfc hkC (u_lays hts (zWk ci h1) h2) hif).1
  have hif2 := hif
  dsimp only at hif2
  rw [zOwn ci h1 q h2] at hif2
  have hz := zfit_ok hfit bs b
  have h6 := u_store hfc hkC hkind hlay hif (hty q h2) hz.1 hz.2
  refine W.putK hx hb (f := fd) ⟨hown, hts _ (h3 rfl), ⟨_, _, _, hif2⟩, hst⟩ (by rw [q2]; exact h6) q1 q3 (by rw [hsl]; exact k2_hasslot (q4 q h2)) rfl rfl hd fun H' e1 e2 e3 => ?_
  rw [hsl] at e1 ⊢
  refine k _ _ _ _ _ _ _ _ _ _ _ _ _ _ _ _ hC hret H' _ lsA (hH.set hak ⟨_, hcl, t_OB.to (V := updV (vp_V (vs.map (zvv bs b))) q (zvv bs b v)) ⟨_, e1, q2, q3, t_set q4 hap h2 _⟩ (fun j _ => ?_)⟩ e2 e3) (hS.put e2 e3 (Nat.le_add_right _ _)) hl hn hkc hks
  rw [List.map_set]
  exact vp_updV_set (by rw [List.length_map]; exact hq) _ j
theorem zr_putF {i ix ci q p0 a : Nat} {vs : List ZVal} {v : ZVal} (hd : decode (zB j) pc = .ok (.putfield ix, 3)) (hi : zFtab[i]? = some ((zC j, ix), (ci, q, false), p0)) (hf : f a = some (zO ci vs)) (hq : q < vs.length) (hfit : zfit (zty ci q) v = true) (hfin : ((zCl ci).2.1 q).2.2.2 = true) (hin : (zy j).name = "<init>") (hdecl : ((zCl ci).2.1 q).1 = zRn (zC j)) (k : Zv X j (pc + 3) ls st sz (zup f a (zO ci (vs.set q v))) kc ks P) : Zv X j pc ls (v :: zr a :: st) sz f kc ks P := by
  intro p l e R s m args below meth c D cI cQ bs b Q hC hret H locs lsA hH hS hl hn hkc hks
  obtain ⟨h1, h2, h3, -⟩ := zFt hi
  obtain ⟨hty, hnm, hcl⟩ := zTyk ci h1
  obtain ⟨hx, hb, -, hown, hts, -, hin2, hK, hbs, -⟩ := id hC
  have hap := va_apart (own := zRn (zC j)) hts (zWk ci h1) (zty ci) hty hnm hK hcl
  obtain ⟨hak, r, g1, cell, q1, q2, q3, q4⟩ := hH.2 a _ hf
  have hr : r = ((zCl ci).1, (zCl ci).2.1, (zCl ci).2.2) := Option.some.inj (g1.symm.trans hcl)
  subst hr
  obtain ⟨hSl, hfc, kC, hkC, hkind⟩ := hK.1 ci _ hcl
  obtain ⟨cf, kf, fi, fd, hif, hsl⟩ := hSl q h2
  have hlay := hts _ (zWk ci h1 _ (u_in_lay h2))
  unfold u_lay at hlay
  rw [if_pos hfin] at hlay
  have hst := (u_facts hfc hkC (u_lays hts (zWk ci h1) h2) hif).1
  have hcf : m.cls = cf := by
    obtain ⟨_, _, c', _, _, _, -, -, hf', -, -, -, hown2, -⟩ := Cond.laysFinal_spec hlay
    have e1 : c' = cf := by have := hif.symm.trans hf'; simp at this; exact this.1.symm
    rw [hdecl] at hown2
    rw [← e1]; exact Option.some.inj (hown.symm.trans hown2)
  have hif2 := hif
  dsimp only at hif2
  rw [zOwn ci h1 q h2] at hif2
  have hz := zfit_ok hfit bs b
  have h6 := u_fits hfc hkC hkind (Or.inr hlay) hif (hty q h2) hz.1 hz.2
  refine W.putFinK hx hb hown (hts _ (h3 rfl)) hif2 hst hcf (hin2 hin) (by rw [q2]; exact h6) q1 q3 (by rw [hsl]; exact k2_hasslot (q4 q h2)) rfl rfl hd fun H' e1 e2 e3 => ?_
  rw [hsl] at e1 ⊢
  refine k _ _ _ _ _ _ _ _ _ _ _ _ _ _ _ _ hC hret H' _ lsA (hH.set hak ⟨_, hcl, t_OB.to (V := updV (vp_V (vs.map (zvv bs b))) q (zvv bs b v)) ⟨_, e1, q2, q3, t_set q4 hap h2 _⟩ (fun j _ => ?_)⟩ e2 e3) (hS.put e2 e3 (Nat.le_add_right _ _)) hl hn hkc hks
  rw [List.map_set]
  exact vp_updV_set (by rw [List.length_map]; exact hq) _ j
theorem zr_iald {a n : Nat} {g : Nat → Int32} {i : Int32} (hd : decode (zB j) pc = .ok (.iaload, 1)) (hf : f a = some (zA n g)) (hin : vp_in i n) (k : Zv X j (pc + 1) ls (zi (g i.toNatClampNeg) :: st) sz f kc ks P) : Zv X j pc ls (zi i :: zr a :: st) sz f kc ks P := by
  intro p l e R s m args below meth c D cI cQ bs b Q hC hret H locs lsA hH hS hl hn hkc hks
  exact va_iald hC.1 hC.2.1 hC.2.2.2.2.2.2.2.1 (va_one (hH.2 a _ hf).2) 0 0 rfl rfl hin hd (k _ _ _ _ _ _ _ _ _ _ _ _ _ _ _ _ hC hret H locs lsA hH hS hl hn hkc hks)
theorem zr_sld {L : Nat} {xs : Nat → Int32} {i : Int32} (hd : decode (zB j) pc = .ok (.iaload, 1)) (hin : vp_in i L) (k : Zv (some (L, xs)) j (pc + 1) ls (zi (xs i.toNatClampNeg) :: st) sz f kc ks P) : Zv (some (L, xs)) j pc ls (zi i :: zsc :: st) sz f kc ks P := by
  intro p l e R s m args below meth c D cI cQ bs b Q hC hret H locs lsA hH hS hl hn hkc hks
  obtain ⟨hx, hb, -, -, -, -, -, -, hbs, -, hX, hbb⟩ := id hC
  exact va_sld hx hb hX (by omega) (Nat.not_le.mpr hbb) hS hin hd (k _ _ _ _ _ _ _ _ _ _ _ _ _ _ _ _ hC hret H locs lsA hH hS hl hn hkc hks)
theorem zr_slen {L : Nat} {xs : Nat → Int32} (hd : decode (zB j) pc = .ok (.arraylength, 1)) (k : Zv (some (L, xs)) j (pc + 1) ls (zi (nI L) :: st) sz f kc ks P) : Zv (some (L, xs)) j pc ls (zsc :: st) sz f kc ks P := by
  intro p l e R s m args below meth c D cI cQ bs b Q hC hret H locs lsA hH hS hl hn hkc hks
  obtain ⟨hx, hb, -, -, -, -, -, -, hbs, -, hX, hbb⟩ := id hC
  exact va_slen hx hb hX (by omega) (Nat.not_le.mpr hbb) hS hd (k _ _ _ _ _ _ _ _ _ _ _ _ _ _ _ _ hC hret H locs lsA hH hS hl hn hkc hks)
theorem zr_alen {a n : Nat} {g : Nat → Int32} (hd : decode (zB j) pc = .ok (.arraylength, 1)) (hf : f a = some (zA n g)) (k : Zv X j (pc + 1) ls (zi (nI n) :: st) sz f kc ks P) : Zv X j pc ls (zr a :: st) sz f kc ks P := by
  intro p l e R s m args below meth c D cI cQ bs b Q hC hret H locs lsA hH hS hl hn hkc hks
  exact va_alen hC.1 hC.2.1 hC.2.2.2.2.2.2.2.1 (va_one (hH.2 a _ hf).2) 0 0 rfl rfl rfl hd (k _ _ _ _ _ _ _ _ _ _ _ _ _ _ _ _ hC hret H locs lsA hH hS hl hn hkc hks)
theorem zr_alenQ {a n : Nat} {g : Nat → Option Nat} (hd : decode (zB j) pc = .ok (.arraylength, 1)) (hf : f a = some (zQ n g)) (k : Zv X j (pc + 1) ls (zi (nI n) :: st) sz f kc ks P) : Zv X j pc ls (zr a :: st) sz f kc ks P := by
  intro p l e R s m args below meth c D cI cQ bs b Q hC hret H locs lsA hH hS hl hn hkc hks
  exact va_alen hC.1 hC.2.1 hC.2.2.2.2.2.2.2.1 (va_one (hH.2 a _ hf).2) 0 1 rfl rfl rfl hd (k _ _ _ _ _ _ _ _ _ _ _ _ _ _ _ _ hC hret H locs lsA hH hS hl hn hkc hks)
theorem zr_iast {a n : Nat} {g : Nat → Int32} {i x : Int32} (hd : decode (zB j) pc = .ok (.iastore, 1)) (hf : f a = some (zA n g)) (hin : vp_in i n) (k : Zv X j (pc + 1) ls st sz (zup f a (zA n (upd g i.toNatClampNeg x))) kc ks P) : Zv X j pc ls (zi x :: zi i :: zr a :: st) sz f kc ks P := by
  intro p l e R s m args below meth c D cI cQ bs b Q hC hret H locs lsA hH hS hl hn hkc hks
  obtain ⟨hx, hb, -, hown, hts, -, hin2, hK, hbs, -⟩ := id hC
  obtain ⟨hak, ha⟩ := hH.2 a _ hf
  refine W.iast hx hb ha ((hK.2 0 _ rfl).1 n (fun j => .int (g j))) (fun q => by cases q) (by show ¬ (i < 0 ∨ (arrV _ _ _).slots.size ≤ _); rw [arrV_size]; exact hin) rfl rfl hd fun H1 e z oq => ?_
  refine k _ _ _ _ _ _ _ _ _ _ _ _ _ _ _ _ hC hret H1 _ lsA (hH.set hak ?_ z oq) (hS.put z oq (Nat.le_add_right _ _)) hl hn hkc hks
  show H1[bs + a]? = some (vp_cell _ _)
  rw [e]
  rw [vp_cell_i, vp_cell_i, arrV_store]
  congr 2
  funext q
  by_cases hq : q = i.toNatClampNeg
  · subst hq
    simp [updV, upd]
  · simp [updV, upd, hq]
theorem zr_aald {a n : Nat} {g : Nat → Option Nat} {i : Int32} (hd : decode (zB j) pc = .ok (.aaload, 1)) (hf : f a = some (zQ n g)) (hin : vp_in i n) (k : Zv X j (pc + 1) ls (zo (g i.toNatClampNeg) :: st) sz f kc ks P) : Zv X j pc ls (zi i :: zr a :: st) sz f kc ks P := by
  intro p l e R s m args below meth c D cI cQ bs b Q hC hret H locs lsA hH hS hl hn hkc hks
  have kk := k _ _ _ _ _ _ _ _ _ _ _ _ _ _ _ _ hC hret H locs lsA hH hS hl hn hkc hks
  refine va_aldq hC.1 hC.2.1 hC.2.2.2.2.2.2.2.1 (va_one (hH.2 a _ hf).2) 0 1 rfl rfl hin hd ?_
  cases hg : g i.toNatClampNeg with
  | none => rw [hg] at kk; exact kk
  | some q => rw [hg] at kk; exact kk
theorem zr_aast {a n v : Nat} {g : Nat → Option Nat} {vs : List ZVal} {i : Int32} (hd : decode (zB j) pc = .ok (.aastore, 1)) (hf : f a = some (zQ n g)) (hv : f v = some (zO 1 vs)) (hin : vp_in i n) (k : Zv X j (pc + 1) ls st sz (zup f a (zQ n (va_up g i.toNatClampNeg (some v)))) kc ks P) : Zv X j pc ls (zr v :: zi i :: zr a :: st) sz f kc ks P := by
  intro p l e R s m args below meth c D cI cQ bs b Q hC hret H locs lsA hH hS hl hn hkc hks
  obtain ⟨hx, hb, -, hown, hts, -, hin2, hK, hbs, -⟩ := id hC
  obtain ⟨hak, ha⟩ := hH.2 a _ hf
  obtain ⟨-, r', hr', cellV, g1, g2, g3, -⟩ := hH.2 v _ hv
  have hlt : i.toNatClampNeg < n := Nat.not_le.mp fun q => hin (Or.inr q)
  have h0 : ¬ i < 0 := fun q => hin (Or.inl q)
  have hcls := (hK.1 1 _ (zTyk 1 (by decide)).2.2).2
  obtain ⟨kA, comp, k1, k2, k3, -⟩ := (hK.2 1 _ rfl).2
  have hcomp : comp = D.1 1 := Option.some.inj (k3.symm.trans hcls.1)
  subst hcomp
  obtain ⟨kC, hkC, -⟩ := hcls.2
  refine W.aast hx hb ha (fun q h => by cases h) (fun h => by cases h) k1 k2 rfl hkC ⟨h0, by show _ < (arrV _ _ _).slots.size; rw [arrV_size]; exact hlt⟩ g1 (fun q h => by rw [g3] at h; cases h) (by rw [g2]; exact hkC) (by rw [g2]; exact va_assign hcls) rfl rfl hd fun H1 e z oq => ?_
  refine k _ _ _ _ _ _ _ _ _ _ _ _ _ _ _ _ hC hret H1 _ lsA (hH.set hak ?_ z oq) (hS.put z oq (Nat.le_add_right _ _)) hl hn hkc hks
  show H1[bs + a]? = some (vp_cell _ _)
  rw [e, vp_cell_q, vp_cell_q, arrV_store]
  congr 2
  funext q
  by_cases hq : q = i.toNatClampNeg
  · subst hq
    simp [updV, va_up, va_rf]
  · simp [updV, va_up, hq]
def zdv (ty : FieldType) : ZVal := match ty with
  | .int => zi 0
  | _ => zu
def zdf (ci : Nat) : List ZVal := (List.range (zCl ci).2.2).map (fun k => zdv (zty ci k))
def zplain (ty : FieldType) : Bool := match ty with
  | .int => true
  | .object _ => true
  | .array _ => true
  | _ => false
theorem zplain_all : ∀ ci, ci < 7 → ∀ k, k < (zCl ci).2.2 → zplain (zty ci k) = true := by decide +kernel
theorem zdf_ok {ci : Nat} (h : ci < 7) (bs b : Nat) : ∀ k, k < (zCl ci).2.2 → defaultValue (zty ci k) = vp_V ((zdf ci).map (zvv bs b)) k := by
  intro k hk
  have hp := zplain_all ci h k hk
  have e : ((zdf ci).map (zvv bs b))[k]? = some (zvv bs b (zdv (zty ci k))) := by
    simp [zdf, hk]
  unfold vp_V
  rw [List.getD_eq_getElem?_getD, e]
  unfold zplain at hp
  split at hp
  · rename_i h1; rw [h1]; rfl
  · rename_i h1; rw [h1]; rfl
  · rename_i h1; rw [h1]; rfl
  · cases hp
theorem zr_new {i ix ci : Nat} {ps : Nat × Nat × Nat} (hd : decode (zB j) pc = .ok (.new ix, 3)) (hi : zNtab[i]? = some ((zC j, ix), ci, ps)) (hr : kc + 1 ≤ zMc j ∧ ks + (zCl ci).2.2 ≤ zMs j) (k : Zv X j (pc + 3) ls (zr sz :: st) (sz + 1) (zup f sz (zO ci (zdf ci))) (kc + 1) (ks + (zCl ci).2.2) P) : Zv X j pc ls st sz f kc ks P := by
  intro p l e R s m args below meth c D cI cQ bs b Q hC hret H locs lsA hH hS hl hn hkc hks
  obtain ⟨hx, hb, -, hown, hts, -, hin2, hK, hbs, hR, -⟩ := id hC
  have h1 := List.all_eq_true.mp zNtab_ok _ (List.mem_of_getElem? hi)
  obtain ⟨p0, p1, p2⟩ := ps
  simp only [zNtabOk, Bool.and_eq_true, decide_eq_true_eq] at h1
  obtain ⟨⟨hci, w1⟩, w2, w3⟩ := h1
  obtain ⟨hty, hnm, hcl⟩ := zTyk ci hci
  have hKn := hK.1 ci _ hcl
  refine W.newcK hx hb hown (hts _ (zT_in (List.mem_of_getElem? w1.1) w1.2)) (hts _ (zT_in (List.mem_of_getElem? w2.1) w2.2)) (hts _ (zT_in (List.mem_of_getElem? w3.1) w3.2)) rfl hd (by omega) (by omega) hKn.2.1 (h := bs + sz) hH.1 fun H1 kC hkC e1 z1 o1 => ?_
  refine k _ _ _ _ _ _ _ _ _ _ _ _ _ _ _ _ hC hret H1 _ lsA (hH.push ?_ (by rw [z1, hH.1]) (fun q hq => o1 q (by rw [← hH.1]; exact hq))) ⟨Nat.le_trans hS.1 (by rw [z1, hH.1]; omega), fun x h1 h2 => (o1 x (by rw [← hH.1]; exact Nat.lt_of_lt_of_le h1 hS.1)).trans (hS.2.1 x h1 h2), hS.2.2⟩ hl hn hr.1 hr.2
  exact ⟨_, hcl, (u_born (zty ci) hts (zWk ci hci) hKn hkC e1 hty).to (zdf_ok hci bs b)⟩
theorem zr_newa {n : Int32} {N : Nat} (hd : decode (zB j) pc = .ok (.newarray .int, 2)) (hn0 : ¬ n < 0) (hN : n.toNatClampNeg = N) (hN2 : N ≤ 100000) (hr : kc + 1 ≤ zMc j ∧ ks + N ≤ zMs j) (k : Zv X j (pc + 2) ls (zr sz :: st) (sz + 1) (zup f sz (zA N (fun _ => 0))) (kc + 1) (ks + N) P) : Zv X j pc ls (zi n :: st) sz f kc ks P := by
  intro p l e R s m args below meth c D cI cQ bs b Q hC hret H locs lsA hH hS hl hn hkc hks
  obtain ⟨hx, hb, -, hown, hts, -, hin2, hK, hbs, hR, -⟩ := id hC
  refine va_newaK (atype := .int) hx hb (hts _ zT_arr) rfl hd rfl hn0 hN (by show N * 4 ≤ _; omega) (by omega) (by omega) (h := bs + sz) hH.1 fun H1 cA e1 z1 o1 hAr hNm => ?_
  have hcA : cA = cI := Option.some.inj (hNm.symm.trans (hK.2 0 _ rfl).2)
  subst hcA
  refine k _ _ _ _ _ _ _ _ _ _ _ _ _ _ _ _ hC hret H1 _ lsA (hH.push ?_ (by rw [z1, hH.1]) (fun q hq => o1 q (by rw [← hH.1]; exact hq))) ⟨Nat.le_trans hS.1 (by rw [z1, hH.1]; omega), fun x h1 h2 => (o1 x (by rw [← hH.1]; exact Nat.lt_of_lt_of_le h1 hS.1)).trans (hS.2.1 x h1 h2), hS.2.2⟩ hl hn hr.1 hr.2
  exact e1
theorem zr_newq {i ix p0 : Nat} {n : Int32} {N : Nat} (hd : decode (zB j) pc = .ok (.anewarray ix, 3)) (hi : zAtab[i]? = some ((zC j, ix), p0)) (hn0 : ¬ n < 0) (hN : n.toNatClampNeg = N) (hN2 : N ≤ 100000) (hr : kc + 1 ≤ zMc j ∧ ks + N ≤ zMs j) (k : Zv X j (pc + 3) ls (zr sz :: st) (sz + 1) (zup f sz (zQ N (fun _ => none))) (kc + 1) (ks + N) P) : Zv X j pc ls (zi n :: st) sz f kc ks P := by
  intro p l e R s m args below meth c D cI cQ bs b Q hC hret H locs lsA hH hS hl hn hkc hks
  obtain ⟨hx, hb, -, hown, hts, hNw, hin2, hK, hbs, hR, -⟩ := id hC
  have h1 := List.all_eq_true.mp zAtab_ok _ (List.mem_of_getElem? hi)
  simp only [zAtabOk, Bool.and_eq_true, decide_eq_true_eq] at h1
  subst hN
  refine W.anew hx hb hown (hts _ (zT_in (List.mem_of_getElem? h1.1) h1.2)) (va_AO.use (hNw _ (List.mem_filter.mpr ⟨zT_over, rfl⟩))) rfl hd rfl hn0 (by omega) (by omega) (by omega) fun cA kA comp f1 f2 f3 f4 => ?_
  obtain ⟨kA', comp', k1, k2, k3, k4⟩ := (hK.2 1 _ rfl).2
  have hcA : cA = cQ := Option.some.inj (f1.symm.trans k4)
  subst hcA
  generalize hH1 : H.push ({ cls := cA, slots := Array.replicate n.toNatClampNeg .null, vm := .none } : Cell) = H1
  have z1 : H1.size = H.size + 1 := by rw [← hH1, Array.size_push]
  have e1 : H1[H.size]? = some (arrV cA n.toNatClampNeg (fun _ => .null)) := by rw [← hH1, Array.getElem?_push_size, ← arrV_new]
  have o1 : ∀ q : Nat, q < H.size → H1[q]? = H[q]? := fun q hq => by rw [← hH1, Array.getElem?_push, if_neg (Nat.ne_of_lt hq)]
  rw [hH.1] at e1 ⊢
  refine k _ _ _ _ _ _ _ _ _ _ _ _ _ _ _ _ hC hret H1 _ lsA (hH.push ?_ z1 o1) ⟨Nat.le_trans hS.1 (by omega), fun x h1 h2 => (o1 x (Nat.lt_of_lt_of_le h1 hS.1)).trans (hS.2.1 x h1 h2), hS.2.2⟩ hl hn hr.1 hr.2
  show H1[bs + sz]? = some (vp_cell _ _)
  rw [e1, vp_cell_q]
  rfl
/-- what a method's contract takes and gives -/
def zWs (t : Nat) : List Cond := Cond.code (zy t) (zB t) (zML t) (zRet t) :: zT
def zPre (D : va_G) (cI cQ : ClassId) (bs b sz : Nat) (f : ZH) (U : State) : Prop := zHp D cI cQ bs b sz f U.heap ∧ va_K D vwCl (zTys cI cQ) U ∧ ∀ w ∈ zNs, va_Nw w U
def zPost (D : va_G) (cI cQ : ClassId) (bs b : Nat) (P : Option ZVal → Nat → ZH → Prop) : Array Value → State → Outcome → State → Prop := fun _ st o t => (∃ (r : Option ZVal) (sz : Nat) (f : ZH), o = .returned (r.map (zvv bs b)) ∧ P r sz f ∧ zHp D cI cQ bs b sz f t.heap) ∧ va_F (fun q => bs ≤ q) st t
theorem zMt {t : Nat} (ht : t < 125) : (plainFor (zy t) = true ∧ (zy t).cls = zRn (zC t) ∧ ((zy t).cls ≠ "java/lang/invoke/MethodHandle" ∧ (zy t).cls ≠ "java/lang/invoke/VarHandle") ∧ (parseMethodDescriptor (zy t).desc).map (fun d => d.parameters.length) = some (zNp t)) ∧ Cond.initialized (zy t).cls ∈ zT := by
  have hl : zMtab.map (·.1) = List.range 125 := by decide +kernel
  obtain ⟨q, hq, rfl⟩ := List.mem_map.mp (by rw [hl]; exact List.mem_range.mpr ht : t ∈ zMtab.map (·.1))
  have h1 := List.all_eq_true.mp zMtab_ok q hq
  simp only [zMtabOk, zMok, Bool.and_eq_true, decide_eq_true_eq] at h1
  obtain ⟨⟨⟨⟨⟨h1, h2⟩, h3⟩, h4⟩, h5⟩, h6, h7⟩ := h1
  exact ⟨⟨h1, h2, ⟨h3, h4⟩, h5⟩, zT_in (List.mem_of_getElem? h6) h7⟩
theorem zMet {t : Nat} (ht : t < 125) {as : List ZVal} {ls0 : List (Option ZVal)} (hls : ls0 = as.map some ++ List.replicate (zML t - as.length) none) (hal : as.length ≤ zML t) (k : Zv none t 0 ls0 [] sz f 0 0 P) (l : Launch) (D : va_G) (cI cQ : ClassId) (bs b : Nat) :
    Met l (zy t) (zWs t) (zRm t) (va_Pc (as.map (zvv bs b)) (zPre D cI cQ bs b sz f)) (zPost D cI cQ bs b P) (zMc t) (zMs t) (fun q => bs ≤ q) := by
  obtain ⟨⟨hpf, hcl, -, -⟩, -⟩ := zMt ht
  refine va_MetF (cc := zB t) (maxL := zML t) (ret := zRet t) hpf rfl ?_
  intro p e s m args below meth c s₁ B hml hv
  obtain ⟨rfl, hH, hK, hN⟩ := hv
  have hb := B.bytes
  have hx := B.exec
  have hr := B.returns
  have hlocks := B.notSynchronized
  have hts := atoms_spec (ws := zWs t) B.pre
  have hown : s.vm.findClass (zy t).cls = some m.cls := findClass_of_methodNamed B.named
  have hin : meth.name = (zy t).name := (name_of_methodNamed B.named B.method).1
  have hl := lv_entry (as.map (zvv bs b)) (n := zML t) (by rw [zsl_len]; exact hal)
  rw [lg_entry_eq]
  generalize (lg_sl (as.map (zvv bs b)) ++ List.replicate (zML t - (lg_sl (as.map (zvv bs b))).length) Slot.unset).toArray = lsA at hl ⊢
  refine k p l e _ s m _ below meth c D cI cQ bs b _ ⟨hx, hb, hml, by rw [← hcl]; exact hown, fun w hw => hts w (List.mem_cons_of_mem _ hw), hN, fun h => by rw [hin]; exact h, hK, by rw [hH.1]; exact Nat.le_add_right _ _, ⟨Nat.le_refl _, Nat.le_refl _, Nat.le_refl _, Nat.le_refl _⟩, trivial⟩ ?_ s.heap [] lsA hH va_S.rf ?_ ?_ (Nat.zero_le _) (Nat.zero_le _)
  · intro r sz' f' hP pc H locs lsA kc ks hH1 hS1 hkc hks hins
    refine W.widen hkc hks ?_
    have hq : ∀ (v : Option Value) (t' : State), v = r.map (zvv bs b) → t'.heap = H → s.WarmedH t'.vm → zPost D cI cQ bs b P (as.map (zvv bs b)).toArray s (.returned v) t' := fun v t' hv ht' _ => ⟨⟨r, sz', f', by rw [hv], hP, by rw [ht']; exact hH1⟩, hS1.F ht'⟩
    rcases hins with ⟨x, ty, rfl, h2, h3, h4⟩ | ⟨rfl, h2, h4⟩ | ⟨C, o, h2, rfl, h4⟩
    · exact W.zret hx hb (hr.trans h2) h3 (fun t' h5 h6 => hq _ t' rfl h5 h6) hS1.2.2 h4
    · exact W.vret hx hb (hr.trans h2) (fun t' h5 h6 => hq _ t' rfl h5 h6) hS1.2.2 h4
    · cases o with
      | none => exact W.aret (v := .null) hx hb (hr.trans h2) (Or.inl ⟨_, rfl⟩) (Or.inl rfl) (fun t' h5 h6 => hq _ t' rfl h5 h6) hS1.2.2 h4
      | some a => exact W.aret (v := .ref (bs + a)) hx hb (hr.trans h2) (Or.inl ⟨_, rfl⟩) (Or.inr ⟨_, rfl⟩) (fun t' h5 h6 => hq _ t' rfl h5 h6) hS1.2.2 h4
  · rw [hls, zargs]; exact hl
  · rw [hls, List.length_append, List.length_map, List.length_replicate]; omega
theorem zPc_blind {av : List Value} {D : va_G} {cI cQ : ClassId} {bs b : Nat} : FrameBlind (va_Pc av (zPre D cI cQ bs b sz f)) := by
  intro a U g mk h
  obtain ⟨h1, h2, h3, h4⟩ := h
  exact ⟨h1, h2, va_K.moved (u := U) (U := U.calling g mk a) (Vm.Alike.refl U.vm) h3, fun w hw => zNw_same (u := U) (U := U.calling g mk a) (List.mem_filter.mp hw).2 rfl (h4 w hw)⟩
theorem zGood (t : Nat) (ht : t < 125) : GoodIn zT (zWs t) := by
  intro w hw
  rcases List.mem_cons.mp hw with rfl | h
  · exact ⟨zMcode t ht, Or.inl rfl⟩
  · exact ⟨h, zT_good w h⟩
theorem zRet_go {p : Program} {l : Launch} {e : Env} {R : Room} {s : State} {m : MethodId} {args : Array Value} {below : List Frame} {meth : Method} {c : Code} {D : va_G} {cI cQ : ClassId} {bs b t : Nat} {Q : State → Prop} (hC : zCx X j p R s m args meth c D cI cQ bs b)
    (hret : ∀ (r : Option ZVal) (sz' : Nat) (f' : ZH), P r sz' f' → ∀ (pc : Nat) (H : Heap) (locs : List Loc) (lsA : Array Slot) (kc ks : Nat), zHp D cI cQ bs b sz' f' H → va_S (fun q => bs ≤ q) s.heap H locs → kc ≤ zMc j → ks ≤ zMs j → zRins j r pc → W p l e R s m args below meth c H locs kc ks Q (F0 m pc lsA (r.toList.map (zvv bs b))))
    {H : Heap} {locs : List Loc} {lsA : Array Slot} (hS : va_S (fun q => bs ≤ q) s.heap H locs) (hl : lv_has lsA (zML j) (zprs (zvv bs b) 0 ls)) (hn : ls.length = zML j) {rest : List ZVal} {stA : List Value} {a : Array Value}
    (hkk : kc + zMc t ≤ zMc j ∧ ks + zMs t ≤ zMs j) (hr : va_Run p l e R s m args below meth c H locs kc ks (zMc t) (zMs t) (F0 m pc lsA stA) (rest.map (zvv bs b)) (zPost D cI cQ bs b (fun r sz' f' => Zv X j (pc + 3) ls (zpush r rest) sz' f' (kc + zMc t) (ks + zMs t) P) a) (fun q => bs ≤ q)) : W p l e R s m args below meth c H locs kc ks Q (F0 m pc lsA stA) := by
  intro T hT XT
  obtain ⟨v, st₀, t', T', L, h0, X', hL, e1, e2, ⟨⟨r, sz', f', hv, hp, hb⟩, hz, hk⟩, st⟩ := hr T hT XT
  have hv : v = r.map (zvv bs b) := by
    have h := hv
    simp only [Outcome.returned.injEq] at h
    exact h
  subst hv
  rw [h0] at hz hk
  have hS' : va_S (fun q => bs ≤ q) s.heap T'.heap (locs ++ L) := ⟨Nat.le_trans hS.1 (by rw [e1]; exact hz), fun q h1 h2 => by rw [e1, hk q (Nat.lt_of_lt_of_le h1 hS.1) h2]; exact hS.2.1 q h1 h2, fun q hq => by
    rcases List.mem_append.mp hq with h | h
    · exact hS.2.2 q h
    · exact hL q h⟩
  have kk := hp _ _ _ _ _ _ _ _ _ _ _ _ _ _ _ _ hC hret T'.heap (locs ++ L) lsA (by rw [e1]; exact hb) hS' hl hn hkk.1 hkk.2
  have hst : (zpush r rest).map (zvv bs b) = (r.map (zvv bs b)).toList ++ rest.map (zvv bs b) := by cases r <;> rfl
  rw [hst] at kk
  obtain ⟨t2, a1, b1⟩ := kk T' rfl X'
  exact ⟨t2, st t2 a1, b1⟩
theorem zCt {i c ix k t p0 p1 p2 : Nat} (h : zCtab[i]? = some ((c, ix), (k, t), (p0, p1, p2))) : zCtabOk ((c, ix), (k, t), (p0, p1, p2)) = true := List.all_eq_true.mp zCtab_ok _ (List.mem_of_getElem? h)
/-- the frames and the words of locals that a callee wants -/
def zRoom (t j : Nat) : Prop := zRf t + 1 ≤ zRf j ∧ 8 + (zML t + 11) + zRl t ≤ zRl j
theorem zr_callS {i ix t : Nat} {ps : Nat × Nat × Nat} {as rest : List ZVal} {ls0 : List (Option ZVal)} (hd : decode (zB j) pc = .ok (.invokestatic ix, 3)) (hi : zCtab[i]? = some ((zC j, ix), (1, t), ps)) (ht : t < 125) (hn1 : as.length = zNp t) (hrest : rest.length ≤ 8) (hroom : zRoom t j) (hkk : kc + zMc t ≤ zMc j ∧ ks + zMs t ≤ zMs j) (hls : ls0 = as.map some ++ List.replicate (zML t - as.length) none) (hal : as.length ≤ zML t)
    (k : Zv none t 0 ls0 [] sz f 0 0 (fun r sz' f' => Zv X j (pc + 3) ls (zpush r rest) sz' f' (kc + zMc t) (ks + zMs t) P)) : Zv X j pc ls (as.reverse ++ rest) sz f kc ks P := by
  intro p l e R s m args below meth c D cI cQ bs b Q hC hret H locs lsA hH hS hl hn hkc hks
  obtain ⟨hx, hb, hml, hown, hts, hN, -, hK, hbs, hR, -⟩ := id hC
  obtain ⟨p0, p1, p2⟩ := ps
  have h1 := zCt hi
  simp only [zCtabOk, Bool.and_eq_true, decide_eq_true_eq] at h1
  obtain ⟨w1, w2⟩ := h1
  obtain ⟨⟨-, -, hmh, hnp⟩, hini⟩ := zMt ht
  have hM := zMet ht hls hal k l D cI cQ bs b
  have hG : GoodIn zT (va_wsS (zRn (zC j)) ix (zy t) (zWs t)) := by
    intro w hw
    rcases List.mem_append.mp hw with h | h
    · have hw2 : w ∈ zT := by
        simp only [List.mem_cons, List.not_mem_nil, or_false] at h
        rcases h with rfl | rfl | rfl
        · exact zT_in (List.mem_of_getElem? w1.1) w1.2
        · exact zT_in (List.mem_of_getElem? w2.1) w2.2
        · exact hini
      exact ⟨hw2, zT_good w hw2⟩
    · exact zGood t ht w h
  have cw := va_cwS (R := R) (rm := zRm t) (mc := zMc t) (ms := zMs t) (zNp t) hts hG rfl rfl rfl ⟨hmh.1, hmh.2, hnp⟩ ⟨Nat.le_trans hroom.1 hR.1, Nat.le_trans hroom.2 hR.2.1⟩
  refine zRet_go hC hret hS hl hn hkk (va_runS (As := as.map (zvv bs b)) (rest := rest.map (zvv bs b)) ⟨hx, hb, hml, hown, hts⟩ hM cw ⟨zPc_blind, fun U hU hW => ⟨rfl, by rw [hU]; exact hH, va_K.moved hW.alike hK, fun w hw => zNw_warm (List.mem_filter.mp hw).2 hW (hN w hw)⟩⟩ rfl (by rw [List.length_map]; exact hn1) hl.1 (by rw [List.map_append, List.map_reverse]) (lv_room (by rw [zvv_sum]; exact hrest)) hd ⟨Nat.le_trans hkk.1 hR.2.2.1, Nat.le_trans hkk.2 hR.2.2.2⟩)
theorem zr_callV {i ix t a : Nat} {ps : Nat × Nat × Nat} {as rest vs : List ZVal} {ls0 : List (Option ZVal)} (hd : decode (zB j) pc = .ok (.invokevirtual ix, 3)) (hi : zCtab[i]? = some ((zC j, ix), (0, t), ps)) (ht : t < 125) (hct : zC t < 7) (hn1 : as.length = zNp t) (hrest : rest.length ≤ 8) (hroom : zRoom t j) (hkk : kc + zMc t ≤ zMc j ∧ ks + zMs t ≤ zMs j) (hls : ls0 = (zr a :: as).map some ++ List.replicate (zML t - (zr a :: as).length) none) (hal : (zr a :: as).length ≤ zML t) (hcl1 : (zCl (zC t)).1 = (zy t).cls) (hf : f a = some (zO (zC t) vs))
    (k : Zv none t 0 ls0 [] sz f 0 0 (fun r sz' f' => Zv X j (pc + 3) ls (zpush r rest) sz' f' (kc + zMc t) (ks + zMs t) P)) : Zv X j pc ls (as.reverse ++ zr a :: rest) sz f kc ks P := by
  intro p l e R s m args below meth c D cI cQ bs b Q hC hret H locs lsA hH hS hl hn hkc hks
  obtain ⟨hx, hb, hml, hown, hts, hN, -, hK, hbs, hR, -⟩ := id hC
  obtain ⟨p0, p1, p2⟩ := ps
  have h1 := zCt hi
  simp only [zCtabOk, Bool.and_eq_true, decide_eq_true_eq] at h1
  obtain ⟨w1, w2, w3⟩ := h1
  obtain ⟨⟨-, -, hmh, hnp⟩, hini⟩ := zMt ht
  have hM := zMet ht hls hal k l D cI cQ bs b
  have hG : GoodIn zT (wsV (zRn (zC j)) ix (zy t).cls (zy t) (zWs t)) := by
    intro w hw
    rcases List.mem_append.mp hw with h | h
    · have hw2 : w ∈ zT := by
        simp only [List.mem_cons, List.not_mem_nil, or_false] at h
        rcases h with rfl | rfl | rfl | rfl
        · exact zT_in (List.mem_of_getElem? w1.1) w1.2
        · exact zT_in (List.mem_of_getElem? w2.1) w2.2
        · exact zT_in (List.mem_of_getElem? w3.1) w3.2
        · exact hini
      exact ⟨hw2, zT_good w hw2⟩
    · exact zGood t ht w h
  have cw := cwV (R := R) (rm := zRm t) (mc := zMc t) (ms := zMs t) (zNp t) hts hG rfl rfl rfl ⟨rfl, hmh.1, hmh.2, hnp⟩ ⟨Nat.le_trans hroom.1 hR.1, Nat.le_trans hroom.2 hR.2.1⟩
  have hrv := va_recv hK (va_one (hH.2 a _ hf).2) (zTyk (zC t) hct).2.2 (q0 := 0) rfl
  rw [show ((zCl (zC t)).1, (zCl (zC t)).2.1, (zCl (zC t)).2.2).1 = (zy t).cls from hcl1] at hrv
  refine zRet_go hC hret hS hl hn hkk (va_runV (b := bs + a) (As := as.map (zvv bs b)) (rest := rest.map (zvv bs b)) ⟨hx, hb, hml, hown, hts⟩ hM cw ⟨zPc_blind, hrv, fun U hU hW => ⟨rfl, by rw [hU]; exact hH, va_K.moved hW.alike hK, fun w hw => zNw_warm (List.mem_filter.mp hw).2 hW (hN w hw)⟩⟩ rfl (by rw [List.length_map]; exact hn1) hl.1 (by rw [List.map_append, List.map_reverse]; rfl) (lv_room (by rw [zvv_sum]; exact hrest)) hd ⟨Nat.le_trans hkk.1 hR.2.2.1, Nat.le_trans hkk.2 hR.2.2.2⟩)
theorem zr_callI {i ix t a : Nat} {ps : Nat × Nat × Nat} {as rest : List ZVal} {ls0 : List (Option ZVal)} (hd : decode (zB j) pc = .ok (.invokespecial ix, 3)) (hi : zCtab[i]? = some ((zC j, ix), (2, t), ps)) (ht : t < 125) (hn1 : as.length = zNp t) (hrest : rest.length ≤ 8) (hroom : zRoom t j) (hkk : kc + zMc t ≤ zMc j ∧ ks + zMs t ≤ zMs j) (hls : ls0 = (zr a :: as).map some ++ List.replicate (zML t - (zr a :: as).length) none) (hal : (zr a :: as).length ≤ zML t)
    (k : Zv none t 0 ls0 [] sz f 0 0 (fun r sz' f' => Zv X j (pc + 3) ls (zpush r rest) sz' f' (kc + zMc t) (ks + zMs t) P)) : Zv X j pc ls (as.reverse ++ zr a :: rest) sz f kc ks P := by
  intro p l e R s m args below meth c D cI cQ bs b Q hC hret H locs lsA hH hS hl hn hkc hks
  obtain ⟨hx, hb, hml, hown, hts, hN, -, hK, hbs, hR, -⟩ := id hC
  obtain ⟨p0, p1, p2⟩ := ps
  have h1 := zCt hi
  simp only [zCtabOk, Bool.and_eq_true, decide_eq_true_eq] at h1
  obtain ⟨w1, w2, w3, w4⟩ := h1
  obtain ⟨⟨-, -, hmh, hnp⟩, hini⟩ := zMt ht
  have hM := zMet ht hls hal k l D cI cQ bs b
  have cw := cwI (R := R) (rm := zRm t) (mc := zMc t) (ms := zMs t) (own := zRn (zC j)) (index := ix) (y := zy t) (bytes := zB t) (maxL := zML t) (ws' := zT) (zNp t) hts (zGood t ht) (by rw [← w4]; rfl) rfl rfl (hts _ hini) (hts _ (zT_in (List.mem_of_getElem? w1.1) w1.2)) (hts _ (zT_in (List.mem_of_getElem? w2.1) w2.2)) w3 ⟨hmh.1, hmh.2, hnp⟩ ⟨Nat.le_trans hroom.1 hR.1, Nat.le_trans hroom.2 hR.2.1⟩
  refine zRet_go hC hret hS hl hn hkk (va_runI (b := bs + a) (As := as.map (zvv bs b)) (rest := rest.map (zvv bs b)) ⟨hx, hb, hml, hown, hts⟩ hM cw ⟨zPc_blind, fun U hU hW => ⟨rfl, by rw [hU]; exact hH, va_K.moved hW.alike hK, fun w hw => zNw_warm (List.mem_filter.mp hw).2 hW (hN w hw)⟩⟩ rfl (by rw [List.length_map]; exact hn1) hl.1 (by rw [List.map_append, List.map_reverse]; rfl) (lv_room (by rw [zvv_sum]; exact hrest)) hd ⟨Nat.le_trans hkk.1 hR.2.2.1, Nat.le_trans hkk.2 hR.2.2.2⟩)
theorem zr_callSN {i ix t : Nat} {ps : Nat × Nat × Nat} {as rest : List ZVal} {ls0 : List (Option ZVal)} (hd : decode (zB j) pc = .ok (.invokestatic ix, 3)) (hi : zCtab[i]? = some ((zC j, ix), (4, t), ps)) (ht : t < 125) (hn1 : as.length = zNp t) (hrest : rest.length ≤ 8) (hroom : zRoom t j) (hkk : kc + zMc t ≤ zMc j ∧ ks + zMs t ≤ zMs j) (hls : ls0 = as.map some ++ List.replicate (zML t - as.length) none) (hal : as.length ≤ zML t)
    (k : Zv none t 0 ls0 [] sz f 0 0 (fun r sz' f' => Zv X j (pc + 3) ls (zpush r rest) sz' f' (kc + zMc t) (ks + zMs t) P)) : Zv X j pc ls (as.reverse ++ rest) sz f kc ks P := by
  intro p l e R s m args below meth c D cI cQ bs b Q hC hret H locs lsA hH hS hl hn hkc hks
  obtain ⟨hx, hb, hml, hown, hts, hN, -, hK, hbs, hR, -⟩ := id hC
  obtain ⟨p0, p1, p2⟩ := ps
  have h1 := zCt hi
  simp only [zCtabOk, Bool.and_eq_true, decide_eq_true_eq] at h1
  obtain ⟨w1, w2⟩ := h1
  obtain ⟨⟨-, -, hmh, hnp⟩, hini⟩ := zMt ht
  have hM := zMet ht hls hal k l D cI cQ bs b
  have cw := va_cnB (R := R) (rm := zRm t) (mc := zMc t) (ms := zMs t) (own := zRn (zC j)) (index := ix) (y := zy t) (host := RX5) (bytes := zB t) (maxL := zML t) (ret := zRet t) (ws' := zT) (zNp t) hts (zGood t ht) rfl rfl rfl (hN _ (zNs_in w1 rfl)) (hts _ hini) ⟨hmh.1, hmh.2, hnp⟩ ⟨Nat.le_trans hroom.1 hR.1, Nat.le_trans hroom.2 hR.2.1⟩
  refine zRet_go hC hret hS hl hn hkk (va_runSN (As := as.map (zvv bs b)) (rest := rest.map (zvv bs b)) ⟨hx, hb, hml, hown, hts⟩ hM ⟨cw, hts _ (zT_in (List.mem_of_getElem? w2.1) w2.2), trivial⟩ ⟨zPc_blind, fun U hU hW => ⟨rfl, by rw [hU]; exact hH, va_K.moved hW.alike hK, fun w hw => zNw_warm (List.mem_filter.mp hw).2 hW (hN w hw)⟩⟩ rfl (by rw [List.length_map]; exact hn1) hl.1 (by rw [List.map_append, List.map_reverse]) (lv_room (by rw [zvv_sum]; exact hrest)) hd ⟨Nat.le_trans hkk.1 hR.2.2.1, Nat.le_trans hkk.2 hR.2.2.2⟩)
theorem zr_callIN {i ix t a : Nat} {ps : Nat × Nat × Nat} {as rest : List ZVal} {ls0 : List (Option ZVal)} (hd : decode (zB j) pc = .ok (.invokespecial ix, 3)) (hi : zCtab[i]? = some ((zC j, ix), (5, t), ps)) (ht : t < 125) (hn1 : as.length = zNp t) (hrest : rest.length ≤ 8) (hroom : zRoom t j) (hkk : kc + zMc t ≤ zMc j ∧ ks + zMs t ≤ zMs j) (hls : ls0 = (zr a :: as).map some ++ List.replicate (zML t - (zr a :: as).length) none) (hal : (zr a :: as).length ≤ zML t)
    (k : Zv none t 0 ls0 [] sz f 0 0 (fun r sz' f' => Zv X j (pc + 3) ls (zpush r rest) sz' f' (kc + zMc t) (ks + zMs t) P)) : Zv X j pc ls (as.reverse ++ zr a :: rest) sz f kc ks P := by
  intro p l e R s m args below meth c D cI cQ bs b Q hC hret H locs lsA hH hS hl hn hkc hks
  obtain ⟨hx, hb, hml, hown, hts, hN, -, hK, hbs, hR, -⟩ := id hC
  obtain ⟨p0, p1, p2⟩ := ps
  have h1 := zCt hi
  simp only [zCtabOk, Bool.and_eq_true, decide_eq_true_eq] at h1
  obtain ⟨w1, w2, w3, w4⟩ := h1
  obtain ⟨⟨-, -, hmh, hnp⟩, hini⟩ := zMt ht
  have hM := zMet ht hls hal k l D cI cQ bs b
  have cw := va_cnB (R := R) (rm := zRm t) (mc := zMc t) (ms := zMs t) (own := zRn (zC j)) (index := ix) (y := zy t) (host := RX5) (bytes := zB t) (maxL := zML t) (ret := none) (ws' := zT) (zNp t) hts (zGood t ht) (by rw [← w4]; rfl) rfl rfl (hN _ (zNs_in w1 rfl)) (hts _ hini) ⟨hmh.1, hmh.2, hnp⟩ ⟨Nat.le_trans hroom.1 hR.1, Nat.le_trans hroom.2 hR.2.1⟩
  refine zRet_go hC hret hS hl hn hkk (va_runIN (b := bs + a) (As := as.map (zvv bs b)) (rest := rest.map (zvv bs b)) ⟨hx, hb, hml, hown, hts⟩ hM ⟨cw, w3, hts _ (zT_in (List.mem_of_getElem? w2.1) w2.2)⟩ ⟨zPc_blind, fun U hU hW => ⟨rfl, by rw [hU]; exact hH, va_K.moved hW.alike hK, fun w hw => zNw_warm (List.mem_filter.mp hw).2 hW (hN w hw)⟩⟩ rfl (by rw [List.length_map]; exact hn1) hl.1 (by rw [List.map_append, List.map_reverse]; rfl) (lv_room (by rw [zvv_sum]; exact hrest)) hd ⟨Nat.le_trans hkk.1 hR.2.2.1, Nat.le_trans hkk.2 hR.2.2.2⟩)
theorem zr_objInit {i ix a : Nat} {ps : Nat × Nat × Nat} {rest : List ZVal} (hd : decode (zB j) pc = .ok (.invokespecial ix, 3)) (hi : zCtab[i]? = some ((zC j, ix), (6, 0), ps)) (hrest : rest.length ≤ 8) (hroom : 1 ≤ zRf j ∧ 20 ≤ zRl j) (k : Zv X j (pc + 3) ls rest sz f kc ks P) : Zv X j pc ls (zr a :: rest) sz f kc ks P := by
  intro p l e R s m args below meth c D cI cQ bs b Q hC hret H locs lsA hH hS hl hn hkc hks
  obtain ⟨hx, hb, hml, hown, hts, hN, -, hK, hbs, hR, -⟩ := id hC
  obtain ⟨p0, p1, p2⟩ := ps
  have h1 := zCt hi
  simp only [zCtabOk, Bool.and_eq_true, decide_eq_true_eq] at h1
  refine W.objInit hx hb hown (hts _ (zT_in (List.mem_of_getElem? h1.1) h1.2)) (hts _ zT_obj.1) (hts _ zT_obj.2) rfl (by rw [hml]; exact hl.1) rfl hd (Nat.le_trans hroom.1 hR.1) ?_ (k _ _ _ _ _ _ _ _ _ _ _ _ _ _ _ _ hC hret H locs lsA hH hS hl hn hkc hks)
  have := lv_room (m := m) (pc := pc) (ls := lsA) (rest := (zr a :: rest).map (zvv bs b)) (st := rest.map (zvv bs b)) (by rw [zvv_sum]; exact hrest)
  omega
end ZR
