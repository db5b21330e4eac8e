/-! THE GROWING MACHINE: constructors, whose worlds grow cell by cell. -/
def uI (E : vE) (U : State) : Prop := va_K E.2.1 vwCl (vtys E) U ∧ (∀ q ∈ vNest, va_Nw (.methodLinkNest q.1 q.2.1 q.2.2 "DoorTown") U) ∧ va_AO "DoorTown$Town" U ∧ va_AO "DoorTown$Sheet" U
theorem uI.warm {E : vE} {s U : State} (hW : s.WarmedH U.vm) (h : uI E s) : uI E U := ⟨va_K.moved hW.alike h.1, fun q hq => va_Nw.warmM hW (h.2.1 q hq), h.2.2.1.moved hW.alike, h.2.2.2.moved hW.alike⟩
theorem uI.same {E : vE} {s U : State} (hv : U.vm = s.vm) (h : uI E s) : uI E U := by
  have ha : s.vm.Alike U.vm := by rw [hv]; exact Vm.Alike.refl s.vm
  exact ⟨va_K.moved ha h.1, fun q hq => va_Nw.same rfl hv.symm (h.2.1 q hq), h.2.2.1.moved ha, h.2.2.2.moved ha⟩
def uG (x : vX) (A : Nat → Prop) (own : String) (cc : ByteArray) (nL : Nat) (ret : Option FieldType) (dd MC MS : Nat) : Prop :=
  (xp x).tables.exec = Jvm.exec ∧ (xc x).code = cc ∧ (xc x).maxLocals = nL ∧ (xM x).sig.returnType = ret ∧ (xs x).vm.findClass own = some (xm x).cls ∧ (∀ w ∈ BIG, w.before (xa x) (xs x) = true) ∧ uI (xE x) (xs x) ∧ (xM x).locks = false ∧ (∀ q : Nat, (xs x).heap.size ≤ q → A q) ∧ (dd ≤ (xR x).frames ∧ 40 * dd ≤ (xR x).locals ∧ MC ≤ (xR x).cells ∧ MS ≤ (xR x).slots)
def UU (x : vX) (A : Nat → Prop) (ws : va_W) (k n pc : Nat) (L : List (Nat × Value)) (st : List Value) : Prop :=
  ∀ (H : Heap) (locs : List Loc) (ls : Array Slot), va_P (xE x).2.1 vwCl ws H → va_D A ws → va_S A (xs x).heap H locs → lv_has ls (xc x).maxLocals L → W (xp x) (xl x) (xe x) (xR x) (xs x) (xm x) (xa x) (xb x) (xM x) (xc x) H locs k n (xQ x) (F0 (xm x) pc ls st)
section UR
variable {x : vX} {A : Nat → Prop} {own : String} {cc : ByteArray} {nL dd MC MS : Nat} {ret : Option FieldType} {pc k n : Nat} {L : List (Nat × Value)} {st : List Value} {ws : va_W}
theorem u_aload {k1 : Fin 4} {i a : Nat} (G : uG x A own cc nL ret dd MC MS) (j : Nat) (dg : decode cc pc = .ok (.aload_n k1, 1)) (hi : (k1 : Nat) = i) (hj : L[j]? = some (i, .ref a)) (k0 : UU x A ws k n (pc + 1) L (.ref a :: st)) : UU x A ws k n pc L st := by
  intro H locs ls hP hD hS hl
  exact lv_aload_n G.1 G.2.1 dg hi (lv_at hl j hj) (k0 H locs ls hP hD hS hl)
theorem u_iload {k1 : Fin 4} {i : Nat} {v : Int32} (G : uG x A own cc nL ret dd MC MS) (j : Nat) (dg : decode cc pc = .ok (.iload_n k1, 1)) (hi : (k1 : Nat) = i) (hj : L[j]? = some (i, .int v)) (k0 : UU x A ws k n (pc + 1) L (.int v :: st)) : UU x A ws k n pc L st := by
  intro H locs ls hP hD hS hl
  exact lv_iload_n G.1 G.2.1 dg hi (lv_at hl j hj) (k0 H locs ls hP hD hS hl)
theorem u_dup {v : Value} (G : uG x A own cc nL ret dd MC MS) (dg : decode cc pc = .ok (.dup, 1)) (hv : v.category = 1) (k0 : UU x A ws k n (pc + 1) L (v :: v :: st)) : UU x A ws k n pc L (v :: st) := by
  intro H locs ls hP hD hS hl
  exact lv_dup G.1 G.2.1 dg hv (k0 H locs ls hP hD hS hl)
theorem u_objInit {idx a : Nat} (G : uG x A own cc nL ret dd MC MS) (hd : 1 ≤ dd) (lk : Cond.methodLink own idx objectInit ∈ BIG) (h2 : Cond.instanceMethod objectInit ∈ BIG) (h3 : Cond.code objectInit ⟨#[0xb1]⟩ 1 none ∈ BIG) (hst : st = []) (dg : decode cc pc = .ok (.invokespecial idx, 3)) (k0 : UU x A ws k n (pc + 3) L st) : UU x A ws k n pc L (.ref a :: st) := by
  intro H locs ls hP hD hS hl
  subst hst
  have hroom := G.2.2.2.2.2.2.2.2.2
  have hg := G.2.2.2.2.2.1
  refine W.objInit G.1 G.2.1 G.2.2.2.2.1 (hg _ lk) (hg _ h2) (hg _ h3) rfl hl.1 rfl dg (by omega) ?_ ?_
  · show 2 * 0 + 0 + 12 ≤ _
    omega
  · exact W.eq (g2 := F0 (xm x) (pc + 3) ls []) rfl (k0 H locs ls hP hD hS hl)
theorem u_new {ci N idx : Nat} {C : String} {T : u_T} {ty : Nat → FieldType} {fs : List Value} (G : uG x A own cc nL ret dd MC MS) (hq : vwCl[ci]? = some (C, T, N)) (hC : vClsOk ci) (hT : vTyOk ci ty) (cl : Cond.classLink own idx C ∈ BIG) (hi : Cond.instantiable C N ∈ BIG) (hz : Cond.initialized C ∈ BIG) (hfs : ∀ j, j < N → defaultValue (ty j) = vp_V fs j) (hk : k + 1 ≤ MC) (hn : n + N ≤ MS) (dg : decode cc pc = .ok (.new idx, 3)) (k0 : ∀ q : Nat, UU x A (ws ++ [(q, .inr (ci, fs))]) (k + 1) (n + N) (pc + 3) L (.ref q :: st)) : UU x A ws k n pc L st := by
  intro H locs ls hP hD hS hl
  have hroom := G.2.2.2.2.2.2.2.2.2
  have hg := G.2.2.2.2.2.1
  exact va_new (C := C) (T := T) (N := N) G.1 G.2.1 hg (hC _ hq).1 ty (hT _ hq) G.2.2.2.2.1 (hg _ cl) (hg _ hi) (hg _ hz) G.2.2.2.2.2.2.1.1 hP hD hS G.2.2.2.2.2.2.2.2.1 hq hfs (by omega) (by omega) dg (fun q H1 hP1 hD1 hS1 => k0 q H1 locs ls hP1 hD1 hS1 hl)
theorem u_newa {atype : ArrayType} {v : Int32} {N : Nat} (t : Nat) (G : uG x A own cc nL ret dd MC MS) (harr : Cond.arrayClass (newarray.typeOf atype) ∈ BIG) (ht : t < 3) (hty : newarray.typeOf atype = if t = 0 then .int else if t = 1 then .byte else .boolean) (hv : ¬ v < 0) (hN : v.toNatClampNeg = N) (hb : N ≤ 1000) (hk : k + 1 ≤ MC) (hn : n + N ≤ MS) (dg : decode cc pc = .ok (.newarray atype, 2)) (k0 : ∀ q : Nat, UU x A (ws ++ [(q, .inl ((xE x).2.2.1 t, N, .inl (fun _ => 0)))]) (k + 1) (n + N) (pc + 2) L (.ref q :: st)) : UU x A ws k n pc L (.int v :: st) := by
  intro H locs ls hP hD hS hl
  have hroom := G.2.2.2.2.2.2.2.2.2
  have hg := G.2.2.2.2.2.1
  have hK := G.2.2.2.2.2.2.1.1
  refine va_newa (a0 := (N, .inl (fun _ => 0))) G.1 G.2.1 (hg _ harr) hty hK hP hD hS G.2.2.2.2.2.2.2.2.1 ?_ hv hN ?_ (by omega) (by omega) dg (fun q cA H1 hK1 hP1 hD1 hS1 => ?_)
  · intro cA
    rw [vp_cell_i]
    match t, ht with
    | 0, _ => rfl
    | 1, _ => rfl
    | 2, _ => rfl
  · have : componentBytes (if t = 0 then FieldType.int else if t = 1 then .byte else .boolean) ≤ 4 := by
      match t, ht with
      | 0, _ => decide
      | 1, _ => decide
      | 2, _ => decide
    calc _ ≤ N * 4 := Nat.mul_le_mul_left _ this
      _ ≤ _ := by omega
  · have h1 := (hK1.2 5 (cA, _) rfl).2
    have h2 := (hK.2 t _ (vty_at (xE x) ht)).2
    have e : cA = (xE x).2.2.1 t := by
      match t, ht, h1, h2 with
      | 0, _, h1, h2 => exact Option.some.inj (Eq.trans (Eq.symm h1) h2)
      | 1, _, h1, h2 => exact Option.some.inj (Eq.trans (Eq.symm h1) h2)
      | 2, _, h1, h2 => exact Option.some.inj (Eq.trans (Eq.symm h1) h2)
    subst e
    exact k0 q H1 locs ls hP1 hD1 hS1 hl
theorem u_newq {idx : Nat} {v : Int32} {N : Nat} {C : String} (t : Nat) (G : uG x A own cc nL ret dd MC MS) (cl : Cond.classLink own idx C ∈ BIG) (ho : va_AO C (xs x)) (ht : ∀ E : vE, (vtys E)[t]? = some (E.2.2.1 t, .object C)) (hv : ¬ v < 0) (hN : v.toNatClampNeg = N) (hb : N ≤ 1000) (hk : k + 1 ≤ MC) (hn : n + N ≤ MS) (dg : decode cc pc = .ok (.anewarray idx, 3)) (k0 : ∀ q : Nat, UU x A (ws ++ [(q, .inl ((xE x).2.2.1 t, N, .inr (.inr (.inr (.inr (fun _ => none))))))]) (k + 1) (n + N) (pc + 3) L (.ref q :: st)) : UU x A ws k n pc L (.int v :: st) := by
  intro H locs ls hP hD hS hl
  have hroom := G.2.2.2.2.2.2.2.2.2
  have hg := G.2.2.2.2.2.1
  have hK := G.2.2.2.2.2.2.1.1
  refine va_newq G.1 G.2.1 G.2.2.2.2.1 (hg _ cl) ho hK hP hD hS G.2.2.2.2.2.2.2.2.1 hv hN (by omega) (by omega) (by omega) dg (fun q cA H1 hK1 hP1 hD1 hS1 => ?_)
  have h1 := (hK1.2 5 (cA, _) rfl).2
  have h2 := (hK.2 t _ (ht (xE x))).2
  obtain ⟨_, _, _, _, _, e1⟩ := h1
  obtain ⟨_, _, _, _, _, e2⟩ := h2
  have e : cA = (xE x).2.2.1 t := Option.some.inj (Eq.trans (Eq.symm e1) e2)
  subst e
  exact k0 q H1 locs ls hP1 hD1 hS1 hl
/-- a final field, once, in its own class's constructor -/
def uFit (own : String) (ci k : Nat) (v : Value) : Prop := ∀ q : vw_C, vwCl[ci]? = some q → (q.2.1 k).2.2.2 = true ∧ (q.2.1 k).1 = own ∧ ∃ ty, parseFieldDescriptor (q.2.1 k).2.2.1 = some ty ∧ narrow ty v = v ∧ fits ty v = true
theorem u_putF {ci f idx a : Nat} {v : Value} {fs : List Value} {ty0 : Nat → FieldType} (q0 : Nat) (G : uG x A own cc nL ret dd MC MS) (hin : (xM x).name = "<init>") (hC : vClsOk ci) (hT : vTyOk ci ty0) (lk : vLk own idx ci f) (hf : uFit own ci f v) (he : ws[q0]? = some (a, .inr (ci, fs))) (hl0 : f < fs.length) (dg : decode cc pc = .ok (.putfield idx, 3)) (k0 : UU x A (ws.set q0 (a, .inr (ci, fs.set f v))) k n (pc + 3) L st) : UU x A ws k n pc L (v :: .ref a :: st) := by
  intro H locs ls hP hD hS hl
  obtain ⟨⟨C, T, N⟩, hq, hk, hw⟩ := lk
  obtain ⟨hfin, ho, ty, hty, hn, hfit⟩ := hf _ hq
  exact va_putF (C := C) (T := T) (N := N) (v := v) G.1 G.2.1 G.2.2.2.2.2.1 (hC _ hq).1 ty0 (hT _ hq) (hC _ hq).2 G.2.2.2.2.1 G.2.2.2.2.2.2.1.1 hP hD hS q0 he hq f hk (G.2.2.2.2.2.1 _ hw) (fun _ h => h) hfin hin ho hty hn hfit hl0 dg (fun H1 locs1 hP1 hD1 hS1 => k0 H1 locs1 ls hP1 hD1 hS1 hl)
theorem u_put {ci f idx a : Nat} {v : Int32} {fs : List Value} {ty0 : Nat → FieldType} (q0 : Nat) (G : uG x A own cc nL ret dd MC MS) (hC : vClsOk ci) (hT : vTyOk ci ty0) (lk : vLk own idx ci f) (hf : vFit ci f v) (he : ws[q0]? = some (a, .inr (ci, fs))) (hl0 : f < fs.length) (dg : decode cc pc = .ok (.putfield idx, 3)) (k0 : UU x A (ws.set q0 (a, .inr (ci, fs.set f (.int v)))) k n (pc + 3) L st) : UU x A ws k n pc L (.int v :: .ref a :: st) := by
  intro H locs ls hP hD hS hl
  obtain ⟨⟨C, T, N⟩, hq, hk, hw⟩ := lk
  obtain ⟨hfin, ty, hty, hn, hfit⟩ := hf _ hq
  exact va_put (C := C) (T := T) (N := N) (v := .int v) G.1 G.2.1 G.2.2.2.2.2.1 (hC _ hq).1 ty0 (hT _ hq) (hC _ hq).2 G.2.2.2.2.1 G.2.2.2.2.2.2.1.1 hP hD hS q0 he hq f hk (G.2.2.2.2.2.1 _ hw) (fun _ h => h) hfin hty hn hfit hl0 dg (fun H1 locs1 hP1 hD1 hS1 => k0 H1 locs1 ls hP1 hD1 hS1 hl)
theorem u_get {ci f idx a : Nat} {v : Value} {fs : List Value} (q0 : Nat) (G : uG x A own cc nL ret dd MC MS) (hC : vClsOk ci) (lk : vLk own idx ci f) (he : ws[q0]? = some (a, .inr (ci, fs))) (hv : fs[f]? = some v) (dg : decode cc pc = .ok (.getfield idx, 3)) (k0 : UU x A ws k n (pc + 3) L (v :: st)) : UU x A ws k n pc L (.ref a :: st) := by
  intro H locs ls hP hD hS hl
  obtain ⟨⟨C, T, N⟩, hq, hk, hw⟩ := lk
  exact va_get (C := C) (T := T) (N := N) G.1 G.2.1 G.2.2.2.2.2.1 (hC _ hq).1 G.2.2.2.2.1 G.2.2.2.2.2.2.1.1 hP q0 he hq f hk (G.2.2.2.2.2.1 _ hw) (fun _ h => h) hv dg (k0 H locs ls hP hD hS hl)
theorem u_iast {a N : Nat} {f : Nat → Int32} {i v : Int32} (q0 : Nat) (G : uG x A own cc nL ret dd MC MS) (he : ws[q0]? = some (a, .inl ((xE x).2.2.1 0, N, .inl f))) (hin : vp_in i N) (dg : decode cc pc = .ok (.iastore, 1)) (k0 : UU x A (ws.set q0 (a, .inl ((xE x).2.2.1 0, N, .inl (upd f i.toNatClampNeg v)))) k n (pc + 1) L st) : UU x A ws k n pc L (.int v :: .int i :: .ref a :: st) := by
  intro H locs ls hP hD hS hl
  exact va_iast G.1 G.2.1 G.2.2.2.2.2.2.1.1 hP hD hS q0 0 he rfl hin dg (fun H1 locs1 hP1 hD1 hS1 => k0 H1 locs1 ls hP1 hD1 hS1 hl)
theorem u_alen {a N : Nat} {f : Nat → Int32} {v : Int32} (q0 : Nat) (G : uG x A own cc nL ret dd MC MS) (he : ws[q0]? = some (a, .inl ((xE x).2.2.1 0, N, .inl f))) (hv : Int32.ofNat N = v) (dg : decode cc pc = .ok (.arraylength, 1)) (k0 : UU x A ws k n (pc + 1) L (.int v :: st)) : UU x A ws k n pc L (.ref a :: st) := by
  intro H locs ls hP hD hS hl
  exact va_alen G.1 G.2.1 G.2.2.2.2.2.2.1.1 hP q0 0 he (ty := .int) rfl hv dg (k0 H locs ls hP hD hS hl)
theorem u_astq {a N b ci : Nat} {C : String} {T : u_T} {M : Nat} {f : Nat → Option Nat} {fs : List Value} {i : Int32} (q0 qk t : Nat) (G : uG x A own cc nL ret dd MC MS) (he : ws[q0]? = some (a, .inl ((xE x).2.2.1 t, N, .inr (.inr (.inr (.inr f)))))) (ht : ∀ E : vE, (vtys E)[t]? = some (E.2.2.1 t, .object C)) (hv : ws[qk]? = some (b, .inr (ci, fs))) (hq : vwCl[ci]? = some (C, T, M)) (hin : vp_in i N) (dg : decode cc pc = .ok (.aastore, 1)) (k0 : UU x A (ws.set q0 (a, .inl ((xE x).2.2.1 t, N, .inr (.inr (.inr (.inr (va_up f i.toNatClampNeg (some b)))))))) k n (pc + 1) L st) : UU x A ws k n pc L (.ref b :: .int i :: .ref a :: st) := by
  intro H locs ls hP hD hS hl
  exact va_astq G.1 G.2.1 G.2.2.2.2.2.2.1.1 hP hD hS q0 t qk ci (r := (C, T, M)) he (ht (xE x)) hv hq hin dg (fun H1 locs1 hP1 hD1 hS1 => k0 H1 locs1 ls hP1 hD1 hS1 hl)
end UR
def uRm (d mc ms : Nat) : Room := { frames := d, cells := mc, slots := ms, locals := 40 * d }
abbrev uA (h : Nat) (e : va_E) (sz : Nat) : Nat → Prop := va_A [(h, e)] sz
/-- a constructor's contract: from the blank object h, its world of cells comes, and nothing else changes -/
def UCtr (mi : vMI) (d mc ms : Nat) (av : List Value) (e : vE → va_E) (Blk : vE → Nat → va_W → Prop) : Prop :=
  ∀ (l : Launch) (E : vE) (h sz : Nat), Met l mi.1 (.code mi.1 mi.2.1 mi.2.2.1 mi.2.2.2 :: BIG) (uRm d mc ms) (va_Pc (.ref h :: av) (fun U => U.heap.size = sz ∧ va_P E.2.1 vwCl [(h, e E)] U.heap ∧ uI E U)) (va_Qv (Blk E h) (fun (ws : va_W) t => va_P E.2.1 vwCl ws t.heap ∧ va_D (uA h (e E) sz) ws) (uA h (e E) sz)) mc ms (uA h (e E) sz)
def uEnd (x : vX) (A : Nat → Prop) (Blk : va_W → Prop) (mc ms : Nat) : Prop := xQ x = MQ (xb x) (va_Qv Blk (fun (ws : va_W) t => va_P (xE x).2.1 vwCl ws t.heap ∧ va_D A ws) A) (xa x) (xs x) mc ms A
theorem UCtr.intro {mi : vMI} {d mc ms : Nat} {av : List Value} {e : vE → va_E} {Blk : vE → Nat → va_W → Prop} (hy : plainName mi.1.cls = true) (hret : mi.2.2.2 = none) (hm : ∀ a : Nat, (lg_sl (.ref a :: av)).length ≤ mi.2.2.1) (h : ∀ (x : vX) (A : Nat → Prop) (a : Nat), uG x A mi.1.cls mi.2.1 mi.2.2.1 none d mc ms → (xM x).name = mi.1.name → uEnd x A (Blk (xE x) a) mc ms → UU x A [(a, e (xE x))] 0 0 0 (lv_args 0 (.ref a :: av)) []) : UCtr mi d mc ms av e Blk := by
  intro l E a sz
  refine Met.ofW (cc := mi.2.1) (maxL := mi.2.2.1) (ret := mi.2.2.2) hy rfl ?_
  intro p en s m args below meth c s₁ B hml hv
  obtain ⟨rfl, hsz, hP, hI⟩ := hv
  have hx := B.exec
  have hb := B.bytes
  have hr := B.returns
  have hts := atoms_spec (ws := .code mi.1 mi.2.1 mi.2.2.1 mi.2.2.2 :: BIG) B.pre
  have hown : s.vm.findClass mi.1.cls = some m.cls := findClass_of_methodNamed B.named
  have hlocks := B.notSynchronized
  have hin : meth.name = mi.1.name := (name_of_methodNamed B.named B.method).1
  subst hsz
  have k := h (p, l, en, (headSpec (.code mi.1 mi.2.1 mi.2.2.1 mi.2.2.2 :: BIG) (uRm d mc ms)).room, s, m, (.ref a :: av : List Value).toArray, below, meth, c, E, MQ below (va_Qv (Blk E a) (fun (ws : va_W) t => va_P E.2.1 vwCl ws t.heap ∧ va_D (uA a (e E) s.heap.size) ws) (uA a (e E) s.heap.size)) (.ref a :: av : List Value).toArray s mc ms (uA a (e E) s.heap.size), 0, 0) (uA a (e E) s.heap.size) a
    ⟨hx, hb, hml, hr.trans hret, hown, fun w hw => hts w (List.mem_cons_of_mem _ hw), hI, hlocks, fun q hq => Or.inr hq, ⟨Nat.le_refl _, Nat.le_refl _, Nat.le_refl _, Nat.le_refl _⟩⟩ hin rfl
  have hl := lv_entry (.ref a :: av) (n := mi.2.2.1) (hm a)
  rw [lg_entry_eq]
  refine k s.heap [] _ hP ⟨fun i j p q hp hq _ => ?_, fun k q hq => va_A.in hq⟩ va_S.rf ?_
  · have h1 : i < 1 := (List.getElem?_eq_some_iff.mp hp).1
    have h2 : j < 1 := (List.getElem?_eq_some_iff.mp hq).1
    omega
  · rw [hml]
    exact hl
theorem va_nd_of : ∀ l : List Nat, l.Nodup → va_nd l = true
  | [], _ => rfl
  | a :: l, h => by
    obtain ⟨h1, h2⟩ := List.nodup_cons.mp h
    simp [va_nd, h1, va_nd_of l h2]
section UC
variable {x : vX} {A : Nat → Prop} {own : String} {cc : ByteArray} {nL dd MC MS : Nat} {ret : Option FieldType} {pc k n : Nat} {L : List (Nat × Value)} {st : List Value} {ws : va_W}
theorem u_vret {Blk : va_W → Prop} (G : uG x A own cc nL none dd MC MS) (hQ : uEnd x A Blk MC MS) (hk : k ≤ MC) (hn : n ≤ MS) (dg : decode cc pc = .ok (.return_, 1)) (h : Blk ws) : UU x A ws k n pc L [] := by
  intro H locs ls hP hD hS hl
  rw [hQ]
  refine W.widen hk hn ?_
  exact W.vret G.1 G.2.1 G.2.2.2.1 (fun t ht hW => ⟨⟨ws, rfl, h, by rw [ht]; exact hP, hD⟩, hS.F ht⟩) hS.2.2 dg G.2.2.2.2.2.2.2.1
theorem u_pre {ci h : Nat} {fs : List Value} {H : Heap} (E : vE) {s : State} (hI : uI E s) (hP : va_P E.2.1 vwCl [(h, .inr (ci, fs))] H) : PreS s H (va_Pc [.ref h] (fun U => U.heap.size = H.size ∧ va_P E.2.1 vwCl [(h, .inr (ci, fs))] U.heap ∧ uI E U)) [.ref h] := by
  refine ⟨fun a U g mk q => ?_, fun U hU hW => ⟨rfl, by rw [hU], by rw [hU]; exact hP, hI.warm hW⟩⟩
  obtain ⟨q0, q1, q2, q3⟩ := q
  exact ⟨q0, q1, q2, uI.same (s := U) rfl q3⟩
theorem u_after {ci h mc ms : Nat} {fs : List Value} {Blk : vE → Nat → va_W → Prop} {wr : va_W} {H : Heap} {locs : List Loc} {ls : Array Slot} (G : uG x A own cc nL ret dd MC MS) (hP : va_P (xE x).2.1 vwCl (wr ++ [(h, .inr (ci, fs))]) H) (hD : va_D A (wr ++ [(h, .inr (ci, fs))])) (hS : va_S A (xs x).heap H locs) (hl : lv_has ls (xc x).maxLocals L)
    (hr : va_Run (xp x) (xl x) (xe x) (xR x) (xs x) (xm x) (xa x) (xb x) (xM x) (xc x) H locs k n mc ms (F0 (xm x) pc ls (.ref h :: st)) st (va_Qv (Blk (xE x) h) (fun (ws : va_W) t => va_P (xE x).2.1 vwCl ws t.heap ∧ va_D (uA h (.inr (ci, fs)) H.size) ws) (uA h (.inr (ci, fs)) H.size) (([.ref h] : List Value).toArray)) (uA h (.inr (ci, fs)) H.size))
    (k0 : ∀ w1 : va_W, Blk (xE x) h w1 → UU x A (wr ++ w1) (k + mc) (n + ms) (pc + 3) L st) : W (xp x) (xl x) (xe x) (xR x) (xs x) (xm x) (xa x) (xb x) (xM x) (xc x) H locs k n (xQ x) (F0 (xm x) pc ls (.ref h :: st)) := by
  have hC : ([wr.length] : List Nat).map (fun i => (wr ++ [(h, (.inr (ci, fs) : va_E))])[i]?) = [(h, (.inr (ci, fs) : va_E))].map some := by simp
  have hR : (List.range wr.length).map (fun i => (wr ++ [(h, (.inr (ci, fs) : va_E))])[i]?) = wr.map some := by
    apply List.ext_getElem?
    intro i
    by_cases hi : i < wr.length
    · rw [List.getElem?_map, List.getElem?_range hi, List.getElem?_map]
      simp [List.getElem?_append_left hi, hi]
    · rw [List.getElem?_eq_none (by simpa using hi), List.getElem?_eq_none (by simpa using hi)]
  have hF := va_free hD hS G.2.2.2.2.2.2.2.2.1 [wr.length] hC
  refine va_callv hr hS (fun q _ h => hF q h) hF (fun u t H1 locs1 ht hvm hw hB hz1 hk1 hS1 => ?_)
  obtain ⟨hP1, hD1⟩ := hB
  rw [ht] at hP1
  obtain ⟨hP2, hD2⟩ := va_join hP hD [wr.length] (List.range wr.length) hC hR (va_nd_of _ List.nodup_range) (fun i hi h => by rw [List.mem_singleton] at h; rw [List.mem_range] at hi; omega) hk1 hF hP1 hD1
  exact k0 u hw H1 locs1 ls hP2 hD2 hS1 hl
theorem u_call {mi : vMI} {ci h d mc ms idx : Nat} {fs : List Value} {Blk : vE → Nat → va_W → Prop} {wr : va_W} (G : uG x A own cc nL ret dd MC MS) (C : UCtr mi d mc ms [] (fun _ => .inr (ci, fs)) Blk) (hret : mi.2.2.2 = none) (hi : mi.1.name = "<init>") (hd : d < dd) (md : vMd mi 0) (hin : Cond.instanceMethod mi.1 ∈ BIG) (lk : Cond.methodLink own idx mi.1 ∈ BIG) (hw : (st.map fun v => v.category).sum ≤ 8) (hk : k + mc ≤ MC) (hn : n + ms ≤ MS) (dg : decode cc pc = .ok (.invokespecial idx, 3)) (k0 : ∀ w1 : va_W, Blk (xE x) h w1 → UU x A (wr ++ w1) (k + mc) (n + ms) (pc + 3) L st) : UU x A (wr ++ [(h, .inr (ci, fs))]) k n pc L (.ref h :: st) := by
  intro H locs ls hP hD hS hl
  have hroom := G.2.2.2.2.2.2.2.2.2
  have hg := G.2.2.2.2.2.1
  obtain ⟨y, by0, mL, rt⟩ := mi
  subst hret
  refine u_after G hP hD hS hl (va_runI (As := []) (rest := st) ⟨G.1, G.2.1, G.2.2.1, G.2.2.2.2.1, hg⟩ (C (xl x) (xE x) h H.size) ⟨callB_of 0 hg (v_bigGood md.1) rfl rfl rfl (hg _ md.2.1) (hg _ lk) md.2.2.1 ⟨?_, ?_⟩, hi, hg _ hin⟩ (u_pre (xE x) G.2.2.2.2.2.2.1 (fun k q hq => ?_)) rfl rfl (by show ls.size = nL; rw [hl.1]; exact G.2.2.1) rfl (lv_room hw) dg ⟨?_, ?_⟩) k0
  · show d + 1 ≤ _
    omega
  · have h21 : mL ≤ 21 := md.2.2.2
    show 8 + (mL + 11) + 40 * d ≤ _
    omega
  · have hk1 : k < 1 := (List.getElem?_eq_some_iff.mp hq).1
    rw [show k = 0 by omega] at hq
    cases hq
    exact hP wr.length _ (by simp)
  · show k + mc ≤ _
    omega
  · show n + ms ≤ _
    omega
theorem u_callN {mi : vMI} {ci h d mc ms idx : Nat} {fs : List Value} {Blk : vE → Nat → va_W → Prop} {wr : va_W} (G : uG x A own cc nL ret dd MC MS) (C : UCtr mi d mc ms [] (fun _ => .inr (ci, fs)) Blk) (hret : mi.2.2.2 = none) (hi : mi.1.name = "<init>") (hd : d < dd) (md : vMd mi 0) (hin : Cond.instanceMethod mi.1 ∈ BIG) (lk : (own, idx, mi.1) ∈ vNest) (hw : (st.map fun v => v.category).sum ≤ 8) (hk : k + mc ≤ MC) (hn : n + ms ≤ MS) (dg : decode cc pc = .ok (.invokespecial idx, 3)) (k0 : ∀ w1 : va_W, Blk (xE x) h w1 → UU x A (wr ++ w1) (k + mc) (n + ms) (pc + 3) L st) : UU x A (wr ++ [(h, .inr (ci, fs))]) k n pc L (.ref h :: st) := by
  intro H locs ls hP hD hS hl
  have hroom := G.2.2.2.2.2.2.2.2.2
  have hg := G.2.2.2.2.2.1
  obtain ⟨y, by0, mL, rt⟩ := mi
  subst hret
  refine u_after G hP hD hS hl (va_runIN (As := []) (rest := st) ⟨G.1, G.2.1, G.2.2.1, G.2.2.2.2.1, hg⟩ (C (xl x) (xE x) h H.size) ⟨va_cnB 0 hg (v_bigGood md.1) rfl rfl rfl (G.2.2.2.2.2.2.1.2.1 _ lk) (hg _ md.2.1) md.2.2.1 ⟨?_, ?_⟩, hi, hg _ hin⟩ (u_pre (xE x) G.2.2.2.2.2.2.1 (fun k q hq => ?_)) rfl rfl (by show ls.size = nL; rw [hl.1]; exact G.2.2.1) rfl (lv_room hw) dg ⟨?_, ?_⟩) k0
  · show d + 1 ≤ _
    omega
  · have h21 : mL ≤ 21 := md.2.2.2
    show 8 + (mL + 11) + 40 * d ≤ _
    omega
  · have hk1 : k < 1 := (List.getElem?_eq_some_iff.mp hq).1
    rw [show k = 0 by omega] at hq
    cases hq
    exact hP wr.length _ (by simp)
  · show k + mc ≤ _
    omega
  · show n + ms ≤ _
    omega
end UC
section UR2
variable {x : vX} {A : Nat → Prop} {own : String} {cc : ByteArray} {nL dd MC MS : Nat} {ret : Option FieldType} {pc k n : Nat} {L L' : List (Nat × Value)} {st : List Value} {ws : va_W}
theorem u_iconst {v : Int32} {j : Int} (G : uG x A own cc nL ret dd MC MS) (dg : decode cc pc = .ok (.iconst j, 1)) (hv : Int32.ofInt j = v) (k0 : UU x A ws k n (pc + 1) L (.int v :: st)) : UU x A ws k n pc L st := by
  intro H locs ls hP hD hS hl
  exact lv_iconst G.1 G.2.1 dg hv (k0 H locs ls hP hD hS hl)
theorem u_bipush {v : Int32} {j : Int} (G : uG x A own cc nL ret dd MC MS) (dg : decode cc pc = .ok (.bipush j, 2)) (hv : (Int8.ofInt j).toInt32 = v) (k0 : UU x A ws k n (pc + 2) L (.int v :: st)) : UU x A ws k n pc L st := by
  intro H locs ls hP hD hS hl
  exact lv_bipush G.1 G.2.1 dg hv (k0 H locs ls hP hD hS hl)
theorem u_sipush {v : Int32} {j : Int} (G : uG x A own cc nL ret dd MC MS) (dg : decode cc pc = .ok (.sipush j, 3)) (hv : (Int16.ofInt j).toInt32 = v) (k0 : UU x A ws k n (pc + 3) L (.int v :: st)) : UU x A ws k n pc L st := by
  intro H locs ls hP hD hS hl
  exact lv_sipush G.1 G.2.1 dg hv (k0 H locs ls hP hD hS hl)
theorem u_istore {k1 : Fin 4} {i : Nat} {v : Int32} (G : uG x A own cc nL ret dd MC MS) (dg : decode cc pc = .ok (.istore_n k1, 1)) (hi : (k1 : Nat) = i) (hn : i < nL) (hl0 : (i, Value.int v) :: L.filter (fun q => !(q.1 == i) && !(q.1 + 1 == i && q.2.category == 2)) = L') (k0 : UU x A ws k n (pc + 1) L' st) : UU x A ws k n pc L (.int v :: st) := by
  intro H locs ls hP hD hS hl
  exact lv_istore_n G.1 G.2.1 dg hi hl (by have := G.2.2.1; omega) hl0 (fun ls hl => k0 H locs ls hP hD hS hl)
theorem u_iinc {i : Nat} {j : Int} {u v : Int32} (q : Nat) (G : uG x A own cc nL ret dd MC MS) (dg : decode cc pc = .ok (.iinc i j, 3)) (hk : L[q]? = some (i, .int u)) (hv : u + Int32.ofInt j = v) (hn : i < nL) (hl0 : (i, Value.int v) :: L.filter (fun q => !(q.1 == i) && !(q.1 + 1 == i && q.2.category == 2)) = L') (k0 : UU x A ws k n (pc + 3) L' st) : UU x A ws k n pc L st := by
  intro H locs ls hP hD hS hl
  exact lv_iinc G.1 G.2.1 dg hl hk hv (by have := G.2.2.1; omega) hl0 (fun ls hl => k0 H locs ls hP hD hS hl)
theorem u_goto {off : Int} {tgt : Nat} (G : uG x A own cc nL ret dd MC MS) (dg : decode cc pc = .ok (.goto off, 3)) (ht : (pc : Int) + off = (tgt : Int)) (k0 : UU x A ws k n tgt L st) : UU x A ws k n pc L st := by
  intro H locs ls hP hD hS hl
  exact lv_goto G.1 G.2.1 dg ht (k0 H locs ls hP hD hS hl)
theorem u_icmp_geT {off : Int} {tgt : Nat} {u v : Int32} (G : uG x A own cc nL ret dd MC MS) (dg : decode cc pc = .ok (.if_icmp .ge off, 3)) (ht : (pc : Int) + off = (tgt : Int)) (h : v ≤ u) (k0 : UU x A ws k n tgt L st) : UU x A ws k n pc L (.int v :: .int u :: st) := by
  intro H locs ls hP hD hS hl
  exact lv_icmp_ge G.1 G.2.1 dg ht (fun _ => k0 H locs ls hP hD hS hl) (fun h2 => absurd h h2)
theorem u_icmp_geF {off : Int} {u v : Int32} (tgt : Nat) (G : uG x A own cc nL ret dd MC MS) (dg : decode cc pc = .ok (.if_icmp .ge off, 3)) (ht : (pc : Int) + off = (tgt : Int)) (h : ¬ v ≤ u) (k0 : UU x A ws k n (pc + 3) L st) : UU x A ws k n pc L (.int v :: .int u :: st) := by
  intro H locs ls hP hD hS hl
  exact lv_icmp_ge G.1 G.2.1 dg ht (fun h2 => absurd h2 h) (fun _ => k0 H locs ls hP hD hS hl)
def fill9 (f : Nat → Int32) (v : Int32) : Nat → Int32 := upd (upd (upd (upd (upd (upd (upd (upd (upd f 0 v) 1 v) 2 v) 3 v) 4 v) 5 v) 6 v) 7 v) 8 v
theorem u_fill {a idx : Nat} {f : Nat → Int32} {v : Int32} (i : Nat) (G : uG x A own cc nL ret dd MC MS) (C : UCtr mJ7_fill_53178 0 0 0 [.int v] (fun E => .inl (E.2.2.1 0, 9, .inl f)) (fun E h ws => ws = [(h, .inl (E.2.2.1 0, 9, .inl (fill9 f v)))])) (he : ws[i]? = some (a, .inl ((xE x).2.2.1 0, 9, .inl f))) (hd : 0 < dd) (md : vMd mJ7_fill_53178 2) (hs : Cond.static yJ7_fill_53178 ∈ BIG) (lk : Cond.methodLink own idx yJ7_fill_53178 ∈ BIG) (hw : (st.map fun v => v.category).sum ≤ 8) (hk : k ≤ MC) (hn : n ≤ MS) (dg : decode cc pc = .ok (.invokestatic idx, 3)) (k0 : UU x A (ws.set i (a, .inl ((xE x).2.2.1 0, 9, .inl (fill9 f v)))) k n (pc + 3) L st) : UU x A ws k n pc L (.int v :: .ref a :: st) := by
  intro H locs ls hP hD hS hl
  have hroom := G.2.2.2.2.2.2.2.2.2
  have hg := G.2.2.2.2.2.1
  have hI := G.2.2.2.2.2.2.1
  have hil := (List.getElem?_eq_some_iff.mp he).1
  have hP0 : va_P (xE x).2.1 vwCl [(a, .inl ((xE x).2.2.1 0, 9, .inl f))] H := by
    intro k q hq
    have hk1 : k < 1 := (List.getElem?_eq_some_iff.mp hq).1
    rw [show k = 0 by omega] at hq
    cases hq
    exact hP i _ he
  have hF := va_free (wc := [(a, .inl ((xE x).2.2.1 0, 9, .inl f))]) hD hS G.2.2.2.2.2.2.2.2.1 [i] (by simp [he])
  refine va_callv (va_runS (As := [.ref a, .int v]) (rest := st) ⟨G.1, G.2.1, G.2.2.1, G.2.2.2.2.1, hg⟩ (C (xl x) (xE x) a H.size) ⟨callB_of 2 hg (v_bigGood md.1) rfl rfl rfl (hg _ md.2.1) (hg _ lk) md.2.2.1 ⟨?_, ?_⟩, hg _ hs⟩ ⟨?_, ?_⟩ rfl rfl (by show ls.size = nL; rw [hl.1]; exact G.2.2.1) rfl (lv_room hw) dg ⟨?_, ?_⟩) hS (fun q _ h => hF q h) hF (fun u t H1 locs1 ht hvm hw hB hz1 hk1 hS1 => ?_)
  · show 0 + 1 ≤ _
    omega
  · have h21 : mJ7_fill_53178.2.2.1 ≤ 21 := md.2.2.2
    show 8 + (mJ7_fill_53178.2.2.1 + 11) + 40 * 0 ≤ _
    omega
  · intro a U g mk q
    obtain ⟨q0, q1, q2, q3⟩ := q
    exact ⟨q0, q1, q2, uI.same (s := U) rfl q3⟩
  · exact fun U hU hW => ⟨rfl, by rw [hU], by rw [hU]; exact hP0, hI.warm hW⟩
  · show k + 0 ≤ _
    omega
  · show n + 0 ≤ _
    omega
  · obtain ⟨hP1, hD1⟩ := hB
    rw [ht] at hP1
    have hw : u = [(a, .inl ((xE x).2.2.1 0, 9, .inl (fill9 f v)))] := hw
    subst hw
    refine k0 H1 locs1 ls (fun j q hq => ?_) (hD.set he) hS1 hl
    by_cases hj : j = i
    · subst hj
      rw [List.getElem?_set_self hil] at hq
      cases hq
      exact hP1 0 _ rfl
    · rw [List.getElem?_set_ne (Ne.symm hj)] at hq
      refine (hP j q hq).kept (hk1 q.1 (hP j q hq).lt (fun hA => ?_))
      rcases hA with ⟨k2, e2, h2⟩ | h2
      · have hk2 : k2 < 1 := (List.getElem?_eq_some_iff.mp h2).1
        rw [show k2 = 0 by omega] at h2
        cases h2
        exact hj (hD.1 j i q _ hq he rfl)
      · exact absurd (hP j q hq).lt (Nat.not_lt.mpr h2)
end UR2
