/-! Fields, arrays, calls, contracts of the plain machine. -/
/-- own's entry idx is field k of class ci -/
def vLk (own : String) (idx ci k : Nat) : Prop := ∃ q : vw_C, vwCl[ci]? = some q ∧ k < q.2.2 ∧ Cond.fieldLink own idx (q.2.1 k).1 (q.2.1 k).2.1 (q.2.1 k).2.2.1 ∈ BIG
/-- place r is an object of class ci, whose field k always holds o (a place), or an int -/
def vFs (r ci k : Nat) (o : Option Nat) : Prop := r < 88 ∧ ci < 7 ∧ ∃ n rf, lay r = (ci, n, rf) ∧ k < n ∧ rf k = o
/-- place r is a row of n ints of type ty -/
def vAs (r ty n : Nat) : Prop := r < 88 ∧ ty < 3 ∧ ∃ rf, lay r = (7 + ty, n, rf)
/-- place r is a row of n places -/
def vQs (r ty n : Nat) (rf : Nat → Option Nat) : Prop := r < 88 ∧ (ty = 3 ∨ ty = 4) ∧ lay r = (7 + ty, n, rf)
def vClsOk (ci : Nat) : Prop := ∀ q : vw_C, vwCl[ci]? = some q → (∀ w ∈ u_ws q.1 q.2.1 q.2.2, w ∈ BIG) ∧ (∀ a, a < q.2.2 → ∀ b, b < q.2.2 → a ≠ b → (q.2.1 a).2.1 ≠ (q.2.1 b).2.1)
def vTyOk (ci : Nat) (ty0 : Nat → FieldType) : Prop := ∀ q : vw_C, vwCl[ci]? = some q → ∀ k, k < q.2.2 → parseFieldDescriptor (q.2.1 k).2.2.1 = some (ty0 k)
theorem vty_at (E : vE) {ty : Nat} (h : ty < 3) : (vtys E)[ty]? = some (E.2.2.1 ty, if ty = 0 then .int else if ty = 1 then .byte else .boolean) := by
  match ty, h with
  | 0, _ => rfl
  | 1, _ => rfl
  | 2, _ => rfl
def vsv (o : Option Nat) (v : Int32) : Value := match o with
  | some p => .ref p
  | none => .int v
section VH
variable {x : vX} {own : String} {cc : ByteArray} {nL dd : Nat} {ret : Option FieldType} {pc : Nat} {L : List (Option Value)} {st : List Value} {σ : vW}
theorem v_getV {r ci k idx : Nat} {o : Option Nat} (G : vG x own cc nL ret dd) (hC : vClsOk ci) (lk : vLk own idx ci k) (fs : vFs r ci k o) (dg : decode cc pc = .ok (.getfield idx, 3)) (k0 : V x (pc + 3) L (vsv o (σ r k) :: st) σ) : V x pc L (.ref r :: st) σ := by
  intro H locs ls hP hS hl
  obtain ⟨⟨C, T, N⟩, hq, hk, hw⟩ := lk
  obtain ⟨hr, hci, n, rf, hlay, hkn, ho⟩ := fs
  have he := vws_get (xE x) σ hr
  rw [vcell_obj (xE x) σ hlay hci] at he
  have hv := vslots_at (xE x) r σ (ci, n, rf) hkn
  have e : vm (xE x).1 (vsv o (σ r k)) = vsl (xE x) r σ (ci, n, rf) k := by
    subst ho
    simp only [vsl]
    cases rf k <;> rfl
  have k1 := k0 H locs ls hP hS hl
  rw [List.map_cons, e] at k1
  exact va_get (C := C) (T := T) (N := N) G.1 G.2.1 G.2.2.2.2.2.1 (hC _ hq).1 G.2.2.2.2.1 G.2.2.2.2.2.2.1.1 hP r he hq k hk (G.2.2.2.2.2.1 _ hw) (fun _ h => h) hv dg k1
theorem v_getI {r ci k idx : Nat} (G : vG x own cc nL ret dd) (hC : vClsOk ci) (lk : vLk own idx ci k) (fs : vFs r ci k none) (dg : decode cc pc = .ok (.getfield idx, 3)) (k0 : V x (pc + 3) L (.int (σ r k) :: st) σ) : V x pc L (.ref r :: st) σ := v_getV G hC lk fs dg k0
theorem v_getR {r ci k idx p : Nat} (G : vG x own cc nL ret dd) (hC : vClsOk ci) (lk : vLk own idx ci k) (fs : vFs r ci k (some p)) (dg : decode cc pc = .ok (.getfield idx, 3)) (k0 : V x (pc + 3) L (.ref p :: st) σ) : V x pc L (.ref r :: st) σ := v_getV G hC lk fs dg k0
/-- the field's type holds v as it is, and it isn't final -/
def vFit (ci k : Nat) (v : Int32) : Prop := ∀ q : vw_C, vwCl[ci]? = some q → (q.2.1 k).2.2.2 = false ∧ ∃ ty, parseFieldDescriptor (q.2.1 k).2.2.1 = some ty ∧ narrow ty (.int v) = .int v ∧ fits ty (.int v) = true
theorem v_putI {r ci k idx : Nat} {v : Int32} {ty0 : Nat → FieldType} (G : vG x own cc nL ret dd) (hC : vClsOk ci) (hT : vTyOk ci ty0) (lk : vLk own idx ci k) (fs : vFs r ci k none) (hf : vFit ci k v) (dg : decode cc pc = .ok (.putfield idx, 3)) (k0 : V x (pc + 3) L st (vset σ r k v)) : V x pc L (.int v :: .ref r :: st) σ := by
  intro H locs ls hP hS hl
  obtain ⟨⟨C, T, N⟩, hq, hk, hw⟩ := lk
  obtain ⟨hr, hci, n, rf, hlay, hkn, ho⟩ := fs
  obtain ⟨hfin, ty, hty, hn, hfit⟩ := hf _ hq
  have he := vws_get (xE x) σ hr
  rw [vcell_obj (xE x) σ hlay hci] at he
  have hw2 := vws_set (xE x) σ (vset σ r k v) hr (vset_cell_obj (xE x) σ v hlay hci ho).symm (fun j _ hj => by rw [vset_row]; exact vrow_cell_ne (xE x) σ _ hj)
  refine va_put (C := C) (T := T) (N := N) (v := .int v) G.1 G.2.1 G.2.2.2.2.2.1 (hC _ hq).1 ty0 (hT _ hq) (hC _ hq).2 G.2.2.2.2.1 G.2.2.2.2.2.2.1.1 hP (vws_D G.2.2.2.2.2.2.2.2.1 σ) hS r he hq k hk (G.2.2.2.2.2.1 _ hw) (fun _ h => h) hfin hty hn hfit (by simpa using hkn) dg (fun H1 locs1 hP1 _ hS1 => ?_)
  rw [hw2] at hP1
  exact k0 H1 locs1 ls hP1 hS1 hl
theorem v_iald {r n : Nat} {i : Int32} (G : vG x own cc nL ret dd) (as : vAs r 0 n) (hin : vp_in i n) (dg : decode cc pc = .ok (.iaload, 1)) (k0 : V x (pc + 1) L (.int (σ r i.toNatClampNeg) :: st) σ) : V x pc L (.int i :: .ref r :: st) σ := by
  intro H locs ls hP hS hl
  obtain ⟨hr, hty, rf, hlay⟩ := as
  have he := vws_get (xE x) σ hr
  rw [vcell_arr (xE x) σ hlay hty] at he
  exact va_iald G.1 G.2.1 G.2.2.2.2.2.2.1.1 hP r 0 he rfl hin dg (k0 H locs ls hP hS hl)
theorem v_bald {r n : Nat} {i : Int32} (G : vG x own cc nL ret dd) (as : vAs r 1 n) (hin : vp_in i n) (dg : decode cc pc = .ok (.baload, 1)) (k0 : V x (pc + 1) L (.int (σ r i.toNatClampNeg) :: st) σ) : V x pc L (.int i :: .ref r :: st) σ := by
  intro H locs ls hP hS hl
  obtain ⟨hr, hty, rf, hlay⟩ := as
  have he := vws_get (xE x) σ hr
  rw [vcell_arr (xE x) σ hlay hty] at he
  exact va_bald G.1 G.2.1 G.2.2.2.2.2.2.1.1 hP r 1 he rfl hin dg (k0 H locs ls hP hS hl)
theorem v_zald {r n : Nat} {i : Int32} (G : vG x own cc nL ret dd) (as : vAs r 2 n) (hin : vp_in i n) (dg : decode cc pc = .ok (.baload, 1)) (k0 : V x (pc + 1) L (.int (σ r i.toNatClampNeg) :: st) σ) : V x pc L (.int i :: .ref r :: st) σ := by
  intro H locs ls hP hS hl
  obtain ⟨hr, hty, rf, hlay⟩ := as
  have he := vws_get (xE x) σ hr
  rw [vcell_arr (xE x) σ hlay hty] at he
  exact va_zald G.1 G.2.1 G.2.2.2.2.2.2.1.1 hP r 2 he rfl hin dg (k0 H locs ls hP hS hl)
theorem v_iast {r n : Nat} {i v : Int32} (G : vG x own cc nL ret dd) (as : vAs r 0 n) (hin : vp_in i n) (dg : decode cc pc = .ok (.iastore, 1)) (k0 : V x (pc + 1) L st (vset σ r i.toNatClampNeg v)) : V x pc L (.int v :: .int i :: .ref r :: st) σ := by
  intro H locs ls hP hS hl
  obtain ⟨hr, hty, rf, hlay⟩ := as
  have he := vws_get (xE x) σ hr
  rw [vcell_arr (xE x) σ hlay hty] at he
  refine va_iast G.1 G.2.1 G.2.2.2.2.2.2.1.1 hP (vws_D G.2.2.2.2.2.2.2.2.1 σ) hS r 0 he rfl hin dg (fun H1 locs1 hP1 _ hS1 => ?_)
  rw [vws_set (xE x) σ (vset σ r i.toNatClampNeg v) hr (by rw [vset_row, vrow_cell_arr (xE x) σ _ hlay hty]) (fun j _ hj => by rw [vset_row]; exact vrow_cell_ne (xE x) σ _ hj)] at hP1
  exact k0 H1 locs1 ls hP1 hS1 hl
theorem v_bast {r n : Nat} {i v : Int32} (G : vG x own cc nL ret dd) (as : vAs r 1 n) (hin : vp_in i n) (dg : decode cc pc = .ok (.bastore, 1)) (k0 : V x (pc + 1) L st (vset σ r i.toNatClampNeg (vp_nar .byte v))) : V x pc L (.int v :: .int i :: .ref r :: st) σ := by
  intro H locs ls hP hS hl
  obtain ⟨hr, hty, rf, hlay⟩ := as
  have he := vws_get (xE x) σ hr
  rw [vcell_arr (xE x) σ hlay hty] at he
  refine va_bast G.1 G.2.1 G.2.2.2.2.2.2.1.1 hP (vws_D G.2.2.2.2.2.2.2.2.1 σ) hS r 1 he rfl hin dg (fun H1 locs1 hP1 _ hS1 => ?_)
  rw [vws_set (xE x) σ (vset σ r i.toNatClampNeg (vp_nar .byte v)) hr (by rw [vset_row, vrow_cell_arr (xE x) σ _ hlay hty]) (fun j _ hj => by rw [vset_row]; exact vrow_cell_ne (xE x) σ _ hj)] at hP1
  exact k0 H1 locs1 ls hP1 hS1 hl
theorem v_zast {r n : Nat} {i v : Int32} (G : vG x own cc nL ret dd) (as : vAs r 2 n) (hin : vp_in i n) (dg : decode cc pc = .ok (.bastore, 1)) (k0 : V x (pc + 1) L st (vset σ r i.toNatClampNeg (vp_nar .boolean v))) : V x pc L (.int v :: .int i :: .ref r :: st) σ := by
  intro H locs ls hP hS hl
  obtain ⟨hr, hty, rf, hlay⟩ := as
  have he := vws_get (xE x) σ hr
  rw [vcell_arr (xE x) σ hlay hty] at he
  refine va_zast G.1 G.2.1 G.2.2.2.2.2.2.1.1 hP (vws_D G.2.2.2.2.2.2.2.2.1 σ) hS r 2 he rfl hin dg (fun H1 locs1 hP1 _ hS1 => ?_)
  rw [vws_set (xE x) σ (vset σ r i.toNatClampNeg (vp_nar .boolean v)) hr (by rw [vset_row, vrow_cell_arr (xE x) σ _ hlay hty]) (fun j _ hj => by rw [vset_row]; exact vrow_cell_ne (xE x) σ _ hj)] at hP1
  exact k0 H1 locs1 ls hP1 hS1 hl
theorem v_alen {r ty n : Nat} {v : Int32} (G : vG x own cc nL ret dd) (as : vAs r ty n) (hv : Int32.ofNat n = v) (dg : decode cc pc = .ok (.arraylength, 1)) (k0 : V x (pc + 1) L (.int v :: st) σ) : V x pc L (.ref r :: st) σ := by
  intro H locs ls hP hS hl
  obtain ⟨hr, hty, rf, hlay⟩ := as
  have he := vws_get (xE x) σ hr
  rw [vcell_arr (xE x) σ hlay hty] at he
  exact va_alen G.1 G.2.1 G.2.2.2.2.2.2.1.1 hP r ty he (vty_at (xE x) hty) hv dg (k0 H locs ls hP hS hl)
theorem v_aald {r ty n p : Nat} {rf : Nat → Option Nat} {i : Int32} (G : vG x own cc nL ret dd) (qs : vQs r ty n rf) (hin : vp_in i n) (hp : rf i.toNatClampNeg = some p) (dg : decode cc pc = .ok (.aaload, 1)) (k0 : V x (pc + 1) L (.ref p :: st) σ) : V x pc L (.int i :: .ref r :: st) σ := by
  intro H locs ls hP hS hl
  obtain ⟨hr, hty, hlay⟩ := qs
  have he := vws_get (xE x) σ hr
  rw [vcell_refs (xE x) σ hlay (by omega)] at he
  have e : va_rf ((rf i.toNatClampNeg).map (xE x).1) = vm (xE x).1 (.ref p) := by rw [hp]; rfl
  have k1 := k0 H locs ls hP hS hl
  rw [List.map_cons, ← e] at k1
  rcases hty with rfl | rfl
  · exact va_aldq (C := "DoorTown$Town") G.1 G.2.1 G.2.2.2.2.2.2.1.1 hP r 3 he rfl hin dg k1
  · exact va_aldq (C := "DoorTown$Sheet") G.1 G.2.1 G.2.2.2.2.2.2.1.1 hP r 4 he rfl hin dg k1
/-- System.arraycopy of one row of ints into another -/
theorem v_copy {r1 r2 n1 n2 idx : Nat} {sp dp n : Int32} (G : vG x own cc nL ret dd) (hd : 1 ≤ dd) (hw : Cond.methodLink own idx arraycopyName ∈ BIG) (hw2 : Cond.native arraycopyName ∈ BIG) (hw3 : Cond.static arraycopyName ∈ BIG) (hw4 : Cond.initialized "java/lang/System" ∈ BIG) (as1 : vAs r1 0 n1) (as2 : vAs r2 0 n2) (h1 : ¬ sp < 0) (h2 : ¬ dp < 0) (h3 : ¬ n < 0) (h4 : sp.toNatClampNeg + n.toNatClampNeg ≤ n1) (h5 : dp.toNatClampNeg + n.toNatClampNeg ≤ n2) (hst : st = []) (dg : decode cc pc = .ok (.invokestatic idx, 3)) (k0 : V x (pc + 3) L st (vrow σ r2 (va_cpy (σ r1) (σ r2) sp.toNatClampNeg dp.toNatClampNeg n.toNatClampNeg))) : V x pc L (.int n :: .int dp :: .ref r2 :: .int sp :: .ref r1 :: st) σ := by
  subst hst
  intro H locs ls hP hS hl
  obtain ⟨hr1, hty, rf1, hlay1⟩ := as1
  obtain ⟨hr2, -, rf2, hlay2⟩ := as2
  have he1 := vws_get (xE x) σ hr1
  rw [vcell_arr (xE x) σ hlay1 hty] at he1
  have he2 := vws_get (xE x) σ hr2
  rw [vcell_arr (xE x) σ hlay2 hty] at he2
  have hroom := G.2.2.2.2.2.2.2.2.2
  refine va_copyi G.1 G.2.1 (by rw [hl.1]) G.2.2.2.2.1 (G.2.2.2.2.2.1 _ hw) (G.2.2.2.2.2.1 _ hw2) (G.2.2.2.2.2.1 _ hw3) (G.2.2.2.2.2.1 _ hw4) G.2.2.2.2.2.2.1.1 hP (vws_D G.2.2.2.2.2.2.2.2.1 σ) hS r1 r2 0 0 he1 he2 rfl rfl rfl h1 h2 h3 h4 h5 (fun _ _ => rfl) (by omega) ?_ dg (fun H1 locs1 hP1 _ hS1 => ?_)
  · have e1 : (([] : List Value).map (vm (xE x).1)).map (fun v => v.category) = [] := rfl
    have e2 : nativeFrameWords "java/lang/System" "arraycopy" 5 + 11 ≤ 40 := by decide +kernel
    rw [e1]
    show 0 + _ ≤ _
    omega
  · rw [vws_set (xE x) σ (vrow σ r2 (va_cpy (σ r1) (σ r2) sp.toNatClampNeg dp.toNatClampNeg n.toNatClampNeg)) hr2 (by rw [vrow_cell_arr (xE x) σ _ hlay2 hty]) (fun j _ hj => vrow_cell_ne (xE x) σ _ hj)] at hP1
    exact k0 H1 locs1 ls hP1 hS1 hl
end VH
/-! ===== contracts ===== -/
def rmd (d : Nat) : Room := { frames := d, cells := 0, slots := 0, locals := 40 * d }
/-- what a method's end says -/
def vQc (E : vE) (Post : Option Value → vW → Prop) : Array Value → State → Outcome → State → Prop := fun _ s0 o t => (∃ r σ', o = .returned (r.map (vm E.1)) ∧ Post r σ' ∧ va_P E.2.1 vwCl (vws E σ') t.heap) ∧ va_F (vA E) s0 t
def Ctr (mi : vMI) (d : Nat) (av : List Value) (σ : vW) (Post : Option Value → vW → Prop) : Prop :=
  ∀ (l : Launch) (E : vE), vInj E → Met l mi.1 (.code mi.1 mi.2.1 mi.2.2.1 mi.2.2.2 :: BIG) (rmd d) (va_Pc (av.map (vm E.1)) (fun U => va_P E.2.1 vwCl (vws E σ) U.heap ∧ vInv E (vA E) U U.heap)) (vQc E Post) 0 0 (vA E)
/-- the end of the walk is a method's end -/
def vEnd (x : vX) (Post : Option Value → vW → Prop) : Prop := xQ x = MQ (xb x) (vQc (xE x) Post) (xa x) (xs x) (xC x).1 (xC x).2 (vA (xE x))
def vent : List Value → List (Option Value)
  | [] => []
  | v :: r => if v.category = 2 then some v :: none :: vent r else some v :: vent r
theorem vent_args (α : Nat → Nat) : ∀ (vs : List Value) (b : Nat), vlo α b (vent vs) = lv_args b (vs.map (vm α))
  | [], b => rfl
  | v :: r, b => by
    by_cases hc : v.category = 2
    · have h := vent_args α r (b + 2)
      simp only [vent, hc, if_true, vlo, List.map_cons, lv_args, vm_cat]
      rw [← h]
    · have h := vent_args α r (b + 1)
      simp only [vent, hc, if_false, vlo, List.map_cons, lv_args, vm_cat]
      rw [← h]
theorem vlo_pad (α : Nat → Nat) (n : Nat) : ∀ (L : List (Option Value)) (b : Nat), vlo α b (L ++ List.replicate n none) = vlo α b L
  | [], b => by
    induction n generalizing b with
    | zero => rfl
    | succ n ih =>
      have h := ih (b + 1)
      simpa [List.replicate_succ, vlo] using h
  | none :: r, b => vlo_pad α n r (b + 1)
  | some v :: r, b => congrArg ((b, vm α v) :: ·) (vlo_pad α n r (b + 1))
theorem Ctr.intro {mi : vMI} {d : Nat} {av : List Value} {σ : vW} {Post : Option Value → vW → Prop} (hy : plainName mi.1.cls = true) (hn : ∀ α : Nat → Nat, (lg_sl (av.map (vm α))).length ≤ mi.2.2.1) (h : ∀ x : vX, vG x mi.1.cls mi.2.1 mi.2.2.1 mi.2.2.2 d → vEnd x Post → V x 0 (vent av ++ List.replicate (mi.2.2.1 - (vent av).length) none) [] σ) : Ctr mi d av σ Post := by
  intro l E hE
  refine Met.ofW (cc := mi.2.1) (maxL := mi.2.2.1) (ret := mi.2.2.2) hy rfl ?_
  intro p e s m args below meth c s₁ B hml hv
  obtain ⟨rfl, hP, hI⟩ := hv
  have hx := B.exec
  have hb := B.bytes
  have hr := B.returns
  have hts := atoms_spec (ws := .code mi.1 mi.2.1 mi.2.2.1 mi.2.2.2 :: BIG) B.pre
  have hown : s.vm.findClass mi.1.cls = some m.cls := findClass_of_methodNamed B.named
  have hlocks := B.notSynchronized
  have k := h (p, l, e, (headSpec (.code mi.1 mi.2.1 mi.2.2.1 mi.2.2.2 :: BIG) (rmd d)).room, s, m, (av.map (vm E.1)).toArray, below, meth, c, E, MQ below (vQc E Post) (av.map (vm E.1)).toArray s 0 0 (vA E), 0, 0)
    ⟨hx, hb, hml, hr, hown, fun w hw => hts w (List.mem_cons_of_mem _ hw), hI, hlocks, hE, ⟨Nat.le_refl _, Nat.le_refl _, Nat.zero_le _, Nat.zero_le _⟩⟩ rfl
  have hl := lv_entry (av.map (vm E.1)) (n := mi.2.2.1) (hn E.1)
  rw [lg_entry_eq]
  refine k s.heap [] _ hP va_S.rf ?_
  rw [hml, vlo_pad, vent_args]
  exact hl
