/-! THE PLAIN MACHINE's JUDGEMENT: V x pc L st σ: from here (locals L, stack st, world σ) the walk comes to its end. -/
abbrev vX : Type := Program × Launch × Env × Room × State × MethodId × Array Value × List Frame × Method × Code × vE × (State → Prop) × Nat × Nat
abbrev xp (x : vX) := x.1
abbrev xl (x : vX) := x.2.1
abbrev xe (x : vX) := x.2.2.1
abbrev xR (x : vX) := x.2.2.2.1
abbrev xs (x : vX) := x.2.2.2.2.1
abbrev xm (x : vX) := x.2.2.2.2.2.1
abbrev xa (x : vX) := x.2.2.2.2.2.2.1
abbrev xb (x : vX) := x.2.2.2.2.2.2.2.1
abbrev xM (x : vX) := x.2.2.2.2.2.2.2.2.1
abbrev xc (x : vX) := x.2.2.2.2.2.2.2.2.2.1
abbrev xE (x : vX) := x.2.2.2.2.2.2.2.2.2.2.1
abbrev xQ (x : vX) := x.2.2.2.2.2.2.2.2.2.2.2.1
abbrev xC (x : vX) := x.2.2.2.2.2.2.2.2.2.2.2.2
/-- the locals that are known, with their places -/
def vlo (α : Nat → Nat) : Nat → List (Option Value) → List (Nat × Value)
  | _, [] => []
  | i, none :: r => vlo α (i + 1) r
  | i, some v :: r => (i, vm α v) :: vlo α (i + 1) r
def V (x : vX) (pc : Nat) (L : List (Option Value)) (st : List Value) (σ : vW) : Prop :=
  ∀ (H : Heap) (locs : List Loc) (ls : Array Slot), va_P (xE x).2.1 vwCl (vws (xE x) σ) H → va_S (vA (xE x)) (xs x).heap H locs → lv_has ls (xc x).maxLocals (vlo (xE x).1 0 L) → W (xp x) (xl x) (xe x) (xR x) (xs x) (xm x) (xa x) (xb x) (xM x) (xc x) H locs (xC x).1 (xC x).2 (xQ x) (F0 (xm x) pc ls (st.map (vm (xE x).1)))
/-- what holds all along a walk: the machine, the code, the tables' words, the world's frame, room for calls of depth below dd -/
def vG (x : vX) (own : String) (cc : ByteArray) (nL : Nat) (ret : Option FieldType) (dd : Nat) : Prop :=
  (xp x).tables.exec = Jvm.exec ∧ (xc x).code = cc ∧ (xc x).maxLocals = nL ∧ (xM x).sig.returnType = ret ∧ (xs x).vm.findClass own = some (xm x).cls ∧ (∀ w ∈ BIG, w.before (xa x) (xs x) = true) ∧ vInv (xE x) (vA (xE x)) (xs x) (xs x).heap ∧ (xM x).locks = false ∧ vInj (xE x) ∧ (dd ≤ (xR x).frames ∧ 40 * dd ≤ (xR x).locals ∧ (xC x).1 ≤ (xR x).cells ∧ (xC x).2 ≤ (xR x).slots)
section VR
variable {x : vX} {own : String} {cc : ByteArray} {nL dd : Nat} {ret : Option FieldType} {pc : Nat} {L : List (Option Value)} {st : List Value} {σ : vW}
theorem vlo_mem {α : Nat → Nat} {v : Value} : ∀ {L : List (Option Value)} {b i : Nat}, L[i]? = some (some v) → (b + i, vm α v) ∈ vlo α b L
  | [], b, i, h => by simp at h
  | a :: r, b, 0, h => by
    have h2 : a = some v := by simpa using h
    subst h2
    exact List.mem_cons_self
  | a :: r, b, i + 1, h => by
    have h2 : r[i]? = some (some v) := by simpa using h
    have h3 := vlo_mem (α := α) (b := b + 1) h2
    have e : b + (i + 1) = b + 1 + i := by omega
    rw [e]
    cases a with
    | none => exact h3
    | some w => exact List.mem_cons_of_mem _ h3
theorem vlo_inv {α : Nat → Nat} {q : Nat × Value} : ∀ {L : List (Option Value)} {b : Nat}, q ∈ vlo α b L → ∃ i v, L[i]? = some (some v) ∧ q = (b + i, vm α v)
  | [], b, h => by cases h
  | none :: r, b, h => by
    obtain ⟨i, v, h1, h2⟩ := vlo_inv (L := r) (b := b + 1) h
    exact ⟨i + 1, v, by simpa using h1, by rw [h2]; congr 1; omega⟩
  | some w :: r, b, h => by
    rcases List.mem_cons.mp h with h | h
    · exact ⟨0, w, rfl, h⟩
    · obtain ⟨i, v, h1, h2⟩ := vlo_inv (L := r) (b := b + 1) h
      exact ⟨i + 1, v, by simpa using h1, by rw [h2]; congr 1; omega⟩
theorem lv_has_of {ls : Array Slot} {n : Nat} {l l' : List (Nat × Value)} (h : lv_has ls n l) (hs : ∀ q ∈ l', q ∈ l) : lv_has ls n l' := ⟨h.1, h.2.1, fun q hq => h.2.2 q (hs q hq)⟩
theorem vlo_get {α : Nat → Nat} {ls : Array Slot} {n i : Nat} {v : Value} (h : lv_has ls n (vlo α 0 L)) (hi : L[i]? = some (some v)) : ls[i]? = some (.val (vm α v)) := by
  have h2 := h.2.2 _ (vlo_mem (α := α) (b := 0) hi)
  rwa [Nat.zero_add] at h2
/-- no long begins just ahead of place i -/
def vnl (L : List (Option Value)) (i : Nat) : Bool := match i with
  | 0 => true
  | j + 1 => match L[j]? with
    | some (some v) => v.category == 1
    | _ => true
theorem vset1_sub {α : Nat → Nat} {i : Nat} {v w : Value} (hw : w = vm α v) (hn : vnl L i = true) : ∀ q ∈ vlo α 0 (L.set i (some v)), q ∈ (i, w) :: (vlo α 0 L).filter (fun q => !(q.1 == i) && !(q.1 + 1 == i && q.2.category == 2)) := by
  subst hw
  intro q hq
  obtain ⟨j, u, h1, rfl⟩ := vlo_inv hq
  rw [Nat.zero_add]
  by_cases hj : j = i
  · subst hj
    have hl : j < L.length := by
      rcases Nat.lt_or_ge j L.length with h | h
      · exact h
      · rw [List.set_eq_of_length_le h, List.getElem?_eq_none h] at h1
        cases h1
    rw [List.getElem?_set_self hl] at h1
    cases h1
    exact List.mem_cons_self
  · rw [List.getElem?_set_ne (Ne.symm hj)] at h1
    refine List.mem_cons_of_mem _ (List.mem_filter.mpr ⟨?_, ?_⟩)
    · have := vlo_mem (α := α) (b := 0) h1
      rwa [Nat.zero_add] at this
    · simp only [Bool.and_eq_true, Bool.not_eq_true', beq_eq_false_iff_ne, ne_eq, Bool.and_eq_false_iff]
      refine ⟨hj, ?_⟩
      by_cases h2 : j + 1 = i
      · subst h2
        right
        simp only [vnl, h1] at hn
        rw [vm_cat]
        have : u.category = 1 := by simpa using hn
        rw [this]
        decide
      · exact Or.inl h2
theorem vset2_sub {α : Nat → Nat} {i : Nat} {v w : Value} (hw : w = vm α v) (hn : vnl L i = true) : ∀ q ∈ vlo α 0 ((L.set i (some v)).set (i + 1) none), q ∈ (i, w) :: (vlo α 0 L).filter (fun q => !(q.1 == i) && (!(q.1 == i + 1) && !(q.1 + 1 == i && q.2.category == 2))) := by
  intro q hq
  obtain ⟨j, u, h1, h0⟩ := vlo_inv hq
  have hj1 : j ≠ i + 1 := by
    rintro rfl
    by_cases hl : i + 1 < (L.set i (some v)).length
    · rw [List.getElem?_set_self hl] at h1
      cases h1
    · rw [List.getElem?_eq_none (by rw [List.length_set]; omega)] at h1
      cases h1
  rw [List.getElem?_set_ne (Ne.symm hj1)] at h1
  have hq2 : q ∈ vlo α 0 (L.set i (some v)) := by
    rw [h0]
    exact vlo_mem h1
  rcases List.mem_cons.mp (vset1_sub hw hn q hq2) with h | h
  · rw [h]; exact List.mem_cons_self
  · refine List.mem_cons_of_mem _ (List.mem_filter.mpr ⟨(List.mem_filter.mp h).1, ?_⟩)
    have h3 := (List.mem_filter.mp h).2
    rw [h0] at h3 ⊢
    simp only [Bool.and_eq_true, Bool.not_eq_true', beq_eq_false_iff_ne, ne_eq, Nat.zero_add] at h3 ⊢
    exact ⟨h3.1, hj1, h3.2⟩
theorem V.mono {L' : List (Option Value)} (h : ∀ (i : Nat) (v : Value), L'[i]? = some (some v) → L[i]? = some (some v)) (k : V x pc L' st σ) : V x pc L st σ := by
  intro H locs ls hP hS hl
  refine k H locs ls hP hS (lv_has_of hl ?_)
  intro q hq
  obtain ⟨i, v, h1, rfl⟩ := vlo_inv hq
  exact vlo_mem (h i v h1)
theorem v_iconst {n : Int} {v : Int32} (G : vG x own cc nL ret dd) (dg : decode cc pc = .ok (.iconst n, 1)) (hv : Int32.ofInt n = v) (k : V x (pc + 1) L (.int v :: st) σ) : V x pc L (st) σ := by
  intro H locs ls hP hS hl
  exact lv_iconst G.1 G.2.1 dg hv (k H locs ls hP hS hl)
theorem v_bipush {n : Int} {v : Int32} (G : vG x own cc nL ret dd) (dg : decode cc pc = .ok (.bipush n, 2)) (hv : (Int8.ofInt n).toInt32 = v) (k : V x (pc + 2) L (.int v :: st) σ) : V x pc L (st) σ := by
  intro H locs ls hP hS hl
  exact lv_bipush G.1 G.2.1 dg hv (k H locs ls hP hS hl)
theorem v_sipush {n : Int} {v : Int32} (G : vG x own cc nL ret dd) (dg : decode cc pc = .ok (.sipush n, 3)) (hv : (Int16.ofInt n).toInt32 = v) (k : V x (pc + 3) L (.int v :: st) σ) : V x pc L (st) σ := by
  intro H locs ls hP hS hl
  exact lv_sipush G.1 G.2.1 dg hv (k H locs ls hP hS hl)
theorem v_lconst {n : Fin 2} {v : Int64} (G : vG x own cc nL ret dd) (dg : decode cc pc = .ok (.lconst n, 1)) (hv : Int64.ofNat (n : Nat) = v) (k : V x (pc + 1) L (.long v :: st) σ) : V x pc L (st) σ := by
  intro H locs ls hP hS hl
  exact lv_lconst G.1 G.2.1 dg hv (k H locs ls hP hS hl)
theorem v_iadd {a b : Int32} (G : vG x own cc nL ret dd) (dg : decode cc pc = .ok (.iadd, 1)) (k : V x (pc + 1) L (.int (a + b) :: st) σ) : V x pc L (.int b :: .int a :: st) σ := by
  intro H locs ls hP hS hl
  exact lv_iadd G.1 G.2.1 dg (k H locs ls hP hS hl)
theorem v_isub {a b : Int32} (G : vG x own cc nL ret dd) (dg : decode cc pc = .ok (.isub, 1)) (k : V x (pc + 1) L (.int (a - b) :: st) σ) : V x pc L (.int b :: .int a :: st) σ := by
  intro H locs ls hP hS hl
  exact lv_isub G.1 G.2.1 dg (k H locs ls hP hS hl)
theorem v_imul {a b : Int32} (G : vG x own cc nL ret dd) (dg : decode cc pc = .ok (.imul, 1)) (k : V x (pc + 1) L (.int (a * b) :: st) σ) : V x pc L (.int b :: .int a :: st) σ := by
  intro H locs ls hP hS hl
  exact lv_imul G.1 G.2.1 dg (k H locs ls hP hS hl)
theorem v_iand {a b : Int32} (G : vG x own cc nL ret dd) (dg : decode cc pc = .ok (.iand, 1)) (k : V x (pc + 1) L (.int (a &&& b) :: st) σ) : V x pc L (.int b :: .int a :: st) σ := by
  intro H locs ls hP hS hl
  exact lv_iand G.1 G.2.1 dg (k H locs ls hP hS hl)
theorem v_ior {a b : Int32} (G : vG x own cc nL ret dd) (dg : decode cc pc = .ok (.ior, 1)) (k : V x (pc + 1) L (.int (a ||| b) :: st) σ) : V x pc L (.int b :: .int a :: st) σ := by
  intro H locs ls hP hS hl
  exact lv_ior G.1 G.2.1 dg (k H locs ls hP hS hl)
theorem v_ixor {a b : Int32} (G : vG x own cc nL ret dd) (dg : decode cc pc = .ok (.ixor, 1)) (k : V x (pc + 1) L (.int (a ^^^ b) :: st) σ) : V x pc L (.int b :: .int a :: st) σ := by
  intro H locs ls hP hS hl
  exact lv_ixor G.1 G.2.1 dg (k H locs ls hP hS hl)
theorem v_ishl {a b : Int32} (G : vG x own cc nL ret dd) (dg : decode cc pc = .ok (.ishl, 1)) (k : V x (pc + 1) L (.int (a <<< (b &&& 31)) :: st) σ) : V x pc L (.int b :: .int a :: st) σ := by
  intro H locs ls hP hS hl
  exact lv_ishl G.1 G.2.1 dg (k H locs ls hP hS hl)
theorem v_ishr {a b : Int32} (G : vG x own cc nL ret dd) (dg : decode cc pc = .ok (.ishr, 1)) (k : V x (pc + 1) L (.int (a >>> (b &&& 31)) :: st) σ) : V x pc L (.int b :: .int a :: st) σ := by
  intro H locs ls hP hS hl
  exact lv_ishr G.1 G.2.1 dg (k H locs ls hP hS hl)
theorem v_iushr {a b : Int32} (G : vG x own cc nL ret dd) (dg : decode cc pc = .ok (.iushr, 1)) (k : V x (pc + 1) L (.int ((a.toUInt32 >>> (b.toUInt32 &&& Int32.toUInt32 31)).toInt32) :: st) σ) : V x pc L (.int b :: .int a :: st) σ := by
  intro H locs ls hP hS hl
  exact lv_iushr G.1 G.2.1 dg rfl (k H locs ls hP hS hl)
theorem v_idiv {a b : Int32} (G : vG x own cc nL ret dd) (dg : decode cc pc = .ok (.idiv, 1)) (hne : ¬ b = 0) (k : V x (pc + 1) L (.int (a / b) :: st) σ) : V x pc L (.int b :: .int a :: st) σ := by
  intro H locs ls hP hS hl
  exact lv_idiv G.1 G.2.1 dg hne (k H locs ls hP hS hl)
theorem v_irem {a b : Int32} (G : vG x own cc nL ret dd) (dg : decode cc pc = .ok (.irem, 1)) (hne : ¬ b = 0) (k : V x (pc + 1) L (.int (a - a / b * b) :: st) σ) : V x pc L (.int b :: .int a :: st) σ := by
  intro H locs ls hP hS hl
  exact lv_irem G.1 G.2.1 dg hne (k H locs ls hP hS hl)
theorem v_ladd {a b : Int64} (G : vG x own cc nL ret dd) (dg : decode cc pc = .ok (.ladd, 1)) (k : V x (pc + 1) L (.long (a + b) :: st) σ) : V x pc L (.long b :: .long a :: st) σ := by
  intro H locs ls hP hS hl
  exact lv_ladd G.1 G.2.1 dg (k H locs ls hP hS hl)
theorem v_lsub {a b : Int64} (G : vG x own cc nL ret dd) (dg : decode cc pc = .ok (.lsub, 1)) (k : V x (pc + 1) L (.long (a - b) :: st) σ) : V x pc L (.long b :: .long a :: st) σ := by
  intro H locs ls hP hS hl
  exact lv_lsub G.1 G.2.1 dg (k H locs ls hP hS hl)
theorem v_lmul {a b : Int64} (G : vG x own cc nL ret dd) (dg : decode cc pc = .ok (.lmul, 1)) (k : V x (pc + 1) L (.long (a * b) :: st) σ) : V x pc L (.long b :: .long a :: st) σ := by
  intro H locs ls hP hS hl
  exact lv_lmul G.1 G.2.1 dg (k H locs ls hP hS hl)
theorem v_ldiv {a b : Int64} (G : vG x own cc nL ret dd) (dg : decode cc pc = .ok (.ldiv, 1)) (hne : ¬ b = 0) (k : V x (pc + 1) L (.long (a / b) :: st) σ) : V x pc L (.long b :: .long a :: st) σ := by
  intro H locs ls hP hS hl
  exact lv_ldiv G.1 G.2.1 dg hne (k H locs ls hP hS hl)
theorem v_lrem {a b : Int64} (G : vG x own cc nL ret dd) (dg : decode cc pc = .ok (.lrem, 1)) (hne : ¬ b = 0) (k : V x (pc + 1) L (.long (a - a / b * b) :: st) σ) : V x pc L (.long b :: .long a :: st) σ := by
  intro H locs ls hP hS hl
  exact lv_lrem G.1 G.2.1 dg hne (k H locs ls hP hS hl)
theorem v_lcmp {a b : Int64} (G : vG x own cc nL ret dd) (dg : decode cc pc = .ok (.lcmp, 1)) (k : V x (pc + 1) L (.int (lg_cmp a b) :: st) σ) : V x pc L (.long b :: .long a :: st) σ := by
  intro H locs ls hP hS hl
  exact W.lcmp G.1 G.2.1 dg (k H locs ls hP hS hl)
theorem v_i2l {a : Int32} (G : vG x own cc nL ret dd) (dg : decode cc pc = .ok (.i2l, 1)) (k : V x (pc + 1) L (.long a.toInt64 :: st) σ) : V x pc L (.int a :: st) σ := by
  intro H locs ls hP hS hl
  exact lv_i2l G.1 G.2.1 dg rfl (k H locs ls hP hS hl)
theorem v_i2b {a : Int32} (G : vG x own cc nL ret dd) (dg : decode cc pc = .ok (.i2b, 1)) (k : V x (pc + 1) L (.int a.toInt8.toInt32 :: st) σ) : V x pc L (.int a :: st) σ := by
  intro H locs ls hP hS hl
  exact lv_i2b G.1 G.2.1 dg rfl (k H locs ls hP hS hl)
theorem v_i2c {a : Int32} (G : vG x own cc nL ret dd) (dg : decode cc pc = .ok (.i2c, 1)) (k : V x (pc + 1) L (.int (a.toUInt32 % 65536).toInt32 :: st) σ) : V x pc L (.int a :: st) σ := by
  intro H locs ls hP hS hl
  exact lv_i2c G.1 G.2.1 dg rfl (k H locs ls hP hS hl)
theorem v_i2s {a : Int32} (G : vG x own cc nL ret dd) (dg : decode cc pc = .ok (.i2s, 1)) (k : V x (pc + 1) L (.int a.toInt16.toInt32 :: st) σ) : V x pc L (.int a :: st) σ := by
  intro H locs ls hP hS hl
  exact lv_i2s G.1 G.2.1 dg rfl (k H locs ls hP hS hl)
theorem v_dup {v : Value} (G : vG x own cc nL ret dd) (dg : decode cc pc = .ok (.dup, 1)) (hc : v.category = 1) (k : V x (pc + 1) L (v :: v :: st) σ) : V x pc L (v :: st) σ := by
  intro H locs ls hP hS hl
  exact lv_dup G.1 G.2.1 dg ((vm_cat _ v).trans hc) (k H locs ls hP hS hl)
theorem v_pop {v : Value} (G : vG x own cc nL ret dd) (dg : decode cc pc = .ok (.pop, 1)) (hc : v.category = 1) (k : V x (pc + 1) L (st) σ) : V x pc L (v :: st) σ := by
  intro H locs ls hP hS hl
  exact lv_pop G.1 G.2.1 dg ((vm_cat _ v).trans hc) (k H locs ls hP hS hl)
theorem v_dup2 {v w : Value} (G : vG x own cc nL ret dd) (dg : decode cc pc = .ok (.dup2, 1)) (hc : v.category = 1) (hd : w.category = 1) (k : V x (pc + 1) L (v :: w :: v :: w :: st) σ) : V x pc L (v :: w :: st) σ := by
  intro H locs ls hP hS hl
  exact lv_dup2_11 G.1 G.2.1 dg ((vm_cat _ v).trans hc) ((vm_cat _ w).trans hd) (k H locs ls hP hS hl)
theorem v_iload_n {k0 : Fin 4} {i : Nat} {v : Int32} (G : vG x own cc nL ret dd) (dg : decode cc pc = .ok (.iload_n k0, 1)) (hi : (k0 : Nat) = i) (hl0 : L[i]? = some (some (.int v))) (k : V x (pc + 1) L (.int v :: st) σ) : V x pc L (st) σ := by
  intro H locs ls hP hS hl
  exact lv_iload_n G.1 G.2.1 dg hi (vlo_get hl hl0) (k H locs ls hP hS hl)
theorem v_iload {i : Nat} {v : Int32} (G : vG x own cc nL ret dd) (dg : decode cc pc = .ok (.iload i, 2)) (hl0 : L[i]? = some (some (.int v))) (k : V x (pc + 2) L (.int v :: st) σ) : V x pc L (st) σ := by
  intro H locs ls hP hS hl
  exact lv_iload G.1 G.2.1 dg (vlo_get hl hl0) (k H locs ls hP hS hl)
theorem v_lload_n {k0 : Fin 4} {i : Nat} {v : Int64} (G : vG x own cc nL ret dd) (dg : decode cc pc = .ok (.lload_n k0, 1)) (hi : (k0 : Nat) = i) (hl0 : L[i]? = some (some (.long v))) (k : V x (pc + 1) L (.long v :: st) σ) : V x pc L (st) σ := by
  intro H locs ls hP hS hl
  exact lv_lload_n G.1 G.2.1 dg hi (vlo_get hl hl0) (k H locs ls hP hS hl)
theorem v_lload {i : Nat} {v : Int64} (G : vG x own cc nL ret dd) (dg : decode cc pc = .ok (.lload i, 2)) (hl0 : L[i]? = some (some (.long v))) (k : V x (pc + 2) L (.long v :: st) σ) : V x pc L (st) σ := by
  intro H locs ls hP hS hl
  exact lv_lload G.1 G.2.1 dg (vlo_get hl hl0) (k H locs ls hP hS hl)
theorem v_aload_n {k0 : Fin 4} {i : Nat} {v : Nat} (G : vG x own cc nL ret dd) (dg : decode cc pc = .ok (.aload_n k0, 1)) (hi : (k0 : Nat) = i) (hl0 : L[i]? = some (some (.ref v))) (k : V x (pc + 1) L (.ref v :: st) σ) : V x pc L (st) σ := by
  intro H locs ls hP hS hl
  exact lv_aload_n G.1 G.2.1 dg hi (vlo_get hl hl0) (k H locs ls hP hS hl)
theorem v_aload {i : Nat} {v : Nat} (G : vG x own cc nL ret dd) (dg : decode cc pc = .ok (.aload i, 2)) (hl0 : L[i]? = some (some (.ref v))) (k : V x (pc + 2) L (.ref v :: st) σ) : V x pc L (st) σ := by
  intro H locs ls hP hS hl
  exact lv_aload G.1 G.2.1 dg (vlo_get hl hl0) (k H locs ls hP hS hl)
theorem v_istore_n {k0 : Fin 4} {i : Nat} {v : Int32} (G : vG x own cc nL ret dd) (dg : decode cc pc = .ok (.istore_n k0, 1)) (hi : (k0 : Nat) = i) (hn : i < nL) (hq : vnl L i = true) (k : V x (pc + 1) (L.set i (some (.int v))) st σ) : V x pc L (.int v :: st) σ := by
  intro H locs ls hP hS hl
  exact lv_istore_n G.1 G.2.1 dg hi hl (by rw [G.2.2.1]; exact hn) rfl (fun ls' h' => k H locs ls' hP hS (lv_has_of h' (vset1_sub rfl hq)))
theorem v_astore_n {k0 : Fin 4} {i : Nat} {v : Nat} (G : vG x own cc nL ret dd) (dg : decode cc pc = .ok (.astore_n k0, 1)) (hi : (k0 : Nat) = i) (hn : i < nL) (hq : vnl L i = true) (k : V x (pc + 1) (L.set i (some (.ref v))) st σ) : V x pc L (.ref v :: st) σ := by
  intro H locs ls hP hS hl
  exact lv_astore_n G.1 G.2.1 dg hi hl (by rw [G.2.2.1]; exact hn) rfl (fun ls' h' => k H locs ls' hP hS (lv_has_of h' (vset1_sub rfl hq)))
theorem v_lstore_n {k0 : Fin 4} {i : Nat} {v : Int64} (G : vG x own cc nL ret dd) (dg : decode cc pc = .ok (.lstore_n k0, 1)) (hi : (k0 : Nat) = i) (hn : i + 1 < nL) (hq : vnl L i = true) (k : V x (pc + 1) ((L.set i (some (.long v))).set (i + 1) none) st σ) : V x pc L (.long v :: st) σ := by
  intro H locs ls hP hS hl
  exact lv_lstore_n G.1 G.2.1 dg hi hl (by rw [G.2.2.1]; exact hn) rfl (fun ls' h' => k H locs ls' hP hS (lv_has_of h' (vset2_sub rfl hq)))
theorem v_istore {i : Nat} {v : Int32} (G : vG x own cc nL ret dd) (dg : decode cc pc = .ok (.istore i, 2)) (hn : i < nL) (hq : vnl L i = true) (k : V x (pc + 2) (L.set i (some (.int v))) st σ) : V x pc L (.int v :: st) σ := by
  intro H locs ls hP hS hl
  exact lv_istore G.1 G.2.1 dg hl (by rw [G.2.2.1]; exact hn) rfl (fun ls' h' => k H locs ls' hP hS (lv_has_of h' (vset1_sub rfl hq)))
theorem v_astore {i : Nat} {v : Nat} (G : vG x own cc nL ret dd) (dg : decode cc pc = .ok (.astore i, 2)) (hn : i < nL) (hq : vnl L i = true) (k : V x (pc + 2) (L.set i (some (.ref v))) st σ) : V x pc L (.ref v :: st) σ := by
  intro H locs ls hP hS hl
  exact lv_astore G.1 G.2.1 dg hl (by rw [G.2.2.1]; exact hn) rfl (fun ls' h' => k H locs ls' hP hS (lv_has_of h' (vset1_sub rfl hq)))
theorem v_lstore {i : Nat} {v : Int64} (G : vG x own cc nL ret dd) (dg : decode cc pc = .ok (.lstore i, 2)) (hn : i + 1 < nL) (hq : vnl L i = true) (k : V x (pc + 2) ((L.set i (some (.long v))).set (i + 1) none) st σ) : V x pc L (.long v :: st) σ := by
  intro H locs ls hP hS hl
  exact lv_lstore G.1 G.2.1 dg hl (by rw [G.2.2.1]; exact hn) rfl (fun ls' h' => k H locs ls' hP hS (lv_has_of h' (vset2_sub rfl hq)))
theorem v_iinc {i : Nat} {n : Int} {a : Int32} (G : vG x own cc nL ret dd) (dg : decode cc pc = .ok (.iinc i n, 3)) (hl0 : L[i]? = some (some (.int a))) (hn : i < nL) (hq : vnl L i = true) (k : V x (pc + 3) (L.set i (some (.int (a + Int32.ofInt n)))) st σ) : V x pc L st σ := by
  intro H locs ls hP hS hl
  have hm := vlo_mem (α := (xE x).1) (b := 0) hl0
  rw [Nat.zero_add] at hm
  obtain ⟨k0, hk0⟩ := List.getElem?_of_mem hm
  exact lv_iinc G.1 G.2.1 dg hl hk0 rfl (by rw [G.2.2.1]; exact hn) rfl (fun ls' h' => k H locs ls' hP hS (lv_has_of h' (vset1_sub rfl hq)))
theorem v_if_eq {a : Int32} {off : Int} {tgt : Nat} (G : vG x own cc nL ret dd) (dg : decode cc pc = .ok (.ifCond .eq off, 3)) (ht : (pc : Int) + off = (tgt : Int)) (kt : a = 0 → V x tgt L st σ) (kf : ¬ a = 0 → V x (pc + 3) L st σ) : V x pc L (.int a :: st) σ := by
  intro H locs ls hP hS hl
  exact lv_if_eq G.1 G.2.1 dg ht (fun h => kt h H locs ls hP hS hl) (fun h => kf h H locs ls hP hS hl)
theorem v_if_ne {a : Int32} {off : Int} {tgt : Nat} (G : vG x own cc nL ret dd) (dg : decode cc pc = .ok (.ifCond .ne off, 3)) (ht : (pc : Int) + off = (tgt : Int)) (kt : ¬ a = 0 → V x tgt L st σ) (kf : a = 0 → V x (pc + 3) L st σ) : V x pc L (.int a :: st) σ := by
  intro H locs ls hP hS hl
  exact lv_if_ne G.1 G.2.1 dg ht (fun h => kt h H locs ls hP hS hl) (fun h => kf h H locs ls hP hS hl)
theorem v_if_lt {a : Int32} {off : Int} {tgt : Nat} (G : vG x own cc nL ret dd) (dg : decode cc pc = .ok (.ifCond .lt off, 3)) (ht : (pc : Int) + off = (tgt : Int)) (kt : a < 0 → V x tgt L st σ) (kf : ¬ a < 0 → V x (pc + 3) L st σ) : V x pc L (.int a :: st) σ := by
  intro H locs ls hP hS hl
  exact lv_if_lt G.1 G.2.1 dg ht (fun h => kt h H locs ls hP hS hl) (fun h => kf h H locs ls hP hS hl)
theorem v_if_ge {a : Int32} {off : Int} {tgt : Nat} (G : vG x own cc nL ret dd) (dg : decode cc pc = .ok (.ifCond .ge off, 3)) (ht : (pc : Int) + off = (tgt : Int)) (kt : 0 ≤ a → V x tgt L st σ) (kf : ¬ 0 ≤ a → V x (pc + 3) L st σ) : V x pc L (.int a :: st) σ := by
  intro H locs ls hP hS hl
  exact lv_if_ge G.1 G.2.1 dg ht (fun h => kt h H locs ls hP hS hl) (fun h => kf h H locs ls hP hS hl)
theorem v_if_gt {a : Int32} {off : Int} {tgt : Nat} (G : vG x own cc nL ret dd) (dg : decode cc pc = .ok (.ifCond .gt off, 3)) (ht : (pc : Int) + off = (tgt : Int)) (kt : 0 < a → V x tgt L st σ) (kf : ¬ 0 < a → V x (pc + 3) L st σ) : V x pc L (.int a :: st) σ := by
  intro H locs ls hP hS hl
  exact lv_if_gt G.1 G.2.1 dg ht (fun h => kt h H locs ls hP hS hl) (fun h => kf h H locs ls hP hS hl)
theorem v_if_le {a : Int32} {off : Int} {tgt : Nat} (G : vG x own cc nL ret dd) (dg : decode cc pc = .ok (.ifCond .le off, 3)) (ht : (pc : Int) + off = (tgt : Int)) (kt : a ≤ 0 → V x tgt L st σ) (kf : ¬ a ≤ 0 → V x (pc + 3) L st σ) : V x pc L (.int a :: st) σ := by
  intro H locs ls hP hS hl
  exact lv_if_le G.1 G.2.1 dg ht (fun h => kt h H locs ls hP hS hl) (fun h => kf h H locs ls hP hS hl)
theorem v_icmp_eq {a b : Int32} {off : Int} {tgt : Nat} (G : vG x own cc nL ret dd) (dg : decode cc pc = .ok (.if_icmp .eq off, 3)) (ht : (pc : Int) + off = (tgt : Int)) (kt : a = b → V x tgt L st σ) (kf : ¬ a = b → V x (pc + 3) L st σ) : V x pc L (.int b :: .int a :: st) σ := by
  intro H locs ls hP hS hl
  exact lv_icmp_eq G.1 G.2.1 dg ht (fun h => kt h H locs ls hP hS hl) (fun h => kf h H locs ls hP hS hl)
theorem v_icmp_ne {a b : Int32} {off : Int} {tgt : Nat} (G : vG x own cc nL ret dd) (dg : decode cc pc = .ok (.if_icmp .ne off, 3)) (ht : (pc : Int) + off = (tgt : Int)) (kt : ¬ a = b → V x tgt L st σ) (kf : a = b → V x (pc + 3) L st σ) : V x pc L (.int b :: .int a :: st) σ := by
  intro H locs ls hP hS hl
  exact lv_icmp_ne G.1 G.2.1 dg ht (fun h => kt h H locs ls hP hS hl) (fun h => kf h H locs ls hP hS hl)
theorem v_icmp_lt {a b : Int32} {off : Int} {tgt : Nat} (G : vG x own cc nL ret dd) (dg : decode cc pc = .ok (.if_icmp .lt off, 3)) (ht : (pc : Int) + off = (tgt : Int)) (kt : a < b → V x tgt L st σ) (kf : ¬ a < b → V x (pc + 3) L st σ) : V x pc L (.int b :: .int a :: st) σ := by
  intro H locs ls hP hS hl
  exact lv_icmp_lt G.1 G.2.1 dg ht (fun h => kt h H locs ls hP hS hl) (fun h => kf h H locs ls hP hS hl)
theorem v_icmp_ge {a b : Int32} {off : Int} {tgt : Nat} (G : vG x own cc nL ret dd) (dg : decode cc pc = .ok (.if_icmp .ge off, 3)) (ht : (pc : Int) + off = (tgt : Int)) (kt : b ≤ a → V x tgt L st σ) (kf : ¬ b ≤ a → V x (pc + 3) L st σ) : V x pc L (.int b :: .int a :: st) σ := by
  intro H locs ls hP hS hl
  exact lv_icmp_ge G.1 G.2.1 dg ht (fun h => kt h H locs ls hP hS hl) (fun h => kf h H locs ls hP hS hl)
theorem v_icmp_gt {a b : Int32} {off : Int} {tgt : Nat} (G : vG x own cc nL ret dd) (dg : decode cc pc = .ok (.if_icmp .gt off, 3)) (ht : (pc : Int) + off = (tgt : Int)) (kt : b < a → V x tgt L st σ) (kf : ¬ b < a → V x (pc + 3) L st σ) : V x pc L (.int b :: .int a :: st) σ := by
  intro H locs ls hP hS hl
  exact lv_icmp_gt G.1 G.2.1 dg ht (fun h => kt h H locs ls hP hS hl) (fun h => kf h H locs ls hP hS hl)
theorem v_icmp_le {a b : Int32} {off : Int} {tgt : Nat} (G : vG x own cc nL ret dd) (dg : decode cc pc = .ok (.if_icmp .le off, 3)) (ht : (pc : Int) + off = (tgt : Int)) (kt : a ≤ b → V x tgt L st σ) (kf : ¬ a ≤ b → V x (pc + 3) L st σ) : V x pc L (.int b :: .int a :: st) σ := by
  intro H locs ls hP hS hl
  exact lv_icmp_le G.1 G.2.1 dg ht (fun h => kt h H locs ls hP hS hl) (fun h => kf h H locs ls hP hS hl)
theorem v_goto {off : Int} {tgt : Nat} (G : vG x own cc nL ret dd) (dg : decode cc pc = .ok (.goto off, 3)) (ht : (pc : Int) + off = (tgt : Int)) (k : V x tgt L st σ) : V x pc L st σ := by
  intro H locs ls hP hS hl
  exact lv_goto G.1 G.2.1 dg ht (k H locs ls hP hS hl)
theorem v_ldc {index : Nat} {v : Int32} (G : vG x own cc nL ret dd) (hc : Cond.constant own index v ∈ BIG) (dg : decode cc pc = .ok (.ldc index, 2)) (k : V x (pc + 2) L (.int v :: st) σ) : V x pc L st σ := by
  intro H locs ls hP hS hl
  exact lv_ldc G.1 G.2.1 G.2.2.2.2.1 (G.2.2.2.2.2.1 _ hc) dg (k H locs ls hP hS hl)
theorem v_ldc_w {index : Nat} {v : Int32} (G : vG x own cc nL ret dd) (hc : Cond.constant own index v ∈ BIG) (dg : decode cc pc = .ok (.ldc_w index, 3)) (k : V x (pc + 3) L (.int v :: st) σ) : V x pc L st σ := by
  intro H locs ls hP hS hl
  exact lv_ldcw G.1 G.2.1 G.2.2.2.2.1 (G.2.2.2.2.2.1 _ hc) dg (k H locs ls hP hS hl)
theorem v_ldc2 {index : Nat} {v : Int64} (G : vG x own cc nL ret dd) (hc : Cond.constantLong own index v ∈ BIG) (dg : decode cc pc = .ok (.ldc2_w index, 3)) (k : V x (pc + 3) L (.long v :: st) σ) : V x pc L st σ := by
  intro H locs ls hP hS hl
  exact lv_ldc2 G.1 G.2.1 G.2.2.2.2.1 (G.2.2.2.2.2.1 _ hc) dg (k H locs ls hP hS hl)
theorem v_tabIn {dflt lo hi : Int} {offs : Array Int} {len : Nat} {a : Int32} {off : Int} {tgt : Nat} (G : vG x own cc nL ret dd) (dg : decode cc pc = .ok (.tableswitch dflt lo hi offs, len)) (h1 : ¬ a.toInt < lo) (h2 : ¬ hi < a.toInt) (ho : offs[(a.toInt - lo).toNat]? = some off) (ht : (pc : Int) + off = (tgt : Int)) (k : V x tgt L st σ) : V x pc L (.int a :: st) σ := by
  intro H locs ls hP hS hl
  exact lv_tableIn G.1 G.2.1 dg h1 h2 ho ht (k H locs ls hP hS hl)
theorem v_tabOut {dflt lo hi : Int} {offs : Array Int} {len : Nat} {a : Int32} {tgt : Nat} (G : vG x own cc nL ret dd) (dg : decode cc pc = .ok (.tableswitch dflt lo hi offs, len)) (h : a.toInt < lo ∨ hi < a.toInt) (ht : (pc : Int) + dflt = (tgt : Int)) (k : V x tgt L st σ) : V x pc L (.int a :: st) σ := by
  intro H locs ls hP hS hl
  exact lv_tableOut G.1 G.2.1 dg h ht (k H locs ls hP hS hl)
theorem v_lookup {dflt : Int} {ps : Array (Int × Int)} {len : Nat} {a : Int32} {off : Int} {tgt : Nat} (G : vG x own cc nL ret dd) (dg : decode cc pc = .ok (.lookupswitch dflt ps, len)) (hp : (ps.toList.zip (ps.toList.drop 1)).all (fun (a, next) => a.1 < next.1) = true) (ho : Op.lookupswitch.offset ps.toList dflt a.toInt = off) (ht : (pc : Int) + off = (tgt : Int)) (k : V x tgt L st σ) : V x pc L (.int a :: st) σ := by
  intro H locs ls hP hS hl
  exact lv_lookup G.1 G.2.1 dg hp ho ht (k H locs ls hP hS hl)
end VR
