/-! THE PLAIN MACHINE: a method's walk over places (0 .. 87) whose shape never changes; the world is vW: place, index, int. -/
def BIG : List Cond := lw_tbl.filter goodWord
theorem inBIG {w : Cond} (h : w ∈ lw_tbl) (g : goodWord w = true) : w ∈ BIG := List.mem_filter.mpr ⟨h, g⟩
theorem BIG_tbl {w : Cond} (h : w ∈ BIG) : w ∈ lw_tbl := (List.mem_filter.mp h).1
theorem BIG_good {w : Cond} (h : w ∈ BIG) : goodWord w = true := (List.mem_filter.mp h).2
abbrev vW : Type := Nat → Nat → Int32
abbrev vL : Type := Nat × Nat × (Nat → Option Nat)
abbrev vE : Type := (Nat → Nat) × va_G × (Nat → ClassId) × (Nat → Nat)
abbrev vMI : Type := MethodName × ByteArray × Nat × Option FieldType
def vNone : Nat → Option Nat := fun _ => none
def vTownR (t : Nat) : Nat → Option Nat := fun k => if k < 10 then some (t + 1 + k) else none
def vTownL (t : Nat) : List vL := [(4, 13, vTownR t), (7, 5, vNone), (7, 5, vNone), (7, 5, vNone), (7, 5, vNone), (7, 9, vNone), (7, 9, vNone), (7, 9, vNone), (7, 8, vNone), (7, 6, vNone), (7, 6, vNone)]
def vR0 : Nat → Option Nat := fun k => [some 1, some 21, some 32, some 4, some 8, some 9, some 65, some 66].getD k none
def vR1 : Nat → Option Nat := fun k => [some 2, some 10].getD k none
def vR2 : Nat → Option Nat := fun k => [some 3].getD k none
def vR4 : Nat → Option Nat := fun k => [some 5, some 6, some 7].getD k none
def vR8 : Nat → Option Nat := fun k => [some 43, some 54].getD k none
def vR65 : Nat → Option Nat := fun k => [some 67, some 69, some 71, some 73].getD k none
def vSheetR (t : Nat) : Nat → Option Nat := fun k => if k = 0 then some (t + 1) else none
def vR75 : Nat → Option Nat := fun k => [some 76, none, some 77, none, none, none, none, none, none, some 78, none, none, none, none, none, none, none, none, some 79, some 80, none, some 81, none, none, some 82, none, some 83, some 84, some 85, some 86, some 87, none].getD k none
def layL : List vL := [(5, 10, vR0), (0, 7, vR1), (3, 6, vR2), (8, 160, vNone), (2, 4, vR4), (7, 6, vNone), (7, 6, vNone), (9, 6, vNone), (10, 2, vR8), (9, 2, vNone)] ++ (vTownL 10 ++ (vTownL 21 ++ (vTownL 32 ++ (vTownL 43 ++ (vTownL 54 ++
  [(11, 4, vR65), (7, 8, vNone), (1, 3, vSheetR 67), (7, 40, vNone), (1, 3, vSheetR 69), (7, 40, vNone), (1, 3, vSheetR 71), (7, 40, vNone), (1, 3, vSheetR 73), (7, 40, vNone), (6, 32, vR75), (7, 325, vNone), (7, 65, vNone), (7, 160, vNone), (7, 8, vNone), (7, 32, vNone), (7, 8, vNone), (7, 18, vNone), (7, 45, vNone), (9, 2, vNone), (7, 4, vNone), (7, 4, vNone), (7, 160, vNone)])))))
def lay (k : Nat) : vL := layL.getD k (7, 0, vNone)
theorem layL_len : layL.length = 88 := by decide +kernel
/-- a value of the plain machine, at the real addresses -/
def vm (α : Nat → Nat) : Value → Value := fun v => match v with
  | .ref k => .ref (α k)
  | v => v
theorem vm_cat (α : Nat → Nat) (v : Value) : (vm α v).category = v.category := by cases v <;> rfl
def vsl (E : vE) (k : Nat) (σ : vW) (q : vL) (j : Nat) : Value := match q.2.2 j with
  | some p => .ref (E.1 p)
  | none => .int (σ k j)
def vcellOf (E : vE) (σ : vW) (k : Nat) (q : vL) : va_E :=
  if q.1 < 7 then .inr (q.1, (List.range q.2.1).map (vsl E k σ q))
  else if q.1 < 10 then .inl (E.2.2.1 (q.1 - 7), q.2.1, .inl (σ k))
  else .inl (E.2.2.1 (q.1 - 7), q.2.1, .inr (.inr (.inr (.inr (fun j => (q.2.2 j).map E.1)))))
def vcell (E : vE) (σ : vW) (k : Nat) : va_E := vcellOf E σ k (lay k)
def vws (E : vE) (σ : vW) : va_W := (List.range 88).map (fun k => (E.1 k, vcell E σ k))
def vtys (E : vE) : List (ClassId × FieldType) := [(E.2.2.1 0, .int), (E.2.2.1 1, .byte), (E.2.2.1 2, .boolean), (E.2.2.1 3, .object "DoorTown$Town"), (E.2.2.1 4, .object "DoorTown$Sheet")]
def vA (E : vE) : Nat → Prop := fun q => ∃ k, k < 88 ∧ q = E.1 k
def vInj (E : vE) : Prop := ∀ i j, i < 88 → j < 88 → E.1 i = E.1 j → i = j
theorem vws_get (E : vE) (σ : vW) {k : Nat} (hk : k < 88) : (vws E σ)[k]? = some (E.1 k, vcell E σ k) := by
  unfold vws
  rw [List.getElem?_map, List.getElem?_range hk]
  rfl
theorem vws_inv {E : vE} {σ : vW} {k : Nat} {q : Nat × va_E} (h : (vws E σ)[k]? = some q) : k < 88 ∧ q = (E.1 k, vcell E σ k) := by
  have hl : k < 88 := by
    have := (List.getElem?_eq_some_iff.mp h).1
    simpa [vws] using this
  rw [vws_get E σ hl] at h
  exact ⟨hl, (Option.some.inj h).symm⟩
theorem vws_set (E : vE) (σ σ' : vW) {k : Nat} (hk : k < 88) {c : va_E} (hc : c = vcell E σ' k) (ho : ∀ j, j < 88 → j ≠ k → vcell E σ' j = vcell E σ j) : (vws E σ).set k (E.1 k, c) = vws E σ' := by
  apply List.ext_getElem?
  intro i
  by_cases hi : i < 88
  · rw [vws_get E σ' hi]
    by_cases hik : i = k
    · subst hik
      rw [List.getElem?_set_self (by simpa [vws] using hi), hc]
    · rw [List.getElem?_set_ne (Ne.symm hik), vws_get E σ hi, ho i hi hik]
  · rw [List.getElem?_eq_none (by simpa [vws] using hi), List.getElem?_eq_none (by simpa [vws] using hi)]
theorem vws_D {E : vE} (hi : vInj E) (σ : vW) : va_D (vA E) (vws E σ) := by
  refine ⟨fun i j p q hp hq h => ?_, fun k q hq => ?_⟩
  · obtain ⟨h1, rfl⟩ := vws_inv hp
    obtain ⟨h2, rfl⟩ := vws_inv hq
    exact hi i j h1 h2 h
  · obtain ⟨h1, rfl⟩ := vws_inv hq
    exact ⟨k, h1, rfl⟩
/-- one int of the world -/
def vset (σ : vW) (k i : Nat) (v : Int32) : vW := fun a j => if a = k ∧ j = i then v else σ a j
/-- one row of the world -/
def vrow (σ : vW) (k : Nat) (f : Nat → Int32) : vW := fun a => if a = k then f else σ a
theorem vset_row (σ : vW) (k i : Nat) (v : Int32) : vset σ k i v = vrow σ k (upd (σ k) i v) := by
  funext a j
  by_cases ha : a = k
  · subst ha
    simp [vset, vrow, upd]
  · simp [vset, vrow, ha]
theorem vrow_cell_ne (E : vE) (σ : vW) {k j : Nat} (f : Nat → Int32) (h : j ≠ k) : vcell E (vrow σ k f) j = vcell E σ j := by
  have e : (vrow σ k f) j = σ j := by simp [vrow, h]
  have e2 : vsl E j (vrow σ k f) (lay j) = vsl E j σ (lay j) := by
    funext i
    simp only [vsl, e]
  simp only [vcell, vcellOf, e, e2]
theorem vrow_cell_arr (E : vE) (σ : vW) {k ty n : Nat} {rf : Nat → Option Nat} (f : Nat → Int32) (hl : lay k = (7 + ty, n, rf)) (ht : ty < 3) : vcell E (vrow σ k f) k = .inl (E.2.2.1 ty, n, .inl f) := by
  have e : (vrow σ k f) k = f := by simp [vrow]
  simp only [vcell, vcellOf, hl, e]
  rw [if_neg (by omega), if_pos (by omega), Nat.add_sub_cancel_left]
theorem vcell_arr (E : vE) (σ : vW) {k ty n : Nat} {rf : Nat → Option Nat} (hl : lay k = (7 + ty, n, rf)) (ht : ty < 3) : vcell E σ k = .inl (E.2.2.1 ty, n, .inl (σ k)) := by
  simp only [vcell, vcellOf, hl]
  rw [if_neg (by omega), if_pos (by omega), Nat.add_sub_cancel_left]
theorem vcell_refs (E : vE) (σ : vW) {k ty n : Nat} {rf : Nat → Option Nat} (hl : lay k = (7 + ty, n, rf)) (ht : 3 ≤ ty) : vcell E σ k = .inl (E.2.2.1 ty, n, .inr (.inr (.inr (.inr (fun j => (rf j).map E.1))))) := by
  simp only [vcell, vcellOf, hl]
  rw [if_neg (by omega), if_neg (by omega), Nat.add_sub_cancel_left]
theorem vcell_obj (E : vE) (σ : vW) {k ci n : Nat} {rf : Nat → Option Nat} (hl : lay k = (ci, n, rf)) (hc : ci < 7) : vcell E σ k = .inr (ci, (List.range n).map (vsl E k σ (ci, n, rf))) := by
  simp only [vcell, vcellOf, hl]
  rw [if_pos hc]
theorem vslots_at (E : vE) (k : Nat) (σ : vW) (q : vL) {n j : Nat} (h : j < n) : ((List.range n).map (vsl E k σ q))[j]? = some (vsl E k σ q j) := by
  rw [List.getElem?_map, List.getElem?_range h]
  rfl
theorem vset_cell_obj (E : vE) (σ : vW) {k ci n i : Nat} {rf : Nat → Option Nat} (v : Int32) (hl : lay k = (ci, n, rf)) (hc : ci < 7) (hr : rf i = none) : vcell E (vset σ k i v) k = .inr (ci, ((List.range n).map (vsl E k σ (ci, n, rf))).set i (.int v)) := by
  rw [vcell_obj E (vset σ k i v) hl hc]
  congr 2
  apply List.ext_getElem?
  intro j
  by_cases hj : j < n
  · rw [vslots_at E k _ _ hj]
    by_cases hji : j = i
    · subst hji
      rw [List.getElem?_set_self (by simpa using hj)]
      simp [vsl, hr, vset]
    · rw [List.getElem?_set_ne (Ne.symm hji), vslots_at E k _ _ hj]
      simp [vsl, vset, hji]
  · rw [List.getElem?_eq_none (by simpa using hj), List.getElem?_eq_none (by simpa using hj)]
/-- the strings of the reader, by places 100 .. 106 -/
def vStrIx : List Nat := [95, 97, 99, 101, 63, 72, 77]
def vStrTx : List String := ["own", "house", "stranger", "gaol", "wall", "room", "plan"]
def vStrB : List (List Int32) := [[111, 119, 110], [104, 111, 117, 115, 101], [115, 116, 114, 97, 110, 103, 101, 114], [103, 97, 111, 108], [119, 97, 108, 108], [114, 111, 111, 109], [112, 108, 97, 110]]
def vStrN : List Nat := [3, 5, 8, 4, 4, 4, 4]
def vNest : List (String × Nat × MethodName) := [("DoorTown", 9, ⟨"DoorTown$Reader", "<init>", "()V"⟩), ("DoorTown$Reader", 11, ⟨"DoorTown$Tape", "<init>", "()V"⟩), ("DoorTown", 28, ⟨"DoorTown$Sightings", "<init>", "()V"⟩), ("DoorTown", 47, ⟨"DoorTown$Sheet", "<init>", "()V"⟩), ("DoorTown$Reader", 141, ⟨"DoorTown", "hasBit", "(II)Z"⟩), ("DoorTown$Reader", 144, ⟨"DoorTown", "isRoom", "(I)Z"⟩), ("DoorTown$Town", 89, ⟨"DoorTown", "hasBit", "(II)Z"⟩), ("DoorTown$Sightings", 36, ⟨"DoorTown", "hasBit", "(II)Z"⟩)]
/-- what stays true of the tables and of what lies outside the world -/
def vInv (E : vE) (A : Nat → Prop) (U : State) (H : Heap) : Prop :=
  va_K E.2.1 vwCl (vtys E) U ∧ (∀ q ∈ vNest, va_Nw (.methodLinkNest q.1 q.2.1 q.2.2 "DoorTown") U) ∧ vk_S 7 vStrN vStrB (fun i => E.1 (100 + i)) (fun i => E.1 (107 + i)) A U H ∧ (∀ i, i < 7 → vk_R "DoorTown$Reader" (vStrIx.getD i 0) (vStrTx.getD i "") (E.1 (100 + i)) U) ∧ va_Z "java/lang/String" "COMPACT_STRINGS" "Z" (.int 1) A U H ∧ (va_Z "jdk/internal/util/Preconditions" "SIOOBE_FORMATTER" "Ljava/util/function/BiFunction;" .null A U H ∨ va_Z "jdk/internal/util/Preconditions" "SIOOBE_FORMATTER" "Ljava/util/function/BiFunction;" (.ref (E.1 114)) A U H)
theorem vInv.warm {E : vE} {A : Nat → Prop} {s U : State} {H : Heap} (hW : s.WarmedH U.vm) (h : vInv E A s H) : vInv E A U H := by
  obtain ⟨h1, h2, h3, h4, h5, h6⟩ := h
  exact ⟨va_K.moved hW.alike h1, fun q hq => va_Nw.warmM hW (h2 q hq), vk_S.moved hW.alike h3, fun i hi => vk_R.warm hW (h4 i hi), va_Z.moved hW.alike h5, h6.imp (va_Z.moved hW.alike) (va_Z.moved hW.alike)⟩
theorem vInv.same {E : vE} {A : Nat → Prop} {s U : State} {H : Heap} (hv : U.vm = s.vm) (h : vInv E A s H) : vInv E A U H := by
  obtain ⟨h1, h2, h3, h4, h5, h6⟩ := h
  have ha : s.vm.Alike U.vm := by rw [hv]; exact Vm.Alike.refl s.vm
  exact ⟨va_K.moved ha h1, fun q hq => va_Nw.same rfl hv.symm (h2 q hq), vk_S.moved ha h3, fun i hi => vk_R.same hv (h4 i hi), va_Z.moved ha h5, h6.imp (va_Z.moved ha) (va_Z.moved ha)⟩
theorem vInv.kept {E : vE} {A : Nat → Prop} {U : State} {H H1 : Heap} (h : vInv E A U H) (hq : ∀ a : Nat, a < H.size → ¬ A a → H1[a]? = H[a]?) : vInv E A U H1 := by
  obtain ⟨h1, h2, h3, h4, h5, h6⟩ := h
  exact ⟨h1, h2, h3.kept hq, h4, h5.kept hq, h6.imp (va_Z.kept · hq) (va_Z.kept · hq)⟩
