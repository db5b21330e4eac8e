/-! Calls of the plain machine, ends of methods. -/
theorem v_bigGood {mi : vMI} (h : Cond.code mi.1 mi.2.1 mi.2.2.1 mi.2.2.2 ∈ BIG) : GoodIn BIG (.code mi.1 mi.2.1 mi.2.2.1 mi.2.2.2 :: BIG) := by
  intro w hw
  have hb : w ∈ BIG := by
    rcases List.mem_cons.mp hw with rfl | h2
    · exact h
    · exact h2
  exact ⟨hb, good_of_word (BIG_good hb)⟩
/-- what the tables say of a method that is called, with n arguments -/
def vMd (mi : vMI) (n : Nat) : Prop := Cond.code mi.1 mi.2.1 mi.2.2.1 mi.2.2.2 ∈ BIG ∧ Cond.initialized mi.1.cls ∈ BIG ∧ (mi.1.cls ≠ "java/lang/invoke/MethodHandle" ∧ mi.1.cls ≠ "java/lang/invoke/VarHandle" ∧ (parseMethodDescriptor mi.1.desc).map (fun d => d.parameters.length) = some n) ∧ mi.2.2.1 ≤ 21
def vIn (mi : vMI) : Prop := Cond.instanceMethod mi.1 ∈ BIG ∧ Cond.selects mi.1.cls mi.1 mi.1 ∈ BIG
/-- place b is an object of the method's class -/
def vRv (b : Nat) (mi : vMI) : Prop := b < 88 ∧ ∃ ci n rf q, lay b = (ci, n, rf) ∧ ci < 7 ∧ vwCl[ci]? = some q ∧ q.1 = mi.1.cls
section VC
variable {x : vX} {own : String} {cc : ByteArray} {nL dd : Nat} {ret : Option FieldType} {pc : Nat} {L : List (Option Value)} {st : List Value} {σ : vW}
theorem v_catsum (α : Nat → Nat) (st : List Value) : ((st.map (vm α)).map fun v => v.category) = st.map fun v => v.category := by
  rw [List.map_map]
  exact List.map_congr_left (fun v _ => vm_cat α v)
theorem v_inv {H : Heap} {locs : List Loc} (G : vG x own cc nL ret dd) (hS : va_S (vA (xE x)) (xs x).heap H locs) : vInv (xE x) (vA (xE x)) (xs x) H := G.2.2.2.2.2.2.1.kept (fun a h1 h2 => hS.2.1 a h1 h2)
theorem v_blind {E : vE} {av : List Value} : FrameBlind (va_Pc (av.map (vm E.1)) (fun U => va_P E.2.1 vwCl (vws E σ) U.heap ∧ vInv E (vA E) U U.heap)) := by
  intro a U g mk h
  obtain ⟨h1, h2, h3⟩ := h
  exact ⟨h1, h2, vInv.same (s := U) rfl h3⟩
theorem v_pre {H : Heap} {locs : List Loc} {av : List Value} (G : vG x own cc nL ret dd) (hP : va_P (xE x).2.1 vwCl (vws (xE x) σ) H) (hS : va_S (vA (xE x)) (xs x).heap H locs) : ∀ U : State, U.heap = H → (xs x).WarmedH U.vm → va_Pc (av.map (vm (xE x).1)) (fun U => va_P (xE x).2.1 vwCl (vws (xE x) σ) U.heap ∧ vInv (xE x) (vA (xE x)) U U.heap) (av.map (vm (xE x).1)).toArray U := by
  intro U hU hW
  refine ⟨rfl, by rw [hU]; exact hP, ?_⟩
  rw [hU]
  exact (v_inv G hS).warm hW
theorem v_after {H : Heap} {locs : List Loc} {ls : Array Slot} {st0 rest : List Value} {a : Array Value} {Post : Option Value → vW → Prop} (hr : va_Run (xp x) (xl x) (xe x) (xR x) (xs x) (xm x) (xa x) (xb x) (xM x) (xc x) H locs (xC x).1 (xC x).2 0 0 (F0 (xm x) pc ls st0) (rest.map (vm (xE x).1)) (vQc (xE x) Post a) (vA (xE x))) (hS : va_S (vA (xE x)) (xs x).heap H locs) (hl : lv_has ls (xc x).maxLocals (vlo (xE x).1 0 L))
    (kk : ∀ (r : Option Value) (σ' : vW), Post r σ' → V x (pc + 3) L (r.toList ++ rest) σ') : W (xp x) (xl x) (xe x) (xR x) (xs x) (xm x) (xa x) (xb x) (xM x) (xc x) H locs (xC x).1 (xC x).2 (xQ x) (F0 (xm x) pc ls st0) := by
  intro T hT X
  obtain ⟨v, st₀, t, T', L2, h0, X', hL, e1, e2, ⟨⟨r, σ', hv, hp, hb⟩, hz, hk⟩, st⟩ := hr T hT X
  cases hv
  rw [h0] at hz hk
  have hk2 := kk r σ' hp T'.heap (locs ++ L2) ls (by rw [e1]; exact hb) ⟨Nat.le_trans hS.1 (by rw [e1]; exact hz), fun q h1 h2 => by rw [e1, hk q (Nat.lt_of_lt_of_le h1 hS.1) h2]; exact hS.2.1 q h1 h2, fun q hq => by
      rcases List.mem_append.mp hq with h | h
      · exact hS.2.2 q h
      · exact hL q h⟩ hl
  have e3 : (r.toList ++ rest).map (vm (xE x).1) = (r.map (vm (xE x).1)).toList ++ rest.map (vm (xE x).1) := by cases r <;> simp
  rw [e3] at hk2
  obtain ⟨t2, a1, b1⟩ := hk2 T' rfl X'
  exact ⟨t2, st t2 a1, b1⟩
theorem v_callS {mi : vMI} {d n idx : Nat} {av : List Value} {Post : Option Value → vW → Prop} (G : vG x own cc nL ret dd) (C : Ctr mi d av σ Post) (hd : d < dd) (md : vMd mi n) (hs : Cond.static mi.1 ∈ BIG) (lk : Cond.methodLink own idx mi.1 ∈ BIG) (hn : av.length = n) (hw : (st.map fun v => v.category).sum ≤ 8) (dg : decode cc pc = .ok (.invokestatic idx, 3)) (k0 : ∀ (r : Option Value) (σ' : vW), Post r σ' → V x (pc + 3) L (r.toList ++ st) σ') : V x pc L (av.reverse ++ st) σ := by
  intro H locs ls hP hS hl
  have hroom := G.2.2.2.2.2.2.2.2.2
  have hg := G.2.2.2.2.2.1
  refine v_after (rest := st) (va_runS (As := av.map (vm (xE x).1)) ⟨G.1, G.2.1, G.2.2.1, G.2.2.2.2.1, hg⟩ (C (xl x) (xE x) G.2.2.2.2.2.2.2.2.1) ⟨callB_of n hg (v_bigGood md.1) rfl rfl rfl (hg _ md.2.1) (hg _ lk) md.2.2.1 ⟨?_, ?_⟩, hg _ hs⟩ ⟨v_blind, v_pre G hP hS⟩ rfl (by rw [List.length_map]; exact hn) (by show ls.size = nL; rw [hl.1]; exact G.2.2.1) ?_ (lv_room ?_) dg hroom.2.2) hS hl k0
  · show d + 1 ≤ _
    omega
  · have := md.2.2.2
    show 8 + (mi.2.2.1 + 11) + 40 * d ≤ _
    omega
  · show (av.reverse ++ st).map _ = _
    simp
  · rw [v_catsum]
    exact hw
theorem v_callN {mi : vMI} {d n idx : Nat} {av : List Value} {Post : Option Value → vW → Prop} (G : vG x own cc nL ret dd) (C : Ctr mi d av σ Post) (hd : d < dd) (md : vMd mi n) (hs : Cond.static mi.1 ∈ BIG) (lk : (own, idx, mi.1) ∈ vNest) (hn : av.length = n) (hw : (st.map fun v => v.category).sum ≤ 8) (dg : decode cc pc = .ok (.invokestatic idx, 3)) (k0 : ∀ (r : Option Value) (σ' : vW), Post r σ' → V x (pc + 3) L (r.toList ++ st) σ') : V x pc L (av.reverse ++ st) σ := by
  intro H locs ls hP hS hl
  have hroom := G.2.2.2.2.2.2.2.2.2
  have hg := G.2.2.2.2.2.1
  refine v_after (rest := st) (va_runSN (As := av.map (vm (xE x).1)) ⟨G.1, G.2.1, G.2.2.1, G.2.2.2.2.1, hg⟩ (C (xl x) (xE x) G.2.2.2.2.2.2.2.2.1) ⟨va_cnB n hg (v_bigGood md.1) rfl rfl rfl (G.2.2.2.2.2.2.1.2.1 _ lk) (hg _ md.2.1) md.2.2.1 ⟨?_, ?_⟩, hg _ hs, trivial⟩ ⟨v_blind, v_pre G hP hS⟩ rfl (by rw [List.length_map]; exact hn) (by show ls.size = nL; rw [hl.1]; exact G.2.2.1) ?_ (lv_room ?_) dg hroom.2.2) hS hl k0
  · show d + 1 ≤ _
    omega
  · have := md.2.2.2
    show 8 + (mi.2.2.1 + 11) + 40 * d ≤ _
    omega
  · show (av.reverse ++ st).map _ = _
    simp
  · rw [v_catsum]
    exact hw
theorem v_callV {mi : vMI} {b d n idx : Nat} {av : List Value} {Post : Option Value → vW → Prop} (G : vG x own cc nL ret dd) (C : Ctr mi d (.ref b :: av) σ Post) (hd : d < dd) (md : vMd mi n) (hi : vIn mi) (rv : vRv b mi) (lk : Cond.methodLink own idx mi.1 ∈ BIG) (hn : av.length = n) (hw : (st.map fun v => v.category).sum ≤ 8) (dg : decode cc pc = .ok (.invokevirtual idx, 3)) (k0 : ∀ (r : Option Value) (σ' : vW), Post r σ' → V x (pc + 3) L (r.toList ++ st) σ') : V x pc L (av.reverse ++ .ref b :: st) σ := by
  intro H locs ls hP hS hl
  have hroom := G.2.2.2.2.2.2.2.2.2
  have hg := G.2.2.2.2.2.1
  obtain ⟨hb, ci, nn, rf, q, hlay, hci, hq, hqc⟩ := rv
  have he := vws_get (xE x) σ hb
  rw [vcell_obj (xE x) σ hlay hci] at he
  obtain ⟨cell, g1, g2, g3⟩ := va_recv G.2.2.2.2.2.2.1.1 hP hq he
  rw [hqc] at g3
  refine v_after (rest := st) (va_runV (As := av.map (vm (xE x).1)) (b := (xE x).1 b) ⟨G.1, G.2.1, G.2.2.1, G.2.2.2.2.1, hg⟩ (C (xl x) (xE x) G.2.2.2.2.2.2.2.2.1) ⟨callB_of n hg (v_bigGood md.1) rfl rfl rfl (hg _ md.2.1) (hg _ lk) md.2.2.1 ⟨?_, ?_⟩, hg _ hi.1, hg _ hi.2⟩ ⟨v_blind, ⟨cell, g1, g2, g3⟩, v_pre (av := .ref b :: av) G hP hS⟩ rfl (by rw [List.length_map]; exact hn) (by show ls.size = nL; rw [hl.1]; exact G.2.2.1) ?_ (lv_room ?_) dg hroom.2.2) hS hl k0
  · show d + 1 ≤ _
    omega
  · have := md.2.2.2
    show 8 + (mi.2.2.1 + 11) + 40 * d ≤ _
    omega
  · show (av.reverse ++ .ref b :: st).map _ = _
    simp [vm]
  · rw [v_catsum]
    exact hw
/-- the ends -/
theorem v_fin {H : Heap} {locs : List Loc} {Post : Option Value → vW → Prop} {r : Option Value} (hP : va_P (xE x).2.1 vwCl (vws (xE x) σ) H) (hS : va_S (vA (xE x)) (xs x).heap H locs) (h : Post r σ) : ∀ t : State, t.heap = H → (xs x).WarmedH t.vm → vQc (xE x) Post (xa x) (xs x) (.returned (r.map (vm (xE x).1))) t := by
  intro t ht _
  exact ⟨⟨r, σ, rfl, h, by rw [ht]; exact hP⟩, hS.F ht⟩
theorem v_iret {Post : Option Value → vW → Prop} {v : Int32} (G : vG x own cc nL (some .int) dd) (hQ : vEnd x Post) (dg : decode cc pc = .ok (.ireturn, 1)) (h : Post (some (.int v)) σ) : V x pc L [.int v] σ := by
  intro H locs ls hP hS hl
  rw [hQ]
  exact W.iret G.1 G.2.1 G.2.2.2.1 (v_fin (r := some (.int v)) hP hS h) hS.2.2 dg G.2.2.2.2.2.2.2.1
theorem v_zret {Post : Option Value → vW → Prop} {v : Int32} (G : vG x own cc nL (some .boolean) dd) (hQ : vEnd x Post) (dg : decode cc pc = .ok (.ireturn, 1)) (hv : v = 0 ∨ v = 1) (h : Post (some (.int v)) σ) : V x pc L [.int v] σ := by
  intro H locs ls hP hS hl
  rw [hQ]
  exact W.zret G.1 G.2.1 G.2.2.2.1 (by rcases hv with rfl | rfl <;> rfl) (v_fin (r := some (.int v)) hP hS h) hS.2.2 dg G.2.2.2.2.2.2.2.1
theorem v_lret {Post : Option Value → vW → Prop} {v : Int64} (G : vG x own cc nL (some .long) dd) (hQ : vEnd x Post) (dg : decode cc pc = .ok (.lreturn, 1)) (h : Post (some (.long v)) σ) : V x pc L [.long v] σ := by
  intro H locs ls hP hS hl
  rw [hQ]
  exact W.lret G.1 G.2.1 G.2.2.2.1 (v_fin (r := some (.long v)) hP hS h) hS.2.2 dg G.2.2.2.2.2.2.2.1
theorem v_vret {Post : Option Value → vW → Prop} (G : vG x own cc nL none dd) (hQ : vEnd x Post) (dg : decode cc pc = .ok (.return_, 1)) (h : Post none σ) : V x pc L [] σ := by
  intro H locs ls hP hS hl
  rw [hQ]
  exact W.vret G.1 G.2.1 G.2.2.2.1 (v_fin (r := none) hP hS h) hS.2.2 dg G.2.2.2.2.2.2.2.1
end VC
