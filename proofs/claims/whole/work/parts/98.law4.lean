/-! THE CLAIM OUT OF ONE WALK OF THE LAW'S BODY. Your part is whole_start (and what it stands on); all else here is the same for every law, but numbers. -/
def R_law : String := "DoorTownLaw"
def lw_P (b : Addr) (xs : List Int32) (args : Array Value) (s : State) : Prop := args = #[.ref b] ∧ s.IntsAt b xs ∧ xs.length ≤ 2560 ∧ (Jvm.Cond.and given_1 narrow_1).before args s = true
def lw_Q (_ : Array Value) (s : State) (o : Outcome) (t : State) : Prop := o = .returned (some (.int 1)) ∧ Framed s o t [] 600000 7302250
def lw_Z (below : List Frame) (a : Array Value) (s : State) : State → Prop := fun t => ∃ o, t.status = .running ∧ Ended t below o ∧ lw_Q a s o t
/-- the law's own end, with 1 on the stack, nothing written that was there before, its room as the claim has it -/
theorem lw_ret {p : Program} {l : Launch} {e : Env} {s : State} {m : MethodId} {below : List Frame} {meth : Method} {c : Code} {b : Nat} (hx : p.tables.exec = Jvm.exec) (hb : c.code = code) (hr : meth.sig.returnType = ret) (hlocks : meth.locks = false) {pc : Nat} {H : Heap} {ls : Array Slot} (hdg : decode code pc = .ok (.ireturn, 1)) : W p l e room_1 s m #[Value.ref b] below meth c H [] 600000 7302250 (lw_Z below #[Value.ref b] s) (F0 m pc ls [.int 1]) := by
  intro T hT X
  obtain ⟨fs, hret, hrun, hended, hW, hframe⟩ := X.leave (v := some (.int 1)) (hlocks := hlocks) (fun h => by rw [hr] at h; cases h)
  have hmeth' : T.vm.method? m = some meth := X.method'
  refine ⟨T.setFrames fs, ?_, .returned (some (.int 1)), hrun, hended, rfl, ⟨_, rfl⟩, hW, hframe⟩
  jvm_step X.here [X.here.top, hx, hb, hdg, hmeth', hr, ret, narrow_b1]
  (try refine ⟨rfl, ?_⟩); (try refine ⟨rfl, ?_⟩)
  first | (intro acts; rw [hret _ acts rfl rfl rfl]) | rw [hret _ _ rfl rfl rfl]
  exact Steps.refl _
/-- what holds at the law's entry: the machine, the code, the tables' words (any of lw_tbl by 'hts w (by decide +kernel)'), the script of L ints xs at the cell b, what the Statement gives of the start (any of its parts by flat_of_before) -/
def lw_At (p : Program) (s : State) (m : MethodId) (meth : Method) (c : Code) (b L : Nat) (xs : Nat → Int32) : Prop :=
  p.tables.exec = Jvm.exec ∧ c.code = code ∧ meth.sig.returnType = ret ∧ c.maxLocals = 4 ∧ s.vm.findClass R_law = some m.cls ∧ (∀ w ∈ lw_tbl, w.before #[Value.ref b] s = true) ∧ va_X b L xs s s.heap ∧ b < s.heap.size ∧ meth.locks = false ∧ (Jvm.Cond.and given_1 narrow_1).before #[Value.ref b] s = true
theorem bl_X6 : ∀ j, j < 32 → defaultValue (tyX6 j) = vp_V [.null, .int 0, .null, .int 0, .int 0, .int 0, .int 0, .int 0, .int 0, .null, .int 0, .int 0, .int 0, .int 0, .int 0, .int 0, .int 0, .int 0, .null, .null, .int 0, .null, .int 0, .int 0, .null, .int 0, .null, .null, .null, .null, .null, .int 0] j := by
  intro j hj
  match j, hj with
  | 0, _ => rfl
  | 1, _ => rfl
  | 2, _ => rfl
  | 3, _ => rfl
  | 4, _ => rfl
  | 5, _ => rfl
  | 6, _ => rfl
  | 7, _ => rfl
  | 8, _ => rfl
  | 9, _ => rfl
  | 10, _ => rfl
  | 11, _ => rfl
  | 12, _ => rfl
  | 13, _ => rfl
  | 14, _ => rfl
  | 15, _ => rfl
  | 16, _ => rfl
  | 17, _ => rfl
  | 18, _ => rfl
  | 19, _ => rfl
  | 20, _ => rfl
  | 21, _ => rfl
  | 22, _ => rfl
  | 23, _ => rfl
  | 24, _ => rfl
  | 25, _ => rfl
  | 26, _ => rfl
  | 27, _ => rfl
  | 28, _ => rfl
  | 29, _ => rfl
  | 30, _ => rfl
  | 31, _ => rfl
  | j + 32, hj => exact absurd hj (by omega)
theorem u_astore {x : vX} {A : Nat → Prop} {own : String} {cc : ByteArray} {nL dd MC MS : Nat} {ret : Option FieldType} {pc k n : Nat} {L L' : List (Nat × Value)} {st : List Value} {ws : va_W} {k1 : Fin 4} {i a : Nat} (G : uG x A own cc nL ret dd MC MS) (dg : decode cc pc = .ok (.astore_n k1, 1)) (hi : (k1 : Nat) = i) (hn : i < nL) (hl0 : (i, Value.ref a) :: L.filter (fun q => !(q.1 == i) && !(q.1 + 1 == i && q.2.category == 2)) = L') (k0 : UU x A ws k n (pc + 1) L' st) : UU x A ws k n pc L (.ref a :: st) := by
  intro H locs ls hP hD hS hl
  exact lv_astore_n G.1 G.2.1 dg hi hl (by have := G.2.2.1; omega) hl0 (fun ls hl => k0 H locs ls hP hD hS hl)
set_option maxHeartbeats 4000000 in
set_option maxRecDepth 100000 in
/-- from the loop's first head -/
theorem whole_go {p : Program} {e : Env} {s : State} {m : MethodId} {below : List Frame} {meth : Method} {c : Code} (l : Launch) {b N : Nat} {xs : Nat → Int32} (hL : N ≤ 2560) (C0 : lw_At p s m meth c b N xs) {E E2 : vE} (hI2 : uI E2 s) (h2a : E2.2 = E.2) (h2b : E2.1 115 = b) (h2c : ∀ k, k ≠ 115 → E2.1 k = E.1 k)
    (hS7 : vk_S 7 vStrN vStrB (fun i => E.1 (100 + i)) (fun i => E.1 (107 + i)) (fun q => s.heap.size ≤ q) s s.heap) (hR7 : ∀ i, i < 7 → vk_R "DoorTown$Reader" (vStrIx.getD i 0) (vStrTx.getD i "") (E.1 (100 + i)) s) (hZ1 : va_Z "java/lang/String" "COMPACT_STRINGS" "Z" (.int 1) (fun q => s.heap.size ≤ q) s s.heap) (hZ2 : va_Z "jdk/internal/util/Preconditions" "SIOOBE_FORMATTER" "Ljava/util/function/BiFunction;" .null (fun q => s.heap.size ≤ q) s s.heap ∨ va_Z "jdk/internal/util/Preconditions" "SIOOBE_FORMATTER" "Ljava/util/function/BiFunction;" (.ref (E.1 114)) (fun q => s.heap.size ≤ q) s s.heap) (h q1 q2 q3 q4 q5 q6 q7 q8 q9 q10 q11 q12 q13 q14 q15 q16 q17 q18 q19 q20 q21 q22 q23 q24 q25 q26 q27 q28 q29 q30 q31 q32 q33 q34 q35 q36 q37 q38 q39 q40 q41 q42 q43 q44 q45 q46 q47 q48 q49 q50 q51 q52 q53 q54 q55 q56 q57 q58 q59 q60 q61 q62 q63 q64 q65 q66 q67 q68 q69 q70 q71 q72 q73 q74 g r1 r2 r3 r4 r5 r6 r7 r8 r9 r10 r11 r12 : Nat) :
    UU (p, l, e, room_1, s, m, #[Value.ref b], below, meth, c, E2, lw_Z below #[Value.ref b] s, 0, 0) (fun q => s.heap.size ≤ q) (sWs E2 h q1 q2 q3 q4 q5 q6 q7 q8 q9 q10 q11 q12 q13 q14 q15 q16 q17 q18 q19 q20 q21 q22 q23 q24 q25 q26 q27 q28 q29 q30 q31 q32 q33 q34 q35 q36 q37 q38 q39 q40 q41 q42 q43 q44 q45 q46 q47 q48 q49 q50 q51 q52 q53 q54 q55 q56 q57 q58 q59 q60 q61 q62 q63 q64 q65 q66 q67 q68 q69 q70 q71 q72 q73 q74 g r1 r2 r3 r4 r5 r6 r7 r8 r9 r10 r11 r12) 88 1656 18 [(3, .int (nI 0)), (2, .ref g), (1, .ref h), (0, .ref b)] [] := by
  obtain ⟨hx, hb, hr, hml, hown, hts, hX, hbl, hlocks, hgv⟩ := id C0
  have hbig : ∀ w ∈ BIG, w.before #[Value.ref b] s = true := fun w hw => hts w (BIG_tbl hw)
  intro H locs ls hP hD hS hl
  obtain ⟨hP2, hJ, hA2⟩ := s_world E2 h q1 q2 q3 q4 q5 q6 q7 q8 q9 q10 q11 q12 q13 q14 q15 q16 q17 q18 q19 q20 q21 q22 q23 q24 q25 q26 q27 q28 q29 q30 q31 q32 q33 q34 q35 q36 q37 q38 q39 q40 q41 q42 q43 q44 q45 q46 q47 q48 q49 q50 q51 q52 q53 q54 q55 q56 q57 q58 q59 q60 q61 q62 q63 q64 q65 q66 q67 q68 q69 q70 q71 q72 q73 q74 g r1 r2 r3 r4 r5 r6 r7 r8 r9 r10 r11 r12 hP hD
  have h3a : (sAd E2 h q1 q2 q3 q4 q5 q6 q7 q8 q9 q10 q11 q12 q13 q14 q15 q16 q17 q18 q19 q20 q21 q22 q23 q24 q25 q26 q27 q28 q29 q30 q31 q32 q33 q34 q35 q36 q37 q38 q39 q40 q41 q42 q43 q44 q45 q46 q47 q48 q49 q50 q51 q52 q53 q54 q55 q56 q57 q58 q59 q60 q61 q62 q63 q64 q65 q66 q67 q68 q69 q70 q71 q72 q73 q74 g r1 r2 r3 r4 r5 r6 r7 r8 r9 r10 r11 r12).2 = E2.2 := rfl
  have h3b : ∀ k, 88 ≤ k → (sAd E2 h q1 q2 q3 q4 q5 q6 q7 q8 q9 q10 q11 q12 q13 q14 q15 q16 q17 q18 q19 q20 q21 q22 q23 q24 q25 q26 q27 q28 q29 q30 q31 q32 q33 q34 q35 q36 q37 q38 q39 q40 q41 q42 q43 q44 q45 q46 q47 q48 q49 q50 q51 q52 q53 q54 q55 q56 q57 q58 q59 q60 q61 q62 q63 q64 q65 q66 q67 q68 q69 q70 q71 q72 q73 q74 g r1 r2 r3 r4 r5 r6 r7 r8 r9 r10 r11 r12).1 k = E2.1 k := fun k hk => if_neg (by omega)
  have h3c : (sAd E2 h q1 q2 q3 q4 q5 q6 q7 q8 q9 q10 q11 q12 q13 q14 q15 q16 q17 q18 q19 q20 q21 q22 q23 q24 q25 q26 q27 q28 q29 q30 q31 q32 q33 q34 q35 q36 q37 q38 q39 q40 q41 q42 q43 q44 q45 q46 q47 q48 q49 q50 q51 q52 q53 q54 q55 q56 q57 q58 q59 q60 q61 q62 q63 q64 q65 q66 q67 q68 q69 q70 q71 q72 q73 q74 g r1 r2 r3 r4 r5 r6 r7 r8 r9 r10 r11 r12).1 0 = h := rfl
  have h3d : (sAd E2 h q1 q2 q3 q4 q5 q6 q7 q8 q9 q10 q11 q12 q13 q14 q15 q16 q17 q18 q19 q20 q21 q22 q23 q24 q25 q26 q27 q28 q29 q30 q31 q32 q33 q34 q35 q36 q37 q38 q39 q40 q41 q42 q43 q44 q45 q46 q47 q48 q49 q50 q51 q52 q53 q54 q55 q56 q57 q58 q59 q60 q61 q62 q63 q64 q65 q66 q67 q68 q69 q70 q71 q72 q73 q74 g r1 r2 r3 r4 r5 r6 r7 r8 r9 r10 r11 r12).1 75 = g := rfl
  generalize sAd E2 h q1 q2 q3 q4 q5 q6 q7 q8 q9 q10 q11 q12 q13 q14 q15 q16 q17 q18 q19 q20 q21 q22 q23 q24 q25 q26 q27 q28 q29 q30 q31 q32 q33 q34 q35 q36 q37 q38 q39 q40 q41 q42 q43 q44 q45 q46 q47 q48 q49 q50 q51 q52 q53 q54 q55 q56 q57 q58 q59 q60 q61 q62 q63 q64 q65 q66 q67 q68 q69 q70 q71 q72 q73 q74 g r1 r2 r3 r4 r5 r6 r7 r8 r9 r10 r11 r12 = E3 at hP2 hJ hA2 h3a h3b h3c h3d
  have hAB : ∀ q, vA E3 q → s.heap.size ≤ q := by
    rintro _ ⟨k, hk, rfl⟩
    exact hA2 k hk
  have h3 : ∀ k, 88 ≤ k → k ≠ 115 → E3.1 k = E.1 k := fun k h1 h2 => (h3b k h1).trans (h2c k h2)
  have h35 : E3.1 115 = b := (h3b 115 (by decide)).trans h2b
  have hI3 : vInv E3 (vA E3) s s.heap := by
    refine ⟨?_, hI2.2.1, (hS7.narrow hAB).cong (fun i hi => h3 _ (by omega) (by omega)) (fun i hi => h3 _ (by omega) (by omega)), fun i hi => ?_, hZ1.narrow hAB, ?_⟩
    · unfold vtys
      rw [h3a]
      exact hI2.1
    · rw [h3 _ (by omega) (by omega)]
      exact hR7 i hi
    · rw [h3 114 (by decide) (by decide)]
      exact hZ2.imp (va_Z.narrow · hAB) (va_Z.narrow · hAB)
  have hv : V (p, l, e, room_1, s, m, #[Value.ref b], below, meth, c, E3, lw_Z below #[Value.ref b] s, 88, 1656) 18 [some (.ref 115), some (.ref 0), some (.ref 75), some (.int (nI 0))] [] sg0 := by
    refine l_loop (N := N) (q := xs) ⟨hx, hb, hml, hr, hown, hbig, hI3, hlocks, hJ, Nat.le_of_ble_eq_true rfl, Nat.le_of_ble_eq_true rfl, Nat.le_of_ble_eq_true rfl, Nat.le_of_ble_eq_true rfl⟩ ⟨?_, ?_, ?_⟩ hL ?_ (N + 1) 0 (Nat.zero_le _) (by omega) sg0 0 0 0 0 0 sg0_rel
    · show va_X (E3.1 115) N xs s s.heap
      rw [h35]
      exact hX
    · show E3.1 115 < s.heap.size
      rw [h35]
      exact hbl
    · intro hA
      have h9 := hAB _ hA
      have h8 : E3.1 115 < s.heap.size := by
        rw [h35]
        exact hbl
      exact absurd h9 (Nat.not_le.mpr h8)
    · intro L4 s4 H locs ls hP hS hl
      refine va_forget (fun q hq => hAB _ (hS.2.2 q hq)) ?_
      refine W.widen (k := 600000) (n := 7302250) (Nat.le_of_ble_eq_true rfl) (Nat.le_of_ble_eq_true rfl) ?_
      exact lw_ret hx hb hr hlocks dL_law_1604
  refine va_forget (fun q hq => hS.2.2 q hq) ?_
  refine hv H [] ls ?_ ⟨hS.1, fun q h1 _ => hS.2.1 q h1 (Nat.not_le.mpr h1), fun _ h => by cases h⟩ ?_
  · show va_P E3.2.1 vwCl _ H
    rw [h3a]
    exact hP2
  · show lv_has ls c.maxLocals [(0, .ref (E3.1 115)), (1, .ref (E3.1 0)), (2, .ref (E3.1 75)), (3, .int (nI 0))]
    rw [h35, h3c, h3d]
    exact lv_sub hl [3, 2, 1, 0] rfl
