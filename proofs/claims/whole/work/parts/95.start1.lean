/-! The law's entry: what the tables and the premises give. -/
theorem vk_S.cong {N : Nat} {len : List Nat} {byt : List (List Int32)} {adK adV adK' adV' : Nat → Nat} {A : Nat → Prop} {U : State} {H : Heap} (h : vk_S N len byt adK adV A U H) (hk : ∀ i, i < N → adK' i = adK i) (hv : ∀ i, i < N → adV' i = adV i) : vk_S N len byt adK' adV' A U H :=
  ⟨fun i hi => by rw [hk i hi, hv i hi]; exact h.1 i hi, fun i j hi hj e => h.2 i j hi hj (by rw [← hk i hi, ← hk j hj]; exact e)⟩
def sTm (i : Nat) : Term := .string "DoorTown$Reader" (vStrIx.getD i 0)
def sFl : List Cond := flatC (Jvm.Cond.and given_1 narrow_1)
set_option maxRecDepth 100000 in
theorem s_prem1 : ∀ i, i < 7 → Cond.exactly (sTm i) "java/lang/String" ∈ sFl := by decide +kernel
set_option maxRecDepth 100000 in
theorem s_prem2 : ∀ i, i < 7 → Cond.eq (.field (sTm i) "java/lang/String" "coder" "B") (.int 0) ∈ sFl := by decide +kernel
set_option maxRecDepth 100000 in
theorem s_prem3 : ∀ i, i < 7 → Cond.arrayOf (.field (sTm i) "java/lang/String" "value" "[B") .byte ∈ sFl := by decide +kernel
set_option maxRecDepth 100000 in
theorem s_prem4 : ∀ i, i < 7 → Cond.eq (.length (.field (sTm i) "java/lang/String" "value" "[B")) (.int (Int32.ofNat (vStrN.getD i 0))) ∈ sFl := by decide +kernel
set_option maxRecDepth 100000 in
theorem s_prem5 : ∀ i, i < 7 → ∀ j, j < vStrN.getD i 0 → Cond.eq (.elem (.field (sTm i) "java/lang/String" "value" "[B") (.int (Int32.ofNat j))) (.int ((vStrB.getD i []).getD j 0)) ∈ sFl := by decide +kernel
set_option maxRecDepth 100000 in
theorem s_prem6 : ∀ i, i < 7 → ∀ j, j < 7 → i ≠ j → Cond.not (Cond.eq (sTm i) (sTm j)) ∈ sFl ∨ Cond.not (Cond.eq (sTm j) (sTm i)) ∈ sFl := by decide +kernel
set_option maxRecDepth 100000 in
theorem s_prem7 : Cond.eq (.static "java/lang/String" "COMPACT_STRINGS" "Z") (.int 1) ∈ sFl ∧ Cond.isRef (.static "jdk/internal/util/Preconditions" "SIOOBE_FORMATTER" "Ljava/util/function/BiFunction;") ∈ sFl := by decide +kernel
set_option maxRecDepth 100000 in
theorem s_tab1 : ∀ i, i < 7 → Cond.stringRef "DoorTown$Reader" (vStrIx.getD i 0) (vStrTx.getD i "") ∈ lw_tbl := by decide +kernel
set_option maxRecDepth 100000 in
theorem s_tab2 : ∀ q ∈ vNest, Cond.methodLinkNest q.1 q.2.1 q.2.2 "DoorTown" ∈ lw_tbl := by decide +kernel
set_option maxRecDepth 100000 in
theorem s_tab3 : Cond.arrayClass .int ∈ lw_tbl ∧ Cond.arrayClass .byte ∈ lw_tbl ∧ Cond.arrayClass .boolean ∈ lw_tbl ∧ Cond.arrayOver (.object "DoorTown$Town") ∈ lw_tbl ∧ Cond.arrayOver (.object "DoorTown$Sheet") ∈ lw_tbl ∧ Cond.laysStatic "java/lang/String" "COMPACT_STRINGS" "Z" ∈ lw_tbl ∧ Cond.laysStatic "jdk/internal/util/Preconditions" "SIOOBE_FORMATTER" "Ljava/util/function/BiFunction;" ∈ lw_tbl ∧ Cond.initialized "java/lang/String" ∈ lw_tbl ∧ Cond.initialized "jdk/internal/util/Preconditions" ∈ lw_tbl := by decide +kernel
set_option maxRecDepth 100000 in
theorem s_tab4 : Cond.instantiable RX0 7 ∈ lw_tbl ∧ Cond.instantiable RX1 3 ∈ lw_tbl ∧ Cond.instantiable RX2 4 ∈ lw_tbl ∧ Cond.instantiable RX3 6 ∈ lw_tbl ∧ Cond.instantiable RX4 13 ∈ lw_tbl ∧ Cond.instantiable RX5 10 ∈ lw_tbl ∧ Cond.instantiable RX6 32 ∈ lw_tbl := by decide +kernel
theorem s_arr {args : Array Value} {s : State} {ty : FieldType} (h : (Cond.arrayClass ty).before args s = true) : ∃ cA, s.vm.findClass ("[" ++ ty.toString) = some cA ∧ ((∀ k : String, ty ≠ .object k) → ArrOfT s cA ty) := by
  obtain ⟨c, k, comp, h1, h2, h3⟩ := Cond.arrayClass_spec h
  exact ⟨c, h1, fun _ n z => ⟨(fun k h => (by cases h)), k, h2, comp, h3⟩⟩
theorem s_arq {args : Array Value} {s : State} {C : String} (h : (Cond.arrayOver (.object C)).before args s = true) : ∃ cA, ArrOfT s cA (.object C) ∧ va_RA s cA (.object C) := by
  obtain ⟨comp, c, k, h1, h2, h3, h4, h5⟩ := Cond.arrayOver_spec h
  exact ⟨c, fun n z => ⟨(fun k h => (by cases h)), k, h3, comp, h4⟩, k, comp, h3, h4, h1, h5⟩
theorem s_env {args : Array Value} {s : State} (hts : ∀ w ∈ lw_tbl, w.before args s = true) (hgv : (Jvm.Cond.and given_1 narrow_1).before args s = true) :
    ∃ (E : vE), uI E s ∧ vk_S 7 vStrN vStrB (fun i => E.1 (100 + i)) (fun i => E.1 (107 + i)) (fun q => s.heap.size ≤ q) s s.heap ∧ (∀ i, i < 7 → vk_R "DoorTown$Reader" (vStrIx.getD i 0) (vStrTx.getD i "") (E.1 (100 + i)) s) ∧ va_Z "java/lang/String" "COMPACT_STRINGS" "Z" (.int 1) (fun q => s.heap.size ≤ q) s s.heap ∧ (va_Z "jdk/internal/util/Preconditions" "SIOOBE_FORMATTER" "Ljava/util/function/BiFunction;" .null (fun q => s.heap.size ≤ q) s s.heap ∨ va_Z "jdk/internal/util/Preconditions" "SIOOBE_FORMATTER" "Ljava/util/function/BiFunction;" (.ref (E.1 114)) (fun q => s.heap.size ≤ q) s s.heap) := by
  have hs : ∀ c ∈ sFl, c.before args s = true := flat_of_before _ hgv
  have hA : ∀ a : Nat, a < s.heap.size → ¬ (fun q : Nat => s.heap.size ≤ q) a := fun a h => Nat.not_le.mpr h
  obtain ⟨adK, adV, hS, hev⟩ := vk_Sof (args := args) (s := s) (N := 7) (tm := sTm) (len := vStrN) (byt := vStrB) (A := fun q => s.heap.size ≤ q) (by decide) (fun i hi => hs _ (s_prem1 i hi)) (fun i hi => hs _ (s_prem2 i hi)) (fun i hi => hs _ (s_prem3 i hi)) (fun i hi => hs _ (s_prem4 i hi)) (fun i hi j hj => hs _ (s_prem5 i hi j hj)) (fun i j hi hj hij => (s_prem6 i hi j hj hij).imp (hs _) (hs _)) hA
  obtain ⟨t1, t2, t3, t4, t5, t6, t7, t8, t9⟩ := s_tab3
  obtain ⟨i0, i1, i2, i3, i4, i5, i6⟩ := s_tab4
  have hq := va_Zqof (A := fun q : Nat => s.heap.size ≤ q) (hts _ t7) (hts _ t9) (hs _ s_prem7.2) hA
  obtain ⟨z, hz⟩ : ∃ z : Nat, va_Z "jdk/internal/util/Preconditions" "SIOOBE_FORMATTER" "Ljava/util/function/BiFunction;" .null (fun q => s.heap.size ≤ q) s s.heap ∨ va_Z "jdk/internal/util/Preconditions" "SIOOBE_FORMATTER" "Ljava/util/function/BiFunction;" (.ref z) (fun q => s.heap.size ≤ q) s s.heap := by
    rcases hq with h | ⟨t, h⟩
    · exact ⟨0, Or.inl h⟩
    · exact ⟨t, Or.inr h⟩
  have hb : ∀ w ∈ BIG, w.before args s = true := fun w hw => hts w (BIG_tbl hw)
  obtain ⟨c0, s0, k0⟩ := u_known (C := RX0) (T := TX0) (N := 7) (n := 7) hb (vc_0 _ rfl).1 (hts _ i0)
  obtain ⟨c1, s1, k1⟩ := u_known (C := RX1) (T := TX1) (N := 3) (n := 3) hb (vc_1 _ rfl).1 (hts _ i1)
  obtain ⟨c2, s2, k2⟩ := u_known (C := RX2) (T := TX2) (N := 4) (n := 4) hb (vc_2 _ rfl).1 (hts _ i2)
  obtain ⟨c3, s3, k3⟩ := u_known (C := RX3) (T := TX3) (N := 6) (n := 6) hb (vc_3 _ rfl).1 (hts _ i3)
  obtain ⟨c4, s4, k4⟩ := u_known (C := RX4) (T := TX4) (N := 13) (n := 13) hb (vc_4 _ rfl).1 (hts _ i4)
  obtain ⟨c5, s5, k5⟩ := u_known (C := RX5) (T := TX5) (N := 10) (n := 10) hb (vc_5 _ rfl).1 (hts _ i5)
  obtain ⟨c6, s6, k6⟩ := u_known (C := RX6) (T := TX6) (N := 32) (n := 32) hb (vc_6 _ rfl).1 (hts _ i6)
  obtain ⟨a0, f0, g0⟩ := s_arr (hts _ t1)
  obtain ⟨a1, f1, g1⟩ := s_arr (hts _ t2)
  obtain ⟨a2, f2, g2⟩ := s_arr (hts _ t3)
  obtain ⟨a3, f3, g3⟩ := s_arq (hts _ t4)
  obtain ⟨a4, f4, g4⟩ := s_arq (hts _ t5)
  refine ⟨(fun k => if k = 114 then z else if k < 107 then adK (k - 100) else adV (k - 107), (fun k => [c0, c1, c2, c3, c4, c5, c6].getD k c0, fun k => [s0, s1, s2, s3, s4, s5, s6].getD k s0), fun k => [a0, a1, a2, a3, a4].getD k a0, fun _ => 0), ⟨⟨?_, ?_⟩, fun q hq => va_Nw.of rfl (hts _ (s_tab2 q hq)), va_AO.of (hts _ t4), va_AO.of (hts _ t5)⟩, hS.cong (fun i hi => ?_) (fun i hi => ?_), fun i hi => ?_, va_Zof (hts _ t6) (hts _ t8) (va_eqi (hs _ s_prem7.1)) hA, ?_⟩
  · intro k q hq
    match k, hq with
    | 0, hq => cases hq; exact k0
    | 1, hq => cases hq; exact k1
    | 2, hq => cases hq; exact k2
    | 3, hq => cases hq; exact k3
    | 4, hq => cases hq; exact k4
    | 5, hq => cases hq; exact k5
    | 6, hq => cases hq; exact k6
    | k + 7, hq => simp [vwCl] at hq
  · intro k q hq
    match k, hq with
    | 0, hq => cases hq; exact ⟨g0 (fun k h => by cases h), f0⟩
    | 1, hq => cases hq; exact ⟨g1 (fun k h => by cases h), f1⟩
    | 2, hq => cases hq; exact ⟨g2 (fun k h => by cases h), f2⟩
    | 3, hq => cases hq; exact ⟨f3, g3⟩
    | 4, hq => cases hq; exact ⟨f4, g4⟩
    | k + 5, hq => simp [vtys] at hq
  · show (if 100 + i = 114 then z else if 100 + i < 107 then adK (100 + i - 100) else adV (100 + i - 107)) = adK i
    rw [if_neg (by omega), if_pos (by omega)]
    congr 1
    omega
  · show (if 107 + i = 114 then z else if 107 + i < 107 then adK (107 + i - 100) else adV (107 + i - 107)) = adV i
    rw [if_neg (by omega), if_neg (by omega)]
    congr 1
    omega
  · show vk_R _ _ _ (if 100 + i = 114 then z else if 100 + i < 107 then adK (100 + i - 100) else adV (100 + i - 107)) s
    rw [if_neg (by omega), if_pos (by omega)]
    have := vk_R.of (hts _ (s_tab1 i hi)) (hev i hi)
    rwa [show 100 + i - 100 = i by omega]
  · exact hz
