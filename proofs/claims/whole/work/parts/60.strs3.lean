/-! The JDK's methods of strings: coder, length, isLatin1 -/
theorem lk_J0_38 : Cond.fieldLink RJ0 38 "java/lang/String" "COMPACT_STRINGS" "Z" ∈ BIG := inBIG (List.mem_of_getElem? (i := 356) (by decide +kernel)) rfl
theorem lk_J0_9 : Cond.fieldLink RJ0 9 "java/lang/String" "value" "[B" ∈ BIG := inBIG (List.mem_of_getElem? (i := 1270) (by decide +kernel)) rfl
theorem lk_J0_15 : Cond.fieldLink RJ0 15 "java/lang/String" "coder" "B" ∈ BIG := inBIG (List.mem_of_getElem? (i := 1271) (by decide +kernel)) rfl
theorem v_nret {x : vX} {own : String} {cc : ByteArray} {nL dd : Nat} {ty : FieldType} {pc : Nat} {L : List (Option Value)} {σ : vW} {Post : Option Value → vW → Prop} {v : Int32} (G : vG x own cc nL (some ty) dd) (hQ : vEnd x Post) (dg : decode cc pc = .ok (.ireturn, 1)) (hv : narrow ty (.int v) = .int v) (h : Post (some (.int v)) σ) : V x pc L [.int v] σ := by
  intro H locs ls hP hS hl
  rw [hQ]
  exact W.zret G.1 G.2.1 G.2.2.2.1 hv (v_fin (r := some (.int v)) hP hS h) hS.2.2 dg G.2.2.2.2.2.2.2.1
theorem vStrN_lt : ∀ i, i < 7 → vStrN.getD i 0 < 9 := by decide
set_option maxHeartbeats 4000000 in
theorem C_J0_coder {σ : vW} {i : Nat} (hi : i < 7) : Ctr mJ0_coder_7d493 0 [.ref (100 + i)] σ (vDet (some (.int 0)) σ) := by
  refine Ctr.intro (by decide) (fun α => Nat.le_of_ble_eq_true rfl) (fun x G hQ => ?_)
  have G : vG x RJ0 cJ0_coder_7d493 1 (some .byte) 0 := G
  show V x 0 [some (.ref (100 + i))] [] σ
  refine v_getCS G lk_J0_38 dJ0_coder_7d493_0 ?_
  refine v_if_eq (tgt := 13) G dJ0_coder_7d493_3 rfl (fun h => absurd h (by decide)) (fun _ => ?_)
  refine v_aload_n (i := 0) G dJ0_coder_7d493_6 rfl rfl ?_
  refine v_strCod G hi lk_J0_15 dJ0_coder_7d493_7 ?_
  refine v_goto (tgt := 14) G dJ0_coder_7d493_10 rfl ?_
  exact v_nret G hQ dJ0_coder_7d493_14 rfl vDet.mk
set_option maxHeartbeats 4000000 in
theorem C_J0_length {σ : vW} {i : Nat} (hi : i < 7) : Ctr mJ0_length_8abf5 1 [.ref (100 + i)] σ (vDet (some (.int (nI (vStrN.getD i 0)))) σ) := by
  have hn := vStrN_lt i hi
  refine Ctr.intro (by decide) (fun α => Nat.le_of_ble_eq_true rfl) (fun x G hQ => ?_)
  have G : vG x RJ0 cJ0_length_8abf5 1 (some .int) 1 := G
  show V x 0 [some (.ref (100 + i))] [] σ
  refine v_aload_n (i := 0) G dJ0_length_8abf5_0 rfl rfl ?_
  refine v_strVal G hi lk_J0_9 dJ0_length_8abf5_1 ?_
  refine v_strLen G hi dJ0_length_8abf5_4 ?_
  refine v_aload_n (i := 0) G dJ0_length_8abf5_5 rfl rfl ?_
  refine v_callSt (av := []) G (C_J0_coder hi) (by decide) md_J0_coder_7d493 in_J0_coder_7d493 rfl hi ml_J0_335 rfl (Nat.le_of_ble_eq_true rfl) dJ0_length_8abf5_6 ?_
  rintro _ _ ⟨rfl, rfl⟩
  refine v_ishr G dJ0_length_8abf5_9 ?_
  exact v_iret G hQ dJ0_length_8abf5_10 (vDet.of (by rw [show (0 : Int32) = nI 0 from rfl, nI_sar (by omega) (by decide), Nat.pow_zero, Nat.div_one]) rfl)
set_option maxHeartbeats 4000000 in
theorem C_J0_isLatin1 {σ : vW} {i : Nat} (hi : i < 7) : Ctr mJ0_isLatin1_aae02 0 [.ref (100 + i)] σ (vDet (some (.int 1)) σ) := by
  refine Ctr.intro (by decide) (fun α => Nat.le_of_ble_eq_true rfl) (fun x G hQ => ?_)
  have G : vG x RJ0 cJ0_isLatin1_aae02 1 (some .boolean) 0 := G
  show V x 0 [some (.ref (100 + i))] [] σ
  refine v_getCS G lk_J0_38 dJ0_isLatin1_aae02_0 ?_
  refine v_if_eq (tgt := 17) G dJ0_isLatin1_aae02_3 rfl (fun h => absurd h (by decide)) (fun _ => ?_)
  refine v_aload_n (i := 0) G dJ0_isLatin1_aae02_6 rfl rfl ?_
  refine v_strCod G hi lk_J0_15 dJ0_isLatin1_aae02_7 ?_
  refine v_if_ne (tgt := 17) G dJ0_isLatin1_aae02_10 rfl (fun h => absurd rfl h) (fun _ => ?_)
  refine v_iconst (v := 1) G dJ0_isLatin1_aae02_13 rfl ?_
  refine v_goto (tgt := 18) G dJ0_isLatin1_aae02_14 rfl ?_
  exact v_nret G hQ dJ0_isLatin1_aae02_18 rfl vDet.mk
