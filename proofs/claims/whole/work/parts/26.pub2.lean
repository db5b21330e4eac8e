/-! DoorTown's public calls: changes, ways -/
theorem addWallW_len (σ : vW) (t m : Nat) (a b : Int32) : (addWallW σ t m a b) t 11 = nI (m + 1) := by simp [addWallW, vset]
theorem addActW_len (σ : vW) (t m : Nat) (a b : Int32) : (addActW σ t m a b) t 12 = nI (m + 1) := by simp [addActW, vset]
def buildOk (a b : Int32) : Bool := if roomB a = true then (if roomB b = true then (if a = b then false else true) else false) else false
def buildR (m : Nat) (a b : Int32) : Int32 := if buildOk a b = true then (if m < 9 then nI (m + 1) else -3) else -1
def buildW (σ : vW) (m : Nat) (a b : Int32) : vW := if buildOk a b = true then (if m < 9 then addWallW σ 21 m a b else σ) else σ
set_option maxHeartbeats 4000000 in
theorem C_X5_build {σ : vW} {m : Nat} {a b : Int32} (hm : σ 21 11 = nI m) (hm9 : m ≤ 9) : Ctr mX5_build 1 [.ref 0, .int a, .int b] σ (vDet (some (.int (buildR m a b))) (buildW σ m a b)) := by
  have hT := TB21
  refine Ctr.intro (by decide) (fun α => Nat.le_of_ble_eq_true rfl) (fun x G hQ => ?_)
  have G : vG x RX5 cX5_build 3 (some .int) 1 := G
  show V x 0 [some (.ref 0), some (.int a), some (.int b)] [] σ
  rcases Nat.lt_or_ge m 9 with h9 | h9
  · have e1 : decide (m < 9) = true := decide_eq_true h9
    have e2 : (if m < 9 then addWallW σ 21 m a b else σ) = addWallW σ 21 m a b := if_pos h9
    refine v_iload_3_1 G dX5_build_0 ?_
    refine v_cS1 G (C_X5_isRoom) (by decide) md_X5_isRoom st_X5_isRoom ml_X5_160 (Nat.le_of_ble_eq_true rfl) dX5_build_1 ?_
    refine v_ifB_eq (tgt := 19) G dX5_build_4 rfl (fun h_4 => ?_) (fun h_4 => ?_)
    · refine v_iconst (v := (-1)) G dX5_build_19 (by decide) ?_
      exact v_iret G hQ dX5_build_20 (vDet.of (by simp only [buildR, buildOk, if_pos h9, bI, h_4, if_true, if_false, Bool.false_eq_true, reduceIte, ite_self] <;> try rfl) (by simp only [buildW, buildOk, if_pos h9, h_4, if_true, if_false, Bool.false_eq_true, reduceIte, ite_self] <;> try rfl))
    · refine v_iload_3_2 G dX5_build_7 ?_
      refine v_cS1 G (C_X5_isRoom) (by decide) md_X5_isRoom st_X5_isRoom ml_X5_160 (Nat.le_of_ble_eq_true rfl) dX5_build_8 ?_
      refine v_ifB_eq (tgt := 19) G dX5_build_11 rfl (fun h_11 => ?_) (fun h_11 => ?_)
      · refine v_iconst (v := (-1)) G dX5_build_19 (by decide) ?_
        exact v_iret G hQ dX5_build_20 (vDet.of (by simp only [buildR, buildOk, if_pos h9, bI, h_4, h_11, if_true, if_false, Bool.false_eq_true, reduceIte, ite_self] <;> try rfl) (by simp only [buildW, buildOk, if_pos h9, h_4, h_11, if_true, if_false, Bool.false_eq_true, reduceIte, ite_self] <;> try rfl))
      · refine v_iload_3_1 G dX5_build_14 ?_
        refine v_iload_3_2 G dX5_build_15 ?_
        refine v_icmp_ne (tgt := 21) G dX5_build_16 rfl (fun h_16 => ?_) (fun h_16 => ?_)
        · refine v_aload_3_0 G dX5_build_21 ?_
          refine v_getR G vc_5 lk_X5_19 (fs_X5_1) dX5_build_22 ?_
          refine v_iload_3_1 G dX5_build_25 ?_
          refine v_iload_3_2 G dX5_build_26 ?_
          refine v_cV2 G (C_X4_addWall (by first | assumption | omega | exact oneB_in (by assumption) | exact wallB_in (by assumption) | exact oneB_m1 (by assumption) | decide) (by first | assumption | omega | exact oneB_in (by assumption) | exact wallB_in (by assumption) | exact oneB_m1 (by assumption) | decide) (by first | assumption | omega | exact oneB_in (by assumption) | exact wallB_in (by assumption) | exact oneB_m1 (by assumption) | decide)) (by decide) md_X4_addWall in_X4_addWall (rv_X4 (by first | assumption | exact imgP_TB | exact shP_SB) rfl) ml_X5_179 (Nat.le_of_ble_eq_true rfl) dX5_build_27 ?_
          rw [e1, e2]
          refine v_ifB_eq (tgt := 43) G dX5_build_30 rfl (fun h_30 => absurd h_30 (by decide)) (fun h_30 => ?_)
          refine v_aload_3_0 G dX5_build_33 ?_
          refine v_getR G vc_5 lk_X5_19 (fs_X5_1) dX5_build_34 ?_
          refine v_getI G vc_4 lk_X5_98 (fs_X4_11 (by first | assumption | exact imgP_TB)) dX5_build_37 ?_
          rw [addWallW_len]
          refine v_goto (tgt := 45) G dX5_build_40 rfl ?_
          exact v_iret G hQ dX5_build_45 (vDet.of (by simp only [buildR, buildOk, if_pos h9, bI, h_4, h_11, h_16, h_30, if_true, if_false, Bool.false_eq_true, reduceIte, ite_self] <;> try rfl) (by simp only [buildW, buildOk, if_pos h9, h_4, h_11, h_16, h_30, if_true, if_false, Bool.false_eq_true, reduceIte, ite_self] <;> try rfl))
        · refine v_iconst (v := (-1)) G dX5_build_19 (by decide) ?_
          exact v_iret G hQ dX5_build_20 (vDet.of (by simp only [buildR, buildOk, if_pos h9, bI, h_4, h_11, h_16, if_true, if_false, Bool.false_eq_true, reduceIte, ite_self] <;> try rfl) (by simp only [buildW, buildOk, if_pos h9, h_4, h_11, h_16, if_true, if_false, Bool.false_eq_true, reduceIte, ite_self] <;> try rfl))
  · have hl : ¬ m < 9 := by omega
    have e1 : decide (m < 9) = false := decide_eq_false hl
    have e2 : (if m < 9 then addWallW σ 21 m a b else σ) = σ := if_neg hl
    refine v_iload_3_1 G dX5_build_0 ?_
    refine v_cS1 G (C_X5_isRoom) (by decide) md_X5_isRoom st_X5_isRoom ml_X5_160 (Nat.le_of_ble_eq_true rfl) dX5_build_1 ?_
    refine v_ifB_eq (tgt := 19) G dX5_build_4 rfl (fun h_4 => ?_) (fun h_4 => ?_)
    · refine v_iconst (v := (-1)) G dX5_build_19 (by decide) ?_
      exact v_iret G hQ dX5_build_20 (vDet.of (by simp only [buildR, buildOk, if_neg hl, bI, h_4, if_true, if_false, Bool.false_eq_true, reduceIte, ite_self] <;> try rfl) (by simp only [buildW, buildOk, if_neg hl, h_4, if_true, if_false, Bool.false_eq_true, reduceIte, ite_self] <;> try rfl))
    · refine v_iload_3_2 G dX5_build_7 ?_
      refine v_cS1 G (C_X5_isRoom) (by decide) md_X5_isRoom st_X5_isRoom ml_X5_160 (Nat.le_of_ble_eq_true rfl) dX5_build_8 ?_
      refine v_ifB_eq (tgt := 19) G dX5_build_11 rfl (fun h_11 => ?_) (fun h_11 => ?_)
      · refine v_iconst (v := (-1)) G dX5_build_19 (by decide) ?_
        exact v_iret G hQ dX5_build_20 (vDet.of (by simp only [buildR, buildOk, if_neg hl, bI, h_4, h_11, if_true, if_false, Bool.false_eq_true, reduceIte, ite_self] <;> try rfl) (by simp only [buildW, buildOk, if_neg hl, h_4, h_11, if_true, if_false, Bool.false_eq_true, reduceIte, ite_self] <;> try rfl))
      · refine v_iload_3_1 G dX5_build_14 ?_
        refine v_iload_3_2 G dX5_build_15 ?_
        refine v_icmp_ne (tgt := 21) G dX5_build_16 rfl (fun h_16 => ?_) (fun h_16 => ?_)
        · refine v_aload_3_0 G dX5_build_21 ?_
          refine v_getR G vc_5 lk_X5_19 (fs_X5_1) dX5_build_22 ?_
          refine v_iload_3_1 G dX5_build_25 ?_
          refine v_iload_3_2 G dX5_build_26 ?_
          refine v_cV2 G (C_X4_addWall (by first | assumption | omega | exact oneB_in (by assumption) | exact wallB_in (by assumption) | exact oneB_m1 (by assumption) | decide) (by first | assumption | omega | exact oneB_in (by assumption) | exact wallB_in (by assumption) | exact oneB_m1 (by assumption) | decide) (by first | assumption | omega | exact oneB_in (by assumption) | exact wallB_in (by assumption) | exact oneB_m1 (by assumption) | decide)) (by decide) md_X4_addWall in_X4_addWall (rv_X4 (by first | assumption | exact imgP_TB | exact shP_SB) rfl) ml_X5_179 (Nat.le_of_ble_eq_true rfl) dX5_build_27 ?_
          rw [e1, e2]
          refine v_ifB_eq (tgt := 43) G dX5_build_30 rfl (fun h_30 => ?_) (fun h_30 => absurd h_30 (by decide))
          refine v_bipush (v := (-3)) G dX5_build_43 (by decide) ?_
          exact v_iret G hQ dX5_build_45 (vDet.of (by simp only [buildR, buildOk, if_neg hl, bI, h_4, h_11, h_16, h_30, if_true, if_false, Bool.false_eq_true, reduceIte, ite_self] <;> try rfl) (by simp only [buildW, buildOk, if_neg hl, h_4, h_11, h_16, h_30, if_true, if_false, Bool.false_eq_true, reduceIte, ite_self] <;> try rfl))
        · refine v_iconst (v := (-1)) G dX5_build_19 (by decide) ?_
          exact v_iret G hQ dX5_build_20 (vDet.of (by simp only [buildR, buildOk, if_neg hl, bI, h_4, h_11, h_16, if_true, if_false, Bool.false_eq_true, reduceIte, ite_self] <;> try rfl) (by simp only [buildW, buildOk, if_neg hl, h_4, h_11, h_16, if_true, if_false, Bool.false_eq_true, reduceIte, ite_self] <;> try rfl))
def pwOk (σ : vW) (p w : Int32) : Bool := if oneB (σ 21 10) p = true then (if wallB (σ 21 11) w = true then true else false) else false
def planR (σ : vW) (K : Nat) (p w : Int32) : Int32 := if pwOk σ p w = true then (if K < 6 then nI (K + 1) else -3) else -1
def planW (σ : vW) (K : Nat) (p w : Int32) : vW := if pwOk σ p w = true then (if K < 6 then addActW σ 21 K p w else σ) else σ
set_option maxHeartbeats 4000000 in
theorem C_X5_plan {σ : vW} {K : Nat} {p w : Int32} (hK : σ 21 12 = nI K) (hK6 : K ≤ 6) : Ctr mX5_plan 1 [.ref 0, .int p, .int w] σ (vDet (some (.int (planR σ K p w))) (planW σ K p w)) := by
  have hT := TB21
  refine Ctr.intro (by decide) (fun α => Nat.le_of_ble_eq_true rfl) (fun x G hQ => ?_)
  have G : vG x RX5 cX5_plan 3 (some .int) 1 := G
  show V x 0 [some (.ref 0), some (.int p), some (.int w)] [] σ
  rcases Nat.lt_or_ge K 6 with h9 | h9
  · have e1 : decide (K < 6) = true := decide_eq_true h9
    have e2 : (if K < 6 then addActW σ 21 K p w else σ) = addActW σ 21 K p w := if_pos h9
    refine v_aload_3_0 G dX5_plan_0 ?_
    refine v_getR G vc_5 lk_X5_19 (fs_X5_1) dX5_plan_1 ?_
    refine v_iload_3_1 G dX5_plan_4 ?_
    refine v_cV1 G (C_X4_isOne (by first | assumption | omega | exact oneB_in (by assumption) | exact wallB_in (by assumption) | exact oneB_m1 (by assumption) | decide)) (by decide) md_X4_isOne in_X4_isOne (rv_X4 (by first | assumption | exact imgP_TB | exact shP_SB) rfl) ml_X5_120 (Nat.le_of_ble_eq_true rfl) dX5_plan_5 ?_
    refine v_ifB_eq (tgt := 22) G dX5_plan_8 rfl (fun h_8 => ?_) (fun h_8 => ?_)
    · refine v_iconst (v := (-1)) G dX5_plan_22 (by decide) ?_
      exact v_iret G hQ dX5_plan_23 (vDet.of (by simp only [planR, pwOk, if_pos h9, bI, h_8, if_true, if_false, Bool.false_eq_true, reduceIte, ite_self] <;> try rfl) (by simp only [planW, pwOk, if_pos h9, h_8, if_true, if_false, Bool.false_eq_true, reduceIte, ite_self] <;> try rfl))
    · refine v_aload_3_0 G dX5_plan_11 ?_
      refine v_getR G vc_5 lk_X5_19 (fs_X5_1) dX5_plan_12 ?_
      refine v_iload_3_2 G dX5_plan_15 ?_
      refine v_cV1 G (C_X4_isWall (by first | assumption | omega | exact oneB_in (by assumption) | exact wallB_in (by assumption) | exact oneB_m1 (by assumption) | decide)) (by decide) md_X4_isWall in_X4_isWall (rv_X4 (by first | assumption | exact imgP_TB | exact shP_SB) rfl) ml_X5_145 (Nat.le_of_ble_eq_true rfl) dX5_plan_16 ?_
      refine v_ifB_ne (tgt := 24) G dX5_plan_19 rfl (fun h_19 => ?_) (fun h_19 => ?_)
      · refine v_aload_3_0 G dX5_plan_24 ?_
        refine v_getR G vc_5 lk_X5_19 (fs_X5_1) dX5_plan_25 ?_
        refine v_iload_3_1 G dX5_plan_28 ?_
        refine v_iload_3_2 G dX5_plan_29 ?_
        refine v_cV2 G (C_X4_addAct (by first | assumption | omega | exact oneB_in (by assumption) | exact wallB_in (by assumption) | exact oneB_m1 (by assumption) | decide) (by first | assumption | omega | exact oneB_in (by assumption) | exact wallB_in (by assumption) | exact oneB_m1 (by assumption) | decide) (by first | assumption | omega | exact oneB_in (by assumption) | exact wallB_in (by assumption) | exact oneB_m1 (by assumption) | decide)) (by decide) md_X4_addAct in_X4_addAct (rv_X4 (by first | assumption | exact imgP_TB | exact shP_SB) rfl) ml_X5_182 (Nat.le_of_ble_eq_true rfl) dX5_plan_30 ?_
        rw [e1, e2]
        refine v_ifB_eq (tgt := 46) G dX5_plan_33 rfl (fun h_33 => absurd h_33 (by decide)) (fun h_33 => ?_)
        refine v_aload_3_0 G dX5_plan_36 ?_
        refine v_getR G vc_5 lk_X5_19 (fs_X5_1) dX5_plan_37 ?_
        refine v_getI G vc_4 lk_X5_111 (fs_X4_12 (by first | assumption | exact imgP_TB)) dX5_plan_40 ?_
        rw [addActW_len]
        refine v_goto (tgt := 48) G dX5_plan_43 rfl ?_
        exact v_iret G hQ dX5_plan_48 (vDet.of (by simp only [planR, pwOk, if_pos h9, bI, h_8, h_19, h_33, if_true, if_false, Bool.false_eq_true, reduceIte, ite_self] <;> try rfl) (by simp only [planW, pwOk, if_pos h9, h_8, h_19, h_33, if_true, if_false, Bool.false_eq_true, reduceIte, ite_self] <;> try rfl))
      · refine v_iconst (v := (-1)) G dX5_plan_22 (by decide) ?_
        exact v_iret G hQ dX5_plan_23 (vDet.of (by simp only [planR, pwOk, if_pos h9, bI, h_8, h_19, if_true, if_false, Bool.false_eq_true, reduceIte, ite_self] <;> try rfl) (by simp only [planW, pwOk, if_pos h9, h_8, h_19, if_true, if_false, Bool.false_eq_true, reduceIte, ite_self] <;> try rfl))
  · have hl : ¬ K < 6 := by omega
    have e1 : decide (K < 6) = false := decide_eq_false hl
    have e2 : (if K < 6 then addActW σ 21 K p w else σ) = σ := if_neg hl
    refine v_aload_3_0 G dX5_plan_0 ?_
    refine v_getR G vc_5 lk_X5_19 (fs_X5_1) dX5_plan_1 ?_
    refine v_iload_3_1 G dX5_plan_4 ?_
    refine v_cV1 G (C_X4_isOne (by first | assumption | omega | exact oneB_in (by assumption) | exact wallB_in (by assumption) | exact oneB_m1 (by assumption) | decide)) (by decide) md_X4_isOne in_X4_isOne (rv_X4 (by first | assumption | exact imgP_TB | exact shP_SB) rfl) ml_X5_120 (Nat.le_of_ble_eq_true rfl) dX5_plan_5 ?_
    refine v_ifB_eq (tgt := 22) G dX5_plan_8 rfl (fun h_8 => ?_) (fun h_8 => ?_)
    · refine v_iconst (v := (-1)) G dX5_plan_22 (by decide) ?_
      exact v_iret G hQ dX5_plan_23 (vDet.of (by simp only [planR, pwOk, if_neg hl, bI, h_8, if_true, if_false, Bool.false_eq_true, reduceIte, ite_self] <;> try rfl) (by simp only [planW, pwOk, if_neg hl, h_8, if_true, if_false, Bool.false_eq_true, reduceIte, ite_self] <;> try rfl))
    · refine v_aload_3_0 G dX5_plan_11 ?_
      refine v_getR G vc_5 lk_X5_19 (fs_X5_1) dX5_plan_12 ?_
      refine v_iload_3_2 G dX5_plan_15 ?_
      refine v_cV1 G (C_X4_isWall (by first | assumption | omega | exact oneB_in (by assumption) | exact wallB_in (by assumption) | exact oneB_m1 (by assumption) | decide)) (by decide) md_X4_isWall in_X4_isWall (rv_X4 (by first | assumption | exact imgP_TB | exact shP_SB) rfl) ml_X5_145 (Nat.le_of_ble_eq_true rfl) dX5_plan_16 ?_
      refine v_ifB_ne (tgt := 24) G dX5_plan_19 rfl (fun h_19 => ?_) (fun h_19 => ?_)
      · refine v_aload_3_0 G dX5_plan_24 ?_
        refine v_getR G vc_5 lk_X5_19 (fs_X5_1) dX5_plan_25 ?_
        refine v_iload_3_1 G dX5_plan_28 ?_
        refine v_iload_3_2 G dX5_plan_29 ?_
        refine v_cV2 G (C_X4_addAct (by first | assumption | omega | exact oneB_in (by assumption) | exact wallB_in (by assumption) | exact oneB_m1 (by assumption) | decide) (by first | assumption | omega | exact oneB_in (by assumption) | exact wallB_in (by assumption) | exact oneB_m1 (by assumption) | decide) (by first | assumption | omega | exact oneB_in (by assumption) | exact wallB_in (by assumption) | exact oneB_m1 (by assumption) | decide)) (by decide) md_X4_addAct in_X4_addAct (rv_X4 (by first | assumption | exact imgP_TB | exact shP_SB) rfl) ml_X5_182 (Nat.le_of_ble_eq_true rfl) dX5_plan_30 ?_
        rw [e1, e2]
        refine v_ifB_eq (tgt := 46) G dX5_plan_33 rfl (fun h_33 => ?_) (fun h_33 => absurd h_33 (by decide))
        refine v_bipush (v := (-3)) G dX5_plan_46 (by decide) ?_
        exact v_iret G hQ dX5_plan_48 (vDet.of (by simp only [planR, pwOk, if_neg hl, bI, h_8, h_19, h_33, if_true, if_false, Bool.false_eq_true, reduceIte, ite_self] <;> try rfl) (by simp only [planW, pwOk, if_neg hl, h_8, h_19, h_33, if_true, if_false, Bool.false_eq_true, reduceIte, ite_self] <;> try rfl))
      · refine v_iconst (v := (-1)) G dX5_plan_22 (by decide) ?_
        exact v_iret G hQ dX5_plan_23 (vDet.of (by simp only [planR, pwOk, if_neg hl, bI, h_8, h_19, if_true, if_false, Bool.false_eq_true, reduceIte, ite_self] <;> try rfl) (by simp only [planW, pwOk, if_neg hl, h_8, h_19, if_true, if_false, Bool.false_eq_true, reduceIte, ite_self] <;> try rfl))
def cutR (σ : vW) (n : Int32) : Int32 := if upToB n (σ 21 12) = true then σ 21 12 else -1
def cutW (σ : vW) (n : Int32) : vW := if upToB n (σ 21 12) = true then vset σ 21 12 n else σ
set_option maxHeartbeats 4000000 in
theorem C_X5_cut {σ : vW} {n : Int32} : Ctr mX5_cut 1 [.ref 0, .int n] σ (vDet (some (.int (cutR σ n))) (cutW σ n)) := by
  have hT := TB21
  refine Ctr.intro (by decide) (fun α => Nat.le_of_ble_eq_true rfl) (fun x G hQ => ?_)
  have G : vG x RX5 cX5_cut 3 (some .int) 1 := G
  show V x 0 [some (.ref 0), some (.int n), none] [] σ
  refine v_aload_3_0 G dX5_cut_0 ?_
  refine v_getR G vc_5 lk_X5_19 (fs_X5_1) dX5_cut_1 ?_
  refine v_getI G vc_4 lk_X5_111 (fs_X4_12 (by first | assumption | exact imgP_TB)) dX5_cut_4 ?_
  refine v_istore_3_2 G dX5_cut_7 rfl ?_
  refine v_iload_3_1 G dX5_cut_8 ?_
  refine v_iload_3_2 G dX5_cut_9 ?_
  refine v_cS2 G (C_X5_isUpTo) (by decide) md_X5_isUpTo st_X5_isUpTo ml_X5_52 (Nat.le_of_ble_eq_true rfl) dX5_cut_10 ?_
  refine v_ifB_ne (tgt := 18) G dX5_cut_13 rfl (fun h_13 => ?_) (fun h_13 => ?_)
  · refine v_aload_3_0 G dX5_cut_18 ?_
    refine v_getR G vc_5 lk_X5_19 (fs_X5_1) dX5_cut_19 ?_
    refine v_iload_3_1 G dX5_cut_22 ?_
    refine v_putI G vc_4 vt_4 lk_X5_111 (fs_X4_12 (by first | assumption | exact imgP_TB)) (ft_X4_12 _) dX5_cut_23 ?_
    refine v_iload_3_2 G dX5_cut_26 ?_
    exact v_iret G hQ dX5_cut_27 (vDet.of (by simp only [cutR, bI, h_13, if_true, if_false, Bool.false_eq_true, reduceIte, ite_self] <;> try rfl) (by simp only [cutW, h_13, if_true, if_false, Bool.false_eq_true, reduceIte, ite_self] <;> try rfl))
  · refine v_iconst (v := (-1)) G dX5_cut_16 (by decide) ?_
    exact v_iret G hQ dX5_cut_17 (vDet.of (by simp only [cutR, bI, h_13, if_true, if_false, Bool.false_eq_true, reduceIte, ite_self] <;> try rfl) (by simp only [cutW, h_13, if_true, if_false, Bool.false_eq_true, reduceIte, ite_self] <;> try rfl))
def hangR (σ : vW) (m : Nat) (p w : Int32) : Int32 := if pwOk σ p w = true then (if canB σ 21 p w = true then reachW (hangW σ 21 p w) 21 m p.toNatClampNeg else -2) else -1
def hangV (σ : vW) (p w : Int32) : vW := if pwOk σ p w = true then (if canB σ 21 p w = true then hangW σ 21 p w else σ) else σ
set_option maxHeartbeats 4000000 in
theorem C_X5_hang {σ : vW} {n m : Nat} {p w : Int32} (hn : σ 21 10 = nI n) (hn5 : n ≤ 5) (hm : σ 21 11 = nI m) (hm9 : m ≤ 9) : Ctr mX5_hang 4 [.ref 0, .int p, .int w] σ (vDet (some (.int (hangR σ m p w))) (hangV σ p w)) := by
  have hT := TB21
  refine Ctr.intro (by decide) (fun α => Nat.le_of_ble_eq_true rfl) (fun x G hQ => ?_)
  have G : vG x RX5 cX5_hang 3 (some .int) 4 := G
  show V x 0 [some (.ref 0), some (.int p), some (.int w)] [] σ
  by_cases hc : canB σ 21 p w = true
  · have hm2 : (hangW σ 21 p w) 21 11 = nI m := by rw [hangW_ne (by decide) (by decide)]; exact hm
    have e2 : (if canB σ 21 p w = true then hangW σ 21 p w else σ) = hangW σ 21 p w := if_pos hc
    obtain ⟨k, hk, rfl⟩ := oneB_ex hn hn5 (canB_1 hc)
    have ck : (nI k).toNatClampNeg = k := nI_clamp (by omega)
    refine v_aload_3_0 G dX5_hang_0 ?_
    refine v_getR G vc_5 lk_X5_19 (fs_X5_1) dX5_hang_1 ?_
    refine v_iload_3_1 G dX5_hang_4 ?_
    refine v_cV1 G (C_X4_isOne (by first | assumption | omega | exact oneB_in (by assumption) | exact wallB_in (by assumption) | exact oneB_m1 (by assumption) | decide)) (by decide) md_X4_isOne in_X4_isOne (rv_X4 (by first | assumption | exact imgP_TB | exact shP_SB) rfl) ml_X5_120 (Nat.le_of_ble_eq_true rfl) dX5_hang_5 ?_
    refine v_ifB_eq (tgt := 22) G dX5_hang_8 rfl (fun h_8 => ?_) (fun h_8 => ?_)
    · refine v_iconst (v := (-1)) G dX5_hang_22 (by decide) ?_
      exact v_iret G hQ dX5_hang_23 (vDet.of (by simp only [hangR, pwOk, hc, ck, bI, h_8, if_true, if_false, Bool.false_eq_true, reduceIte, ite_self] <;> try rfl) (by simp only [hangV, pwOk, hc, h_8, if_true, if_false, Bool.false_eq_true, reduceIte, ite_self] <;> try rfl))
    · refine v_aload_3_0 G dX5_hang_11 ?_
      refine v_getR G vc_5 lk_X5_19 (fs_X5_1) dX5_hang_12 ?_
      refine v_iload_3_2 G dX5_hang_15 ?_
      refine v_cV1 G (C_X4_isWall (by first | assumption | omega | exact oneB_in (by assumption) | exact wallB_in (by assumption) | exact oneB_m1 (by assumption) | decide)) (by decide) md_X4_isWall in_X4_isWall (rv_X4 (by first | assumption | exact imgP_TB | exact shP_SB) rfl) ml_X5_145 (Nat.le_of_ble_eq_true rfl) dX5_hang_16 ?_
      refine v_ifB_ne (tgt := 24) G dX5_hang_19 rfl (fun h_19 => ?_) (fun h_19 => ?_)
      · refine v_aload_3_0 G dX5_hang_24 ?_
        refine v_getR G vc_5 lk_X5_19 (fs_X5_1) dX5_hang_25 ?_
        refine v_iload_3_1 G dX5_hang_28 ?_
        refine v_iload_3_2 G dX5_hang_29 ?_
        refine v_cV2 G (C_X4_hangDoor (by first | assumption | omega | exact oneB_in (by assumption) | exact wallB_in (by assumption) | exact oneB_m1 (by assumption) | decide)) (by decide) md_X4_hangDoor in_X4_hangDoor (rv_X4 (by first | assumption | exact imgP_TB | exact shP_SB) rfl) ml_X5_185 (Nat.le_of_ble_eq_true rfl) dX5_hang_30 ?_
        rw [hc]
        rw [if_pos rfl]
        refine v_ifB_eq (tgt := 47) G dX5_hang_33 rfl (fun h_33 => absurd h_33 (by decide)) (fun h_33 => ?_)
        refine v_aload_3_0 G dX5_hang_36 ?_
        refine v_getR G vc_5 lk_X5_19 (fs_X5_1) dX5_hang_37 ?_
        refine v_iload_3_1 G dX5_hang_40 ?_
        refine v_cV1 G (C_X4_reached (by first | assumption | omega | exact oneB_in (by assumption) | exact wallB_in (by assumption) | exact oneB_m1 (by assumption) | decide) (by first | assumption | omega | exact oneB_in (by assumption) | exact wallB_in (by assumption) | exact oneB_m1 (by assumption) | decide) (by first | assumption | omega | exact oneB_in (by assumption) | exact wallB_in (by assumption) | exact oneB_m1 (by assumption) | decide) (by first | assumption | omega | exact oneB_in (by assumption) | exact wallB_in (by assumption) | exact oneB_m1 (by assumption) | decide)) (by decide) md_X4_reached in_X4_reached (rv_X4 (by first | assumption | exact imgP_TB | exact shP_SB) rfl) ml_X5_135 (Nat.le_of_ble_eq_true rfl) dX5_hang_41 ?_
        refine v_goto (tgt := 49) G dX5_hang_44 rfl ?_
        exact v_iret G hQ dX5_hang_49 (vDet.of (by simp only [hangR, pwOk, hc, ck, bI, h_8, h_19, h_33, if_true, if_false, Bool.false_eq_true, reduceIte, ite_self] <;> try rfl) (by simp only [hangV, pwOk, hc, h_8, h_19, h_33, if_true, if_false, Bool.false_eq_true, reduceIte, ite_self] <;> try rfl))
      · refine v_iconst (v := (-1)) G dX5_hang_22 (by decide) ?_
        exact v_iret G hQ dX5_hang_23 (vDet.of (by simp only [hangR, pwOk, hc, ck, bI, h_8, h_19, if_true, if_false, Bool.false_eq_true, reduceIte, ite_self] <;> try rfl) (by simp only [hangV, pwOk, hc, h_8, h_19, if_true, if_false, Bool.false_eq_true, reduceIte, ite_self] <;> try rfl))
  · have hc2 : canB σ 21 p w = false := by simpa using hc
    have e2 : (if canB σ 21 p w = true then hangW σ 21 p w else σ) = σ := if_neg hc
    refine v_aload_3_0 G dX5_hang_0 ?_
    refine v_getR G vc_5 lk_X5_19 (fs_X5_1) dX5_hang_1 ?_
    refine v_iload_3_1 G dX5_hang_4 ?_
    refine v_cV1 G (C_X4_isOne (by first | assumption | omega | exact oneB_in (by assumption) | exact wallB_in (by assumption) | exact oneB_m1 (by assumption) | decide)) (by decide) md_X4_isOne in_X4_isOne (rv_X4 (by first | assumption | exact imgP_TB | exact shP_SB) rfl) ml_X5_120 (Nat.le_of_ble_eq_true rfl) dX5_hang_5 ?_
    refine v_ifB_eq (tgt := 22) G dX5_hang_8 rfl (fun h_8 => ?_) (fun h_8 => ?_)
    · refine v_iconst (v := (-1)) G dX5_hang_22 (by decide) ?_
      exact v_iret G hQ dX5_hang_23 (vDet.of (by simp only [hangR, pwOk, hc2, bI, h_8, if_true, if_false, Bool.false_eq_true, reduceIte, ite_self] <;> try rfl) (by simp only [hangV, pwOk, hc2, h_8, if_true, if_false, Bool.false_eq_true, reduceIte, ite_self] <;> try rfl))
    · refine v_aload_3_0 G dX5_hang_11 ?_
      refine v_getR G vc_5 lk_X5_19 (fs_X5_1) dX5_hang_12 ?_
      refine v_iload_3_2 G dX5_hang_15 ?_
      refine v_cV1 G (C_X4_isWall (by first | assumption | omega | exact oneB_in (by assumption) | exact wallB_in (by assumption) | exact oneB_m1 (by assumption) | decide)) (by decide) md_X4_isWall in_X4_isWall (rv_X4 (by first | assumption | exact imgP_TB | exact shP_SB) rfl) ml_X5_145 (Nat.le_of_ble_eq_true rfl) dX5_hang_16 ?_
      refine v_ifB_ne (tgt := 24) G dX5_hang_19 rfl (fun h_19 => ?_) (fun h_19 => ?_)
      · refine v_aload_3_0 G dX5_hang_24 ?_
        refine v_getR G vc_5 lk_X5_19 (fs_X5_1) dX5_hang_25 ?_
        refine v_iload_3_1 G dX5_hang_28 ?_
        refine v_iload_3_2 G dX5_hang_29 ?_
        refine v_cV2 G (C_X4_hangDoor (by first | assumption | omega | exact oneB_in (by assumption) | exact wallB_in (by assumption) | exact oneB_m1 (by assumption) | decide)) (by decide) md_X4_hangDoor in_X4_hangDoor (rv_X4 (by first | assumption | exact imgP_TB | exact shP_SB) rfl) ml_X5_185 (Nat.le_of_ble_eq_true rfl) dX5_hang_30 ?_
        rw [hc2]
        rw [if_neg (show ¬ false = true by decide)]
        refine v_ifB_eq (tgt := 47) G dX5_hang_33 rfl (fun h_33 => ?_) (fun h_33 => absurd h_33 (by decide))
        refine v_bipush (v := (-2)) G dX5_hang_47 (by decide) ?_
        exact v_iret G hQ dX5_hang_49 (vDet.of (by simp only [hangR, pwOk, hc2, bI, h_8, h_19, h_33, if_true, if_false, Bool.false_eq_true, reduceIte, ite_self] <;> try rfl) (by simp only [hangV, pwOk, hc2, h_8, h_19, h_33, if_true, if_false, Bool.false_eq_true, reduceIte, ite_self] <;> try rfl))
      · refine v_iconst (v := (-1)) G dX5_hang_22 (by decide) ?_
        exact v_iret G hQ dX5_hang_23 (vDet.of (by simp only [hangR, pwOk, hc2, bI, h_8, h_19, if_true, if_false, Bool.false_eq_true, reduceIte, ite_self] <;> try rfl) (by simp only [hangV, pwOk, hc2, h_8, h_19, if_true, if_false, Bool.false_eq_true, reduceIte, ite_self] <;> try rfl))
def fillRv (σ : vW) (w : Int32) : Int32 := if wallB (σ 21 11) w = true then (if takeR σ 21 w = -1 then -2 else takeR σ 21 w) else -1
def fillV (σ : vW) (w : Int32) : vW := if wallB (σ 21 11) w = true then takeW σ 21 w (-2) else σ
set_option maxHeartbeats 4000000 in
theorem C_X5_fill {σ : vW} {w : Int32} : Ctr mX5_fill 2 [.ref 0, .int w] σ (vDet (some (.int (fillRv σ w))) (fillV σ w)) := by
  have hT := TB21
  refine Ctr.intro (by decide) (fun α => Nat.le_of_ble_eq_true rfl) (fun x G hQ => ?_)
  have G : vG x RX5 cX5_fill 3 (some .int) 2 := G
  show V x 0 [some (.ref 0), some (.int w), none] [] σ
  refine v_aload_3_0 G dX5_fill_0 ?_
  refine v_getR G vc_5 lk_X5_19 (fs_X5_1) dX5_fill_1 ?_
  refine v_iload_3_1 G dX5_fill_4 ?_
  refine v_cV1 G (C_X4_isWall (by first | assumption | omega | exact oneB_in (by assumption) | exact wallB_in (by assumption) | exact oneB_m1 (by assumption) | decide)) (by decide) md_X4_isWall in_X4_isWall (rv_X4 (by first | assumption | exact imgP_TB | exact shP_SB) rfl) ml_X5_145 (Nat.le_of_ble_eq_true rfl) dX5_fill_5 ?_
  refine v_ifB_ne (tgt := 13) G dX5_fill_8 rfl (fun h_8 => ?_) (fun h_8 => ?_)
  · refine v_aload_3_0 G dX5_fill_13 ?_
    refine v_getR G vc_5 lk_X5_19 (fs_X5_1) dX5_fill_14 ?_
    refine v_iload_3_1 G dX5_fill_17 ?_
    refine v_bipush (v := (-2)) G dX5_fill_18 (by decide) ?_
    refine v_cV2 G (C_X4_takeDoor (by first | assumption | omega | exact oneB_in (by assumption) | exact wallB_in (by assumption) | exact oneB_m1 (by assumption) | decide)) (by decide) md_X4_takeDoor in_X4_takeDoor (rv_X4 (by first | assumption | exact imgP_TB | exact shP_SB) rfl) ml_X5_188 (Nat.le_of_ble_eq_true rfl) dX5_fill_20 ?_
    refine v_istore_3_2 G dX5_fill_23 rfl ?_
    refine v_iload_3_2 G dX5_fill_24 ?_
    refine v_iconst (v := (-1)) G dX5_fill_25 (by decide) ?_
    refine v_icmp_ne (tgt := 34) G dX5_fill_26 rfl (fun h_26 => ?_) (fun h_26 => ?_)
    · refine v_iload_3_2 G dX5_fill_34 ?_
      exact v_iret G hQ dX5_fill_35 (vDet.of (by simp only [fillRv, bI, h_8, h_26, if_true, if_false, Bool.false_eq_true, reduceIte, ite_self] <;> try rfl) (by simp only [fillV, h_8, h_26, if_true, if_false, Bool.false_eq_true, reduceIte, ite_self] <;> try rfl))
    · refine v_bipush (v := (-2)) G dX5_fill_29 (by decide) ?_
      refine v_goto (tgt := 35) G dX5_fill_31 rfl ?_
      exact v_iret G hQ dX5_fill_35 (vDet.of (by simp only [fillRv, bI, h_8, h_26, if_true, if_false, Bool.false_eq_true, reduceIte, ite_self] <;> try rfl) (by simp only [fillV, h_8, h_26, if_true, if_false, Bool.false_eq_true, reduceIte, ite_self] <;> try rfl))
  · refine v_iconst (v := (-1)) G dX5_fill_11 (by decide) ?_
    exact v_iret G hQ dX5_fill_12 (vDet.of (by simp only [fillRv, bI, h_8, if_true, if_false, Bool.false_eq_true, reduceIte, ite_self] <;> try rfl) (by simp only [fillV, h_8, if_true, if_false, Bool.false_eq_true, reduceIte, ite_self] <;> try rfl))
def prOk (σ : vW) (p r : Int32) : Bool := if oneB (σ 21 10) p = true then (if roomB r = true then true else false) else false
def stepsR (σ : vW) (m : Nat) (p r : Int32) : Int32 := if prOk σ p r = true then distW σ 21 m (passTo σ 21 p m) (σ (21 + 3) p.toNatClampNeg) r else -1
set_option maxHeartbeats 4000000 in
theorem C_X5_steps {σ : vW} {n m : Nat} {p r : Int32} (hn : σ 21 10 = nI n) (hn5 : n ≤ 5) (hm : σ 21 11 = nI m) (hm9 : m ≤ 9) : Ctr mX5_steps 3 [.ref 0, .int p, .int r] σ (vDet (some (.int (stepsR σ m p r))) σ) := by
  have hT := TB21
  refine Ctr.intro (by decide) (fun α => Nat.le_of_ble_eq_true rfl) (fun x G hQ => ?_)
  have G : vG x RX5 cX5_steps 3 (some .int) 3 := G
  show V x 0 [some (.ref 0), some (.int p), some (.int r)] [] σ
  refine v_aload_3_0 G dX5_steps_0 ?_
  refine v_getR G vc_5 lk_X5_19 (fs_X5_1) dX5_steps_1 ?_
  refine v_iload_3_1 G dX5_steps_4 ?_
  refine v_cV1 G (C_X4_isOne (by first | assumption | omega | exact oneB_in (by assumption) | exact wallB_in (by assumption) | exact oneB_m1 (by assumption) | decide)) (by decide) md_X4_isOne in_X4_isOne (rv_X4 (by first | assumption | exact imgP_TB | exact shP_SB) rfl) ml_X5_120 (Nat.le_of_ble_eq_true rfl) dX5_steps_5 ?_
  refine v_ifB_eq (tgt := 18) G dX5_steps_8 rfl (fun h_8 => ?_) (fun h_8 => ?_)
  · refine v_iconst (v := (-1)) G dX5_steps_18 (by decide) ?_
    exact v_iret G hQ dX5_steps_19 (vDet.of (by simp only [stepsR, prOk, bI, h_8, if_true, if_false, Bool.false_eq_true, reduceIte] <;> try rfl) rfl)
  · refine v_iload_3_2 G dX5_steps_11 ?_
    refine v_cS1 G (C_X5_isRoom) (by decide) md_X5_isRoom st_X5_isRoom ml_X5_160 (Nat.le_of_ble_eq_true rfl) dX5_steps_12 ?_
    refine v_ifB_ne (tgt := 20) G dX5_steps_15 rfl (fun h_15 => ?_) (fun h_15 => ?_)
    · refine v_aload_3_0 G dX5_steps_20 ?_
      refine v_getR G vc_5 lk_X5_19 (fs_X5_1) dX5_steps_21 ?_
      refine v_aload_3_0 G dX5_steps_24 ?_
      refine v_getR G vc_5 lk_X5_19 (fs_X5_1) dX5_steps_25 ?_
      refine v_getR G vc_4 lk_X5_129 (fs_X4_2 (by first | assumption | exact imgP_TB)) dX5_steps_28 ?_
      refine v_iload_3_1 G dX5_steps_31 ?_
      refine v_iald G (as_X4_2 (by first | assumption | exact imgP_TB)) (by first | assumption | omega | exact oneB_in (by assumption) | exact wallB_in (by assumption) | exact oneB_m1 (by assumption) | decide) dX5_steps_32 ?_
      refine v_iload_3_2 G dX5_steps_33 ?_
      refine v_aload_3_0 G dX5_steps_34 ?_
      refine v_getR G vc_5 lk_X5_19 (fs_X5_1) dX5_steps_35 ?_
      refine v_iload_3_1 G dX5_steps_38 ?_
      refine v_cV1 G (C_X4_passed (by first | assumption | omega | exact oneB_in (by assumption) | exact wallB_in (by assumption) | exact oneB_m1 (by assumption) | decide) (by first | assumption | omega | exact oneB_in (by assumption) | exact wallB_in (by assumption) | exact oneB_m1 (by assumption) | decide) (by first | assumption | omega | exact oneB_in (by assumption) | exact wallB_in (by assumption) | exact oneB_m1 (by assumption) | decide)) (by decide) md_X4_passed in_X4_passed (rv_X4 (by first | assumption | exact imgP_TB | exact shP_SB) rfl) ml_X5_191 (Nat.le_of_ble_eq_true rfl) dX5_steps_39 ?_
      refine v_cV3 G (C_X4_distance (by first | assumption | omega | exact oneB_in (by assumption) | exact wallB_in (by assumption) | exact oneB_m1 (by assumption) | decide) (by first | assumption | omega | exact oneB_in (by assumption) | exact wallB_in (by assumption) | exact oneB_m1 (by assumption) | decide) (by first | assumption | omega | exact oneB_in (by assumption) | exact wallB_in (by assumption) | exact oneB_m1 (by assumption) | decide)) (by decide) md_X4_distance in_X4_distance (rv_X4 (by first | assumption | exact imgP_TB | exact shP_SB) rfl) ml_X5_194 (Nat.le_of_ble_eq_true rfl) dX5_steps_42 ?_
      exact v_iret G hQ dX5_steps_45 (vDet.of (by simp only [stepsR, prOk, bI, h_8, h_15, if_true, if_false, Bool.false_eq_true, reduceIte] <;> try rfl) rfl)
    · refine v_iconst (v := (-1)) G dX5_steps_18 (by decide) ?_
      exact v_iret G hQ dX5_steps_19 (vDet.of (by simp only [stepsR, prOk, bI, h_8, h_15, if_true, if_false, Bool.false_eq_true, reduceIte] <;> try rfl) rfl)
def wayOk (σ : vW) (p r i : Int32) : Bool := if oneB (σ 21 10) p = true then (if roomB r = true then (if upToB i (nI 6) = true then true else false) else false) else false
def wayR (σ : vW) (m : Nat) (p r i : Int32) : Int32 := if wayOk σ p r i = true then wayW σ 21 m p.toNatClampNeg r i.toNatClampNeg else -1
set_option maxHeartbeats 4000000 in
theorem C_X5_way {σ : vW} {n m : Nat} {p r i : Int32} (hn : σ 21 10 = nI n) (hn5 : n ≤ 5) (hm : σ 21 11 = nI m) (hm9 : m ≤ 9) : Ctr mX5_way 5 [.ref 0, .int p, .int r, .int i] σ (vDet (some (.int (wayR σ m p r i))) σ) := by
  have hT := TB21
  refine Ctr.intro (by decide) (fun α => Nat.le_of_ble_eq_true rfl) (fun x G hQ => ?_)
  have G : vG x RX5 cX5_way 4 (some .int) 5 := G
  show V x 0 [some (.ref 0), some (.int p), some (.int r), some (.int i)] [] σ
  refine v_aload_4_0 G dX5_way_0 ?_
  refine v_getR G vc_5 lk_X5_19 (fs_X5_1) dX5_way_1 ?_
  refine v_iload_4_1 G dX5_way_4 ?_
  refine v_cV1 G (C_X4_isOne (by first | assumption | omega | exact oneB_in (by assumption) | exact wallB_in (by assumption) | exact oneB_m1 (by assumption) | decide)) (by decide) md_X4_isOne in_X4_isOne (rv_X4 (by first | assumption | exact imgP_TB | exact shP_SB) rfl) ml_X5_120 (Nat.le_of_ble_eq_true rfl) dX5_way_5 ?_
  refine v_ifB_eq (tgt := 27) G dX5_way_8 rfl (fun h_8 => ?_) (fun h_8 => ?_)
  · refine v_iconst (v := (-1)) G dX5_way_27 (by decide) ?_
    exact v_iret G hQ dX5_way_28 (vDet.of (by simp only [wayR, wayOk, bI, h_8, if_true, if_false, Bool.false_eq_true, reduceIte] <;> try rfl) rfl)
  · obtain ⟨k, hk, rfl⟩ := oneB_ex hn hn5 h_8
    have ck : (nI k).toNatClampNeg = k := nI_clamp (by omega)
    refine v_iload_4_2 G dX5_way_11 ?_
    refine v_cS1 G (C_X5_isRoom) (by decide) md_X5_isRoom st_X5_isRoom ml_X5_160 (Nat.le_of_ble_eq_true rfl) dX5_way_12 ?_
    refine v_ifB_eq (tgt := 27) G dX5_way_15 rfl (fun h_15 => ?_) (fun h_15 => ?_)
    · refine v_iconst (v := (-1)) G dX5_way_27 (by decide) ?_
      exact v_iret G hQ dX5_way_28 (vDet.of (by simp only [wayR, wayOk, bI, h_8, ck, h_15, if_true, if_false, Bool.false_eq_true, reduceIte] <;> try rfl) rfl)
    · refine v_iload_4_3 G dX5_way_18 ?_
      refine v_bipush (v := nI 6) G dX5_way_19 (by decide) ?_
      refine v_cS2 G (C_X5_isUpTo) (by decide) md_X5_isUpTo st_X5_isUpTo ml_X5_52 (Nat.le_of_ble_eq_true rfl) dX5_way_21 ?_
      refine v_ifB_ne (tgt := 29) G dX5_way_24 rfl (fun h_24 => ?_) (fun h_24 => ?_)
      · obtain ⟨j, hj, rfl⟩ := upToB_ex (by decide) h_24
        have cj : (nI j).toNatClampNeg = j := nI_clamp (by omega)
        refine v_aload_4_0 G dX5_way_29 ?_
        refine v_getR G vc_5 lk_X5_19 (fs_X5_1) dX5_way_30 ?_
        refine v_iload_4_1 G dX5_way_33 ?_
        refine v_iload_4_2 G dX5_way_34 ?_
        refine v_iload_4_3 G dX5_way_35 ?_
        refine v_cV3 G (C_X4_wallOnWay (by first | assumption | omega | exact oneB_in (by assumption) | exact wallB_in (by assumption) | exact oneB_m1 (by assumption) | decide) (by first | assumption | omega | exact oneB_in (by assumption) | exact wallB_in (by assumption) | exact oneB_m1 (by assumption) | decide) (by first | assumption | omega | exact oneB_in (by assumption) | exact wallB_in (by assumption) | exact oneB_m1 (by assumption) | decide) (by first | assumption | omega | exact oneB_in (by assumption) | exact wallB_in (by assumption) | exact oneB_m1 (by assumption) | decide) (by first | assumption | omega | exact oneB_in (by assumption) | exact wallB_in (by assumption) | exact oneB_m1 (by assumption) | decide)) (by decide) md_X4_wallOnWay in_X4_wallOnWay (rv_X4 (by first | assumption | exact imgP_TB | exact shP_SB) rfl) ml_X5_198 (Nat.le_of_ble_eq_true rfl) dX5_way_36 ?_
        exact v_iret G hQ dX5_way_39 (vDet.of (by simp only [wayR, wayOk, bI, h_8, ck, h_15, h_24, cj, if_true, if_false, Bool.false_eq_true, reduceIte] <;> try rfl) rfl)
      · refine v_iconst (v := (-1)) G dX5_way_27 (by decide) ?_
        exact v_iret G hQ dX5_way_28 (vDet.of (by simp only [wayR, wayOk, bI, h_8, ck, h_15, h_24, if_true, if_false, Bool.false_eq_true, reduceIte] <;> try rfl) rfl)
def meetOk (σ : vW) (p q : Int32) : Bool := if oneB (σ 21 10) p = true then (if oneB (σ 21 10) q = true then (if p = q then false else true) else false) else false
def meetR (σ : vW) (m : Nat) (p q : Int32) : Int32 := if meetOk σ p q = true then reachW σ 21 m p.toNatClampNeg &&& reachW σ 21 m q.toNatClampNeg else -1
set_option maxHeartbeats 4000000 in
theorem C_X5_meet {σ : vW} {n m : Nat} {p q : Int32} (hn : σ 21 10 = nI n) (hn5 : n ≤ 5) (hm : σ 21 11 = nI m) (hm9 : m ≤ 9) : Ctr mX5_meet 4 [.ref 0, .int p, .int q] σ (vDet (some (.int (meetR σ m p q))) σ) := by
  have hT := TB21
  refine Ctr.intro (by decide) (fun α => Nat.le_of_ble_eq_true rfl) (fun x G hQ => ?_)
  have G : vG x RX5 cX5_meet 3 (some .int) 4 := G
  show V x 0 [some (.ref 0), some (.int p), some (.int q)] [] σ
  refine v_aload_3_0 G dX5_meet_0 ?_
  refine v_getR G vc_5 lk_X5_19 (fs_X5_1) dX5_meet_1 ?_
  refine v_iload_3_1 G dX5_meet_4 ?_
  refine v_cV1 G (C_X4_isOne (by first | assumption | omega | exact oneB_in (by assumption) | exact wallB_in (by assumption) | exact oneB_m1 (by assumption) | decide)) (by decide) md_X4_isOne in_X4_isOne (rv_X4 (by first | assumption | exact imgP_TB | exact shP_SB) rfl) ml_X5_120 (Nat.le_of_ble_eq_true rfl) dX5_meet_5 ?_
  refine v_ifB_eq (tgt := 27) G dX5_meet_8 rfl (fun h_8 => ?_) (fun h_8 => ?_)
  · refine v_iconst (v := (-1)) G dX5_meet_27 (by decide) ?_
    exact v_iret G hQ dX5_meet_28 (vDet.of (by simp only [meetR, meetOk, bI, h_8, if_true, if_false, Bool.false_eq_true, reduceIte] <;> try rfl) rfl)
  · obtain ⟨k, hk, rfl⟩ := oneB_ex hn hn5 h_8
    have ck : (nI k).toNatClampNeg = k := nI_clamp (by omega)
    refine v_aload_3_0 G dX5_meet_11 ?_
    refine v_getR G vc_5 lk_X5_19 (fs_X5_1) dX5_meet_12 ?_
    refine v_iload_3_2 G dX5_meet_15 ?_
    refine v_cV1 G (C_X4_isOne (by first | assumption | omega | exact oneB_in (by assumption) | exact wallB_in (by assumption) | exact oneB_m1 (by assumption) | decide)) (by decide) md_X4_isOne in_X4_isOne (rv_X4 (by first | assumption | exact imgP_TB | exact shP_SB) rfl) ml_X5_120 (Nat.le_of_ble_eq_true rfl) dX5_meet_16 ?_
    refine v_ifB_eq (tgt := 27) G dX5_meet_19 rfl (fun h_19 => ?_) (fun h_19 => ?_)
    · refine v_iconst (v := (-1)) G dX5_meet_27 (by decide) ?_
      exact v_iret G hQ dX5_meet_28 (vDet.of (by simp only [meetR, meetOk, bI, h_8, ck, h_19, if_true, if_false, Bool.false_eq_true, reduceIte] <;> try rfl) rfl)
    · obtain ⟨j, hj, rfl⟩ := oneB_ex hn hn5 h_19
      have cj : (nI j).toNatClampNeg = j := nI_clamp (by omega)
      refine v_iload_3_1 G dX5_meet_22 ?_
      refine v_iload_3_2 G dX5_meet_23 ?_
      refine v_icmp_ne (tgt := 29) G dX5_meet_24 rfl (fun h_24 => ?_) (fun h_24 => ?_)
      · refine v_aload_3_0 G dX5_meet_29 ?_
        refine v_getR G vc_5 lk_X5_19 (fs_X5_1) dX5_meet_30 ?_
        refine v_iload_3_1 G dX5_meet_33 ?_
        refine v_cV1 G (C_X4_reached (by first | assumption | omega | exact oneB_in (by assumption) | exact wallB_in (by assumption) | exact oneB_m1 (by assumption) | decide) (by first | assumption | omega | exact oneB_in (by assumption) | exact wallB_in (by assumption) | exact oneB_m1 (by assumption) | decide) (by first | assumption | omega | exact oneB_in (by assumption) | exact wallB_in (by assumption) | exact oneB_m1 (by assumption) | decide) (by first | assumption | omega | exact oneB_in (by assumption) | exact wallB_in (by assumption) | exact oneB_m1 (by assumption) | decide)) (by decide) md_X4_reached in_X4_reached (rv_X4 (by first | assumption | exact imgP_TB | exact shP_SB) rfl) ml_X5_135 (Nat.le_of_ble_eq_true rfl) dX5_meet_34 ?_
        refine v_aload_3_0 G dX5_meet_37 ?_
        refine v_getR G vc_5 lk_X5_19 (fs_X5_1) dX5_meet_38 ?_
        refine v_iload_3_2 G dX5_meet_41 ?_
        refine v_cV1 G (C_X4_reached (by first | assumption | omega | exact oneB_in (by assumption) | exact wallB_in (by assumption) | exact oneB_m1 (by assumption) | decide) (by first | assumption | omega | exact oneB_in (by assumption) | exact wallB_in (by assumption) | exact oneB_m1 (by assumption) | decide) (by first | assumption | omega | exact oneB_in (by assumption) | exact wallB_in (by assumption) | exact oneB_m1 (by assumption) | decide) (by first | assumption | omega | exact oneB_in (by assumption) | exact wallB_in (by assumption) | exact oneB_m1 (by assumption) | decide)) (by decide) md_X4_reached in_X4_reached (rv_X4 (by first | assumption | exact imgP_TB | exact shP_SB) rfl) ml_X5_135 (Nat.le_of_ble_eq_true rfl) dX5_meet_42 ?_
        refine v_iand G dX5_meet_45 ?_
        exact v_iret G hQ dX5_meet_46 (vDet.of (by simp only [meetR, meetOk, bI, h_8, ck, h_19, cj, h_24, if_true, if_false, Bool.false_eq_true, reduceIte] <;> try rfl) rfl)
      · refine v_iconst (v := (-1)) G dX5_meet_27 (by decide) ?_
        exact v_iret G hQ dX5_meet_28 (vDet.of (by simp only [meetR, meetOk, bI, h_8, ck, h_19, cj, h_24, if_true, if_false, Bool.false_eq_true, reduceIte] <;> try rfl) rfl)
def seeR (σ : vW) (s : Nat) (p r : Int32) : Int32 := if prOk σ p r = true then (if s < 6 then nI (s + 1) else -3) else -1
def seeW (σ : vW) (s : Nat) (p r b : Int32) : vW := if prOk σ p r = true then (if s < 6 then noteW σ s p r b else σ) else σ
theorem noteW_len (σ : vW) (s : Nat) (p r b : Int32) : (noteW σ s p r b) 4 3 = nI (s + 1) := by simp [noteW, vset]
set_option maxHeartbeats 4000000 in
theorem C_X5_see {σ : vW} {s : Nat} {p r b : Int32} (hs : σ 4 3 = nI s) (hs6 : s ≤ 6) (hb : b = 0 ∨ b = 1) : Ctr mX5_see 1 [.ref 0, .int p, .int r, .int b] σ (vDet (some (.int (seeR σ s p r))) (seeW σ s p r b)) := by
  have hT := TB21
  refine Ctr.intro (by decide) (fun α => Nat.le_of_ble_eq_true rfl) (fun x G hQ => ?_)
  have G : vG x RX5 cX5_see 4 (some .int) 1 := G
  show V x 0 [some (.ref 0), some (.int p), some (.int r), some (.int b)] [] σ
  rcases Nat.lt_or_ge s 6 with h9 | h9
  · have e1 : decide (s < 6) = true := decide_eq_true h9
    have e2 : (if s < 6 then noteW σ s p r b else σ) = noteW σ s p r b := if_pos h9
    refine v_aload_4_0 G dX5_see_0 ?_
    refine v_getR G vc_5 lk_X5_19 (fs_X5_1) dX5_see_1 ?_
    refine v_iload_4_1 G dX5_see_4 ?_
    refine v_cV1 G (C_X4_isOne (by first | assumption | omega | exact oneB_in (by assumption) | exact wallB_in (by assumption) | exact oneB_m1 (by assumption) | decide)) (by decide) md_X4_isOne in_X4_isOne (rv_X4 (by first | assumption | exact imgP_TB | exact shP_SB) rfl) ml_X5_120 (Nat.le_of_ble_eq_true rfl) dX5_see_5 ?_
    refine v_ifB_eq (tgt := 18) G dX5_see_8 rfl (fun h_8 => ?_) (fun h_8 => ?_)
    · refine v_iconst (v := (-1)) G dX5_see_18 (by decide) ?_
      exact v_iret G hQ dX5_see_19 (vDet.of (by simp only [seeR, prOk, if_pos h9, bI, h_8, if_true, if_false, Bool.false_eq_true, reduceIte, ite_self] <;> try rfl) (by simp only [seeW, prOk, if_pos h9, h_8, if_true, if_false, Bool.false_eq_true, reduceIte, ite_self] <;> try rfl))
    · refine v_iload_4_2 G dX5_see_11 ?_
      refine v_cS1 G (C_X5_isRoom) (by decide) md_X5_isRoom st_X5_isRoom ml_X5_160 (Nat.le_of_ble_eq_true rfl) dX5_see_12 ?_
      refine v_ifB_ne (tgt := 20) G dX5_see_15 rfl (fun h_15 => ?_) (fun h_15 => ?_)
      · refine v_aload_4_0 G dX5_see_20 ?_
        refine v_getR G vc_5 lk_X5_29 (fs_X5_3) dX5_see_21 ?_
        refine v_iload_4_1 G dX5_see_24 ?_
        refine v_iload_4_2 G dX5_see_25 ?_
        refine v_iload_4_3 G dX5_see_26 ?_
        refine v_cV3 G (C_X2_note (by first | assumption | omega | exact oneB_in (by assumption) | exact wallB_in (by assumption) | exact oneB_m1 (by assumption) | decide) (by first | assumption | omega | exact oneB_in (by assumption) | exact wallB_in (by assumption) | exact oneB_m1 (by assumption) | decide) (by first | assumption | omega | exact oneB_in (by assumption) | exact wallB_in (by assumption) | exact oneB_m1 (by assumption) | decide)) (by decide) md_X2_note in_X2_note (rv_X2 rfl) ml_X5_240 (Nat.le_of_ble_eq_true rfl) dX5_see_27 ?_
        rw [e1, e2]
        refine v_ifB_eq (tgt := 43) G dX5_see_30 rfl (fun h_30 => absurd h_30 (by decide)) (fun h_30 => ?_)
        refine v_aload_4_0 G dX5_see_33 ?_
        refine v_getR G vc_5 lk_X5_29 (fs_X5_3) dX5_see_34 ?_
        refine v_getI G vc_2 lk_X5_89 (fs_X2_3) dX5_see_37 ?_
        rw [noteW_len]
        refine v_goto (tgt := 45) G dX5_see_40 rfl ?_
        exact v_iret G hQ dX5_see_45 (vDet.of (by simp only [seeR, prOk, if_pos h9, bI, h_8, h_15, h_30, if_true, if_false, Bool.false_eq_true, reduceIte, ite_self] <;> try rfl) (by simp only [seeW, prOk, if_pos h9, h_8, h_15, h_30, if_true, if_false, Bool.false_eq_true, reduceIte, ite_self] <;> try rfl))
      · refine v_iconst (v := (-1)) G dX5_see_18 (by decide) ?_
        exact v_iret G hQ dX5_see_19 (vDet.of (by simp only [seeR, prOk, if_pos h9, bI, h_8, h_15, if_true, if_false, Bool.false_eq_true, reduceIte, ite_self] <;> try rfl) (by simp only [seeW, prOk, if_pos h9, h_8, h_15, if_true, if_false, Bool.false_eq_true, reduceIte, ite_self] <;> try rfl))
  · have hl : ¬ s < 6 := by omega
    have e1 : decide (s < 6) = false := decide_eq_false hl
    have e2 : (if s < 6 then noteW σ s p r b else σ) = σ := if_neg hl
    refine v_aload_4_0 G dX5_see_0 ?_
    refine v_getR G vc_5 lk_X5_19 (fs_X5_1) dX5_see_1 ?_
    refine v_iload_4_1 G dX5_see_4 ?_
    refine v_cV1 G (C_X4_isOne (by first | assumption | omega | exact oneB_in (by assumption) | exact wallB_in (by assumption) | exact oneB_m1 (by assumption) | decide)) (by decide) md_X4_isOne in_X4_isOne (rv_X4 (by first | assumption | exact imgP_TB | exact shP_SB) rfl) ml_X5_120 (Nat.le_of_ble_eq_true rfl) dX5_see_5 ?_
    refine v_ifB_eq (tgt := 18) G dX5_see_8 rfl (fun h_8 => ?_) (fun h_8 => ?_)
    · refine v_iconst (v := (-1)) G dX5_see_18 (by decide) ?_
      exact v_iret G hQ dX5_see_19 (vDet.of (by simp only [seeR, prOk, if_neg hl, bI, h_8, if_true, if_false, Bool.false_eq_true, reduceIte, ite_self] <;> try rfl) (by simp only [seeW, prOk, if_neg hl, h_8, if_true, if_false, Bool.false_eq_true, reduceIte, ite_self] <;> try rfl))
    · refine v_iload_4_2 G dX5_see_11 ?_
      refine v_cS1 G (C_X5_isRoom) (by decide) md_X5_isRoom st_X5_isRoom ml_X5_160 (Nat.le_of_ble_eq_true rfl) dX5_see_12 ?_
      refine v_ifB_ne (tgt := 20) G dX5_see_15 rfl (fun h_15 => ?_) (fun h_15 => ?_)
      · refine v_aload_4_0 G dX5_see_20 ?_
        refine v_getR G vc_5 lk_X5_29 (fs_X5_3) dX5_see_21 ?_
        refine v_iload_4_1 G dX5_see_24 ?_
        refine v_iload_4_2 G dX5_see_25 ?_
        refine v_iload_4_3 G dX5_see_26 ?_
        refine v_cV3 G (C_X2_note (by first | assumption | omega | exact oneB_in (by assumption) | exact wallB_in (by assumption) | exact oneB_m1 (by assumption) | decide) (by first | assumption | omega | exact oneB_in (by assumption) | exact wallB_in (by assumption) | exact oneB_m1 (by assumption) | decide) (by first | assumption | omega | exact oneB_in (by assumption) | exact wallB_in (by assumption) | exact oneB_m1 (by assumption) | decide)) (by decide) md_X2_note in_X2_note (rv_X2 rfl) ml_X5_240 (Nat.le_of_ble_eq_true rfl) dX5_see_27 ?_
        rw [e1, e2]
        refine v_ifB_eq (tgt := 43) G dX5_see_30 rfl (fun h_30 => ?_) (fun h_30 => absurd h_30 (by decide))
        refine v_bipush (v := (-3)) G dX5_see_43 (by decide) ?_
        exact v_iret G hQ dX5_see_45 (vDet.of (by simp only [seeR, prOk, if_neg hl, bI, h_8, h_15, h_30, if_true, if_false, Bool.false_eq_true, reduceIte, ite_self] <;> try rfl) (by simp only [seeW, prOk, if_neg hl, h_8, h_15, h_30, if_true, if_false, Bool.false_eq_true, reduceIte, ite_self] <;> try rfl))
      · refine v_iconst (v := (-1)) G dX5_see_18 (by decide) ?_
        exact v_iret G hQ dX5_see_19 (vDet.of (by simp only [seeR, prOk, if_neg hl, bI, h_8, h_15, if_true, if_false, Bool.false_eq_true, reduceIte, ite_self] <;> try rfl) (by simp only [seeW, prOk, if_neg hl, h_8, h_15, if_true, if_false, Bool.false_eq_true, reduceIte, ite_self] <;> try rfl))
def forgR (σ : vW) (n : Int32) : Int32 := if upToB n (σ 4 3) = true then σ 4 3 else -1
def forgW (σ : vW) (n : Int32) : vW := if upToB n (σ 4 3) = true then vset σ 4 3 n else σ
set_option maxHeartbeats 4000000 in
theorem C_X5_forget {σ : vW} {n : Int32} : Ctr mX5_forget 1 [.ref 0, .int n] σ (vDet (some (.int (forgR σ n))) (forgW σ n)) := by
  refine Ctr.intro (by decide) (fun α => Nat.le_of_ble_eq_true rfl) (fun x G hQ => ?_)
  have G : vG x RX5 cX5_forget 3 (some .int) 1 := G
  show V x 0 [some (.ref 0), some (.int n), none] [] σ
  refine v_aload_3_0 G dX5_forget_0 ?_
  refine v_getR G vc_5 lk_X5_29 (fs_X5_3) dX5_forget_1 ?_
  refine v_getI G vc_2 lk_X5_89 (fs_X2_3) dX5_forget_4 ?_
  refine v_istore_3_2 G dX5_forget_7 rfl ?_
  refine v_iload_3_1 G dX5_forget_8 ?_
  refine v_iload_3_2 G dX5_forget_9 ?_
  refine v_cS2 G (C_X5_isUpTo) (by decide) md_X5_isUpTo st_X5_isUpTo ml_X5_52 (Nat.le_of_ble_eq_true rfl) dX5_forget_10 ?_
  refine v_ifB_ne (tgt := 18) G dX5_forget_13 rfl (fun h_13 => ?_) (fun h_13 => ?_)
  · refine v_aload_3_0 G dX5_forget_18 ?_
    refine v_getR G vc_5 lk_X5_29 (fs_X5_3) dX5_forget_19 ?_
    refine v_iload_3_1 G dX5_forget_22 ?_
    refine v_putI G vc_2 vt_2 lk_X5_89 (fs_X2_3) (ft_X2_3 _) dX5_forget_23 ?_
    refine v_iload_3_2 G dX5_forget_26 ?_
    exact v_iret G hQ dX5_forget_27 (vDet.of (by simp only [forgR, bI, h_13, if_true, if_false, Bool.false_eq_true, reduceIte, ite_self] <;> try rfl) (by simp only [forgW, h_13, if_true, if_false, Bool.false_eq_true, reduceIte, ite_self] <;> try rfl))
  · refine v_iconst (v := (-1)) G dX5_forget_16 (by decide) ?_
    exact v_iret G hQ dX5_forget_17 (vDet.of (by simp only [forgR, bI, h_13, if_true, if_false, Bool.false_eq_true, reduceIte, ite_self] <;> try rfl) (by simp only [forgW, h_13, if_true, if_false, Bool.false_eq_true, reduceIte, ite_self] <;> try rfl))
def keptI (b : Int32) : Int32 := if b = 0 then nI 0 else nI 1
theorem SB67 : SB 67 := Or.inl rfl
def countR (σ : vW) (n : Nat) (w : Int32) : Int32 := if w = nI 0 then σ 4 3 else if w = nI 1 then (if σ 9 0 = 0 then nI 0 else nI 1) + (if σ 9 1 = 0 then nI 0 else nI 1) else if w = nI 2 then σ 2 1 else if w = nI 3 then (if 0 ≤ σ 67 2 then σ 67 2 else -4) else if w = nI 4 then worthTo σ 21 (nI 255) 8 else if w = nI 5 then nI (bcN (doorsTo σ 21 (-2) n)) else -1
set_option maxHeartbeats 4000000 in
theorem C_X5_count {σ : vW} {n : Nat} {w : Int32} (hn : σ 21 10 = nI n) (hn5 : n ≤ 5) : Ctr mX5_count 2 [.ref 0, .int w] σ (vDet (some (.int (countR σ n w))) σ) := by
  have hT := TB21
  have hB := SB67
  refine Ctr.intro (by decide) (fun α => Nat.le_of_ble_eq_true rfl) (fun x G hQ => ?_)
  have G : vG x RX5 cX5_count 2 (some .int) 2 := G
  show V x 0 [some (.ref 0), some (.int w)] [] σ
  refine v_iload_2_1 G dX5_count_0 ?_
  refine v_tabC (i := 0) (tgt := 40) G dX5_count_1 rfl rfl (by decide) (by decide) (fun h_1_0 => ?_) (fun h_1_0 => ?_)
  · refine v_aload_2_0 G dX5_count_40 ?_
    refine v_getR G vc_5 lk_X5_29 (fs_X5_3) dX5_count_41 ?_
    refine v_getI G vc_2 lk_X5_89 (fs_X2_3) dX5_count_44 ?_
    exact v_iret G hQ dX5_count_47 (vDet.of (by simp only [countR, nI_add, bI, h_1_0, if_true, if_false, Bool.false_eq_true, reduceIte] <;> try rfl) rfl)
  refine v_tabC (i := 1) (tgt := 48) G dX5_count_1 rfl rfl (by decide) (by decide) (fun h_1_1 => ?_) (fun h_1_1 => ?_)
  · refine v_aload_2_0 G dX5_count_48 ?_
    refine v_getR G vc_5 lk_X5_37 (fs_X5_5) dX5_count_49 ?_
    refine v_iconst (v := nI 0) G dX5_count_52 (by decide) ?_
    refine v_zaldN G (as_X5_5) (by first | assumption | decide | rfl) (by first | decide | omega) dX5_count_53 ?_
    refine v_if_eq (tgt := 61) G dX5_count_54 rfl (fun h_54 => ?_) (fun h_54 => ?_)
    · refine v_iconst (v := nI 0) G dX5_count_61 (by decide) ?_
      refine v_aload_2_0 G dX5_count_62 ?_
      refine v_getR G vc_5 lk_X5_37 (fs_X5_5) dX5_count_63 ?_
      refine v_iconst (v := nI 1) G dX5_count_66 (by decide) ?_
      refine v_zaldN G (as_X5_5) (by first | assumption | decide | rfl) (by first | decide | omega) dX5_count_67 ?_
      refine v_if_eq (tgt := 75) G dX5_count_68 rfl (fun h_68 => ?_) (fun h_68 => ?_)
      · refine v_iconst (v := nI 0) G dX5_count_75 (by decide) ?_
        refine v_iaddN G dX5_count_76 ?_
        exact v_iret G hQ dX5_count_77 (vDet.of (by simp only [countR, nI_add, bI, h_1_0, h_1_1, h_54, h_68, if_true, if_false, Bool.false_eq_true, reduceIte] <;> try rfl) rfl)
      · refine v_iconst (v := nI 1) G dX5_count_71 (by decide) ?_
        refine v_goto (tgt := 76) G dX5_count_72 rfl ?_
        refine v_iaddN G dX5_count_76 ?_
        exact v_iret G hQ dX5_count_77 (vDet.of (by simp only [countR, nI_add, bI, h_1_0, h_1_1, h_54, h_68, if_true, if_false, Bool.false_eq_true, reduceIte] <;> try rfl) rfl)
    · refine v_iconst (v := nI 1) G dX5_count_57 (by decide) ?_
      refine v_goto (tgt := 62) G dX5_count_58 rfl ?_
      refine v_aload_2_0 G dX5_count_62 ?_
      refine v_getR G vc_5 lk_X5_37 (fs_X5_5) dX5_count_63 ?_
      refine v_iconst (v := nI 1) G dX5_count_66 (by decide) ?_
      refine v_zaldN G (as_X5_5) (by first | assumption | decide | rfl) (by first | decide | omega) dX5_count_67 ?_
      refine v_if_eq (tgt := 75) G dX5_count_68 rfl (fun h_68 => ?_) (fun h_68 => ?_)
      · refine v_iconst (v := nI 0) G dX5_count_75 (by decide) ?_
        refine v_iaddN G dX5_count_76 ?_
        exact v_iret G hQ dX5_count_77 (vDet.of (by simp only [countR, nI_add, bI, h_1_0, h_1_1, h_54, h_68, if_true, if_false, Bool.false_eq_true, reduceIte] <;> try rfl) rfl)
      · refine v_iconst (v := nI 1) G dX5_count_71 (by decide) ?_
        refine v_goto (tgt := 76) G dX5_count_72 rfl ?_
        refine v_iaddN G dX5_count_76 ?_
        exact v_iret G hQ dX5_count_77 (vDet.of (by simp only [countR, nI_add, bI, h_1_0, h_1_1, h_54, h_68, if_true, if_false, Bool.false_eq_true, reduceIte] <;> try rfl) rfl)
  refine v_tabC (i := 2) (tgt := 78) G dX5_count_1 rfl rfl (by decide) (by decide) (fun h_1_2 => ?_) (fun h_1_2 => ?_)
  · refine v_aload_2_0 G dX5_count_78 ?_
    refine v_getR G vc_5 lk_X5_10 (fs_X5_0) dX5_count_79 ?_
    refine v_getR G vc_0 lk_X5_56 (fs_X0_0) dX5_count_82 ?_
    refine v_getI G vc_3 lk_X5_66 (fs_X3_1) dX5_count_85 ?_
    exact v_iret G hQ dX5_count_88 (vDet.of (by simp only [countR, nI_add, bI, h_1_0, h_1_1, h_1_2, if_true, if_false, Bool.false_eq_true, reduceIte] <;> try rfl) rfl)
  refine v_tabC (i := 3) (tgt := 89) G dX5_count_1 rfl rfl (by decide) (by decide) (fun h_1_3 => ?_) (fun h_1_3 => ?_)
  · refine v_aload_2_0 G dX5_count_89 ?_
    refine v_getR G vc_5 lk_X5_43 (fs_X5_6) dX5_count_90 ?_
    refine v_iconst (v := nI 0) G dX5_count_93 (by decide) ?_
    refine v_aaldN G qs_X5_6 (by first | assumption | decide | rfl) (by first | decide | omega) (by first | assumption | decide | rfl) dX5_count_94 ?_
    refine v_getI G vc_1 lk_X5_288 (fs_X1_2 (by first | assumption | exact shP_SB)) dX5_count_95 ?_
    refine v_if_ge (tgt := 106) G dX5_count_98 rfl (fun h_98 => ?_) (fun h_98 => ?_)
    · refine v_aload_2_0 G dX5_count_106 ?_
      refine v_getR G vc_5 lk_X5_43 (fs_X5_6) dX5_count_107 ?_
      refine v_iconst (v := nI 0) G dX5_count_110 (by decide) ?_
      refine v_aaldN G qs_X5_6 (by first | assumption | decide | rfl) (by first | decide | omega) (by first | assumption | decide | rfl) dX5_count_111 ?_
      refine v_getI G vc_1 lk_X5_288 (fs_X1_2 (by first | assumption | exact shP_SB)) dX5_count_112 ?_
      exact v_iret G hQ dX5_count_115 (vDet.of (by simp only [countR, nI_add, bI, h_1_0, h_1_1, h_1_2, h_1_3, h_98, if_true, if_false, Bool.false_eq_true, reduceIte] <;> try rfl) rfl)
    · refine v_bipush (v := (-4)) G dX5_count_101 (by decide) ?_
      refine v_goto (tgt := 115) G dX5_count_103 rfl ?_
      exact v_iret G hQ dX5_count_115 (vDet.of (by simp only [countR, nI_add, bI, h_1_0, h_1_1, h_1_2, h_1_3, h_98, if_true, if_false, Bool.false_eq_true, reduceIte] <;> try rfl) rfl)
  refine v_tabC (i := 4) (tgt := 116) G dX5_count_1 rfl rfl (by decide) (by decide) (fun h_1_4 => ?_) (fun h_1_4 => ?_)
  · refine v_aload_2_0 G dX5_count_116 ?_
    refine v_getR G vc_5 lk_X5_19 (fs_X5_1) dX5_count_117 ?_
    refine v_sipush (v := nI 255) G dX5_count_120 (by decide) ?_
    refine v_cV1 G (C_X4_worthOf (by first | assumption | decide | rfl)) (by decide) md_X4_worthOf in_X4_worthOf (rv_X4 (by first | assumption | exact imgP_TB | exact shP_SB) rfl) ml_X5_289 (Nat.le_of_ble_eq_true rfl) dX5_count_123 ?_
    exact v_iret G hQ dX5_count_126 (vDet.of (by simp only [countR, nI_add, bI, h_1_0, h_1_1, h_1_2, h_1_3, h_1_4, if_true, if_false, Bool.false_eq_true, reduceIte] <;> try rfl) rfl)
  refine v_tabC (i := 5) (tgt := 127) G dX5_count_1 rfl rfl (by decide) (by decide) (fun h_1_5 => ?_) (fun h_1_5 => ?_)
  · refine v_aload_2_0 G dX5_count_127 ?_
    refine v_getR G vc_5 lk_X5_19 (fs_X5_1) dX5_count_128 ?_
    refine v_bipush (v := (-2)) G dX5_count_131 (by decide) ?_
    refine v_cV1 G (C_X4_doorsAt (by first | assumption | decide | rfl) (by first | assumption | decide | rfl) (by first | assumption | decide | rfl)) (by decide) md_X4_doorsAt in_X4_doorsAt (rv_X4 (by first | assumption | exact imgP_TB | exact shP_SB) rfl) ml_X5_114 (Nat.le_of_ble_eq_true rfl) dX5_count_133 ?_
    refine v_cS1 G (C_bitCount) (by decide) md_J6_bitCount_0f7a4 st_J6_bitCount_0f7a4 ml_X5_105 (Nat.le_of_ble_eq_true rfl) dX5_count_136 ?_
    exact v_iret G hQ dX5_count_139 (vDet.of (by simp only [countR, nI_add, bI, h_1_0, h_1_1, h_1_2, h_1_3, h_1_4, h_1_5, if_true, if_false, Bool.false_eq_true, reduceIte] <;> try rfl) rfl)
  refine v_tabE (n := 6) (tgt := 140) G dX5_count_1 (fun i hi => by rcases (show i = 0 ∨ i = 1 ∨ i = 2 ∨ i = 3 ∨ i = 4 ∨ i = 5 by omega) with rfl | rfl | rfl | rfl | rfl | rfl <;> assumption) rfl rfl (by decide) ?_
  refine v_iconst (v := (-1)) G dX5_count_140 (by decide) ?_
  exact v_iret G hQ dX5_count_141 (vDet.of (by simp only [countR, nI_add, bI, h_1_0, h_1_1, h_1_2, h_1_3, h_1_4, h_1_5, if_true, if_false, Bool.false_eq_true, reduceIte] <;> try rfl) rfl)
