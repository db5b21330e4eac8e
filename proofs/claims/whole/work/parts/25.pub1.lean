/-! DoorTown's public calls, the plain ones -/
theorem oneB_ex {σ : vW} {t n : Nat} {p : Int32} (hn : σ t 10 = nI n) (hn5 : n ≤ 5) (h : oneB (σ t 10) p = true) : ∃ k, k < n ∧ p = nI k := by
  obtain ⟨k, hk, rfl⟩ := vp_in_of (oneB_in h) (by decide)
  refine ⟨k, ?_, rfl⟩
  rw [hn] at h
  unfold oneB at h
  rw [if_neg (nI_pos (by omega))] at h
  split at h
  · cases h
  · rename_i h2
    rcases Nat.lt_or_ge k n with q | q
    · exact q
    · exact absurd (nI_le q (by omega)) h2
theorem wallB_ex {σ : vW} {t n : Nat} {p : Int32} (hn : σ t 11 = nI n) (hn5 : n ≤ 9) (h : wallB (σ t 11) p = true) : ∃ k, k < n ∧ p = nI k := by
  obtain ⟨k, hk, rfl⟩ := vp_in_of (wallB_in h) (by decide)
  refine ⟨k, ?_, rfl⟩
  rw [hn] at h
  unfold wallB at h
  rw [if_neg (nI_pos (by omega))] at h
  split at h
  · cases h
  · rename_i h2
    rcases Nat.lt_or_ge k n with q | q
    · exact q
    · exact absurd (nI_le q (by omega)) h2
theorem roomB_ex {p : Int32} (h : roomB p = true) : ∃ k, k < 8 ∧ p = nI k := by
  unfold roomB at h
  split at h
  · cases h
  · split at h
    · cases h
    · rename_i h1 h2
      exact vp_in_of (in_of (by decide) h1 h2) (by decide)
theorem upToB_ex {p : Int32} {n : Nat} (hn : n < 1000) (h : upToB p (nI n) = true) : ∃ k, k ≤ n ∧ p = nI k := by
  unfold upToB at h
  split at h
  · cases h
  · split at h
    · cases h
    · rename_i h1 h2
      have h3 : vp_in p (n + 1) := by
        rw [vp_in_iff]
        simp only [lt_toInt, nI_toInt (show n < 2 ^ 31 by omega), Int32.toInt_zero] at h1 h2
        omega
      obtain ⟨k, hk, rfl⟩ := vp_in_of h3 (by omega)
      exact ⟨k, by omega, rfl⟩
def feedR (n : Nat) (c : Int32) : Int32 := if upToB c (nI 127) = true then (if n < 160 then nI (n + 1) else -3) else -1
def feedW (σ : vW) (n : Nat) (c : Int32) : vW := if upToB c (nI 127) = true then (if n < 160 then appW σ n c else σ) else σ
theorem appW_len (σ : vW) (n : Nat) (c : Int32) : (appW σ n c) 2 1 = nI (n + 1) := by simp [appW, vset]
set_option maxHeartbeats 4000000 in
theorem C_X5_feed {σ : vW} {n : Nat} {c : Int32} (hn : σ 2 1 = nI n) (hn6 : n ≤ 160) : Ctr mX5_feed 1 [.ref 0, .int c] σ (vDet (some (.int (feedR n c))) (feedW σ n c)) := by
  refine Ctr.intro (by decide) (fun α => Nat.le_of_ble_eq_true rfl) (fun x G hQ => ?_)
  have G : vG x RX5 cX5_feed 2 (some .int) 1 := G
  show V x 0 [some (.ref 0), some (.int c)] [] σ
  rcases Nat.lt_or_ge n 160 with h9 | h9
  · have e1 : decide (n < 160) = true := decide_eq_true h9
    have e2 : (if n < 160 then appW σ n c else σ) = appW σ n c := if_pos h9
    refine v_iload_2_1 G dX5_feed_0 ?_
    refine v_bipush (v := nI 127) G dX5_feed_1 (by decide) ?_
    refine v_cS2 G (C_X5_isUpTo) (by decide) md_X5_isUpTo st_X5_isUpTo ml_X5_52 (Nat.le_of_ble_eq_true rfl) dX5_feed_3 ?_
    refine v_ifB_ne (tgt := 11) G dX5_feed_6 rfl (fun h_6 => ?_) (fun h_6 => ?_)
    · refine v_aload_2_0 G dX5_feed_11 ?_
      refine v_getR G vc_5 lk_X5_10 (fs_X5_0) dX5_feed_12 ?_
      refine v_getR G vc_0 lk_X5_56 (fs_X0_0) dX5_feed_15 ?_
      refine v_iload_2_1 G dX5_feed_18 ?_
      refine v_cV1 G (C_X3_append (by first | assumption | omega | exact oneB_in (by assumption) | exact wallB_in (by assumption) | exact oneB_m1 (by assumption) | decide) (by first | assumption | omega | exact oneB_in (by assumption) | exact wallB_in (by assumption) | exact oneB_m1 (by assumption) | decide)) (by decide) md_X3_append in_X3_append (rv_X3 rfl) ml_X5_60 (Nat.le_of_ble_eq_true rfl) dX5_feed_19 ?_
      rw [e1, e2]
      refine v_ifB_eq (tgt := 38) G dX5_feed_22 rfl (fun h_22 => absurd h_22 (by decide)) (fun h_22 => ?_)
      refine v_aload_2_0 G dX5_feed_25 ?_
      refine v_getR G vc_5 lk_X5_10 (fs_X5_0) dX5_feed_26 ?_
      refine v_getR G vc_0 lk_X5_56 (fs_X0_0) dX5_feed_29 ?_
      refine v_getI G vc_3 lk_X5_66 (fs_X3_1) dX5_feed_32 ?_
      refine v_goto (tgt := 40) G dX5_feed_35 rfl ?_
      exact v_iret G hQ dX5_feed_40 (vDet.of (by simp only [feedR, h_6, appW_len, if_true, if_pos h9]) (by simp only [feedW, h_6, if_true, if_pos h9]))
    · refine v_iconst (v := (-1)) G dX5_feed_9 (by decide) ?_
      exact v_iret G hQ dX5_feed_10 (vDet.of (by simp only [feedR, h_6, if_false, Bool.false_eq_true]) (by simp only [feedW, h_6, if_false, Bool.false_eq_true]))
  · have hl : ¬ n < 160 := by omega
    have e1 : decide (n < 160) = false := decide_eq_false hl
    have e2 : (if n < 160 then appW σ n c else σ) = σ := if_neg hl
    refine v_iload_2_1 G dX5_feed_0 ?_
    refine v_bipush (v := nI 127) G dX5_feed_1 (by decide) ?_
    refine v_cS2 G (C_X5_isUpTo) (by decide) md_X5_isUpTo st_X5_isUpTo ml_X5_52 (Nat.le_of_ble_eq_true rfl) dX5_feed_3 ?_
    refine v_ifB_ne (tgt := 11) G dX5_feed_6 rfl (fun h_6 => ?_) (fun h_6 => ?_)
    · refine v_aload_2_0 G dX5_feed_11 ?_
      refine v_getR G vc_5 lk_X5_10 (fs_X5_0) dX5_feed_12 ?_
      refine v_getR G vc_0 lk_X5_56 (fs_X0_0) dX5_feed_15 ?_
      refine v_iload_2_1 G dX5_feed_18 ?_
      refine v_cV1 G (C_X3_append (by first | assumption | omega | exact oneB_in (by assumption) | exact wallB_in (by assumption) | exact oneB_m1 (by assumption) | decide) (by first | assumption | omega | exact oneB_in (by assumption) | exact wallB_in (by assumption) | exact oneB_m1 (by assumption) | decide)) (by decide) md_X3_append in_X3_append (rv_X3 rfl) ml_X5_60 (Nat.le_of_ble_eq_true rfl) dX5_feed_19 ?_
      rw [e1, e2]
      refine v_ifB_eq (tgt := 38) G dX5_feed_22 rfl (fun h_22 => ?_) (fun h_22 => absurd h_22 (by decide))
      refine v_bipush (v := (-3)) G dX5_feed_38 (by decide) ?_
      exact v_iret G hQ dX5_feed_40 (vDet.of (by simp only [feedR, h_6, if_true, if_neg hl]) (by simp only [feedW, h_6, if_true, if_neg hl]))
    · refine v_iconst (v := (-1)) G dX5_feed_9 (by decide) ?_
      exact v_iret G hQ dX5_feed_10 (vDet.of (by simp only [feedR, h_6, if_false, Bool.false_eq_true]) (by simp only [feedW, h_6, if_false, Bool.false_eq_true]))
def endR (σ : vW) (n : Int32) : Int32 := if upToB n (σ 2 1) = true then σ 2 1 else -1
def endW (σ : vW) (n : Int32) : vW := if upToB n (σ 2 1) = true then vset σ 2 1 n else σ
set_option maxHeartbeats 4000000 in
theorem C_X5_end {σ : vW} {n : Int32} : Ctr mX5_end 1 [.ref 0, .int n] σ (vDet (some (.int (endR σ n))) (endW σ n)) := by
  refine Ctr.intro (by decide) (fun α => Nat.le_of_ble_eq_true rfl) (fun x G hQ => ?_)
  have G : vG x RX5 cX5_end 3 (some .int) 1 := G
  show V x 0 [some (.ref 0), some (.int n), none] [] σ
  refine v_aload_3_0 G dX5_end_0 ?_
  refine v_getR G vc_5 lk_X5_10 (fs_X5_0) dX5_end_1 ?_
  refine v_getR G vc_0 lk_X5_56 (fs_X0_0) dX5_end_4 ?_
  refine v_getI G vc_3 lk_X5_66 (fs_X3_1) dX5_end_7 ?_
  refine v_istore_3_2 G dX5_end_10 rfl ?_
  refine v_iload_3_1 G dX5_end_11 ?_
  refine v_iload_3_2 G dX5_end_12 ?_
  refine v_cS2 G (C_X5_isUpTo) (by decide) md_X5_isUpTo st_X5_isUpTo ml_X5_52 (Nat.le_of_ble_eq_true rfl) dX5_end_13 ?_
  refine v_ifB_ne (tgt := 21) G dX5_end_16 rfl (fun h_16 => ?_) (fun h_16 => ?_)
  · refine v_aload_3_0 G dX5_end_21 ?_
    refine v_getR G vc_5 lk_X5_10 (fs_X5_0) dX5_end_22 ?_
    refine v_getR G vc_0 lk_X5_56 (fs_X0_0) dX5_end_25 ?_
    refine v_iload_3_1 G dX5_end_28 ?_
    refine v_putI G vc_3 vt_3 lk_X5_66 (fs_X3_1) (ft_X3_1 _) dX5_end_29 ?_
    refine v_iload_3_2 G dX5_end_32 ?_
    exact v_iret G hQ dX5_end_33 (vDet.of (by simp only [endR, h_16, if_true, if_false, Bool.false_eq_true]) (by simp only [endW, h_16, if_true, if_false, Bool.false_eq_true]))
  · refine v_iconst (v := (-1)) G dX5_end_19 (by decide) ?_
    exact v_iret G hQ dX5_end_20 (vDet.of (by simp only [endR, h_16, if_true, if_false, Bool.false_eq_true]) (by simp only [endW, h_16, if_true, if_false, Bool.false_eq_true]))
set_option maxHeartbeats 4000000 in
theorem C_X5_fault {σ : vW} : Ctr mX5_fault 0 [.ref 0] σ (vDet (some (.int (σ 0 8))) σ) := by
  refine Ctr.intro (by decide) (fun α => Nat.le_of_ble_eq_true rfl) (fun x G hQ => ?_)
  have G : vG x RX5 cX5_fault 1 (some .int) 0 := G
  show V x 0 [some (.ref 0)] [] σ
  refine v_aload_1_0 G dX5_fault_0 ?_
  refine v_getI G vc_5 lk_X5_76 (fs_X5_8) dX5_fault_1 ?_
  exact v_iret G hQ dX5_fault_4 vDet.mk
set_option maxHeartbeats 4000000 in
theorem C_X5_torn {σ : vW} : Ctr mX5_torn 0 [.ref 0] σ (vDet (some (.int (σ 0 9))) σ) := by
  refine Ctr.intro (by decide) (fun α => Nat.le_of_ble_eq_true rfl) (fun x G hQ => ?_)
  have G : vG x RX5 cX5_torn 1 (some .int) 0 := G
  show V x 0 [some (.ref 0)] [] σ
  refine v_aload_1_0 G dX5_torn_0 ?_
  refine v_getI G vc_5 lk_X5_285 (fs_X5_9) dX5_torn_1 ?_
  exact v_iret G hQ dX5_torn_4 vDet.mk
theorem TB21 : TB 21 := Or.inr (Or.inl rfl)
theorem TB32 : TB 32 := Or.inr (Or.inr (Or.inl rfl))
theorem TB10 : TB 10 := Or.inl rfl
def ruleR (σ : vW) (n m : Nat) (w : Int32) : Int32 := if w = nI 0 then σ 21 10 else if w = nI 1 then σ 21 11 else if w = nI 2 then nI (bcN (hungTo σ 21 m)) else if w = nI 3 then σ 21 12 else if w = nI 4 then doorsTo σ 21 (-1) n else if w = nI 5 then unrTo σ 21 m n else -1
set_option maxHeartbeats 4000000 in
theorem C_X5_rule {σ : vW} {n m : Nat} {w : Int32} (hn : σ 21 10 = nI n) (hn5 : n ≤ 5) (hm : σ 21 11 = nI m) (hm9 : m ≤ 9) : Ctr mX5_rule 5 [.ref 0, .int w] σ (vDet (some (.int (ruleR σ n m w))) σ) := by
  have hT := TB21
  refine Ctr.intro (by decide) (fun α => Nat.le_of_ble_eq_true rfl) (fun x G hQ => ?_)
  have G : vG x RX5 cX5_rule 2 (some .int) 5 := G
  show V x 0 [some (.ref 0), some (.int w)] [] σ
  refine v_iload_2_1 G dX5_rule_0 ?_
  refine v_tabC (i := 0) (tgt := 40) G dX5_rule_1 rfl rfl (by decide) (by decide) (fun h_1_0 => ?_) (fun h_1_0 => ?_)
  · refine v_aload_2_0 G dX5_rule_40 ?_
    refine v_getR G vc_5 lk_X5_19 (fs_X5_1) dX5_rule_41 ?_
    refine v_getI G vc_4 lk_X5_95 (fs_X4_10 (by first | assumption | exact imgP_TB)) dX5_rule_44 ?_
    exact v_iret G hQ dX5_rule_47 (vDet.of (by simp only [ruleR, bI, h_1_0, if_true, if_false, Bool.false_eq_true, reduceIte] <;> try rfl) rfl)
  refine v_tabC (i := 1) (tgt := 48) G dX5_rule_1 rfl rfl (by decide) (by decide) (fun h_1_1 => ?_) (fun h_1_1 => ?_)
  · refine v_aload_2_0 G dX5_rule_48 ?_
    refine v_getR G vc_5 lk_X5_19 (fs_X5_1) dX5_rule_49 ?_
    refine v_getI G vc_4 lk_X5_98 (fs_X4_11 (by first | assumption | exact imgP_TB)) dX5_rule_52 ?_
    exact v_iret G hQ dX5_rule_55 (vDet.of (by simp only [ruleR, bI, h_1_0, h_1_1, if_true, if_false, Bool.false_eq_true, reduceIte] <;> try rfl) rfl)
  refine v_tabC (i := 2) (tgt := 56) G dX5_rule_1 rfl rfl (by decide) (by decide) (fun h_1_2 => ?_) (fun h_1_2 => ?_)
  · refine v_aload_2_0 G dX5_rule_56 ?_
    refine v_getR G vc_5 lk_X5_19 (fs_X5_1) dX5_rule_57 ?_
    refine v_cV0 G (C_X4_hungWalls (by first | assumption | omega | exact oneB_in (by assumption) | exact wallB_in (by assumption) | exact oneB_m1 (by assumption) | decide) (by first | assumption | omega | exact oneB_in (by assumption) | exact wallB_in (by assumption) | exact oneB_m1 (by assumption) | decide) (by first | assumption | omega | exact oneB_in (by assumption) | exact wallB_in (by assumption) | exact oneB_m1 (by assumption) | decide)) (by decide) md_X4_hungWalls in_X4_hungWalls (rv_X4 (by first | assumption | exact imgP_TB | exact shP_SB) rfl) ml_X5_101 (Nat.le_of_ble_eq_true rfl) dX5_rule_60 ?_
    refine v_cS1 G (C_bitCount) (by decide) md_J6_bitCount_0f7a4 st_J6_bitCount_0f7a4 ml_X5_105 (Nat.le_of_ble_eq_true rfl) dX5_rule_63 ?_
    exact v_iret G hQ dX5_rule_66 (vDet.of (by simp only [ruleR, bI, h_1_0, h_1_1, h_1_2, if_true, if_false, Bool.false_eq_true, reduceIte] <;> try rfl) rfl)
  refine v_tabC (i := 3) (tgt := 67) G dX5_rule_1 rfl rfl (by decide) (by decide) (fun h_1_3 => ?_) (fun h_1_3 => ?_)
  · refine v_aload_2_0 G dX5_rule_67 ?_
    refine v_getR G vc_5 lk_X5_19 (fs_X5_1) dX5_rule_68 ?_
    refine v_getI G vc_4 lk_X5_111 (fs_X4_12 (by first | assumption | exact imgP_TB)) dX5_rule_71 ?_
    exact v_iret G hQ dX5_rule_74 (vDet.of (by simp only [ruleR, bI, h_1_0, h_1_1, h_1_2, h_1_3, if_true, if_false, Bool.false_eq_true, reduceIte] <;> try rfl) rfl)
  refine v_tabC (i := 4) (tgt := 75) G dX5_rule_1 rfl rfl (by decide) (by decide) (fun h_1_4 => ?_) (fun h_1_4 => ?_)
  · refine v_aload_2_0 G dX5_rule_75 ?_
    refine v_getR G vc_5 lk_X5_19 (fs_X5_1) dX5_rule_76 ?_
    refine v_iconst (v := (-1)) G dX5_rule_79 (by decide) ?_
    refine v_cV1 G (C_X4_doorsAt (by first | assumption | omega | exact oneB_in (by assumption) | exact wallB_in (by assumption) | exact oneB_m1 (by assumption) | decide) (by first | assumption | omega | exact oneB_in (by assumption) | exact wallB_in (by assumption) | exact oneB_m1 (by assumption) | decide) (by first | assumption | omega | exact oneB_in (by assumption) | exact wallB_in (by assumption) | exact oneB_m1 (by assumption) | decide)) (by decide) md_X4_doorsAt in_X4_doorsAt (rv_X4 (by first | assumption | exact imgP_TB | exact shP_SB) rfl) ml_X5_114 (Nat.le_of_ble_eq_true rfl) dX5_rule_80 ?_
    exact v_iret G hQ dX5_rule_83 (vDet.of (by simp only [ruleR, bI, h_1_0, h_1_1, h_1_2, h_1_3, h_1_4, if_true, if_false, Bool.false_eq_true, reduceIte] <;> try rfl) rfl)
  refine v_tabC (i := 5) (tgt := 84) G dX5_rule_1 rfl rfl (by decide) (by decide) (fun h_1_5 => ?_) (fun h_1_5 => ?_)
  · refine v_aload_2_0 G dX5_rule_84 ?_
    refine v_getR G vc_5 lk_X5_19 (fs_X5_1) dX5_rule_85 ?_
    refine v_cV0 G (C_X4_unreached (by first | assumption | omega | exact oneB_in (by assumption) | exact wallB_in (by assumption) | exact oneB_m1 (by assumption) | decide) (by first | assumption | omega | exact oneB_in (by assumption) | exact wallB_in (by assumption) | exact oneB_m1 (by assumption) | decide) (by first | assumption | omega | exact oneB_in (by assumption) | exact wallB_in (by assumption) | exact oneB_m1 (by assumption) | decide) (by first | assumption | omega | exact oneB_in (by assumption) | exact wallB_in (by assumption) | exact oneB_m1 (by assumption) | decide) (by first | assumption | omega | exact oneB_in (by assumption) | exact wallB_in (by assumption) | exact oneB_m1 (by assumption) | decide)) (by decide) md_X4_unreached in_X4_unreached (rv_X4 (by first | assumption | exact imgP_TB | exact shP_SB) rfl) ml_X5_117 (Nat.le_of_ble_eq_true rfl) dX5_rule_88 ?_
    exact v_iret G hQ dX5_rule_91 (vDet.of (by simp only [ruleR, bI, h_1_0, h_1_1, h_1_2, h_1_3, h_1_4, h_1_5, if_true, if_false, Bool.false_eq_true, reduceIte] <;> try rfl) rfl)
  refine v_tabE (n := 6) (tgt := 92) G dX5_rule_1 (fun i hi => by rcases (show i = 0 ∨ i = 1 ∨ i = 2 ∨ i = 3 ∨ i = 4 ∨ i = 5 by omega) with rfl | rfl | rfl | rfl | rfl | rfl <;> assumption) rfl rfl (by decide) ?_
  refine v_iconst (v := (-1)) G dX5_rule_92 (by decide) ?_
  exact v_iret G hQ dX5_rule_93 (vDet.of (by simp only [ruleR, bI, h_1_0, h_1_1, h_1_2, h_1_3, h_1_4, h_1_5, if_true, if_false, Bool.false_eq_true, reduceIte] <;> try rfl) rfl)
def oneR (σ : vW) (m : Nat) (p w : Int32) : Int32 := if oneB (σ 21 10) p = true then (if w = nI 0 then σ (21 + 1) p.toNatClampNeg else if w = nI 1 then σ (21 + 2) p.toNatClampNeg else if w = nI 2 then σ (21 + 3) p.toNatClampNeg else if w = nI 3 then (if 0 ≤ σ (21 + 4) p.toNatClampNeg then σ (21 + 4) p.toNatClampNeg else -4) else if w = nI 4 then reachW σ 21 m p.toNatClampNeg else if w = nI 5 then gainW σ 21 p.toNatClampNeg (reachW σ 21 m p.toNatClampNeg) else if w = nI 6 then stateOf (σ (21 + 4) p.toNatClampNeg) else -1) else -1
set_option maxHeartbeats 4000000 in
theorem C_X5_one {σ : vW} {n m : Nat} {p w : Int32} (hn : σ 21 10 = nI n) (hn5 : n ≤ 5) (hm : σ 21 11 = nI m) (hm9 : m ≤ 9) : Ctr mX5_one 4 [.ref 0, .int p, .int w] σ (vDet (some (.int (oneR σ m p w))) σ) := by
  have hT := TB21
  refine Ctr.intro (by decide) (fun α => Nat.le_of_ble_eq_true rfl) (fun x G hQ => ?_)
  have G : vG x RX5 cX5_one 3 (some .int) 4 := G
  show V x 0 [some (.ref 0), some (.int p), some (.int w)] [] σ
  refine v_aload_3_0 G dX5_one_0 ?_
  refine v_getR G vc_5 lk_X5_19 (fs_X5_1) dX5_one_1 ?_
  refine v_iload_3_1 G dX5_one_4 ?_
  refine v_cV1 G (C_X4_isOne (by first | assumption | omega | exact oneB_in (by assumption) | exact wallB_in (by assumption) | exact oneB_m1 (by assumption) | decide)) (by decide) md_X4_isOne in_X4_isOne (rv_X4 (by first | assumption | exact imgP_TB | exact shP_SB) rfl) ml_X5_120 (Nat.le_of_ble_eq_true rfl) dX5_one_5 ?_
  refine v_ifB_ne (tgt := 13) G dX5_one_8 rfl (fun h_8 => ?_) (fun h_8 => ?_)
  · obtain ⟨k, hk, rfl⟩ := oneB_ex hn hn5 h_8
    have ck : (nI k).toNatClampNeg = k := nI_clamp (by omega)
    refine v_iload_3_2 G dX5_one_13 ?_
    refine v_tabC (i := 0) (tgt := 56) G dX5_one_14 rfl rfl (by decide) (by decide) (fun h_14_0 => ?_) (fun h_14_0 => ?_)
    · refine v_aload_3_0 G dX5_one_56 ?_
      refine v_getR G vc_5 lk_X5_19 (fs_X5_1) dX5_one_57 ?_
      refine v_getR G vc_4 lk_X5_123 (fs_X4_0 (by first | assumption | exact imgP_TB)) dX5_one_60 ?_
      refine v_iload_3_1 G dX5_one_63 ?_
      refine v_ialdN G (as_X4_0 (by first | assumption | exact imgP_TB)) (by first | assumption | omega | exact oneB_in (by assumption) | exact wallB_in (by assumption) | exact oneB_m1 (by assumption) | decide) (by first | decide | omega) dX5_one_64 ?_
      exact v_iret G hQ dX5_one_65 (vDet.of (by simp only [oneR, bI, h_8, ck, h_14_0, if_true, if_false, Bool.false_eq_true, reduceIte] <;> try rfl) rfl)
    refine v_tabC (i := 1) (tgt := 66) G dX5_one_14 rfl rfl (by decide) (by decide) (fun h_14_1 => ?_) (fun h_14_1 => ?_)
    · refine v_aload_3_0 G dX5_one_66 ?_
      refine v_getR G vc_5 lk_X5_19 (fs_X5_1) dX5_one_67 ?_
      refine v_getR G vc_4 lk_X5_126 (fs_X4_1 (by first | assumption | exact imgP_TB)) dX5_one_70 ?_
      refine v_iload_3_1 G dX5_one_73 ?_
      refine v_ialdN G (as_X4_1 (by first | assumption | exact imgP_TB)) (by first | assumption | omega | exact oneB_in (by assumption) | exact wallB_in (by assumption) | exact oneB_m1 (by assumption) | decide) (by first | decide | omega) dX5_one_74 ?_
      exact v_iret G hQ dX5_one_75 (vDet.of (by simp only [oneR, bI, h_8, ck, h_14_0, h_14_1, if_true, if_false, Bool.false_eq_true, reduceIte] <;> try rfl) rfl)
    refine v_tabC (i := 2) (tgt := 76) G dX5_one_14 rfl rfl (by decide) (by decide) (fun h_14_2 => ?_) (fun h_14_2 => ?_)
    · refine v_aload_3_0 G dX5_one_76 ?_
      refine v_getR G vc_5 lk_X5_19 (fs_X5_1) dX5_one_77 ?_
      refine v_getR G vc_4 lk_X5_129 (fs_X4_2 (by first | assumption | exact imgP_TB)) dX5_one_80 ?_
      refine v_iload_3_1 G dX5_one_83 ?_
      refine v_ialdN G (as_X4_2 (by first | assumption | exact imgP_TB)) (by first | assumption | omega | exact oneB_in (by assumption) | exact wallB_in (by assumption) | exact oneB_m1 (by assumption) | decide) (by first | decide | omega) dX5_one_84 ?_
      exact v_iret G hQ dX5_one_85 (vDet.of (by simp only [oneR, bI, h_8, ck, h_14_0, h_14_1, h_14_2, if_true, if_false, Bool.false_eq_true, reduceIte] <;> try rfl) rfl)
    refine v_tabC (i := 3) (tgt := 86) G dX5_one_14 rfl rfl (by decide) (by decide) (fun h_14_3 => ?_) (fun h_14_3 => ?_)
    · refine v_aload_3_0 G dX5_one_86 ?_
      refine v_getR G vc_5 lk_X5_19 (fs_X5_1) dX5_one_87 ?_
      refine v_getR G vc_4 lk_X5_132 (fs_X4_3 (by first | assumption | exact imgP_TB)) dX5_one_90 ?_
      refine v_iload_3_1 G dX5_one_93 ?_
      refine v_ialdN G (as_X4_3 (by first | assumption | exact imgP_TB)) (by first | assumption | omega | exact oneB_in (by assumption) | exact wallB_in (by assumption) | exact oneB_m1 (by assumption) | decide) (by first | decide | omega) dX5_one_94 ?_
      refine v_if_ge (tgt := 103) G dX5_one_95 rfl (fun h_95 => ?_) (fun h_95 => ?_)
      · refine v_aload_3_0 G dX5_one_103 ?_
        refine v_getR G vc_5 lk_X5_19 (fs_X5_1) dX5_one_104 ?_
        refine v_getR G vc_4 lk_X5_132 (fs_X4_3 (by first | assumption | exact imgP_TB)) dX5_one_107 ?_
        refine v_iload_3_1 G dX5_one_110 ?_
        refine v_ialdN G (as_X4_3 (by first | assumption | exact imgP_TB)) (by first | assumption | omega | exact oneB_in (by assumption) | exact wallB_in (by assumption) | exact oneB_m1 (by assumption) | decide) (by first | decide | omega) dX5_one_111 ?_
        exact v_iret G hQ dX5_one_112 (vDet.of (by simp only [oneR, bI, h_8, ck, h_14_0, h_14_1, h_14_2, h_14_3, h_95, if_true, if_false, Bool.false_eq_true, reduceIte] <;> try rfl) rfl)
      · refine v_bipush (v := (-4)) G dX5_one_98 (by decide) ?_
        refine v_goto (tgt := 112) G dX5_one_100 rfl ?_
        exact v_iret G hQ dX5_one_112 (vDet.of (by simp only [oneR, bI, h_8, ck, h_14_0, h_14_1, h_14_2, h_14_3, h_95, if_true, if_false, Bool.false_eq_true, reduceIte] <;> try rfl) rfl)
    refine v_tabC (i := 4) (tgt := 113) G dX5_one_14 rfl rfl (by decide) (by decide) (fun h_14_4 => ?_) (fun h_14_4 => ?_)
    · refine v_aload_3_0 G dX5_one_113 ?_
      refine v_getR G vc_5 lk_X5_19 (fs_X5_1) dX5_one_114 ?_
      refine v_iload_3_1 G dX5_one_117 ?_
      refine v_cV1 G (C_X4_reached (by first | assumption | omega | exact oneB_in (by assumption) | exact wallB_in (by assumption) | exact oneB_m1 (by assumption) | decide) (by first | assumption | omega | exact oneB_in (by assumption) | exact wallB_in (by assumption) | exact oneB_m1 (by assumption) | decide) (by first | assumption | omega | exact oneB_in (by assumption) | exact wallB_in (by assumption) | exact oneB_m1 (by assumption) | decide) (by first | assumption | omega | exact oneB_in (by assumption) | exact wallB_in (by assumption) | exact oneB_m1 (by assumption) | decide)) (by decide) md_X4_reached in_X4_reached (rv_X4 (by first | assumption | exact imgP_TB | exact shP_SB) rfl) ml_X5_135 (Nat.le_of_ble_eq_true rfl) dX5_one_118 ?_
      exact v_iret G hQ dX5_one_121 (vDet.of (by simp only [oneR, bI, h_8, ck, h_14_0, h_14_1, h_14_2, h_14_3, h_14_4, if_true, if_false, Bool.false_eq_true, reduceIte] <;> try rfl) rfl)
    refine v_tabC (i := 5) (tgt := 122) G dX5_one_14 rfl rfl (by decide) (by decide) (fun h_14_5 => ?_) (fun h_14_5 => ?_)
    · refine v_aload_3_0 G dX5_one_122 ?_
      refine v_getR G vc_5 lk_X5_19 (fs_X5_1) dX5_one_123 ?_
      refine v_iload_3_1 G dX5_one_126 ?_
      refine v_aload_3_0 G dX5_one_127 ?_
      refine v_getR G vc_5 lk_X5_19 (fs_X5_1) dX5_one_128 ?_
      refine v_iload_3_1 G dX5_one_131 ?_
      refine v_cV1 G (C_X4_reached (by first | assumption | omega | exact oneB_in (by assumption) | exact wallB_in (by assumption) | exact oneB_m1 (by assumption) | decide) (by first | assumption | omega | exact oneB_in (by assumption) | exact wallB_in (by assumption) | exact oneB_m1 (by assumption) | decide) (by first | assumption | omega | exact oneB_in (by assumption) | exact wallB_in (by assumption) | exact oneB_m1 (by assumption) | decide) (by first | assumption | omega | exact oneB_in (by assumption) | exact wallB_in (by assumption) | exact oneB_m1 (by assumption) | decide)) (by decide) md_X4_reached in_X4_reached (rv_X4 (by first | assumption | exact imgP_TB | exact shP_SB) rfl) ml_X5_135 (Nat.le_of_ble_eq_true rfl) dX5_one_132 ?_
      refine v_cV2 G (C_X4_gainOf (by first | assumption | omega | exact oneB_in (by assumption) | exact wallB_in (by assumption) | exact oneB_m1 (by assumption) | decide) (by first | assumption | omega | exact oneB_in (by assumption) | exact wallB_in (by assumption) | exact oneB_m1 (by assumption) | decide)) (by decide) md_X4_gainOf in_X4_gainOf (rv_X4 (by first | assumption | exact imgP_TB | exact shP_SB) rfl) ml_X5_138 (Nat.le_of_ble_eq_true rfl) dX5_one_135 ?_
      exact v_iret G hQ dX5_one_138 (vDet.of (by simp only [oneR, bI, h_8, ck, h_14_0, h_14_1, h_14_2, h_14_3, h_14_4, h_14_5, if_true, if_false, Bool.false_eq_true, reduceIte] <;> try rfl) rfl)
    refine v_tabC (i := 6) (tgt := 139) G dX5_one_14 rfl rfl (by decide) (by decide) (fun h_14_6 => ?_) (fun h_14_6 => ?_)
    · refine v_aload_3_0 G dX5_one_139 ?_
      refine v_getR G vc_5 lk_X5_19 (fs_X5_1) dX5_one_140 ?_
      refine v_iload_3_1 G dX5_one_143 ?_
      refine v_cV1 G (C_X4_doorState (by first | assumption | omega | exact oneB_in (by assumption) | exact wallB_in (by assumption) | exact oneB_m1 (by assumption) | decide) (by first | assumption | omega | exact oneB_in (by assumption) | exact wallB_in (by assumption) | exact oneB_m1 (by assumption) | decide)) (by decide) md_X4_doorState in_X4_doorState (rv_X4 (by first | assumption | exact imgP_TB | exact shP_SB) rfl) ml_X5_142 (Nat.le_of_ble_eq_true rfl) dX5_one_144 ?_
      exact v_iret G hQ dX5_one_147 (vDet.of (by simp only [oneR, bI, h_8, ck, h_14_0, h_14_1, h_14_2, h_14_3, h_14_4, h_14_5, h_14_6, if_true, if_false, Bool.false_eq_true, reduceIte] <;> try rfl) rfl)
    refine v_tabE (n := 7) (tgt := 148) G dX5_one_14 (fun i hi => by rcases (show i = 0 ∨ i = 1 ∨ i = 2 ∨ i = 3 ∨ i = 4 ∨ i = 5 ∨ i = 6 by omega) with rfl | rfl | rfl | rfl | rfl | rfl | rfl <;> assumption) rfl rfl (by decide) ?_
    refine v_iconst (v := (-1)) G dX5_one_148 (by decide) ?_
    exact v_iret G hQ dX5_one_149 (vDet.of (by simp only [oneR, bI, h_8, ck, h_14_0, h_14_1, h_14_2, h_14_3, h_14_4, h_14_5, h_14_6, if_true, if_false, Bool.false_eq_true, reduceIte] <;> try rfl) rfl)
  · refine v_iconst (v := (-1)) G dX5_one_11 (by decide) ?_
    exact v_iret G hQ dX5_one_12 (vDet.of (by simp only [oneR, bI, h_8, if_true, if_false, Bool.false_eq_true, reduceIte] <;> try rfl) rfl)
def wallR (σ : vW) (n : Nat) (v w : Int32) : Int32 := if wallB (σ 21 11) v = true then (if w = nI 0 then σ (21 + 5) v.toNatClampNeg else if w = nI 1 then σ (21 + 6) v.toNatClampNeg else if w = nI 2 then (if σ (21 + 7) v.toNatClampNeg = -1 then -4 else σ (21 + 7) v.toNatClampNeg) else if w = nI 3 then whomTo σ 21 (σ (21 + 7) v.toNatClampNeg) n else -1) else -1
set_option maxHeartbeats 4000000 in
theorem C_X5_wall {σ : vW} {n m : Nat} {p w : Int32} (hn : σ 21 10 = nI n) (hn5 : n ≤ 5) (hm : σ 21 11 = nI m) (hm9 : m ≤ 9) : Ctr mX5_wall 3 [.ref 0, .int p, .int w] σ (vDet (some (.int (wallR σ n p w))) σ) := by
  have hT := TB21
  refine Ctr.intro (by decide) (fun α => Nat.le_of_ble_eq_true rfl) (fun x G hQ => ?_)
  have G : vG x RX5 cX5_wall 3 (some .int) 3 := G
  show V x 0 [some (.ref 0), some (.int p), some (.int w)] [] σ
  refine v_aload_3_0 G dX5_wall_0 ?_
  refine v_getR G vc_5 lk_X5_19 (fs_X5_1) dX5_wall_1 ?_
  refine v_iload_3_1 G dX5_wall_4 ?_
  refine v_cV1 G (C_X4_isWall (by first | assumption | omega | exact oneB_in (by assumption) | exact wallB_in (by assumption) | exact oneB_m1 (by assumption) | decide)) (by decide) md_X4_isWall in_X4_isWall (rv_X4 (by first | assumption | exact imgP_TB | exact shP_SB) rfl) ml_X5_145 (Nat.le_of_ble_eq_true rfl) dX5_wall_5 ?_
  refine v_ifB_ne (tgt := 13) G dX5_wall_8 rfl (fun h_8 => ?_) (fun h_8 => ?_)
  · obtain ⟨k, hk, rfl⟩ := wallB_ex hm hm9 h_8
    have ck : (nI k).toNatClampNeg = k := nI_clamp (by omega)
    refine v_iload_3_2 G dX5_wall_13 ?_
    refine v_tabC (i := 0) (tgt := 44) G dX5_wall_14 rfl rfl (by decide) (by decide) (fun h_14_0 => ?_) (fun h_14_0 => ?_)
    · refine v_aload_3_0 G dX5_wall_44 ?_
      refine v_getR G vc_5 lk_X5_19 (fs_X5_1) dX5_wall_45 ?_
      refine v_getR G vc_4 lk_X5_148 (fs_X4_4 (by first | assumption | exact imgP_TB)) dX5_wall_48 ?_
      refine v_iload_3_1 G dX5_wall_51 ?_
      refine v_ialdN G (as_X4_4 (by first | assumption | exact imgP_TB)) (by first | assumption | omega | exact oneB_in (by assumption) | exact wallB_in (by assumption) | exact oneB_m1 (by assumption) | decide) (by first | decide | omega) dX5_wall_52 ?_
      exact v_iret G hQ dX5_wall_53 (vDet.of (by simp only [wallR, bI, h_8, ck, h_14_0, if_true, if_false, Bool.false_eq_true, reduceIte] <;> try rfl) rfl)
    refine v_tabC (i := 1) (tgt := 54) G dX5_wall_14 rfl rfl (by decide) (by decide) (fun h_14_1 => ?_) (fun h_14_1 => ?_)
    · refine v_aload_3_0 G dX5_wall_54 ?_
      refine v_getR G vc_5 lk_X5_19 (fs_X5_1) dX5_wall_55 ?_
      refine v_getR G vc_4 lk_X5_151 (fs_X4_5 (by first | assumption | exact imgP_TB)) dX5_wall_58 ?_
      refine v_iload_3_1 G dX5_wall_61 ?_
      refine v_ialdN G (as_X4_5 (by first | assumption | exact imgP_TB)) (by first | assumption | omega | exact oneB_in (by assumption) | exact wallB_in (by assumption) | exact oneB_m1 (by assumption) | decide) (by first | decide | omega) dX5_wall_62 ?_
      exact v_iret G hQ dX5_wall_63 (vDet.of (by simp only [wallR, bI, h_8, ck, h_14_0, h_14_1, if_true, if_false, Bool.false_eq_true, reduceIte] <;> try rfl) rfl)
    refine v_tabC (i := 2) (tgt := 64) G dX5_wall_14 rfl rfl (by decide) (by decide) (fun h_14_2 => ?_) (fun h_14_2 => ?_)
    · refine v_aload_3_0 G dX5_wall_64 ?_
      refine v_getR G vc_5 lk_X5_19 (fs_X5_1) dX5_wall_65 ?_
      refine v_getR G vc_4 lk_X5_154 (fs_X4_6 (by first | assumption | exact imgP_TB)) dX5_wall_68 ?_
      refine v_iload_3_1 G dX5_wall_71 ?_
      refine v_ialdN G (as_X4_6 (by first | assumption | exact imgP_TB)) (by first | assumption | omega | exact oneB_in (by assumption) | exact wallB_in (by assumption) | exact oneB_m1 (by assumption) | decide) (by first | decide | omega) dX5_wall_72 ?_
      refine v_iconst (v := (-1)) G dX5_wall_73 (by decide) ?_
      refine v_icmp_ne (tgt := 82) G dX5_wall_74 rfl (fun h_74 => ?_) (fun h_74 => ?_)
      · refine v_aload_3_0 G dX5_wall_82 ?_
        refine v_getR G vc_5 lk_X5_19 (fs_X5_1) dX5_wall_83 ?_
        refine v_getR G vc_4 lk_X5_154 (fs_X4_6 (by first | assumption | exact imgP_TB)) dX5_wall_86 ?_
        refine v_iload_3_1 G dX5_wall_89 ?_
        refine v_ialdN G (as_X4_6 (by first | assumption | exact imgP_TB)) (by first | assumption | omega | exact oneB_in (by assumption) | exact wallB_in (by assumption) | exact oneB_m1 (by assumption) | decide) (by first | decide | omega) dX5_wall_90 ?_
        exact v_iret G hQ dX5_wall_91 (vDet.of (by simp only [wallR, bI, h_8, ck, h_14_0, h_14_1, h_14_2, h_74, if_true, if_false, Bool.false_eq_true, reduceIte] <;> try rfl) rfl)
      · refine v_bipush (v := (-4)) G dX5_wall_77 (by decide) ?_
        refine v_goto (tgt := 91) G dX5_wall_79 rfl ?_
        exact v_iret G hQ dX5_wall_91 (vDet.of (by simp only [wallR, bI, h_8, ck, h_14_0, h_14_1, h_14_2, h_74, if_true, if_false, Bool.false_eq_true, reduceIte] <;> try rfl) rfl)
    refine v_tabC (i := 3) (tgt := 92) G dX5_wall_14 rfl rfl (by decide) (by decide) (fun h_14_3 => ?_) (fun h_14_3 => ?_)
    · refine v_aload_3_0 G dX5_wall_92 ?_
      refine v_getR G vc_5 lk_X5_19 (fs_X5_1) dX5_wall_93 ?_
      refine v_iload_3_1 G dX5_wall_96 ?_
      refine v_cV1 G (C_X4_whomLets (by first | assumption | omega | exact oneB_in (by assumption) | exact wallB_in (by assumption) | exact oneB_m1 (by assumption) | decide) (by first | assumption | omega | exact oneB_in (by assumption) | exact wallB_in (by assumption) | exact oneB_m1 (by assumption) | decide) (by first | assumption | omega | exact oneB_in (by assumption) | exact wallB_in (by assumption) | exact oneB_m1 (by assumption) | decide) (by first | assumption | omega | exact oneB_in (by assumption) | exact wallB_in (by assumption) | exact oneB_m1 (by assumption) | decide)) (by decide) md_X4_whomLets in_X4_whomLets (rv_X4 (by first | assumption | exact imgP_TB | exact shP_SB) rfl) ml_X5_157 (Nat.le_of_ble_eq_true rfl) dX5_wall_97 ?_
      exact v_iret G hQ dX5_wall_100 (vDet.of (by simp only [wallR, bI, h_8, ck, h_14_0, h_14_1, h_14_2, h_14_3, if_true, if_false, Bool.false_eq_true, reduceIte] <;> try rfl) rfl)
    refine v_tabE (n := 4) (tgt := 101) G dX5_wall_14 (fun i hi => by rcases (show i = 0 ∨ i = 1 ∨ i = 2 ∨ i = 3 by omega) with rfl | rfl | rfl | rfl <;> assumption) rfl rfl (by decide) ?_
    refine v_iconst (v := (-1)) G dX5_wall_101 (by decide) ?_
    exact v_iret G hQ dX5_wall_102 (vDet.of (by simp only [wallR, bI, h_8, ck, h_14_0, h_14_1, h_14_2, h_14_3, if_true, if_false, Bool.false_eq_true, reduceIte] <;> try rfl) rfl)
  · refine v_iconst (v := (-1)) G dX5_wall_11 (by decide) ?_
    exact v_iret G hQ dX5_wall_12 (vDet.of (by simp only [wallR, bI, h_8, if_true, if_false, Bool.false_eq_true, reduceIte] <;> try rfl) rfl)
def roomR (σ : vW) (n m : Nat) (r w : Int32) : Int32 := if roomB r = true then (if w = nI 0 then σ (21 + 8) r.toNatClampNeg else if w = nI 1 then whoTo σ 21 m r n else -1) else -1
set_option maxHeartbeats 4000000 in
theorem C_X5_room {σ : vW} {n m : Nat} {r w : Int32} (hn : σ 21 10 = nI n) (hn5 : n ≤ 5) (hm : σ 21 11 = nI m) (hm9 : m ≤ 9) : Ctr mX5_room 5 [.ref 0, .int r, .int w] σ (vDet (some (.int (roomR σ n m r w))) σ) := by
  have hT := TB21
  refine Ctr.intro (by decide) (fun α => Nat.le_of_ble_eq_true rfl) (fun x G hQ => ?_)
  have G : vG x RX5 cX5_room 3 (some .int) 5 := G
  show V x 0 [some (.ref 0), some (.int r), some (.int w)] [] σ
  refine v_iload_3_1 G dX5_room_0 ?_
  refine v_cS1 G (C_X5_isRoom) (by decide) md_X5_isRoom st_X5_isRoom ml_X5_160 (Nat.le_of_ble_eq_true rfl) dX5_room_1 ?_
  refine v_ifB_ne (tgt := 9) G dX5_room_4 rfl (fun h_4 => ?_) (fun h_4 => ?_)
  · obtain ⟨k, hk, rfl⟩ := roomB_ex h_4
    have ck : (nI k).toNatClampNeg = k := nI_clamp (by omega)
    refine v_iload_3_2 G dX5_room_9 ?_
    refine v_look2 (t0 := 36) (t1 := 46) (td := 55) G dX5_room_10 rfl rfl rfl (fun h_10_0 => ?_) (fun h_10_1 => ?_) (fun h_10_0 h_10_1 => ?_)
    · refine v_aload_3_0 G dX5_room_36 ?_
      refine v_getR G vc_5 lk_X5_19 (fs_X5_1) dX5_room_37 ?_
      refine v_getR G vc_4 lk_X5_163 (fs_X4_7 (by first | assumption | exact imgP_TB)) dX5_room_40 ?_
      refine v_iload_3_1 G dX5_room_43 ?_
      refine v_ialdN G (as_X4_7 (by first | assumption | exact imgP_TB)) (by first | assumption | omega | exact oneB_in (by assumption) | exact wallB_in (by assumption) | exact oneB_m1 (by assumption) | decide) (by first | decide | omega) dX5_room_44 ?_
      exact v_iret G hQ dX5_room_45 (vDet.of (by simp only [roomR, bI, h_4, ck, h_10_0, if_true, if_false, Bool.false_eq_true, reduceIte] <;> try rfl) rfl)
    · refine v_aload_3_0 G dX5_room_46 ?_
      refine v_getR G vc_5 lk_X5_19 (fs_X5_1) dX5_room_47 ?_
      refine v_iload_3_1 G dX5_room_50 ?_
      refine v_cV1 G (C_X4_whoReaches (by first | assumption | omega | exact oneB_in (by assumption) | exact wallB_in (by assumption) | exact oneB_m1 (by assumption) | decide) (by first | assumption | omega | exact oneB_in (by assumption) | exact wallB_in (by assumption) | exact oneB_m1 (by assumption) | decide) (by first | assumption | omega | exact oneB_in (by assumption) | exact wallB_in (by assumption) | exact oneB_m1 (by assumption) | decide) (by first | assumption | omega | exact oneB_in (by assumption) | exact wallB_in (by assumption) | exact oneB_m1 (by assumption) | decide) (by first | assumption | omega | exact oneB_in (by assumption) | exact wallB_in (by assumption) | exact oneB_m1 (by assumption) | decide)) (by decide) md_X4_whoReaches in_X4_whoReaches (rv_X4 (by first | assumption | exact imgP_TB | exact shP_SB) rfl) ml_X5_166 (Nat.le_of_ble_eq_true rfl) dX5_room_51 ?_
      exact v_iret G hQ dX5_room_54 (vDet.of (by simp only [roomR, bI, h_4, ck, h_10_1, if_true, if_false, Bool.false_eq_true, reduceIte] <;> try rfl) rfl)
    · refine v_iconst (v := (-1)) G dX5_room_55 (by decide) ?_
      exact v_iret G hQ dX5_room_56 (vDet.of (by simp only [roomR, bI, h_4, ck, h_10_0, h_10_1, if_true, if_false, Bool.false_eq_true, reduceIte] <;> try rfl) rfl)
  · refine v_iconst (v := (-1)) G dX5_room_7 (by decide) ?_
    exact v_iret G hQ dX5_room_8 (vDet.of (by simp only [roomR, bI, h_4, if_true, if_false, Bool.false_eq_true, reduceIte] <;> try rfl) rfl)
def actR (σ : vW) (i w : Int32) : Int32 := if i < 0 then -1 else if i < σ 21 12 then (if w = nI 0 then σ (21 + 9) i.toNatClampNeg else if w = nI 1 then σ (21 + 10) i.toNatClampNeg else -1) else -1
theorem act_ex {σ : vW} {K : Nat} {i : Int32} (hK : σ 21 12 = nI K) (hK6 : K ≤ 6) (h1 : ¬ i < 0) (h2 : i < σ 21 12) : ∃ k, k < K ∧ i = nI k := by
  obtain ⟨j, hj, rfl⟩ := nI_of h1
  rw [hK, nI_ltI (by omega) (by omega)] at h2
  exact ⟨j, h2, rfl⟩
set_option maxHeartbeats 4000000 in
theorem C_X5_act {σ : vW} {K : Nat} {i w : Int32} (hK : σ 21 12 = nI K) (hK6 : K ≤ 6) : Ctr mX5_act 0 [.ref 0, .int i, .int w] σ (vDet (some (.int (actR σ i w))) σ) := by
  have hT := TB21
  refine Ctr.intro (by decide) (fun α => Nat.le_of_ble_eq_true rfl) (fun x G hQ => ?_)
  have G : vG x RX5 cX5_act 3 (some .int) 0 := G
  show V x 0 [some (.ref 0), some (.int i), some (.int w)] [] σ
  refine v_iload_3_1 G dX5_act_0 ?_
  refine v_if_lt (tgt := 15) G dX5_act_1 rfl (fun h_1 => ?_) (fun h_1 => ?_)
  · refine v_iconst (v := (-1)) G dX5_act_15 (by decide) ?_
    exact v_iret G hQ dX5_act_16 (vDet.of (by simp only [actR, bI, h_1, if_true, if_false, Bool.false_eq_true, reduceIte] <;> try rfl) rfl)
  · refine v_iload_3_1 G dX5_act_4 ?_
    refine v_aload_3_0 G dX5_act_5 ?_
    refine v_getR G vc_5 lk_X5_19 (fs_X5_1) dX5_act_6 ?_
    refine v_getI G vc_4 lk_X5_111 (fs_X4_12 (by first | assumption | exact imgP_TB)) dX5_act_9 ?_
    refine v_icmp_lt (tgt := 17) G dX5_act_12 rfl (fun h_12 => ?_) (fun h_12 => ?_)
    · obtain ⟨k, hk, rfl⟩ := act_ex hK hK6 h_1 h_12
      have ck : (nI k).toNatClampNeg = k := nI_clamp (by omega)
      refine v_iload_3_2 G dX5_act_17 ?_
      refine v_look2 (t0 := 44) (t1 := 54) (td := 64) G dX5_act_18 rfl rfl rfl (fun h_18_0 => ?_) (fun h_18_1 => ?_) (fun h_18_0 h_18_1 => ?_)
      · refine v_aload_3_0 G dX5_act_44 ?_
        refine v_getR G vc_5 lk_X5_19 (fs_X5_1) dX5_act_45 ?_
        refine v_getR G vc_4 lk_X5_169 (fs_X4_8 (by first | assumption | exact imgP_TB)) dX5_act_48 ?_
        refine v_iload_3_1 G dX5_act_51 ?_
        refine v_ialdN G (as_X4_8 (by first | assumption | exact imgP_TB)) (by first | assumption | omega | exact oneB_in (by assumption) | exact wallB_in (by assumption) | exact oneB_m1 (by assumption) | decide) (by first | decide | omega) dX5_act_52 ?_
        exact v_iret G hQ dX5_act_53 (vDet.of (by simp only [actR, bI, h_1, h_12, ck, h_18_0, if_true, if_false, Bool.false_eq_true, reduceIte] <;> try rfl) rfl)
      · refine v_aload_3_0 G dX5_act_54 ?_
        refine v_getR G vc_5 lk_X5_19 (fs_X5_1) dX5_act_55 ?_
        refine v_getR G vc_4 lk_X5_172 (fs_X4_9 (by first | assumption | exact imgP_TB)) dX5_act_58 ?_
        refine v_iload_3_1 G dX5_act_61 ?_
        refine v_ialdN G (as_X4_9 (by first | assumption | exact imgP_TB)) (by first | assumption | omega | exact oneB_in (by assumption) | exact wallB_in (by assumption) | exact oneB_m1 (by assumption) | decide) (by first | decide | omega) dX5_act_62 ?_
        exact v_iret G hQ dX5_act_63 (vDet.of (by simp only [actR, bI, h_1, h_12, ck, h_18_1, if_true, if_false, Bool.false_eq_true, reduceIte] <;> try rfl) rfl)
      · refine v_iconst (v := (-1)) G dX5_act_64 (by decide) ?_
        exact v_iret G hQ dX5_act_65 (vDet.of (by simp only [actR, bI, h_1, h_12, ck, h_18_0, h_18_1, if_true, if_false, Bool.false_eq_true, reduceIte] <;> try rfl) rfl)
    · refine v_iconst (v := (-1)) G dX5_act_15 (by decide) ?_
      exact v_iret G hQ dX5_act_16 (vDet.of (by simp only [actR, bI, h_1, h_12, if_true, if_false, Bool.false_eq_true, reduceIte] <;> try rfl) rfl)
def replR (f : Nat → Int32) (N : Nat) (i v mx : Int32) : Int32 := if i < 0 then -1 else if nI N ≤ i then -1 else if upToB v mx = true then f i.toNatClampNeg else -1
def replW (σ : vW) (r N : Nat) (i v mx : Int32) : vW := if i < 0 then σ else if nI N ≤ i then σ else if upToB v mx = true then vset σ r i.toNatClampNeg v else σ
set_option maxHeartbeats 4000000 in
theorem C_X5_replaced {σ : vW} {r N : Nat} {i v mx : Int32} (as : vAs r 0 N) (hN : N < 1000) : Ctr mX5_replaced 1 [.ref r, .int i, .int v, .int mx] σ (vDet (some (.int (replR (σ r) N i v mx))) (replW σ r N i v mx)) := by
  refine Ctr.intro (by decide) (fun α => Nat.le_of_ble_eq_true rfl) (fun x G hQ => ?_)
  have G : vG x RX5 cX5_replaced 5 (some .int) 1 := G
  show V x 0 [some (.ref r), some (.int i), some (.int v), some (.int mx), none] [] σ
  refine v_iload_5_1 G dX5_replaced_0 ?_
  refine v_if_lt (tgt := 18) G dX5_replaced_1 rfl (fun h_1 => ?_) (fun h_1 => ?_)
  · refine v_iconst (v := (-1)) G dX5_replaced_18 (by decide) ?_
    exact v_iret G hQ dX5_replaced_19 (vDet.of (by rw [replR, if_pos h_1]) (by rw [replW, if_pos h_1]))
  · refine v_iload_5_1 G dX5_replaced_4 ?_
    refine v_aload_5_0 G dX5_replaced_5 ?_
    refine v_alen (v := nI N) G as rfl dX5_replaced_6 ?_
    refine v_icmp_ge (tgt := 18) G dX5_replaced_7 rfl (fun h_7 => ?_) (fun h_7 => ?_)
    · refine v_iconst (v := (-1)) G dX5_replaced_18 (by decide) ?_
      exact v_iret G hQ dX5_replaced_19 (vDet.of (by simp only [replR, h_1, h_7, if_true, if_false, Bool.false_eq_true]) (by simp only [replW, h_1, h_7, if_true, if_false, Bool.false_eq_true]))
    · refine v_iload_5_2 G dX5_replaced_10 ?_
      refine v_iload_5_3 G dX5_replaced_11 ?_
      refine v_cS2 G (C_X5_isUpTo) (by decide) md_X5_isUpTo st_X5_isUpTo ml_X5_52 (Nat.le_of_ble_eq_true rfl) dX5_replaced_12 ?_
      refine v_ifB_ne (tgt := 20) G dX5_replaced_15 rfl (fun h_15 => ?_) (fun h_15 => ?_)
      · refine v_aload_5_0 G dX5_replaced_20 ?_
        refine v_iload_5_1 G dX5_replaced_21 ?_
        refine v_iald G (by assumption) (by first | assumption | exact in_of (by omega) h_1 h_7) dX5_replaced_22 ?_
        refine v_istore_5_4 G dX5_replaced_23 rfl ?_
        refine v_aload_5_0 G dX5_replaced_25 ?_
        refine v_iload_5_1 G dX5_replaced_26 ?_
        refine v_iload_5_2 G dX5_replaced_27 ?_
        refine v_iast G (by assumption) (by first | assumption | exact in_of (by omega) h_1 h_7) dX5_replaced_28 ?_
        refine v_iload_5_4 G dX5_replaced_29 ?_
        exact v_iret G hQ dX5_replaced_31 (vDet.of (by simp only [replR, h_1, h_7, h_15, if_true, if_false, Bool.false_eq_true]) (by simp only [replW, h_1, h_7, h_15, if_true, if_false, Bool.false_eq_true]))
      · refine v_iconst (v := (-1)) G dX5_replaced_18 (by decide) ?_
        exact v_iret G hQ dX5_replaced_19 (vDet.of (by simp only [replR, h_1, h_7, h_15, if_true, if_false, Bool.false_eq_true]) (by simp only [replW, h_1, h_7, h_15, if_true, if_false, Bool.false_eq_true]))
def alterR (σ : vW) (p w v : Int32) : Int32 := if oneB (σ 21 10) p = true then (if w = nI 0 then replR (σ (21 + 1)) 5 p v (nI 3) else if w = nI 1 then replR (σ (21 + 2)) 5 p v (nI 3) else if w = nI 2 then replR (σ (21 + 3)) 5 p v (nI 7) else -1) else -1
def alterW (σ : vW) (p w v : Int32) : vW := if oneB (σ 21 10) p = true then (if w = nI 0 then replW σ (21 + 1) 5 p v (nI 3) else if w = nI 1 then replW σ (21 + 2) 5 p v (nI 3) else if w = nI 2 then replW σ (21 + 3) 5 p v (nI 7) else σ) else σ
set_option maxHeartbeats 4000000 in
theorem C_X5_alter {σ : vW} {p w v : Int32} : Ctr mX5_alter 2 [.ref 0, .int p, .int w, .int v] σ (vDet (some (.int (alterR σ p w v))) (alterW σ p w v)) := by
  have hT := TB21
  refine Ctr.intro (by decide) (fun α => Nat.le_of_ble_eq_true rfl) (fun x G hQ => ?_)
  have G : vG x RX5 cX5_alter 4 (some .int) 2 := G
  show V x 0 [some (.ref 0), some (.int p), some (.int w), some (.int v)] [] σ
  refine v_aload_4_0 G dX5_alter_0 ?_
  refine v_getR G vc_5 lk_X5_19 (fs_X5_1) dX5_alter_1 ?_
  refine v_iload_4_1 G dX5_alter_4 ?_
  refine v_cV1 G (C_X4_isOne (by first | assumption | omega | exact oneB_in (by assumption) | exact wallB_in (by assumption) | exact oneB_m1 (by assumption) | decide)) (by decide) md_X4_isOne in_X4_isOne (rv_X4 (by first | assumption | exact imgP_TB | exact shP_SB) rfl) ml_X5_120 (Nat.le_of_ble_eq_true rfl) dX5_alter_5 ?_
  refine v_ifB_ne (tgt := 13) G dX5_alter_8 rfl (fun h_8 => ?_) (fun h_8 => ?_)
  · refine v_iload_4_2 G dX5_alter_13 ?_
    refine v_tabC (i := 0) (tgt := 40) G dX5_alter_14 rfl rfl (by decide) (by decide) (fun h_14_0 => ?_) (fun h_14_0 => ?_)
    · refine v_aload_4_0 G dX5_alter_40 ?_
      refine v_getR G vc_5 lk_X5_19 (fs_X5_1) dX5_alter_41 ?_
      refine v_getR G vc_4 lk_X5_123 (fs_X4_0 (by first | assumption | exact imgP_TB)) dX5_alter_44 ?_
      refine v_iload_4_1 G dX5_alter_47 ?_
      refine v_iload_4_3 G dX5_alter_48 ?_
      refine v_iconst (v := nI 3) G dX5_alter_49 (by decide) ?_
      refine v_cS4 G (C_X5_replaced (as_X4_0 hT) (by decide)) (by decide) md_X5_replaced st_X5_replaced ml_X5_175 (Nat.le_of_ble_eq_true rfl) dX5_alter_50 ?_
      exact v_iret G hQ dX5_alter_53 (vDet.of (by simp only [alterR, bI, h_8, h_14_0, if_true, if_false, Bool.false_eq_true, reduceIte, ite_self] <;> try rfl) (by simp only [alterW, h_8, h_14_0, if_true, if_false, Bool.false_eq_true, reduceIte, ite_self] <;> try rfl))
    refine v_tabC (i := 1) (tgt := 54) G dX5_alter_14 rfl rfl (by decide) (by decide) (fun h_14_1 => ?_) (fun h_14_1 => ?_)
    · refine v_aload_4_0 G dX5_alter_54 ?_
      refine v_getR G vc_5 lk_X5_19 (fs_X5_1) dX5_alter_55 ?_
      refine v_getR G vc_4 lk_X5_126 (fs_X4_1 (by first | assumption | exact imgP_TB)) dX5_alter_58 ?_
      refine v_iload_4_1 G dX5_alter_61 ?_
      refine v_iload_4_3 G dX5_alter_62 ?_
      refine v_iconst (v := nI 3) G dX5_alter_63 (by decide) ?_
      refine v_cS4 G (C_X5_replaced (as_X4_1 hT) (by decide)) (by decide) md_X5_replaced st_X5_replaced ml_X5_175 (Nat.le_of_ble_eq_true rfl) dX5_alter_64 ?_
      exact v_iret G hQ dX5_alter_67 (vDet.of (by simp only [alterR, bI, h_8, h_14_0, h_14_1, if_true, if_false, Bool.false_eq_true, reduceIte, ite_self] <;> try rfl) (by simp only [alterW, h_8, h_14_0, h_14_1, if_true, if_false, Bool.false_eq_true, reduceIte, ite_self] <;> try rfl))
    refine v_tabC (i := 2) (tgt := 68) G dX5_alter_14 rfl rfl (by decide) (by decide) (fun h_14_2 => ?_) (fun h_14_2 => ?_)
    · refine v_aload_4_0 G dX5_alter_68 ?_
      refine v_getR G vc_5 lk_X5_19 (fs_X5_1) dX5_alter_69 ?_
      refine v_getR G vc_4 lk_X5_129 (fs_X4_2 (by first | assumption | exact imgP_TB)) dX5_alter_72 ?_
      refine v_iload_4_1 G dX5_alter_75 ?_
      refine v_iload_4_3 G dX5_alter_76 ?_
      refine v_bipush (v := nI 7) G dX5_alter_77 (by decide) ?_
      refine v_cS4 G (C_X5_replaced (as_X4_2 hT) (by decide)) (by decide) md_X5_replaced st_X5_replaced ml_X5_175 (Nat.le_of_ble_eq_true rfl) dX5_alter_79 ?_
      exact v_iret G hQ dX5_alter_82 (vDet.of (by simp only [alterR, bI, h_8, h_14_0, h_14_1, h_14_2, if_true, if_false, Bool.false_eq_true, reduceIte, ite_self] <;> try rfl) (by simp only [alterW, h_8, h_14_0, h_14_1, h_14_2, if_true, if_false, Bool.false_eq_true, reduceIte, ite_self] <;> try rfl))
    refine v_tabE (n := 3) (tgt := 83) G dX5_alter_14 (fun i hi => by rcases (show i = 0 ∨ i = 1 ∨ i = 2 by omega) with rfl | rfl | rfl <;> assumption) rfl rfl (by decide) ?_
    refine v_iconst (v := (-1)) G dX5_alter_83 (by decide) ?_
    exact v_iret G hQ dX5_alter_84 (vDet.of (by simp only [alterR, bI, h_8, h_14_0, h_14_1, h_14_2, if_true, if_false, Bool.false_eq_true, reduceIte, ite_self] <;> try rfl) (by simp only [alterW, h_8, h_14_0, h_14_1, h_14_2, if_true, if_false, Bool.false_eq_true, reduceIte, ite_self] <;> try rfl))
  · refine v_iconst (v := (-1)) G dX5_alter_11 (by decide) ?_
    exact v_iret G hQ dX5_alter_12 (vDet.of (by simp only [alterR, bI, h_8, if_true, if_false, Bool.false_eq_true, reduceIte, ite_self] <;> try rfl) (by simp only [alterW, h_8, if_true, if_false, Bool.false_eq_true, reduceIte, ite_self] <;> try rfl))
set_option maxHeartbeats 4000000 in
theorem C_X5_price {σ : vW} {r v : Int32} : Ctr mX5_price 2 [.ref 0, .int r, .int v] σ (vDet (some (.int (replR (σ (21 + 8)) 8 r v (nI 99)))) (replW σ (21 + 8) 8 r v (nI 99))) := by
  have hT := TB21
  refine Ctr.intro (by decide) (fun α => Nat.le_of_ble_eq_true rfl) (fun x G hQ => ?_)
  have G : vG x RX5 cX5_price 3 (some .int) 2 := G
  show V x 0 [some (.ref 0), some (.int r), some (.int v)] [] σ
  refine v_aload_3_0 G dX5_price_0 ?_
  refine v_getR G vc_5 lk_X5_19 (fs_X5_1) dX5_price_1 ?_
  refine v_getR G vc_4 lk_X5_163 (fs_X4_7 (by first | assumption | exact imgP_TB)) dX5_price_4 ?_
  refine v_iload_3_1 G dX5_price_7 ?_
  refine v_iload_3_2 G dX5_price_8 ?_
  refine v_bipush (v := nI 99) G dX5_price_9 (by decide) ?_
  refine v_cS4 G (C_X5_replaced (as_X4_7 hT) (by decide)) (by decide) md_X5_replaced st_X5_replaced ml_X5_175 (Nat.le_of_ble_eq_true rfl) dX5_price_11 ?_
  exact v_iret G hQ dX5_price_14 vDet.mk
