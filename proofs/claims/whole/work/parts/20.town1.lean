/-! Town: who there is, doors -/
def oneB (n p : Int32) : Bool := if p < 0 then false else if n ≤ p then false else if nI 5 ≤ p then false else true
def wallB (m w : Int32) : Bool := if w < 0 then false else if m ≤ w then false else if nI 9 ≤ w then false else true
theorem oneB_m1 {P : Prop} {n : Int32} (h : oneB n (-1) = true) : P := absurd h (by rw [oneB, if_pos (by decide)]; decide)
theorem oneB_in {n p : Int32} (h : oneB n p = true) : vp_in p 5 := by
  unfold oneB at h
  split at h
  · cases h
  · split at h
    · cases h
    · split at h
      · cases h
      · rename_i h1 h2 h3
        rw [vp_in_iff]
        simp only [lt_toInt, le_toInt, nI_toInt (show 5 < 2 ^ 31 by decide), Int32.toInt_zero] at h1 h3
        omega
theorem wallB_in {n p : Int32} (h : wallB n p = true) : vp_in p 9 := by
  unfold wallB at h
  split at h
  · cases h
  · split at h
    · cases h
    · split at h
      · cases h
      · rename_i h1 h2 h3
        rw [vp_in_iff]
        simp only [lt_toInt, le_toInt, nI_toInt (show 9 < 2 ^ 31 by decide), Int32.toInt_zero] at h1 h3
        omega
set_option maxHeartbeats 4000000 in
theorem C_X4_isOne {σ : vW} {t : Nat} {p : Int32} (hT : TB t) : Ctr mX4_isOne 0 [.ref t, .int p] σ (vDet (some (.int (bI (oneB (σ t 10) p)))) σ) := by
  refine Ctr.intro (by decide) (fun α => Nat.le_of_ble_eq_true rfl) (fun x G hQ => ?_)
  have G : vG x RX4 cX4_isOne 2 (some .boolean) 0 := G
  show V x 0 [some (.ref t), some (.int p)] [] σ
  refine v_iload_2_1 G dX4_isOne_0 ?_
  refine v_if_lt (tgt := 21) G dX4_isOne_1 rfl (fun h_1 => ?_) (fun h_1 => ?_)
  · refine v_iconst (v := nI 0) G dX4_isOne_21 (by decide) ?_
    exact v_zret G hQ dX4_isOne_22 (by first | exact Or.inl rfl | exact Or.inr rfl | exact bI_01 _ | assumption) (vDet.of (by simp only [oneB, bI, h_1, if_true, if_false, Bool.false_eq_true, reduceIte] <;> try rfl) rfl)
  · refine v_iload_2_1 G dX4_isOne_4 ?_
    refine v_aload_2_0 G dX4_isOne_5 ?_
    refine v_getI G vc_4 lk_X4_48 (fs_X4_10 (by first | assumption | exact imgP_TB)) dX4_isOne_6 ?_
    refine v_icmp_ge (tgt := 21) G dX4_isOne_9 rfl (fun h_9 => ?_) (fun h_9 => ?_)
    · refine v_iconst (v := nI 0) G dX4_isOne_21 (by decide) ?_
      exact v_zret G hQ dX4_isOne_22 (by first | exact Or.inl rfl | exact Or.inr rfl | exact bI_01 _ | assumption) (vDet.of (by simp only [oneB, bI, h_1, h_9, if_true, if_false, Bool.false_eq_true, reduceIte] <;> try rfl) rfl)
    · refine v_iload_2_1 G dX4_isOne_12 ?_
      refine v_iconst (v := nI 5) G dX4_isOne_13 (by decide) ?_
      refine v_icmp_ge (tgt := 21) G dX4_isOne_14 rfl (fun h_14 => ?_) (fun h_14 => ?_)
      · refine v_iconst (v := nI 0) G dX4_isOne_21 (by decide) ?_
        exact v_zret G hQ dX4_isOne_22 (by first | exact Or.inl rfl | exact Or.inr rfl | exact bI_01 _ | assumption) (vDet.of (by simp only [oneB, bI, h_1, h_9, h_14, if_true, if_false, Bool.false_eq_true, reduceIte] <;> try rfl) rfl)
      · refine v_iconst (v := nI 1) G dX4_isOne_17 (by decide) ?_
        refine v_goto (tgt := 22) G dX4_isOne_18 rfl ?_
        exact v_zret G hQ dX4_isOne_22 (by first | exact Or.inl rfl | exact Or.inr rfl | exact bI_01 _ | assumption) (vDet.of (by simp only [oneB, bI, h_1, h_9, h_14, if_true, if_false, Bool.false_eq_true, reduceIte] <;> try rfl) rfl)
set_option maxHeartbeats 4000000 in
theorem C_X4_isWall {σ : vW} {t : Nat} {p : Int32} (hT : TB t) : Ctr mX4_isWall 0 [.ref t, .int p] σ (vDet (some (.int (bI (wallB (σ t 11) p)))) σ) := by
  refine Ctr.intro (by decide) (fun α => Nat.le_of_ble_eq_true rfl) (fun x G hQ => ?_)
  have G : vG x RX4 cX4_isWall 2 (some .boolean) 0 := G
  show V x 0 [some (.ref t), some (.int p)] [] σ
  refine v_iload_2_1 G dX4_isWall_0 ?_
  refine v_if_lt (tgt := 22) G dX4_isWall_1 rfl (fun h_1 => ?_) (fun h_1 => ?_)
  · refine v_iconst (v := nI 0) G dX4_isWall_22 (by decide) ?_
    exact v_zret G hQ dX4_isWall_23 (by first | exact Or.inl rfl | exact Or.inr rfl | exact bI_01 _ | assumption) (vDet.of (by simp only [wallB, bI, h_1, if_true, if_false, Bool.false_eq_true, reduceIte] <;> try rfl) rfl)
  · refine v_iload_2_1 G dX4_isWall_4 ?_
    refine v_aload_2_0 G dX4_isWall_5 ?_
    refine v_getI G vc_4 lk_X4_52 (fs_X4_11 (by first | assumption | exact imgP_TB)) dX4_isWall_6 ?_
    refine v_icmp_ge (tgt := 22) G dX4_isWall_9 rfl (fun h_9 => ?_) (fun h_9 => ?_)
    · refine v_iconst (v := nI 0) G dX4_isWall_22 (by decide) ?_
      exact v_zret G hQ dX4_isWall_23 (by first | exact Or.inl rfl | exact Or.inr rfl | exact bI_01 _ | assumption) (vDet.of (by simp only [wallB, bI, h_1, h_9, if_true, if_false, Bool.false_eq_true, reduceIte] <;> try rfl) rfl)
    · refine v_iload_2_1 G dX4_isWall_12 ?_
      refine v_bipush (v := nI 9) G dX4_isWall_13 (by decide) ?_
      refine v_icmp_ge (tgt := 22) G dX4_isWall_15 rfl (fun h_15 => ?_) (fun h_15 => ?_)
      · refine v_iconst (v := nI 0) G dX4_isWall_22 (by decide) ?_
        exact v_zret G hQ dX4_isWall_23 (by first | exact Or.inl rfl | exact Or.inr rfl | exact bI_01 _ | assumption) (vDet.of (by simp only [wallB, bI, h_1, h_9, h_15, if_true, if_false, Bool.false_eq_true, reduceIte] <;> try rfl) rfl)
      · refine v_iconst (v := nI 1) G dX4_isWall_18 (by decide) ?_
        refine v_goto (tgt := 23) G dX4_isWall_19 rfl ?_
        exact v_zret G hQ dX4_isWall_23 (by first | exact Or.inl rfl | exact Or.inr rfl | exact bI_01 _ | assumption) (vDet.of (by simp only [wallB, bI, h_1, h_9, h_15, if_true, if_false, Bool.false_eq_true, reduceIte] <;> try rfl) rfl)
def canB (σ : vW) (t : Nat) (p w : Int32) : Bool := if oneB (σ t 10) p = true then (if wallB (σ t 11) w = true then (if σ (t + 4) p.toNatClampNeg = -1 then (if σ (t + 7) w.toNatClampNeg = -1 then true else false) else false) else false) else false
set_option maxHeartbeats 4000000 in
theorem C_X4_canHang {σ : vW} {t : Nat} {p w : Int32} (hT : TB t) : Ctr mX4_canHang 1 [.ref t, .int p, .int w] σ (vDet (some (.int (bI (canB σ t p w)))) σ) := by
  refine Ctr.intro (by decide) (fun α => Nat.le_of_ble_eq_true rfl) (fun x G hQ => ?_)
  have G : vG x RX4 cX4_canHang 3 (some .boolean) 1 := G
  show V x 0 [some (.ref t), some (.int p), some (.int w)] [] σ
  refine v_aload_3_0 G dX4_canHang_0 ?_
  refine v_iload_3_1 G dX4_canHang_1 ?_
  refine v_cV1 G (C_X4_isOne (by first | assumption | omega | exact oneB_in (by assumption) | exact wallB_in (by assumption) | exact oneB_m1 (by assumption) | decide)) (by decide) md_X4_isOne in_X4_isOne (rv_X4 (by first | assumption | exact imgP_TB | exact shP_SB) rfl) ml_X4_64 (Nat.le_of_ble_eq_true rfl) dX4_canHang_2 ?_
  refine v_ifB_eq (tgt := 40) G dX4_canHang_5 rfl (fun h_5 => ?_) (fun h_5 => ?_)
  · refine v_iconst (v := nI 0) G dX4_canHang_40 (by decide) ?_
    exact v_zret G hQ dX4_canHang_41 (by first | exact Or.inl rfl | exact Or.inr rfl | exact bI_01 _ | assumption) (vDet.of (by simp only [canB, bI, h_5, if_true, if_false, Bool.false_eq_true, reduceIte] <;> try rfl) rfl)
  · refine v_aload_3_0 G dX4_canHang_8 ?_
    refine v_iload_3_2 G dX4_canHang_9 ?_
    refine v_cV1 G (C_X4_isWall (by first | assumption | omega | exact oneB_in (by assumption) | exact wallB_in (by assumption) | exact oneB_m1 (by assumption) | decide)) (by decide) md_X4_isWall in_X4_isWall (rv_X4 (by first | assumption | exact imgP_TB | exact shP_SB) rfl) ml_X4_68 (Nat.le_of_ble_eq_true rfl) dX4_canHang_10 ?_
    refine v_ifB_eq (tgt := 40) G dX4_canHang_13 rfl (fun h_13 => ?_) (fun h_13 => ?_)
    · refine v_iconst (v := nI 0) G dX4_canHang_40 (by decide) ?_
      exact v_zret G hQ dX4_canHang_41 (by first | exact Or.inl rfl | exact Or.inr rfl | exact bI_01 _ | assumption) (vDet.of (by simp only [canB, bI, h_5, h_13, if_true, if_false, Bool.false_eq_true, reduceIte] <;> try rfl) rfl)
    · refine v_aload_3_0 G dX4_canHang_16 ?_
      refine v_getR G vc_4 lk_X4_21 (fs_X4_3 (by first | assumption | exact imgP_TB)) dX4_canHang_17 ?_
      refine v_iload_3_1 G dX4_canHang_20 ?_
      refine v_iald G (as_X4_3 (by first | assumption | exact imgP_TB)) (by first | assumption | omega | exact oneB_in (by assumption) | exact wallB_in (by assumption) | exact oneB_m1 (by assumption) | decide) dX4_canHang_21 ?_
      refine v_iconst (v := (-1)) G dX4_canHang_22 (by decide) ?_
      refine v_icmp_ne (tgt := 40) G dX4_canHang_23 rfl (fun h_23 => ?_) (fun h_23 => ?_)
      · refine v_iconst (v := nI 0) G dX4_canHang_40 (by decide) ?_
        exact v_zret G hQ dX4_canHang_41 (by first | exact Or.inl rfl | exact Or.inr rfl | exact bI_01 _ | assumption) (vDet.of (by simp only [canB, bI, h_5, h_13, h_23, if_true, if_false, Bool.false_eq_true, reduceIte] <;> try rfl) rfl)
      · refine v_aload_3_0 G dX4_canHang_26 ?_
        refine v_getR G vc_4 lk_X4_30 (fs_X4_6 (by first | assumption | exact imgP_TB)) dX4_canHang_27 ?_
        refine v_iload_3_2 G dX4_canHang_30 ?_
        refine v_iald G (as_X4_6 (by first | assumption | exact imgP_TB)) (by first | assumption | omega | exact oneB_in (by assumption) | exact wallB_in (by assumption) | exact oneB_m1 (by assumption) | decide) dX4_canHang_31 ?_
        refine v_iconst (v := (-1)) G dX4_canHang_32 (by decide) ?_
        refine v_icmp_ne (tgt := 40) G dX4_canHang_33 rfl (fun h_33 => ?_) (fun h_33 => ?_)
        · refine v_iconst (v := nI 0) G dX4_canHang_40 (by decide) ?_
          exact v_zret G hQ dX4_canHang_41 (by first | exact Or.inl rfl | exact Or.inr rfl | exact bI_01 _ | assumption) (vDet.of (by simp only [canB, bI, h_5, h_13, h_23, h_33, if_true, if_false, Bool.false_eq_true, reduceIte] <;> try rfl) rfl)
        · refine v_iconst (v := nI 1) G dX4_canHang_36 (by decide) ?_
          refine v_goto (tgt := 41) G dX4_canHang_37 rfl ?_
          exact v_zret G hQ dX4_canHang_41 (by first | exact Or.inl rfl | exact Or.inr rfl | exact bI_01 _ | assumption) (vDet.of (by simp only [canB, bI, h_5, h_13, h_23, h_33, if_true, if_false, Bool.false_eq_true, reduceIte] <;> try rfl) rfl)
def hangW (σ : vW) (t : Nat) (p w : Int32) : vW := vset (vset σ (t + 4) p.toNatClampNeg w) (t + 7) w.toNatClampNeg p
theorem canB_1 {σ : vW} {t : Nat} {p w : Int32} (h : canB σ t p w = true) : oneB (σ t 10) p = true := by
  unfold canB at h
  split at h
  · assumption
  · cases h
theorem canB_2 {σ : vW} {t : Nat} {p w : Int32} (h : canB σ t p w = true) : wallB (σ t 11) w = true := by
  unfold canB at h
  rw [if_pos (canB_1 h)] at h
  split at h
  · assumption
  · cases h
set_option maxHeartbeats 4000000 in
theorem C_X4_hangDoor {σ : vW} {t : Nat} {p w : Int32} (hT : TB t) : Ctr mX4_hangDoor 2 [.ref t, .int p, .int w] σ (vDet (some (.int (bI (canB σ t p w)))) (if canB σ t p w = true then hangW σ t p w else σ)) := by
  refine Ctr.intro (by decide) (fun α => Nat.le_of_ble_eq_true rfl) (fun x G hQ => ?_)
  have G : vG x RX4 cX4_hangDoor 3 (some .boolean) 2 := G
  show V x 0 [some (.ref t), some (.int p), some (.int w)] [] σ
  refine v_aload_3_0 G dX4_hangDoor_0 ?_
  refine v_iload_3_1 G dX4_hangDoor_1 ?_
  refine v_iload_3_2 G dX4_hangDoor_2 ?_
  refine v_cV2 G (C_X4_canHang (by first | assumption | exact oneB_in (canB_1 (by assumption)) | exact wallB_in (canB_2 (by assumption)))) (by decide) md_X4_canHang in_X4_canHang (rv_X4 (by first | assumption | exact imgP_TB | exact shP_SB) rfl) ml_X4_71 (Nat.le_of_ble_eq_true rfl) dX4_hangDoor_3 ?_
  refine v_ifB_ne (tgt := 11) G dX4_hangDoor_6 rfl (fun h_6 => ?_) (fun h_6 => ?_)
  · refine v_aload_3_0 G dX4_hangDoor_11 ?_
    refine v_getR G vc_4 lk_X4_21 (fs_X4_3 (by first | assumption | exact imgP_TB)) dX4_hangDoor_12 ?_
    refine v_iload_3_1 G dX4_hangDoor_15 ?_
    refine v_iload_3_2 G dX4_hangDoor_16 ?_
    refine v_iast G (as_X4_3 (by first | assumption | exact imgP_TB)) (by first | assumption | exact oneB_in (canB_1 (by assumption)) | exact wallB_in (canB_2 (by assumption))) dX4_hangDoor_17 ?_
    refine v_aload_3_0 G dX4_hangDoor_18 ?_
    refine v_getR G vc_4 lk_X4_30 (fs_X4_6 (by first | assumption | exact imgP_TB)) dX4_hangDoor_19 ?_
    refine v_iload_3_2 G dX4_hangDoor_22 ?_
    refine v_iload_3_1 G dX4_hangDoor_23 ?_
    refine v_iast G (as_X4_6 (by first | assumption | exact imgP_TB)) (by first | assumption | exact oneB_in (canB_1 (by assumption)) | exact wallB_in (canB_2 (by assumption))) dX4_hangDoor_24 ?_
    refine v_iconst (v := nI 1) G dX4_hangDoor_25 (by decide) ?_
    exact v_zret G hQ dX4_hangDoor_26 (by first | exact Or.inl rfl | exact Or.inr rfl | exact bI_01 _ | assumption) (vDet.of (by simp only [bI, h_6, if_true, if_false, Bool.false_eq_true, reduceIte] <;> try rfl) (by simp only [hangW, h_6, if_true, if_false, Bool.false_eq_true, reduceIte] <;> try rfl))
  · refine v_iconst (v := nI 0) G dX4_hangDoor_9 (by decide) ?_
    exact v_zret G hQ dX4_hangDoor_10 (by first | exact Or.inl rfl | exact Or.inr rfl | exact bI_01 _ | assumption) (vDet.of (by simp only [bI, h_6, if_true, if_false, Bool.false_eq_true, reduceIte] <;> try rfl) (by simp only [hangW, h_6, if_true, if_false, Bool.false_eq_true, reduceIte] <;> try rfl))
/-- whose door is in a wall, as takeDoor asks it -/
def takeO (σ : vW) (t : Nat) (w : Int32) : Int32 := if wallB (σ t 11) w = true then σ (t + 7) w.toNatClampNeg else -1
def takeR (σ : vW) (t : Nat) (w : Int32) : Int32 := if oneB (σ t 10) (takeO σ t w) = true then takeO σ t w else -1
def takeW (σ : vW) (t : Nat) (w th : Int32) : vW := if oneB (σ t 10) (takeO σ t w) = true then vset (vset σ (t + 7) w.toNatClampNeg (-1)) (t + 4) (takeO σ t w).toNatClampNeg th else σ
set_option maxHeartbeats 4000000 in
theorem C_X4_takeDoor {σ : vW} {t : Nat} {w th : Int32} (hT : TB t) : Ctr mX4_takeDoor 1 [.ref t, .int w, .int th] σ (vDet (some (.int (takeR σ t w))) (takeW σ t w th)) := by
  refine Ctr.intro (by decide) (fun α => Nat.le_of_ble_eq_true rfl) (fun x G hQ => ?_)
  have G : vG x RX4 cX4_takeDoor 4 (some .int) 1 := G
  show V x 0 [some (.ref t), some (.int w), some (.int th), none] [] σ
  refine v_aload_4_0 G dX4_takeDoor_0 ?_
  refine v_iload_4_1 G dX4_takeDoor_1 ?_
  refine v_cV1 G (C_X4_isWall (by first | assumption | omega | exact oneB_in (by assumption) | exact wallB_in (by assumption) | exact oneB_m1 (by assumption) | decide)) (by decide) md_X4_isWall in_X4_isWall (rv_X4 (by first | assumption | exact imgP_TB | exact shP_SB) rfl) ml_X4_68 (Nat.le_of_ble_eq_true rfl) dX4_takeDoor_2 ?_
  refine v_ifB_eq (tgt := 17) G dX4_takeDoor_5 rfl (fun h_5 => ?_) (fun h_5 => ?_)
  · refine v_iconst (v := (-1)) G dX4_takeDoor_17 (by decide) ?_
    refine v_istore_4_3 G dX4_takeDoor_18 rfl ?_
    refine v_aload_4_0 G dX4_takeDoor_19 ?_
    refine v_iload_4_3 G dX4_takeDoor_20 ?_
    refine v_cV1 G (C_X4_isOne (by first | assumption | omega | exact oneB_in (by assumption) | exact wallB_in (by assumption) | exact oneB_m1 (by assumption) | decide)) (by decide) md_X4_isOne in_X4_isOne (rv_X4 (by first | assumption | exact imgP_TB | exact shP_SB) rfl) ml_X4_64 (Nat.le_of_ble_eq_true rfl) dX4_takeDoor_21 ?_
    refine v_ifB_ne (tgt := 29) G dX4_takeDoor_24 rfl (fun h_24 => ?_) (fun h_24 => ?_)
    · refine v_aload_4_0 G dX4_takeDoor_29 ?_
      refine v_getR G vc_4 lk_X4_30 (fs_X4_6 (by first | assumption | exact imgP_TB)) dX4_takeDoor_30 ?_
      refine v_iload_4_1 G dX4_takeDoor_33 ?_
      refine v_iconst (v := (-1)) G dX4_takeDoor_34 (by decide) ?_
      refine v_iast G (as_X4_6 (by first | assumption | exact imgP_TB)) (by first | assumption | omega | exact oneB_in (by assumption) | exact wallB_in (by assumption) | exact oneB_m1 (by assumption) | decide) dX4_takeDoor_35 ?_
      refine v_aload_4_0 G dX4_takeDoor_36 ?_
      refine v_getR G vc_4 lk_X4_21 (fs_X4_3 (by first | assumption | exact imgP_TB)) dX4_takeDoor_37 ?_
      refine v_iload_4_3 G dX4_takeDoor_40 ?_
      refine v_iload_4_2 G dX4_takeDoor_41 ?_
      refine v_iast G (as_X4_3 (by first | assumption | exact imgP_TB)) (by first | assumption | omega | exact oneB_in (by assumption) | exact wallB_in (by assumption) | exact oneB_m1 (by assumption) | decide) dX4_takeDoor_42 ?_
      refine v_iload_4_3 G dX4_takeDoor_43 ?_
      exact v_iret G hQ dX4_takeDoor_44 (by first | exact oneB_m1 (by assumption) | exact vDet.of (by simp only [takeR, takeO, h_5, h_24, if_true, if_false, Bool.false_eq_true, reduceIte] <;> try rfl) (by simp only [takeW, takeO, h_5, h_24, if_true, if_false, Bool.false_eq_true, reduceIte] <;> try rfl))
    · refine v_iconst (v := (-1)) G dX4_takeDoor_27 (by decide) ?_
      exact v_iret G hQ dX4_takeDoor_28 (by first | exact oneB_m1 (by assumption) | exact vDet.of (by simp only [takeR, takeO, h_5, h_24, if_true, if_false, Bool.false_eq_true, reduceIte] <;> try rfl) (by simp only [takeW, takeO, h_5, h_24, if_true, if_false, Bool.false_eq_true, reduceIte] <;> try rfl))
  · refine v_aload_4_0 G dX4_takeDoor_8 ?_
    refine v_getR G vc_4 lk_X4_30 (fs_X4_6 (by first | assumption | exact imgP_TB)) dX4_takeDoor_9 ?_
    refine v_iload_4_1 G dX4_takeDoor_12 ?_
    refine v_iald G (as_X4_6 (by first | assumption | exact imgP_TB)) (by first | assumption | omega | exact oneB_in (by assumption) | exact wallB_in (by assumption) | exact oneB_m1 (by assumption) | decide) dX4_takeDoor_13 ?_
    refine v_goto (tgt := 18) G dX4_takeDoor_14 rfl ?_
    refine v_istore_4_3 G dX4_takeDoor_18 rfl ?_
    refine v_aload_4_0 G dX4_takeDoor_19 ?_
    refine v_iload_4_3 G dX4_takeDoor_20 ?_
    refine v_cV1 G (C_X4_isOne (by first | assumption | omega | exact oneB_in (by assumption) | exact wallB_in (by assumption) | exact oneB_m1 (by assumption) | decide)) (by decide) md_X4_isOne in_X4_isOne (rv_X4 (by first | assumption | exact imgP_TB | exact shP_SB) rfl) ml_X4_64 (Nat.le_of_ble_eq_true rfl) dX4_takeDoor_21 ?_
    refine v_ifB_ne (tgt := 29) G dX4_takeDoor_24 rfl (fun h_24 => ?_) (fun h_24 => ?_)
    · refine v_aload_4_0 G dX4_takeDoor_29 ?_
      refine v_getR G vc_4 lk_X4_30 (fs_X4_6 (by first | assumption | exact imgP_TB)) dX4_takeDoor_30 ?_
      refine v_iload_4_1 G dX4_takeDoor_33 ?_
      refine v_iconst (v := (-1)) G dX4_takeDoor_34 (by decide) ?_
      refine v_iast G (as_X4_6 (by first | assumption | exact imgP_TB)) (by first | assumption | omega | exact oneB_in (by assumption) | exact wallB_in (by assumption) | exact oneB_m1 (by assumption) | decide) dX4_takeDoor_35 ?_
      refine v_aload_4_0 G dX4_takeDoor_36 ?_
      refine v_getR G vc_4 lk_X4_21 (fs_X4_3 (by first | assumption | exact imgP_TB)) dX4_takeDoor_37 ?_
      refine v_iload_4_3 G dX4_takeDoor_40 ?_
      refine v_iload_4_2 G dX4_takeDoor_41 ?_
      refine v_iast G (as_X4_3 (by first | assumption | exact imgP_TB)) (by first | assumption | omega | exact oneB_in (by assumption) | exact wallB_in (by assumption) | exact oneB_m1 (by assumption) | decide) dX4_takeDoor_42 ?_
      refine v_iload_4_3 G dX4_takeDoor_43 ?_
      exact v_iret G hQ dX4_takeDoor_44 (by first | exact oneB_m1 (by assumption) | exact vDet.of (by simp only [takeR, takeO, h_5, h_24, if_true, if_false, Bool.false_eq_true, reduceIte] <;> try rfl) (by simp only [takeW, takeO, h_5, h_24, if_true, if_false, Bool.false_eq_true, reduceIte] <;> try rfl))
    · refine v_iconst (v := (-1)) G dX4_takeDoor_27 (by decide) ?_
      exact v_iret G hQ dX4_takeDoor_28 (by first | exact oneB_m1 (by assumption) | exact vDet.of (by simp only [takeR, takeO, h_5, h_24, if_true, if_false, Bool.false_eq_true, reduceIte] <;> try rfl) (by simp only [takeW, takeO, h_5, h_24, if_true, if_false, Bool.false_eq_true, reduceIte] <;> try rfl))
/-- a door moved: taken out where it hangs, free, hung in another wall -/
def mv1 (σ : vW) (t : Nat) (p : Int32) : vW := vset (takeW σ t (σ (t + 4) p.toNatClampNeg) (-1)) (t + 4) p.toNatClampNeg (-1)
def mvB (σ : vW) (t : Nat) (p w : Int32) : Bool := if oneB (σ t 10) p = true then (if wallB (σ t 11) w = true then (if σ (t + 7) w.toNatClampNeg = -1 then canB (mv1 σ t p) t p w else if σ (t + 7) w.toNatClampNeg = p then canB (mv1 σ t p) t p w else false) else false) else false
def mvOk (σ : vW) (t : Nat) (p w : Int32) : Bool := if oneB (σ t 10) p = true then (if wallB (σ t 11) w = true then (if σ (t + 7) w.toNatClampNeg = -1 then true else if σ (t + 7) w.toNatClampNeg = p then true else false) else false) else false
def mvW (σ : vW) (t : Nat) (p w : Int32) : vW := if mvOk σ t p w = true then (if canB (mv1 σ t p) t p w = true then hangW (mv1 σ t p) t p w else mv1 σ t p) else σ
set_option maxHeartbeats 4000000 in
theorem C_X4_moveDoor {σ : vW} {t : Nat} {p w : Int32} (hT : TB t) : Ctr mX4_moveDoor 3 [.ref t, .int p, .int w] σ (vDet (some (.int (bI (mvB σ t p w)))) (mvW σ t p w)) := by
  refine Ctr.intro (by decide) (fun α => Nat.le_of_ble_eq_true rfl) (fun x G hQ => ?_)
  have G : vG x RX4 cX4_moveDoor 3 (some .boolean) 3 := G
  show V x 0 [some (.ref t), some (.int p), some (.int w)] [] σ
  refine v_aload_3_0 G dX4_moveDoor_0 ?_
  refine v_iload_3_1 G dX4_moveDoor_1 ?_
  refine v_cV1 G (C_X4_isOne (by first | assumption | omega | exact oneB_in (by assumption) | exact wallB_in (by assumption) | exact oneB_m1 (by assumption) | decide)) (by decide) md_X4_isOne in_X4_isOne (rv_X4 (by first | assumption | exact imgP_TB | exact shP_SB) rfl) ml_X4_64 (Nat.le_of_ble_eq_true rfl) dX4_moveDoor_2 ?_
  refine v_ifB_eq (tgt := 36) G dX4_moveDoor_5 rfl (fun h_5 => ?_) (fun h_5 => ?_)
  · refine v_iconst (v := nI 0) G dX4_moveDoor_36 (by decide) ?_
    exact v_zret G hQ dX4_moveDoor_37 (by first | exact Or.inl rfl | exact Or.inr rfl | exact bI_01 _ | assumption) (vDet.of (by simp only [mvB, mv1, h_5, if_true, if_false, Bool.false_eq_true, reduceIte, ite_self] <;> try rfl) (by simp only [mvW, mvOk, mv1, h_5, if_true, if_false, Bool.false_eq_true, reduceIte, ite_self] <;> try rfl))
  · refine v_aload_3_0 G dX4_moveDoor_8 ?_
    refine v_iload_3_2 G dX4_moveDoor_9 ?_
    refine v_cV1 G (C_X4_isWall (by first | assumption | omega | exact oneB_in (by assumption) | exact wallB_in (by assumption) | exact oneB_m1 (by assumption) | decide)) (by decide) md_X4_isWall in_X4_isWall (rv_X4 (by first | assumption | exact imgP_TB | exact shP_SB) rfl) ml_X4_68 (Nat.le_of_ble_eq_true rfl) dX4_moveDoor_10 ?_
    refine v_ifB_eq (tgt := 36) G dX4_moveDoor_13 rfl (fun h_13 => ?_) (fun h_13 => ?_)
    · refine v_iconst (v := nI 0) G dX4_moveDoor_36 (by decide) ?_
      exact v_zret G hQ dX4_moveDoor_37 (by first | exact Or.inl rfl | exact Or.inr rfl | exact bI_01 _ | assumption) (vDet.of (by simp only [mvB, mv1, h_5, h_13, if_true, if_false, Bool.false_eq_true, reduceIte, ite_self] <;> try rfl) (by simp only [mvW, mvOk, mv1, h_5, h_13, if_true, if_false, Bool.false_eq_true, reduceIte, ite_self] <;> try rfl))
    · refine v_aload_3_0 G dX4_moveDoor_16 ?_
      refine v_getR G vc_4 lk_X4_30 (fs_X4_6 (by first | assumption | exact imgP_TB)) dX4_moveDoor_17 ?_
      refine v_iload_3_2 G dX4_moveDoor_20 ?_
      refine v_iald G (as_X4_6 (by first | assumption | exact imgP_TB)) (by first | assumption | omega | exact oneB_in (by assumption) | exact wallB_in (by assumption) | exact oneB_m1 (by assumption) | decide) dX4_moveDoor_21 ?_
      refine v_iconst (v := (-1)) G dX4_moveDoor_22 (by decide) ?_
      refine v_icmp_eq (tgt := 38) G dX4_moveDoor_23 rfl (fun h_23 => ?_) (fun h_23 => ?_)
      · refine v_aload_3_0 G dX4_moveDoor_38 ?_
        refine v_aload_3_0 G dX4_moveDoor_39 ?_
        refine v_getR G vc_4 lk_X4_21 (fs_X4_3 (by first | assumption | exact imgP_TB)) dX4_moveDoor_40 ?_
        refine v_iload_3_1 G dX4_moveDoor_43 ?_
        refine v_iald G (as_X4_3 (by first | assumption | exact imgP_TB)) (by first | assumption | omega | exact oneB_in (by assumption) | exact wallB_in (by assumption) | exact oneB_m1 (by assumption) | decide) dX4_moveDoor_44 ?_
        refine v_iconst (v := (-1)) G dX4_moveDoor_45 (by decide) ?_
        refine v_cV2 G (C_X4_takeDoor (by first | assumption | omega | exact oneB_in (by assumption) | exact wallB_in (by assumption) | exact oneB_m1 (by assumption) | decide)) (by decide) md_X4_takeDoor in_X4_takeDoor (rv_X4 (by first | assumption | exact imgP_TB | exact shP_SB) rfl) ml_X4_75 (Nat.le_of_ble_eq_true rfl) dX4_moveDoor_46 ?_
        refine v_pop G dX4_moveDoor_49 rfl ?_
        refine v_aload_3_0 G dX4_moveDoor_50 ?_
        refine v_getR G vc_4 lk_X4_21 (fs_X4_3 (by first | assumption | exact imgP_TB)) dX4_moveDoor_51 ?_
        refine v_iload_3_1 G dX4_moveDoor_54 ?_
        refine v_iconst (v := (-1)) G dX4_moveDoor_55 (by decide) ?_
        refine v_iast G (as_X4_3 (by first | assumption | exact imgP_TB)) (by first | assumption | omega | exact oneB_in (by assumption) | exact wallB_in (by assumption) | exact oneB_m1 (by assumption) | decide) dX4_moveDoor_56 ?_
        refine v_aload_3_0 G dX4_moveDoor_57 ?_
        refine v_iload_3_1 G dX4_moveDoor_58 ?_
        refine v_iload_3_2 G dX4_moveDoor_59 ?_
        refine v_cV2 G (C_X4_hangDoor (by first | assumption | omega | exact oneB_in (by assumption) | exact wallB_in (by assumption) | exact oneB_m1 (by assumption) | decide)) (by decide) md_X4_hangDoor in_X4_hangDoor (rv_X4 (by first | assumption | exact imgP_TB | exact shP_SB) rfl) ml_X4_79 (Nat.le_of_ble_eq_true rfl) dX4_moveDoor_60 ?_
        exact v_zret G hQ dX4_moveDoor_63 (by first | exact Or.inl rfl | exact Or.inr rfl | exact bI_01 _ | assumption) (vDet.of (by simp only [mvB, mv1, h_5, h_13, h_23, if_true, if_false, Bool.false_eq_true, reduceIte, ite_self] <;> try rfl) (by simp only [mvW, mvOk, mv1, h_5, h_13, h_23, if_true, if_false, Bool.false_eq_true, reduceIte, ite_self] <;> try rfl))
      · refine v_aload_3_0 G dX4_moveDoor_26 ?_
        refine v_getR G vc_4 lk_X4_30 (fs_X4_6 (by first | assumption | exact imgP_TB)) dX4_moveDoor_27 ?_
        refine v_iload_3_2 G dX4_moveDoor_30 ?_
        refine v_iald G (as_X4_6 (by first | assumption | exact imgP_TB)) (by first | assumption | omega | exact oneB_in (by assumption) | exact wallB_in (by assumption) | exact oneB_m1 (by assumption) | decide) dX4_moveDoor_31 ?_
        refine v_iload_3_1 G dX4_moveDoor_32 ?_
        refine v_icmp_eq (tgt := 38) G dX4_moveDoor_33 rfl (fun h_33 => ?_) (fun h_33 => ?_)
        · refine v_aload_3_0 G dX4_moveDoor_38 ?_
          refine v_aload_3_0 G dX4_moveDoor_39 ?_
          refine v_getR G vc_4 lk_X4_21 (fs_X4_3 (by first | assumption | exact imgP_TB)) dX4_moveDoor_40 ?_
          refine v_iload_3_1 G dX4_moveDoor_43 ?_
          refine v_iald G (as_X4_3 (by first | assumption | exact imgP_TB)) (by first | assumption | omega | exact oneB_in (by assumption) | exact wallB_in (by assumption) | exact oneB_m1 (by assumption) | decide) dX4_moveDoor_44 ?_
          refine v_iconst (v := (-1)) G dX4_moveDoor_45 (by decide) ?_
          refine v_cV2 G (C_X4_takeDoor (by first | assumption | omega | exact oneB_in (by assumption) | exact wallB_in (by assumption) | exact oneB_m1 (by assumption) | decide)) (by decide) md_X4_takeDoor in_X4_takeDoor (rv_X4 (by first | assumption | exact imgP_TB | exact shP_SB) rfl) ml_X4_75 (Nat.le_of_ble_eq_true rfl) dX4_moveDoor_46 ?_
          refine v_pop G dX4_moveDoor_49 rfl ?_
          refine v_aload_3_0 G dX4_moveDoor_50 ?_
          refine v_getR G vc_4 lk_X4_21 (fs_X4_3 (by first | assumption | exact imgP_TB)) dX4_moveDoor_51 ?_
          refine v_iload_3_1 G dX4_moveDoor_54 ?_
          refine v_iconst (v := (-1)) G dX4_moveDoor_55 (by decide) ?_
          refine v_iast G (as_X4_3 (by first | assumption | exact imgP_TB)) (by first | assumption | omega | exact oneB_in (by assumption) | exact wallB_in (by assumption) | exact oneB_m1 (by assumption) | decide) dX4_moveDoor_56 ?_
          refine v_aload_3_0 G dX4_moveDoor_57 ?_
          refine v_iload_3_1 G dX4_moveDoor_58 ?_
          refine v_iload_3_2 G dX4_moveDoor_59 ?_
          refine v_cV2 G (C_X4_hangDoor (by first | assumption | omega | exact oneB_in (by assumption) | exact wallB_in (by assumption) | exact oneB_m1 (by assumption) | decide)) (by decide) md_X4_hangDoor in_X4_hangDoor (rv_X4 (by first | assumption | exact imgP_TB | exact shP_SB) rfl) ml_X4_79 (Nat.le_of_ble_eq_true rfl) dX4_moveDoor_60 ?_
          exact v_zret G hQ dX4_moveDoor_63 (by first | exact Or.inl rfl | exact Or.inr rfl | exact bI_01 _ | assumption) (vDet.of (by simp only [mvB, mv1, h_5, h_13, h_23, h_33, if_true, if_false, Bool.false_eq_true, reduceIte, ite_self] <;> try rfl) (by simp only [mvW, mvOk, mv1, h_5, h_13, h_23, h_33, if_true, if_false, Bool.false_eq_true, reduceIte, ite_self] <;> try rfl))
        · refine v_iconst (v := nI 0) G dX4_moveDoor_36 (by decide) ?_
          exact v_zret G hQ dX4_moveDoor_37 (by first | exact Or.inl rfl | exact Or.inr rfl | exact bI_01 _ | assumption) (vDet.of (by simp only [mvB, mv1, h_5, h_13, h_23, h_33, if_true, if_false, Bool.false_eq_true, reduceIte, ite_self] <;> try rfl) (by simp only [mvW, mvOk, mv1, h_5, h_13, h_23, h_33, if_true, if_false, Bool.false_eq_true, reduceIte, ite_self] <;> try rfl))
def stateOf (a : Int32) : Int32 := if a = -1 then nI 0 else if a = -2 then nI 2 else nI 1
set_option maxHeartbeats 4000000 in
theorem C_X4_doorState {σ : vW} {t p : Nat} (hT : TB t) (hp : p < 5) : Ctr mX4_doorState 0 [.ref t, .int (nI p)] σ (vDet (some (.int (stateOf (σ (t + 4) p)))) σ) := by
  refine Ctr.intro (by decide) (fun α => Nat.le_of_ble_eq_true rfl) (fun x G hQ => ?_)
  have G : vG x RX4 cX4_doorState 2 (some .int) 0 := G
  show V x 0 [some (.ref t), some (.int (nI p))] [] σ
  refine v_aload_2_0 G dX4_doorState_0 ?_
  refine v_getR G vc_4 lk_X4_21 (fs_X4_3 (by first | assumption | exact imgP_TB)) dX4_doorState_1 ?_
  refine v_iload_2_1 G dX4_doorState_4 ?_
  refine v_ialdN G (as_X4_3 (by first | assumption | exact imgP_TB)) (by first | assumption | omega | exact oneB_in (by assumption) | exact wallB_in (by assumption) | exact oneB_m1 (by assumption) | decide) (by first | decide | omega) dX4_doorState_5 ?_
  refine v_iconst (v := (-1)) G dX4_doorState_6 (by decide) ?_
  refine v_icmp_ne (tgt := 14) G dX4_doorState_7 rfl (fun h_7 => ?_) (fun h_7 => ?_)
  · refine v_aload_2_0 G dX4_doorState_14 ?_
    refine v_getR G vc_4 lk_X4_21 (fs_X4_3 (by first | assumption | exact imgP_TB)) dX4_doorState_15 ?_
    refine v_iload_2_1 G dX4_doorState_18 ?_
    refine v_ialdN G (as_X4_3 (by first | assumption | exact imgP_TB)) (by first | assumption | omega | exact oneB_in (by assumption) | exact wallB_in (by assumption) | exact oneB_m1 (by assumption) | decide) (by first | decide | omega) dX4_doorState_19 ?_
    refine v_bipush (v := (-2)) G dX4_doorState_20 (by decide) ?_
    refine v_icmp_ne (tgt := 29) G dX4_doorState_22 rfl (fun h_22 => ?_) (fun h_22 => ?_)
    · refine v_iconst (v := nI 1) G dX4_doorState_29 (by decide) ?_
      exact v_iret G hQ dX4_doorState_30 (vDet.of (by simp only [stateOf, bI, h_7, h_22, if_true, if_false, Bool.false_eq_true, reduceIte] <;> try rfl) rfl)
    · refine v_iconst (v := nI 2) G dX4_doorState_25 (by decide) ?_
      refine v_goto (tgt := 30) G dX4_doorState_26 rfl ?_
      exact v_iret G hQ dX4_doorState_30 (vDet.of (by simp only [stateOf, bI, h_7, h_22, if_true, if_false, Bool.false_eq_true, reduceIte] <;> try rfl) rfl)
  · refine v_iconst (v := nI 0) G dX4_doorState_10 (by decide) ?_
    refine v_goto (tgt := 30) G dX4_doorState_11 rfl ?_
    exact v_iret G hQ dX4_doorState_30 (vDet.of (by simp only [stateOf, bI, h_7, if_true, if_false, Bool.false_eq_true, reduceIte] <;> try rfl) rfl)
def doorsTo (σ : vW) (t : Nat) (wh : Int32) : Nat → Int32
  | 0 => nI 0
  | k + 1 => if σ (t + 4) k = wh then doorsTo σ t wh k ||| nI 1 <<< (nI k &&& 31) else doorsTo σ t wh k
set_option maxHeartbeats 4000000 in
theorem C_X4_doorsAt {σ : vW} {t n : Nat} {wh : Int32} (hT : TB t) (hn : σ t 10 = nI n) (hn5 : n ≤ 5) : Ctr mX4_doorsAt 0 [.ref t, .int wh] σ (vDet (some (.int (doorsTo σ t wh n))) σ) := by
  refine Ctr.intro (by decide) (fun α => Nat.le_of_ble_eq_true rfl) (fun x G hQ => ?_)
  have G : vG x RX4 cX4_doorsAt 4 (some .int) 0 := G
  show V x 0 [some (.ref t), some (.int wh), none, none] [] σ
  refine v_iconst (v := nI 0) G dX4_doorsAt_0 (by decide) ?_
  refine v_istore_4_2 G dX4_doorsAt_1 rfl ?_
  refine v_iconst (v := nI 0) G dX4_doorsAt_2 (by decide) ?_
  refine v_istore_4_3 G dX4_doorsAt_3 rfl ?_
  refine v_for (pc := 4) (n) (fun k => ([some (.ref t), some (.int wh), some (.int (doorsTo σ t wh k)), some (.int (nI k))], σ)) (fun k hk ih => ?_) ?_
  · show V x 4 [some (.ref t), some (.int wh), some (.int (doorsTo σ t wh k)), some (.int (nI k))] [] σ
    have ih : V x 4 [some (.ref t), some (.int wh), some (.int (doorsTo σ t wh (k + 1))), some (.int (nI (k + 1)))] [] σ := ih
    refine v_iload_4_3 G dX4_doorsAt_4 ?_
    refine v_aload_4_0 G dX4_doorsAt_5 ?_
    refine v_getI G vc_4 lk_X4_48 (fs_X4_10 (by first | assumption | exact imgP_TB)) dX4_doorsAt_6 ?_
    refine v_icmp_ge (tgt := 34) G dX4_doorsAt_9 rfl (fun h_9 => absurd h_9 (by rw [hn]; exact nI_ge hk (by omega))) (fun h_9 => ?_)
    refine v_aload_4_0 G dX4_doorsAt_12 ?_
    refine v_getR G vc_4 lk_X4_21 (fs_X4_3 (by first | assumption | exact imgP_TB)) dX4_doorsAt_13 ?_
    refine v_iload_4_3 G dX4_doorsAt_16 ?_
    refine v_ialdN G (as_X4_3 (by first | assumption | exact imgP_TB)) (by first | assumption | omega | exact oneB_in (by assumption) | exact wallB_in (by assumption) | exact oneB_m1 (by assumption) | decide) (by first | decide | omega) dX4_doorsAt_17 ?_
    refine v_iload_4_1 G dX4_doorsAt_18 ?_
    refine v_icmp_ne (tgt := 28) G dX4_doorsAt_19 rfl (fun h_19 => ?_) (fun h_19 => ?_)
    · refine v_iincN_4_3 G dX4_doorsAt_28 rfl ?_
      refine v_goto (tgt := 4) G dX4_doorsAt_31 rfl ?_
      simp only [doorsTo, h_9, h_19, if_true, if_false, Bool.false_eq_true, reduceIte, Bool.and_true, Bool.true_and, Bool.false_and, Bool.and_false] at ih
      exact ih
    · refine v_iload_4_2 G dX4_doorsAt_22 ?_
      refine v_iconst (v := nI 1) G dX4_doorsAt_23 (by decide) ?_
      refine v_iload_4_3 G dX4_doorsAt_24 ?_
      refine v_ishl G dX4_doorsAt_25 ?_
      refine v_ior G dX4_doorsAt_26 ?_
      refine v_istore_4_2 G dX4_doorsAt_27 rfl ?_
      refine v_iincN_4_3 G dX4_doorsAt_28 rfl ?_
      refine v_goto (tgt := 4) G dX4_doorsAt_31 rfl ?_
      simp only [doorsTo, h_9, h_19, if_true, if_false, Bool.false_eq_true, reduceIte, Bool.and_true, Bool.true_and, Bool.false_and, Bool.and_false] at ih
      exact ih
  · show V x 4 [some (.ref t), some (.int wh), some (.int (doorsTo σ t wh n)), some (.int (nI n))] [] σ
    refine v_iload_4_3 G dX4_doorsAt_4 ?_
    refine v_aload_4_0 G dX4_doorsAt_5 ?_
    refine v_getI G vc_4 lk_X4_48 (fs_X4_10 (by first | assumption | exact imgP_TB)) dX4_doorsAt_6 ?_
    refine v_icmp_ge (tgt := 34) G dX4_doorsAt_9 rfl (fun h_9 => ?_) (fun h_9 => absurd (by rw [hn]; exact nI_le (Nat.le_refl _) (by omega)) h_9)
    refine v_iload_4_2 G dX4_doorsAt_34 ?_
    exact v_iret G hQ dX4_doorsAt_35 (vDet.of rfl rfl)
def hungTo (σ : vW) (t : Nat) : Nat → Int32
  | 0 => nI 0
  | k + 1 => if σ (t + 7) k = -1 then hungTo σ t k else hungTo σ t k ||| nI 1 <<< (nI k &&& 31)
set_option maxHeartbeats 4000000 in
theorem C_X4_hungWalls {σ : vW} {t m : Nat} (hT : TB t) (hm : σ t 11 = nI m) (hm9 : m ≤ 9) : Ctr mX4_hungWalls 0 [.ref t] σ (vDet (some (.int (hungTo σ t m))) σ) := by
  refine Ctr.intro (by decide) (fun α => Nat.le_of_ble_eq_true rfl) (fun x G hQ => ?_)
  have G : vG x RX4 cX4_hungWalls 3 (some .int) 0 := G
  show V x 0 [some (.ref t), none, none] [] σ
  refine v_iconst (v := nI 0) G dX4_hungWalls_0 (by decide) ?_
  refine v_istore_3_1 G dX4_hungWalls_1 rfl ?_
  refine v_iconst (v := nI 0) G dX4_hungWalls_2 (by decide) ?_
  refine v_istore_3_2 G dX4_hungWalls_3 rfl ?_
  refine v_for (pc := 4) (m) (fun k => ([some (.ref t), some (.int (hungTo σ t k)), some (.int (nI k))], σ)) (fun k hk ih => ?_) ?_
  · show V x 4 [some (.ref t), some (.int (hungTo σ t k)), some (.int (nI k))] [] σ
    have ih : V x 4 [some (.ref t), some (.int (hungTo σ t (k + 1))), some (.int (nI (k + 1)))] [] σ := ih
    refine v_iload_3_2 G dX4_hungWalls_4 ?_
    refine v_aload_3_0 G dX4_hungWalls_5 ?_
    refine v_getI G vc_4 lk_X4_52 (fs_X4_11 (by first | assumption | exact imgP_TB)) dX4_hungWalls_6 ?_
    refine v_icmp_ge (tgt := 34) G dX4_hungWalls_9 rfl (fun h_9 => absurd h_9 (by rw [hm]; exact nI_ge hk (by omega))) (fun h_9 => ?_)
    refine v_aload_3_0 G dX4_hungWalls_12 ?_
    refine v_getR G vc_4 lk_X4_30 (fs_X4_6 (by first | assumption | exact imgP_TB)) dX4_hungWalls_13 ?_
    refine v_iload_3_2 G dX4_hungWalls_16 ?_
    refine v_ialdN G (as_X4_6 (by first | assumption | exact imgP_TB)) (by first | assumption | omega | exact oneB_in (by assumption) | exact wallB_in (by assumption) | exact oneB_m1 (by assumption) | decide) (by first | decide | omega) dX4_hungWalls_17 ?_
    refine v_iconst (v := (-1)) G dX4_hungWalls_18 (by decide) ?_
    refine v_icmp_eq (tgt := 28) G dX4_hungWalls_19 rfl (fun h_19 => ?_) (fun h_19 => ?_)
    · refine v_iincN_3_2 G dX4_hungWalls_28 rfl ?_
      refine v_goto (tgt := 4) G dX4_hungWalls_31 rfl ?_
      simp only [hungTo, h_9, h_19, if_true, if_false, Bool.false_eq_true, reduceIte, Bool.and_true, Bool.true_and, Bool.false_and, Bool.and_false] at ih
      exact ih
    · refine v_iload_3_1 G dX4_hungWalls_22 ?_
      refine v_iconst (v := nI 1) G dX4_hungWalls_23 (by decide) ?_
      refine v_iload_3_2 G dX4_hungWalls_24 ?_
      refine v_ishl G dX4_hungWalls_25 ?_
      refine v_ior G dX4_hungWalls_26 ?_
      refine v_istore_3_1 G dX4_hungWalls_27 rfl ?_
      refine v_iincN_3_2 G dX4_hungWalls_28 rfl ?_
      refine v_goto (tgt := 4) G dX4_hungWalls_31 rfl ?_
      simp only [hungTo, h_9, h_19, if_true, if_false, Bool.false_eq_true, reduceIte, Bool.and_true, Bool.true_and, Bool.false_and, Bool.and_false] at ih
      exact ih
  · show V x 4 [some (.ref t), some (.int (hungTo σ t m)), some (.int (nI m))] [] σ
    refine v_iload_3_2 G dX4_hungWalls_4 ?_
    refine v_aload_3_0 G dX4_hungWalls_5 ?_
    refine v_getI G vc_4 lk_X4_52 (fs_X4_11 (by first | assumption | exact imgP_TB)) dX4_hungWalls_6 ?_
    refine v_icmp_ge (tgt := 34) G dX4_hungWalls_9 rfl (fun h_9 => ?_) (fun h_9 => absurd (by rw [hm]; exact nI_le (Nat.le_refl _) (by omega)) h_9)
    refine v_iload_3_1 G dX4_hungWalls_34 ?_
    exact v_iret G hQ dX4_hungWalls_35 (vDet.of rfl rfl)
def letsB (σ : vW) (t : Nat) (o p : Int32) : Bool := if oneB (σ t 10) o = true then (if oneB (σ t 10) p = true then
  (if σ (t + 1) o.toNatClampNeg = nI 0 then (if p = o then true else false) else if σ (t + 1) o.toNatClampNeg = nI 1 then (if σ (t + 2) p.toNatClampNeg = σ (t + 2) o.toNatClampNeg then true else false) else if σ (t + 1) o.toNatClampNeg = nI 2 then (if σ (t + 2) p.toNatClampNeg = σ (t + 2) o.toNatClampNeg then false else true) else (if p = o then false else true)) else false) else false
set_option maxHeartbeats 4000000 in
theorem C_X4_lets {σ : vW} {t : Nat} {o p : Int32} (hT : TB t) : Ctr mX4_lets 1 [.ref t, .int o, .int p] σ (vDet (some (.int (bI (letsB σ t o p)))) σ) := by
  refine Ctr.intro (by decide) (fun α => Nat.le_of_ble_eq_true rfl) (fun x G hQ => ?_)
  have G : vG x RX4 cX4_lets 3 (some .boolean) 1 := G
  show V x 0 [some (.ref t), some (.int o), some (.int p)] [] σ
  refine v_aload_3_0 G dX4_lets_0 ?_
  refine v_iload_3_1 G dX4_lets_1 ?_
  refine v_cV1 G (C_X4_isOne (by first | assumption | omega | exact oneB_in (by assumption) | exact wallB_in (by assumption) | exact oneB_m1 (by assumption) | decide)) (by decide) md_X4_isOne in_X4_isOne (rv_X4 (by first | assumption | exact imgP_TB | exact shP_SB) rfl) ml_X4_64 (Nat.le_of_ble_eq_true rfl) dX4_lets_2 ?_
  refine v_ifB_eq (tgt := 16) G dX4_lets_5 rfl (fun h_5 => ?_) (fun h_5 => ?_)
  · refine v_iconst (v := nI 0) G dX4_lets_16 (by decide) ?_
    exact v_zret G hQ dX4_lets_17 (by first | exact Or.inl rfl | exact Or.inr rfl | exact bI_01 _ | assumption) (vDet.of (by simp only [letsB, bI, h_5, if_true, if_false, Bool.false_eq_true, reduceIte] <;> try rfl) rfl)
  · refine v_aload_3_0 G dX4_lets_8 ?_
    refine v_iload_3_2 G dX4_lets_9 ?_
    refine v_cV1 G (C_X4_isOne (by first | assumption | omega | exact oneB_in (by assumption) | exact wallB_in (by assumption) | exact oneB_m1 (by assumption) | decide)) (by decide) md_X4_isOne in_X4_isOne (rv_X4 (by first | assumption | exact imgP_TB | exact shP_SB) rfl) ml_X4_64 (Nat.le_of_ble_eq_true rfl) dX4_lets_10 ?_
    refine v_ifB_ne (tgt := 18) G dX4_lets_13 rfl (fun h_13 => ?_) (fun h_13 => ?_)
    · refine v_aload_3_0 G dX4_lets_18 ?_
      refine v_getR G vc_4 lk_X4_9 (fs_X4_0 (by first | assumption | exact imgP_TB)) dX4_lets_19 ?_
      refine v_iload_3_1 G dX4_lets_22 ?_
      refine v_iald G (as_X4_0 (by first | assumption | exact imgP_TB)) (by first | assumption | omega | exact oneB_in (by assumption) | exact wallB_in (by assumption) | exact oneB_m1 (by assumption) | decide) dX4_lets_23 ?_
      refine v_tabC (i := 0) (tgt := 52) G dX4_lets_24 rfl rfl (by decide) (by decide) (fun h_24_0 => ?_) (fun h_24_0 => ?_)
      · refine v_iload_3_2 G dX4_lets_52 ?_
        refine v_iload_3_1 G dX4_lets_53 ?_
        refine v_icmp_ne (tgt := 61) G dX4_lets_54 rfl (fun h_54 => ?_) (fun h_54 => ?_)
        · refine v_iconst (v := nI 0) G dX4_lets_61 (by decide) ?_
          exact v_zret G hQ dX4_lets_62 (by first | exact Or.inl rfl | exact Or.inr rfl | exact bI_01 _ | assumption) (vDet.of (by simp only [letsB, bI, h_5, h_13, h_24_0, h_54, if_true, if_false, Bool.false_eq_true, reduceIte] <;> try rfl) rfl)
        · refine v_iconst (v := nI 1) G dX4_lets_57 (by decide) ?_
          refine v_goto (tgt := 62) G dX4_lets_58 rfl ?_
          exact v_zret G hQ dX4_lets_62 (by first | exact Or.inl rfl | exact Or.inr rfl | exact bI_01 _ | assumption) (vDet.of (by simp only [letsB, bI, h_5, h_13, h_24_0, h_54, if_true, if_false, Bool.false_eq_true, reduceIte] <;> try rfl) rfl)
      refine v_tabC (i := 1) (tgt := 63) G dX4_lets_24 rfl rfl (by decide) (by decide) (fun h_24_1 => ?_) (fun h_24_1 => ?_)
      · refine v_aload_3_0 G dX4_lets_63 ?_
        refine v_getR G vc_4 lk_X4_15 (fs_X4_1 (by first | assumption | exact imgP_TB)) dX4_lets_64 ?_
        refine v_iload_3_2 G dX4_lets_67 ?_
        refine v_iald G (as_X4_1 (by first | assumption | exact imgP_TB)) (by first | assumption | omega | exact oneB_in (by assumption) | exact wallB_in (by assumption) | exact oneB_m1 (by assumption) | decide) dX4_lets_68 ?_
        refine v_aload_3_0 G dX4_lets_69 ?_
        refine v_getR G vc_4 lk_X4_15 (fs_X4_1 (by first | assumption | exact imgP_TB)) dX4_lets_70 ?_
        refine v_iload_3_1 G dX4_lets_73 ?_
        refine v_iald G (as_X4_1 (by first | assumption | exact imgP_TB)) (by first | assumption | omega | exact oneB_in (by assumption) | exact wallB_in (by assumption) | exact oneB_m1 (by assumption) | decide) dX4_lets_74 ?_
        refine v_icmp_ne (tgt := 82) G dX4_lets_75 rfl (fun h_75 => ?_) (fun h_75 => ?_)
        · refine v_iconst (v := nI 0) G dX4_lets_82 (by decide) ?_
          exact v_zret G hQ dX4_lets_83 (by first | exact Or.inl rfl | exact Or.inr rfl | exact bI_01 _ | assumption) (vDet.of (by simp only [letsB, bI, h_5, h_13, h_24_0, h_24_1, h_75, if_true, if_false, Bool.false_eq_true, reduceIte] <;> try rfl) rfl)
        · refine v_iconst (v := nI 1) G dX4_lets_78 (by decide) ?_
          refine v_goto (tgt := 83) G dX4_lets_79 rfl ?_
          exact v_zret G hQ dX4_lets_83 (by first | exact Or.inl rfl | exact Or.inr rfl | exact bI_01 _ | assumption) (vDet.of (by simp only [letsB, bI, h_5, h_13, h_24_0, h_24_1, h_75, if_true, if_false, Bool.false_eq_true, reduceIte] <;> try rfl) rfl)
      refine v_tabC (i := 2) (tgt := 84) G dX4_lets_24 rfl rfl (by decide) (by decide) (fun h_24_2 => ?_) (fun h_24_2 => ?_)
      · refine v_aload_3_0 G dX4_lets_84 ?_
        refine v_getR G vc_4 lk_X4_15 (fs_X4_1 (by first | assumption | exact imgP_TB)) dX4_lets_85 ?_
        refine v_iload_3_2 G dX4_lets_88 ?_
        refine v_iald G (as_X4_1 (by first | assumption | exact imgP_TB)) (by first | assumption | omega | exact oneB_in (by assumption) | exact wallB_in (by assumption) | exact oneB_m1 (by assumption) | decide) dX4_lets_89 ?_
        refine v_aload_3_0 G dX4_lets_90 ?_
        refine v_getR G vc_4 lk_X4_15 (fs_X4_1 (by first | assumption | exact imgP_TB)) dX4_lets_91 ?_
        refine v_iload_3_1 G dX4_lets_94 ?_
        refine v_iald G (as_X4_1 (by first | assumption | exact imgP_TB)) (by first | assumption | omega | exact oneB_in (by assumption) | exact wallB_in (by assumption) | exact oneB_m1 (by assumption) | decide) dX4_lets_95 ?_
        refine v_icmp_eq (tgt := 103) G dX4_lets_96 rfl (fun h_96 => ?_) (fun h_96 => ?_)
        · refine v_iconst (v := nI 0) G dX4_lets_103 (by decide) ?_
          exact v_zret G hQ dX4_lets_104 (by first | exact Or.inl rfl | exact Or.inr rfl | exact bI_01 _ | assumption) (vDet.of (by simp only [letsB, bI, h_5, h_13, h_24_0, h_24_1, h_24_2, h_96, if_true, if_false, Bool.false_eq_true, reduceIte] <;> try rfl) rfl)
        · refine v_iconst (v := nI 1) G dX4_lets_99 (by decide) ?_
          refine v_goto (tgt := 104) G dX4_lets_100 rfl ?_
          exact v_zret G hQ dX4_lets_104 (by first | exact Or.inl rfl | exact Or.inr rfl | exact bI_01 _ | assumption) (vDet.of (by simp only [letsB, bI, h_5, h_13, h_24_0, h_24_1, h_24_2, h_96, if_true, if_false, Bool.false_eq_true, reduceIte] <;> try rfl) rfl)
      refine v_tabE (n := 3) (tgt := 105) G dX4_lets_24 (fun i hi => by rcases (show i = 0 ∨ i = 1 ∨ i = 2 by omega) with rfl | rfl | rfl <;> assumption) rfl rfl (by decide) ?_
      refine v_iload_3_2 G dX4_lets_105 ?_
      refine v_iload_3_1 G dX4_lets_106 ?_
      refine v_icmp_eq (tgt := 114) G dX4_lets_107 rfl (fun h_107 => ?_) (fun h_107 => ?_)
      · refine v_iconst (v := nI 0) G dX4_lets_114 (by decide) ?_
        exact v_zret G hQ dX4_lets_115 (by first | exact Or.inl rfl | exact Or.inr rfl | exact bI_01 _ | assumption) (vDet.of (by simp only [letsB, bI, h_5, h_13, h_24_0, h_24_1, h_24_2, h_107, if_true, if_false, Bool.false_eq_true, reduceIte] <;> try rfl) rfl)
      · refine v_iconst (v := nI 1) G dX4_lets_110 (by decide) ?_
        refine v_goto (tgt := 115) G dX4_lets_111 rfl ?_
        exact v_zret G hQ dX4_lets_115 (by first | exact Or.inl rfl | exact Or.inr rfl | exact bI_01 _ | assumption) (vDet.of (by simp only [letsB, bI, h_5, h_13, h_24_0, h_24_1, h_24_2, h_107, if_true, if_false, Bool.false_eq_true, reduceIte] <;> try rfl) rfl)
    · refine v_iconst (v := nI 0) G dX4_lets_16 (by decide) ?_
      exact v_zret G hQ dX4_lets_17 (by first | exact Or.inl rfl | exact Or.inr rfl | exact bI_01 _ | assumption) (vDet.of (by simp only [letsB, bI, h_5, h_13, if_true, if_false, Bool.false_eq_true, reduceIte] <;> try rfl) rfl)
def whomTo (σ : vW) (t : Nat) (o : Int32) : Nat → Int32
  | 0 => nI 0
  | k + 1 => if letsB σ t o (nI k) = true then whomTo σ t o k ||| nI 1 <<< (nI k &&& 31) else whomTo σ t o k
set_option maxHeartbeats 4000000 in
theorem C_X4_whomLets {σ : vW} {t n w : Nat} (hT : TB t) (hw : w < 9) (hn : σ t 10 = nI n) (hn5 : n ≤ 5) : Ctr mX4_whomLets 2 [.ref t, .int (nI w)] σ (vDet (some (.int (whomTo σ t (σ (t + 7) w) n))) σ) := by
  refine Ctr.intro (by decide) (fun α => Nat.le_of_ble_eq_true rfl) (fun x G hQ => ?_)
  have G : vG x RX4 cX4_whomLets 4 (some .int) 2 := G
  show V x 0 [some (.ref t), some (.int (nI w)), none, none] [] σ
  refine v_iconst (v := nI 0) G dX4_whomLets_0 (by decide) ?_
  refine v_istore_4_2 G dX4_whomLets_1 rfl ?_
  refine v_iconst (v := nI 0) G dX4_whomLets_2 (by decide) ?_
  refine v_istore_4_3 G dX4_whomLets_3 rfl ?_
  refine v_for (pc := 4) (n) (fun k => ([some (.ref t), some (.int (nI w)), some (.int (whomTo σ t (σ (t + 7) w) k)), some (.int (nI k))], σ)) (fun k hk ih => ?_) ?_
  · show V x 4 [some (.ref t), some (.int (nI w)), some (.int (whomTo σ t (σ (t + 7) w) k)), some (.int (nI k))] [] σ
    have ih : V x 4 [some (.ref t), some (.int (nI w)), some (.int (whomTo σ t (σ (t + 7) w) (k + 1))), some (.int (nI (k + 1)))] [] σ := ih
    refine v_iload_4_3 G dX4_whomLets_4 ?_
    refine v_aload_4_0 G dX4_whomLets_5 ?_
    refine v_getI G vc_4 lk_X4_48 (fs_X4_10 (by first | assumption | exact imgP_TB)) dX4_whomLets_6 ?_
    refine v_icmp_ge (tgt := 38) G dX4_whomLets_9 rfl (fun h_9 => absurd h_9 (by rw [hn]; exact nI_ge hk (by omega))) (fun h_9 => ?_)
    refine v_aload_4_0 G dX4_whomLets_12 ?_
    refine v_aload_4_0 G dX4_whomLets_13 ?_
    refine v_getR G vc_4 lk_X4_30 (fs_X4_6 (by first | assumption | exact imgP_TB)) dX4_whomLets_14 ?_
    refine v_iload_4_1 G dX4_whomLets_17 ?_
    refine v_ialdN G (as_X4_6 (by first | assumption | exact imgP_TB)) (by first | assumption | omega | exact oneB_in (by assumption) | exact wallB_in (by assumption) | exact oneB_m1 (by assumption) | decide) (by first | decide | omega) dX4_whomLets_18 ?_
    refine v_iload_4_3 G dX4_whomLets_19 ?_
    refine v_cV2 G (C_X4_lets (by first | assumption | omega | exact oneB_in (by assumption) | exact wallB_in (by assumption) | exact oneB_m1 (by assumption) | decide)) (by decide) md_X4_lets in_X4_lets (rv_X4 (by first | assumption | exact imgP_TB | exact shP_SB) rfl) ml_X4_82 (Nat.le_of_ble_eq_true rfl) dX4_whomLets_20 ?_
    refine v_ifB_eq (tgt := 32) G dX4_whomLets_23 rfl (fun h_23 => ?_) (fun h_23 => ?_)
    · refine v_iincN_4_3 G dX4_whomLets_32 rfl ?_
      refine v_goto (tgt := 4) G dX4_whomLets_35 rfl ?_
      simp only [whomTo, h_9, h_23, if_true, if_false, Bool.false_eq_true, reduceIte, Bool.and_true, Bool.true_and, Bool.false_and, Bool.and_false] at ih
      exact ih
    · refine v_iload_4_2 G dX4_whomLets_26 ?_
      refine v_iconst (v := nI 1) G dX4_whomLets_27 (by decide) ?_
      refine v_iload_4_3 G dX4_whomLets_28 ?_
      refine v_ishl G dX4_whomLets_29 ?_
      refine v_ior G dX4_whomLets_30 ?_
      refine v_istore_4_2 G dX4_whomLets_31 rfl ?_
      refine v_iincN_4_3 G dX4_whomLets_32 rfl ?_
      refine v_goto (tgt := 4) G dX4_whomLets_35 rfl ?_
      simp only [whomTo, h_9, h_23, if_true, if_false, Bool.false_eq_true, reduceIte, Bool.and_true, Bool.true_and, Bool.false_and, Bool.and_false] at ih
      exact ih
  · show V x 4 [some (.ref t), some (.int (nI w)), some (.int (whomTo σ t (σ (t + 7) w) n)), some (.int (nI n))] [] σ
    refine v_iload_4_3 G dX4_whomLets_4 ?_
    refine v_aload_4_0 G dX4_whomLets_5 ?_
    refine v_getI G vc_4 lk_X4_48 (fs_X4_10 (by first | assumption | exact imgP_TB)) dX4_whomLets_6 ?_
    refine v_icmp_ge (tgt := 38) G dX4_whomLets_9 rfl (fun h_9 => ?_) (fun h_9 => absurd (by rw [hn]; exact nI_le (Nat.le_refl _) (by omega)) h_9)
    refine v_iload_4_2 G dX4_whomLets_38 ?_
    exact v_iret G hQ dX4_whomLets_39 (vDet.of rfl rfl)
def passTo (σ : vW) (t : Nat) (p : Int32) : Nat → Int32
  | 0 => nI 0
  | k + 1 => if letsB σ t (σ (t + 7) k) p = true then passTo σ t p k ||| nI 1 <<< (nI k &&& 31) else passTo σ t p k
set_option maxHeartbeats 4000000 in
theorem C_X4_passed {σ : vW} {t m : Nat} {p : Int32} (hT : TB t) (hm : σ t 11 = nI m) (hm9 : m ≤ 9) : Ctr mX4_passed 2 [.ref t, .int p] σ (vDet (some (.int (passTo σ t p m))) σ) := by
  refine Ctr.intro (by decide) (fun α => Nat.le_of_ble_eq_true rfl) (fun x G hQ => ?_)
  have G : vG x RX4 cX4_passed 4 (some .int) 2 := G
  show V x 0 [some (.ref t), some (.int p), none, none] [] σ
  refine v_iconst (v := nI 0) G dX4_passed_0 (by decide) ?_
  refine v_istore_4_2 G dX4_passed_1 rfl ?_
  refine v_iconst (v := nI 0) G dX4_passed_2 (by decide) ?_
  refine v_istore_4_3 G dX4_passed_3 rfl ?_
  refine v_for (pc := 4) (m) (fun k => ([some (.ref t), some (.int p), some (.int (passTo σ t p k)), some (.int (nI k))], σ)) (fun k hk ih => ?_) ?_
  · show V x 4 [some (.ref t), some (.int p), some (.int (passTo σ t p k)), some (.int (nI k))] [] σ
    have ih : V x 4 [some (.ref t), some (.int p), some (.int (passTo σ t p (k + 1))), some (.int (nI (k + 1)))] [] σ := ih
    refine v_iload_4_3 G dX4_passed_4 ?_
    refine v_aload_4_0 G dX4_passed_5 ?_
    refine v_getI G vc_4 lk_X4_52 (fs_X4_11 (by first | assumption | exact imgP_TB)) dX4_passed_6 ?_
    refine v_icmp_ge (tgt := 38) G dX4_passed_9 rfl (fun h_9 => absurd h_9 (by rw [hm]; exact nI_ge hk (by omega))) (fun h_9 => ?_)
    refine v_aload_4_0 G dX4_passed_12 ?_
    refine v_aload_4_0 G dX4_passed_13 ?_
    refine v_getR G vc_4 lk_X4_30 (fs_X4_6 (by first | assumption | exact imgP_TB)) dX4_passed_14 ?_
    refine v_iload_4_3 G dX4_passed_17 ?_
    refine v_ialdN G (as_X4_6 (by first | assumption | exact imgP_TB)) (by first | assumption | omega | exact oneB_in (by assumption) | exact wallB_in (by assumption) | exact oneB_m1 (by assumption) | decide) (by first | decide | omega) dX4_passed_18 ?_
    refine v_iload_4_1 G dX4_passed_19 ?_
    refine v_cV2 G (C_X4_lets (by first | assumption | omega | exact oneB_in (by assumption) | exact wallB_in (by assumption) | exact oneB_m1 (by assumption) | decide)) (by decide) md_X4_lets in_X4_lets (rv_X4 (by first | assumption | exact imgP_TB | exact shP_SB) rfl) ml_X4_82 (Nat.le_of_ble_eq_true rfl) dX4_passed_20 ?_
    refine v_ifB_eq (tgt := 32) G dX4_passed_23 rfl (fun h_23 => ?_) (fun h_23 => ?_)
    · refine v_iincN_4_3 G dX4_passed_32 rfl ?_
      refine v_goto (tgt := 4) G dX4_passed_35 rfl ?_
      simp only [passTo, h_9, h_23, if_true, if_false, Bool.false_eq_true, reduceIte, Bool.and_true, Bool.true_and, Bool.false_and, Bool.and_false] at ih
      exact ih
    · refine v_iload_4_2 G dX4_passed_26 ?_
      refine v_iconst (v := nI 1) G dX4_passed_27 (by decide) ?_
      refine v_iload_4_3 G dX4_passed_28 ?_
      refine v_ishl G dX4_passed_29 ?_
      refine v_ior G dX4_passed_30 ?_
      refine v_istore_4_2 G dX4_passed_31 rfl ?_
      refine v_iincN_4_3 G dX4_passed_32 rfl ?_
      refine v_goto (tgt := 4) G dX4_passed_35 rfl ?_
      simp only [passTo, h_9, h_23, if_true, if_false, Bool.false_eq_true, reduceIte, Bool.and_true, Bool.true_and, Bool.false_and, Bool.and_false] at ih
      exact ih
  · show V x 4 [some (.ref t), some (.int p), some (.int (passTo σ t p m)), some (.int (nI m))] [] σ
    refine v_iload_4_3 G dX4_passed_4 ?_
    refine v_aload_4_0 G dX4_passed_5 ?_
    refine v_getI G vc_4 lk_X4_52 (fs_X4_11 (by first | assumption | exact imgP_TB)) dX4_passed_6 ?_
    refine v_icmp_ge (tgt := 38) G dX4_passed_9 rfl (fun h_9 => ?_) (fun h_9 => absurd (by rw [hm]; exact nI_le (Nat.le_refl _) (by omega)) h_9)
    refine v_iload_4_2 G dX4_passed_38 ?_
    exact v_iret G hQ dX4_passed_39 (vDet.of rfl rfl)
def passIf (σ : vW) (t : Nat) (h w p : Int32) (m : Nat) : Int32 := if letsB σ t h p = true then passTo σ t p m ||| nI 1 <<< (w &&& 31) else passTo σ t p m
set_option maxHeartbeats 4000000 in
theorem C_X4_passedIfHung {σ : vW} {t m : Nat} {h w p : Int32} (hT : TB t) (hm : σ t 11 = nI m) (hm9 : m ≤ 9) : Ctr mX4_passedIfHung 3 [.ref t, .int h, .int w, .int p] σ (vDet (some (.int (passIf σ t h w p m))) σ) := by
  refine Ctr.intro (by decide) (fun α => Nat.le_of_ble_eq_true rfl) (fun x G hQ => ?_)
  have G : vG x RX4 cX4_passedIfHung 4 (some .int) 3 := G
  show V x 0 [some (.ref t), some (.int h), some (.int w), some (.int p)] [] σ
  refine v_aload_4_0 G dX4_passedIfHung_0 ?_
  refine v_iload_4_1 G dX4_passedIfHung_1 ?_
  refine v_iload_4_3 G dX4_passedIfHung_2 ?_
  refine v_cV2 G (C_X4_lets (by first | assumption | omega | exact oneB_in (by assumption) | exact wallB_in (by assumption) | exact oneB_m1 (by assumption) | decide)) (by decide) md_X4_lets in_X4_lets (rv_X4 (by first | assumption | exact imgP_TB | exact shP_SB) rfl) ml_X4_82 (Nat.le_of_ble_eq_true rfl) dX4_passedIfHung_3 ?_
  refine v_ifB_eq (tgt := 21) G dX4_passedIfHung_6 rfl (fun h_6 => ?_) (fun h_6 => ?_)
  · refine v_aload_4_0 G dX4_passedIfHung_21 ?_
    refine v_iload_4_3 G dX4_passedIfHung_22 ?_
    refine v_cV1 G (C_X4_passed (by first | assumption | omega | exact oneB_in (by assumption) | exact wallB_in (by assumption) | exact oneB_m1 (by assumption) | decide) (by first | assumption | omega | exact oneB_in (by assumption) | exact wallB_in (by assumption) | exact oneB_m1 (by assumption) | decide) (by first | assumption | omega | exact oneB_in (by assumption) | exact wallB_in (by assumption) | exact oneB_m1 (by assumption) | decide)) (by decide) md_X4_passed in_X4_passed (rv_X4 (by first | assumption | exact imgP_TB | exact shP_SB) rfl) ml_X4_85 (Nat.le_of_ble_eq_true rfl) dX4_passedIfHung_23 ?_
    exact v_iret G hQ dX4_passedIfHung_26 (vDet.of (by simp only [passIf, bI, h_6, if_true, if_false, Bool.false_eq_true, reduceIte] <;> try rfl) rfl)
  · refine v_aload_4_0 G dX4_passedIfHung_9 ?_
    refine v_iload_4_3 G dX4_passedIfHung_10 ?_
    refine v_cV1 G (C_X4_passed (by first | assumption | omega | exact oneB_in (by assumption) | exact wallB_in (by assumption) | exact oneB_m1 (by assumption) | decide) (by first | assumption | omega | exact oneB_in (by assumption) | exact wallB_in (by assumption) | exact oneB_m1 (by assumption) | decide) (by first | assumption | omega | exact oneB_in (by assumption) | exact wallB_in (by assumption) | exact oneB_m1 (by assumption) | decide)) (by decide) md_X4_passed in_X4_passed (rv_X4 (by first | assumption | exact imgP_TB | exact shP_SB) rfl) ml_X4_85 (Nat.le_of_ble_eq_true rfl) dX4_passedIfHung_11 ?_
    refine v_iconst (v := nI 1) G dX4_passedIfHung_14 (by decide) ?_
    refine v_iload_4_2 G dX4_passedIfHung_15 ?_
    refine v_ishl G dX4_passedIfHung_16 ?_
    refine v_ior G dX4_passedIfHung_17 ?_
    refine v_goto (tgt := 26) G dX4_passedIfHung_18 rfl ?_
    exact v_iret G hQ dX4_passedIfHung_26 (vDet.of (by simp only [passIf, bI, h_6, if_true, if_false, Bool.false_eq_true, reduceIte] <;> try rfl) rfl)
