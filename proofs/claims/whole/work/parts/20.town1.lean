/-! Town: who there is, doors -/
def sh1 (w : Int32) : Int32 := nI 1 <<< (w &&& 31)
def oneB (n p : Int32) : Bool := if p < 0 then false else if n ≤ p then false else if nI 5 ≤ p then false else true
def wallB (m w : Int32) : Bool := if w < 0 then false else if m ≤ w then false else if nI 9 ≤ w then false else true
set_option maxHeartbeats 4000000 in
theorem C_X4_isOne {σ : vW} {t : Nat} {p : Int32} (hT : TB t) : Ctr mX4_isOne 0 [.ref t, .int p] σ (vDet (some (.int (bI (oneB (σ t 10) p)))) σ) := by
  refine Ctr.intro (by decide) (fun α => Nat.le_of_ble_eq_true rfl) (fun x G hQ => ?_)
  have G : vG x RX4 cX4_isOne 2 (some .boolean) 0 := G
  show V x 0 [some (.ref t), some (.int p)] [] σ
  refine v_iload_2_1 G dX4_isOne_0 ?_
  refine v_if_lt (tgt := 21) G dX4_isOne_1 rfl (fun h_1 => ?_) (fun h_1 => ?_)
  · refine v_iconst (v := nI 0) G dX4_isOne_21 (by decide) ?_
    exact v_zret G hQ dX4_isOne_22 (by first | exact Or.inl rfl | exact Or.inr rfl | exact bI_01 _ | assumption) (vDet.of (by simp [oneB, bI, *]) rfl)
  · refine v_iload_2_1 G dX4_isOne_4 ?_
    refine v_aload_2_0 G dX4_isOne_5 ?_
    refine v_getI G vc_4 lk_X4_48 (fs_X4_10 (by assumption)) dX4_isOne_6 ?_
    refine v_icmp_ge (tgt := 21) G dX4_isOne_9 rfl (fun h_9 => ?_) (fun h_9 => ?_)
    · refine v_iconst (v := nI 0) G dX4_isOne_21 (by decide) ?_
      exact v_zret G hQ dX4_isOne_22 (by first | exact Or.inl rfl | exact Or.inr rfl | exact bI_01 _ | assumption) (vDet.of (by simp [oneB, bI, *]) rfl)
    · refine v_iload_2_1 G dX4_isOne_12 ?_
      refine v_iconst (v := nI 5) G dX4_isOne_13 (by decide) ?_
      refine v_icmp_ge (tgt := 21) G dX4_isOne_14 rfl (fun h_14 => ?_) (fun h_14 => ?_)
      · refine v_iconst (v := nI 0) G dX4_isOne_21 (by decide) ?_
        exact v_zret G hQ dX4_isOne_22 (by first | exact Or.inl rfl | exact Or.inr rfl | exact bI_01 _ | assumption) (vDet.of (by simp [oneB, bI, *]) rfl)
      · refine v_iconst (v := nI 1) G dX4_isOne_17 (by decide) ?_
        refine v_goto (tgt := 22) G dX4_isOne_18 rfl ?_
        exact v_zret G hQ dX4_isOne_22 (by first | exact Or.inl rfl | exact Or.inr rfl | exact bI_01 _ | assumption) (vDet.of (by simp [oneB, bI, *]) rfl)
set_option maxHeartbeats 4000000 in
theorem C_X4_isWall {σ : vW} {t : Nat} {p : Int32} (hT : TB t) : Ctr mX4_isWall 0 [.ref t, .int p] σ (vDet (some (.int (bI (wallB (σ t 11) p)))) σ) := by
  refine Ctr.intro (by decide) (fun α => Nat.le_of_ble_eq_true rfl) (fun x G hQ => ?_)
  have G : vG x RX4 cX4_isWall 2 (some .boolean) 0 := G
  show V x 0 [some (.ref t), some (.int p)] [] σ
  refine v_iload_2_1 G dX4_isWall_0 ?_
  refine v_if_lt (tgt := 22) G dX4_isWall_1 rfl (fun h_1 => ?_) (fun h_1 => ?_)
  · refine v_iconst (v := nI 0) G dX4_isWall_22 (by decide) ?_
    exact v_zret G hQ dX4_isWall_23 (by first | exact Or.inl rfl | exact Or.inr rfl | exact bI_01 _ | assumption) (vDet.of (by simp [wallB, bI, *]) rfl)
  · refine v_iload_2_1 G dX4_isWall_4 ?_
    refine v_aload_2_0 G dX4_isWall_5 ?_
    refine v_getI G vc_4 lk_X4_52 (fs_X4_11 (by assumption)) dX4_isWall_6 ?_
    refine v_icmp_ge (tgt := 22) G dX4_isWall_9 rfl (fun h_9 => ?_) (fun h_9 => ?_)
    · refine v_iconst (v := nI 0) G dX4_isWall_22 (by decide) ?_
      exact v_zret G hQ dX4_isWall_23 (by first | exact Or.inl rfl | exact Or.inr rfl | exact bI_01 _ | assumption) (vDet.of (by simp [wallB, bI, *]) rfl)
    · refine v_iload_2_1 G dX4_isWall_12 ?_
      refine v_bipush (v := nI 9) G dX4_isWall_13 (by decide) ?_
      refine v_icmp_ge (tgt := 22) G dX4_isWall_15 rfl (fun h_15 => ?_) (fun h_15 => ?_)
      · refine v_iconst (v := nI 0) G dX4_isWall_22 (by decide) ?_
        exact v_zret G hQ dX4_isWall_23 (by first | exact Or.inl rfl | exact Or.inr rfl | exact bI_01 _ | assumption) (vDet.of (by simp [wallB, bI, *]) rfl)
      · refine v_iconst (v := nI 1) G dX4_isWall_18 (by decide) ?_
        refine v_goto (tgt := 23) G dX4_isWall_19 rfl ?_
        exact v_zret G hQ dX4_isWall_23 (by first | exact Or.inl rfl | exact Or.inr rfl | exact bI_01 _ | assumption) (vDet.of (by simp [wallB, bI, *]) rfl)
