/-! The model: who is one, what it is asked and told first -/
theorem nI_ne_lt {l k : Nat} (h : ¬ nI l = nI k) (h2 : l ≤ k) : l < k := by
  rcases Nat.lt_or_eq_of_le h2 with q | q
  · exact q
  · exact absurd (congrArg nI q) h
set_option maxHeartbeats 4000000 in
theorem C_X6_isOne {σ : vW} {f : Nat → Int32} {n : Nat} {a : Int32} (hn : σ 75 1 = nI n) (hn5 : n ≤ 5) : Ctr mX6_isOne 1 [.ref 75, .int a] (vrow σ 81 f) (vDet (some (.int (bI (inZ a n)))) (vrow σ 81 f)) := by
  refine Ctr.intro (by decide) (fun α => Nat.le_of_ble_eq_true rfl) (fun x G hQ => ?_)
  have G : vG x RX6 cX6_isOne 2 (some .boolean) 1 := G
  show V x 0 [some (.ref 75), some (.int a)] [] (vrow σ 81 f)
  refine v_iload_2_1 G dX6_isOne_0 ?_
  refine v_i2l G dX6_isOne_1 ?_
  refine v_lconst (v := lN 0) G dX6_isOne_2 (by decide) ?_
  refine v_aload_2_0 G dX6_isOne_3 ?_
  refine m_getI G (by decide) vc_6 lk_X6_144 fs_X6_1 dX6_isOne_4 ?_
  rw [hn]
  refine v_iconst (v := nI 1) G dX6_isOne_7 (by decide) ?_
  refine v_isub G dX6_isOne_8 ?_
  refine v_i2l G dX6_isOne_9 ?_
  refine v_cS3 G (C_inK _ (inK_1 (by omega))) (by decide) md_X6_in st_X6_in ml_X6_49 (Nat.le_of_ble_eq_true rfl) dX6_isOne_10 ?_
  exact v_zret G hQ dX6_isOne_13 (by first | exact Or.inl rfl | exact Or.inr rfl | exact bI_01 _ | assumption) vDet.mk
set_option maxHeartbeats 4000000 in
theorem C_X6_isWall {σ : vW} {f : Nat → Int32} {m : Nat} {a : Int32} (hm : σ 76 25 = nI m) (hm9 : m ≤ 9) : Ctr mX6_isWall 1 [.ref 75, .int a] (vrow σ 81 f) (vDet (some (.int (bI (inZ a m)))) (vrow σ 81 f)) := by
  refine Ctr.intro (by decide) (fun α => Nat.le_of_ble_eq_true rfl) (fun x G hQ => ?_)
  have G : vG x RX6 cX6_isWall 2 (some .boolean) 1 := G
  show V x 0 [some (.ref 75), some (.int a)] [] (vrow σ 81 f)
  refine v_iload_2_1 G dX6_isWall_0 ?_
  refine v_i2l G dX6_isWall_1 ?_
  refine v_lconst (v := lN 0) G dX6_isWall_2 (by decide) ?_
  refine v_aload_2_0 G dX6_isWall_3 ?_
  refine v_getR G vc_6 lk_X6_7 (fs_X6_0) dX6_isWall_4 ?_
  refine v_bipush (v := nI 25) G dX6_isWall_7 (by decide) ?_
  refine m_ialdN G (by decide) (as_X6_0) (by first | assumption | omega | exact oneB_in (by assumption) | exact wallB_in (by assumption) | exact oneB_m1 (by assumption) | decide) (by decide) dX6_isWall_9 ?_
  rw [hm]
  refine v_iconst (v := nI 1) G dX6_isWall_10 (by decide) ?_
  refine v_isub G dX6_isWall_11 ?_
  refine v_i2l G dX6_isWall_12 ?_
  refine v_cS3 G (C_inK _ (inK_1 (by omega))) (by decide) md_X6_in st_X6_in ml_X6_49 (Nat.le_of_ble_eq_true rfl) dX6_isWall_13 ?_
  exact v_zret G hQ dX6_isWall_16 (by first | exact Or.inl rfl | exact Or.inr rfl | exact bI_01 _ | assumption) vDet.mk
set_option maxHeartbeats 4000000 in
theorem C_X6_isRoom {σ : vW} {a : Int32} : Ctr mX6_isRoom 1 [.int a] σ (vDet (some (.int (bI (inZ a 8)))) σ) := by
  refine Ctr.intro (by decide) (fun α => Nat.le_of_ble_eq_true rfl) (fun x G hQ => ?_)
  have G : vG x RX6 cX6_isRoom 1 (some .boolean) 1 := G
  show V x 0 [some (.int a)] [] σ
  refine v_iload_1_0 G dX6_isRoom_0 ?_
  refine v_i2l G dX6_isRoom_1 ?_
  refine v_lconst (v := lN 0) G dX6_isRoom_2 (by decide) ?_
  refine v_ldc2 G ct_X6_150 dX6_isRoom_3 ?_
  refine v_cS3 G (C_inK 8 (by decide)) (by decide) md_X6_in st_X6_in ml_X6_49 (Nat.le_of_ble_eq_true rfl) dX6_isRoom_6 ?_
  exact v_zret G hQ dX6_isRoom_9 (by first | exact Or.inl rfl | exact Or.inr rfl | exact bI_01 _ | assumption) vDet.mk
def mFeedR (l : Nat) (a : Int32) : Int32 := if inZ a 128 = true then (if nI l = nI 160 then -3 else nI (l + 1)) else -1
def mFeedW (σ : vW) (l : Nat) (a : Int32) : vW := if inZ a 128 = true then (if nI l = nI 160 then σ else vset (vset σ 78 l a) 75 10 (nI (l + 1))) else σ
set_option maxHeartbeats 4000000 in
theorem C_X6_feed {σ : vW} {f : Nat → Int32} {l : Nat} {a : Int32} (hl : σ 75 10 = nI l) (hl6 : l ≤ 160) : Ctr mX6_feed 1 [.ref 75, .int a] (vrow σ 81 f) (vDet (some (.int (mFeedR l a))) (vrow (mFeedW σ l a) 81 f)) := by
  refine Ctr.intro (by decide) (fun α => Nat.le_of_ble_eq_true rfl) (fun x G hQ => ?_)
  have G : vG x RX6 cX6_feed 2 (some .int) 1 := G
  show V x 0 [some (.ref 75), some (.int a)] [] (vrow σ 81 f)
  refine v_iload_2_1 G dX6_feed_0 ?_
  refine v_i2l G dX6_feed_1 ?_
  refine v_lconst (v := lN 0) G dX6_feed_2 (by decide) ?_
  refine v_ldc2 G ct_X6_47 dX6_feed_3 ?_
  refine v_cS3 G (C_inK 128 (by decide)) (by decide) md_X6_in st_X6_in ml_X6_49 (Nat.le_of_ble_eq_true rfl) dX6_feed_6 ?_
  refine v_ifB_ne (tgt := 14) G dX6_feed_9 rfl (fun h_9 => ?_) (fun h_9 => ?_)
  · refine v_aload_2_0 G dX6_feed_14 ?_
    refine m_getI G (by decide) vc_6 lk_X6_53 fs_X6_10 dX6_feed_15 ?_
    rw [hl]
    refine v_sipush (v := nI 160) G dX6_feed_18 (by decide) ?_
    refine v_icmp_ne (tgt := 27) G dX6_feed_21 rfl (fun h_21 => ?_) (fun h_21 => ?_)
    · refine v_aload_2_0 G dX6_feed_27 ?_
      refine v_getR G vc_6 lk_X6_16 (fs_X6_9) dX6_feed_28 ?_
      refine v_aload_2_0 G dX6_feed_31 ?_
      refine m_getI G (by decide) vc_6 lk_X6_53 fs_X6_10 dX6_feed_32 ?_
      rw [hl]
      refine v_iload_2_1 G dX6_feed_35 ?_
      refine m_iastN G (by decide) (as_X6_9) (by first | exact nI_ne_lt h_21 hl6 | decide) (by decide) dX6_feed_36 ?_
      refine v_aload_2_0 G dX6_feed_37 ?_
      refine v_dup G dX6_feed_38 rfl ?_
      refine m_getI G (by decide) vc_6 lk_X6_53 fs_X6_10 dX6_feed_39 ?_
      rw [vset_ne (by decide), hl]
      refine v_iconst (v := nI 1) G dX6_feed_42 (by decide) ?_
      refine v_iaddN G dX6_feed_43 ?_
      refine m_putI G (by decide) vc_6 vt_6 lk_X6_53 fs_X6_10 (ft_X6_10 _) dX6_feed_44 ?_
      refine v_aload_2_0 G dX6_feed_47 ?_
      refine m_getI G (by decide) vc_6 lk_X6_53 fs_X6_10 dX6_feed_48 ?_
      rw [vset_at]
      exact v_iret G hQ dX6_feed_51 (vDet.of (by simp only [mFeedR, bI, h_9, h_21, if_true, if_false, Bool.false_eq_true, reduceIte, ite_self] <;> try rfl) (by simp only [mFeedW, h_9, h_21, if_true, if_false, Bool.false_eq_true, reduceIte, ite_self] <;> try rfl))
    · refine v_bipush (v := (-3)) G dX6_feed_24 (by decide) ?_
      exact v_iret G hQ dX6_feed_26 (vDet.of (by simp only [mFeedR, bI, h_9, h_21, if_true, if_false, Bool.false_eq_true, reduceIte, ite_self] <;> try rfl) (by simp only [mFeedW, h_9, h_21, if_true, if_false, Bool.false_eq_true, reduceIte, ite_self] <;> try rfl))
  · refine v_iconst (v := (-1)) G dX6_feed_12 (by decide) ?_
    exact v_iret G hQ dX6_feed_13 (vDet.of (by simp only [mFeedR, bI, h_9, if_true, if_false, Bool.false_eq_true, reduceIte, ite_self] <;> try rfl) (by simp only [mFeedW, h_9, if_true, if_false, Bool.false_eq_true, reduceIte, ite_self] <;> try rfl))
set_option maxHeartbeats 4000000 in
theorem C_X6_end {σ : vW} {f : Nat → Int32} {l : Nat} {a : Int32} (hl : σ 75 10 = nI l) (hl6 : l ≤ 160) : Ctr mX6_end 1 [.ref 75, .int a] (vrow σ 81 f) (vDet (some (.int (if inZ a (l + 1) = true then nI l else -1))) (vrow (if inZ a (l + 1) = true then vset σ 75 10 a else σ) 81 f)) := by
  refine Ctr.intro (by decide) (fun α => Nat.le_of_ble_eq_true rfl) (fun x G hQ => ?_)
  have G : vG x RX6 cX6_end 3 (some .int) 1 := G
  show V x 0 [some (.ref 75), some (.int a), none] [] (vrow σ 81 f)
  refine v_iload_3_1 G dX6_end_0 ?_
  refine v_i2l G dX6_end_1 ?_
  refine v_lconst (v := lN 0) G dX6_end_2 (by decide) ?_
  refine v_aload_3_0 G dX6_end_3 ?_
  refine m_getI G (by decide) vc_6 lk_X6_53 fs_X6_10 dX6_end_4 ?_
  rw [hl]
  refine v_i2l G dX6_end_7 ?_
  refine v_cS3 G (C_inK _ (inK_0 (by omega))) (by decide) md_X6_in st_X6_in ml_X6_49 (Nat.le_of_ble_eq_true rfl) dX6_end_8 ?_
  refine v_ifB_ne (tgt := 16) G dX6_end_11 rfl (fun h_11 => ?_) (fun h_11 => ?_)
  · refine v_aload_3_0 G dX6_end_16 ?_
    refine m_getI G (by decide) vc_6 lk_X6_53 fs_X6_10 dX6_end_17 ?_
    rw [hl]
    refine v_istore_3_2 G dX6_end_20 rfl ?_
    refine v_aload_3_0 G dX6_end_21 ?_
    refine v_iload_3_1 G dX6_end_22 ?_
    refine m_putI G (by decide) vc_6 vt_6 lk_X6_53 fs_X6_10 (ft_X6_10 _) dX6_end_23 ?_
    refine v_iload_3_2 G dX6_end_26 ?_
    exact v_iret G hQ dX6_end_27 (vDet.of (by simp only [h_11, bI, h_11, if_true, if_false, Bool.false_eq_true, reduceIte, ite_self] <;> try rfl) (by simp only [h_11, h_11, if_true, if_false, Bool.false_eq_true, reduceIte, ite_self] <;> try rfl))
  · refine v_iconst (v := (-1)) G dX6_end_14 (by decide) ?_
    exact v_iret G hQ dX6_end_15 (vDet.of (by simp only [h_11, bI, h_11, if_true, if_false, Bool.false_eq_true, reduceIte, ite_self] <;> try rfl) (by simp only [h_11, h_11, if_true, if_false, Bool.false_eq_true, reduceIte, ite_self] <;> try rfl))
def mByte (σ : vW) (l k : Nat) : Int32 := if k < l then σ 78 k else -4
set_option maxHeartbeats 4000000 in
theorem C_X6_byteAt {σ : vW} {f : Nat → Int32} {l k : Nat} (hl : σ 75 10 = nI l) (hl6 : l ≤ 160) (hk : k < 1000) : Ctr mX6_byteAt 0 [.ref 75, .int (nI k)] (vrow σ 81 f) (vDet (some (.int (mByte σ l k))) (vrow σ 81 f)) := by
  refine Ctr.intro (by decide) (fun α => Nat.le_of_ble_eq_true rfl) (fun x G hQ => ?_)
  have G : vG x RX6 cX6_byteAt 2 (some .int) 0 := G
  show V x 0 [some (.ref 75), some (.int (nI k))] [] (vrow σ 81 f)
  rcases Nat.lt_or_ge k l with h9 | h9
  · refine v_iload_2_1 G dX6_byteAt_0 ?_
    refine v_aload_2_0 G dX6_byteAt_1 ?_
    refine m_getI G (by decide) vc_6 lk_X6_53 fs_X6_10 dX6_byteAt_2 ?_
    rw [hl]
    refine v_icmp_ge (tgt := 17) G dX6_byteAt_5 rfl (fun h_5 => absurd h_5 (nI_ge h9 (by omega))) (fun h_5 => ?_)
    refine v_aload_2_0 G dX6_byteAt_8 ?_
    refine v_getR G vc_6 lk_X6_16 (fs_X6_9) dX6_byteAt_9 ?_
    refine v_iload_2_1 G dX6_byteAt_12 ?_
    refine m_ialdN G (by decide) (as_X6_9) (by first | assumption | omega | exact oneB_in (by assumption) | exact wallB_in (by assumption) | exact oneB_m1 (by assumption) | decide) (by decide) dX6_byteAt_13 ?_
    refine v_goto (tgt := 19) G dX6_byteAt_14 rfl ?_
    exact v_iret G hQ dX6_byteAt_19 (vDet.of (by rw [mByte, if_pos h9]) rfl)
  · refine v_iload_2_1 G dX6_byteAt_0 ?_
    refine v_aload_2_0 G dX6_byteAt_1 ?_
    refine m_getI G (by decide) vc_6 lk_X6_53 fs_X6_10 dX6_byteAt_2 ?_
    rw [hl]
    refine v_icmp_ge (tgt := 17) G dX6_byteAt_5 rfl (fun h_5 => ?_) (fun h_5 => absurd (nI_le h9 (by omega)) h_5)
    refine v_bipush (v := (-4)) G dX6_byteAt_17 (by decide) ?_
    exact v_iret G hQ dX6_byteAt_19 (vDet.of (by rw [mByte, if_neg (Nat.not_lt.mpr h9)]) rfl)
def failW (σ : vW) (c : Int32) : vW := if σ 75 12 = 0 then vset (vset σ 75 12 c) 75 13 (σ 75 15) else σ
set_option maxHeartbeats 4000000 in
theorem C_X6_fails {σ : vW} {f : Nat → Int32} {c : Int32} : Ctr mX6_fails 0 [.ref 75, .int c] (vrow σ 81 f) (vDet none (vrow (failW σ c) 81 f)) := by
  refine Ctr.intro (by decide) (fun α => Nat.le_of_ble_eq_true rfl) (fun x G hQ => ?_)
  have G : vG x RX6 cX6_fails 2 none 0 := G
  show V x 0 [some (.ref 75), some (.int c)] [] (vrow σ 81 f)
  refine v_aload_2_0 G dX6_fails_0 ?_
  refine m_getI G (by decide) vc_6 lk_X6_57 fs_X6_12 dX6_fails_1 ?_
  refine v_if_ne (tgt := 20) G dX6_fails_4 rfl (fun h_4 => ?_) (fun h_4 => ?_)
  · exact v_vret G hQ dX6_fails_20 (vDet.of rfl (by simp only [failW, h_4, if_true, if_false]))
  · refine v_aload_2_0 G dX6_fails_7 ?_
    refine v_iload_2_1 G dX6_fails_8 ?_
    refine m_putI G (by decide) vc_6 vt_6 lk_X6_57 fs_X6_12 (ft_X6_12 _) dX6_fails_9 ?_
    refine v_aload_2_0 G dX6_fails_12 ?_
    refine v_aload_2_0 G dX6_fails_13 ?_
    refine m_getI G (by decide) vc_6 lk_X6_60 fs_X6_15 dX6_fails_14 ?_
    rw [show (vset σ 75 12 c) 75 15 = σ 75 15 from rfl]
    refine m_putI G (by decide) vc_6 vt_6 lk_X6_63 fs_X6_13 (ft_X6_13 _) dX6_fails_17 ?_
    exact v_vret G hQ dX6_fails_20 (vDet.of rfl (by simp only [failW, h_4, if_true, if_false]))
set_option maxHeartbeats 4000000 in
theorem C_X6_fault {σ : vW} {f : Nat → Int32} : Ctr mX6_fault 0 [.ref 75] (vrow σ 81 f) (vDet (some (.int (σ 75 11))) (vrow σ 81 f)) := by
  refine Ctr.intro (by decide) (fun α => Nat.le_of_ble_eq_true rfl) (fun x G hQ => ?_)
  have G : vG x RX6 cX6_fault 1 (some .int) 0 := G
  show V x 0 [some (.ref 75)] [] (vrow σ 81 f)
  refine v_aload_1_0 G dX6_fault_0 ?_
  refine m_getI G (by decide) vc_6 lk_X6_141 fs_X6_11 dX6_fault_1 ?_
  exact v_iret G hQ dX6_fault_4 vDet.mk
set_option maxHeartbeats 4000000 in
theorem C_X6_torn {σ : vW} {f : Nat → Int32} : Ctr mX6_torn 0 [.ref 75] (vrow σ 81 f) (vDet (some (.int (σ 75 31))) (vrow σ 81 f)) := by
  refine Ctr.intro (by decide) (fun α => Nat.le_of_ble_eq_true rfl) (fun x G hQ => ?_)
  have G : vG x RX6 cX6_torn 1 (some .int) 0 := G
  show V x 0 [some (.ref 75)] [] (vrow σ 81 f)
  refine v_aload_1_0 G dX6_torn_0 ?_
  refine m_getI G (by decide) vc_6 lk_X6_263 fs_X6_31 dX6_torn_1 ?_
  exact v_iret G hQ dX6_torn_4 vDet.mk
/-- the door on a wall: whose it is, on a page -/
def mDrB (R : Nat → Int32) (g : Nat) (w : Int32) (p : Nat) : Bool := if R (g + 15 + p) = w + nI 1 then true else false
def mDoor (R : Nat → Int32) (n g : Nat) (w : Int32) : Int32 := if fstP (mDrB R g w) n 0 < n then nI (fstP (mDrB R g w) n 0) else -4
theorem mDoor_cases (R : Nat → Int32) (n g : Nat) (w : Int32) : mDoor R n g w = -4 ∨ ∃ p, p < n ∧ mDoor R n g w = nI p := by
  unfold mDoor
  split
  · exact Or.inr ⟨_, by assumption, rfl⟩
  · exact Or.inl rfl
set_option maxHeartbeats 4000000 in
theorem C_X6_doorOn {σ : vW} {f : Nat → Int32} {n g : Nat} {w : Int32} (hn : σ 75 1 = nI n) (hn5 : n ≤ 5) (hg : g ≤ 260) : Ctr mX6_doorOn 0 [.ref 75, .int (nI g), .int w] (vrow σ 81 f) (vDet (some (.int (mDoor (σ 76) n g w))) (vrow σ 81 f)) := by
  refine Ctr.intro (by decide) (fun α => Nat.le_of_ble_eq_true rfl) (fun x G hQ => ?_)
  have G : vG x RX6 cX6_doorOn 4 (some .int) 0 := G
  show V x 0 [some (.ref 75), some (.int (nI g)), some (.int w), none] [] (vrow σ 81 f)
  refine v_iconst (v := nI 0) G dX6_doorOn_0 (by decide) ?_
  refine v_istore_4_3 G dX6_doorOn_1 rfl ?_
  refine v_forP (pc := 2) (n) (fun k => fstP (mDrB (σ 76) g w) n 0 = fstP (mDrB (σ 76) g w) (n - k) k) (fun k => ([some (.ref 75), some (.int (nI g)), some (.int w), some (.int (nI k))], (vrow (σ) 81 f))) rfl (fun k hk hp ih => ?_) (fun hp => ?_)
  · show V x 2 [some (.ref 75), some (.int (nI g)), some (.int w), some (.int (nI k))] [] (vrow (σ) 81 f)
    have ih : (fstP (mDrB (σ 76) g w) n 0 = fstP (mDrB (σ 76) g w) (n - (k + 1)) (k + 1)) → V x 2 [some (.ref 75), some (.int (nI g)), some (.int w), some (.int (nI (k + 1)))] [] (vrow (σ) 81 f) := ih
    have hp : fstP (mDrB (σ 76) g w) n 0 = fstP (mDrB (σ 76) g w) (n - k) k := hp
    rw [show n - k = (n - (k + 1)) + 1 by omega, fstP] at hp
    refine v_iload_4_3 G dX6_doorOn_2 ?_
    refine v_aload_4_0 G dX6_doorOn_3 ?_
    refine m_getI G (by decide) vc_6 lk_X6_144 fs_X6_1 dX6_doorOn_4 ?_
    refine v_icmp_ge (tgt := 35) G dX6_doorOn_7 rfl (fun h_7 => absurd h_7 (by rw [hn]; exact nI_ge hk (by omega))) (fun h_7 => ?_)
    refine v_aload_4_0 G dX6_doorOn_10 ?_
    refine v_getR G vc_6 lk_X6_7 (fs_X6_0) dX6_doorOn_11 ?_
    refine v_iload_4_1 G dX6_doorOn_14 ?_
    refine v_bipush (v := nI 15) G dX6_doorOn_15 (by decide) ?_
    refine v_iaddN G dX6_doorOn_17 ?_
    refine v_iload_4_3 G dX6_doorOn_18 ?_
    refine v_iaddN G dX6_doorOn_19 ?_
    refine m_ialdN G (by decide) (as_X6_0) (by first | assumption | omega | exact oneB_in (by assumption) | exact wallB_in (by assumption) | exact oneB_m1 (by assumption) | decide) (by decide) dX6_doorOn_20 ?_
    refine v_iload_4_2 G dX6_doorOn_21 ?_
    refine v_iconst (v := nI 1) G dX6_doorOn_22 (by decide) ?_
    refine v_iadd G dX6_doorOn_23 ?_
    refine v_icmp_ne (tgt := 29) G dX6_doorOn_24 rfl (fun h_24 => ?_) (fun h_24 => ?_)
    · refine v_iincN_4_3 G dX6_doorOn_29 rfl ?_
      refine v_goto (tgt := 2) G dX6_doorOn_32 rfl ?_
      refine ih ?_
      rw [hp, if_neg]
      rw [mDrB, if_neg h_24]; exact Bool.false_ne_true
    · refine v_iload_4_3 G dX6_doorOn_27 ?_
      exact v_iret G hQ dX6_doorOn_28 (vDet.of (by first | (rw [mDoor, hp, if_pos (show mDrB (σ 76) g w k = true by rw [mDrB, if_pos h_24]), if_pos hk]; done) | (rw [mDoor, hp, Nat.sub_self, fstP, if_neg (Nat.lt_irrefl n)])) rfl)
  · show V x 2 [some (.ref 75), some (.int (nI g)), some (.int w), some (.int (nI n))] [] (vrow (σ) 81 f)
    have hp : fstP (mDrB (σ 76) g w) n 0 = fstP (mDrB (σ 76) g w) (n - n) n := hp
    refine v_iload_4_3 G dX6_doorOn_2 ?_
    refine v_aload_4_0 G dX6_doorOn_3 ?_
    refine m_getI G (by decide) vc_6 lk_X6_144 fs_X6_1 dX6_doorOn_4 ?_
    refine v_icmp_ge (tgt := 35) G dX6_doorOn_7 rfl (fun h_7 => ?_) (fun h_7 => absurd (by rw [hn]; exact nI_le (Nat.le_refl _) (by omega)) h_7)
    refine v_bipush (v := (-4)) G dX6_doorOn_35 (by decide) ?_
    exact v_iret G hQ dX6_doorOn_37 (vDet.of (by first | (rw [mDoor, hp, if_pos (show mDrB (σ 76) g w k = true by rw [mDrB, if_pos h_24]), if_pos hk]; done) | (rw [mDoor, hp, Nat.sub_self, fstP, if_neg (Nat.lt_irrefl n)])) rfl)
def mSame (R : Nat → Int32) (g p q : Nat) : Bool := if nI p = nI q then true else if R (g + 5 + p) = R (g + 5 + q) then true else false
def mLet (R : Nat → Int32) (g p q : Nat) : Bool := if R (g + p) = nI 0 then (if nI p = nI q then true else false) else if R (g + p) = nI 1 then mSame R g p q else if R (g + p) = nI 2 then (if mSame R g p q = true then false else true) else (if nI p = nI q then false else true)
set_option maxHeartbeats 4000000 in
theorem C_X6_letsOn {σ : vW} {f : Nat → Int32} {g p q : Nat} (hp5 : p < 5) (hq5 : q < 5) (hg : g ≤ 260) : Ctr mX6_letsOn 0 [.ref 75, .int (nI g), .int (nI p), .int (nI q)] (vrow σ 81 f) (vDet (some (.int (bI (mLet (σ 76) g p q)))) (vrow σ 81 f)) := by
  refine Ctr.intro (by decide) (fun α => Nat.le_of_ble_eq_true rfl) (fun x G hQ => ?_)
  have G : vG x RX6 cX6_letsOn 5 (some .boolean) 0 := G
  show V x 0 [some (.ref 75), some (.int (nI g)), some (.int (nI p)), some (.int (nI q)), none] [] (vrow σ 81 f)
  refine v_iload_5_2 G dX6_letsOn_0 ?_
  refine v_iload_5_3 G dX6_letsOn_1 ?_
  refine v_icmp_eq (tgt := 28) G dX6_letsOn_2 rfl (fun h_2 => ?_) (fun h_2 => ?_)
  · refine v_iconst (v := nI 1) G dX6_letsOn_28 (by decide) ?_
    refine v_goto (tgt := 33) G dX6_letsOn_29 rfl ?_
    refine v_istore_5_4 G dX6_letsOn_33 rfl ?_
    refine v_aload_5_0 G dX6_letsOn_35 ?_
    refine v_getR G vc_6 lk_X6_7 (fs_X6_0) dX6_letsOn_36 ?_
    refine v_iload_5_1 G dX6_letsOn_39 ?_
    refine v_iload_5_2 G dX6_letsOn_40 ?_
    refine v_iaddN G dX6_letsOn_41 ?_
    refine m_ialdN G (by decide) (as_X6_0) (by first | assumption | omega | exact oneB_in (by assumption) | exact wallB_in (by assumption) | exact oneB_m1 (by assumption) | decide) (by decide) dX6_letsOn_42 ?_
    refine v_tabC (i := 0) (tgt := 68) G dX6_letsOn_43 rfl rfl (by decide) (by decide) (fun h_43_0 => ?_) (fun h_43_0 => ?_)
    · refine v_iload_5_2 G dX6_letsOn_68 ?_
      refine v_iload_5_3 G dX6_letsOn_69 ?_
      refine v_icmp_ne (tgt := 77) G dX6_letsOn_70 rfl (fun h_70 => ?_) (fun h_70 => ?_)
      · refine v_iconst (v := nI 0) G dX6_letsOn_77 (by decide) ?_
        exact v_zret G hQ dX6_letsOn_78 (by first | exact Or.inl rfl | exact Or.inr rfl | exact bI_01 _ | assumption) (by first | contradiction | exact vDet.of (by simp only [mLet, mSame, bI, h_2, h_43_0, h_70, Bool.true_eq_false, if_true, if_false, Bool.false_eq_true, reduceIte] <;> try rfl) rfl)
      · refine v_iconst (v := nI 1) G dX6_letsOn_73 (by decide) ?_
        refine v_goto (tgt := 78) G dX6_letsOn_74 rfl ?_
        exact v_zret G hQ dX6_letsOn_78 (by first | exact Or.inl rfl | exact Or.inr rfl | exact bI_01 _ | assumption) (by first | contradiction | exact vDet.of (by simp only [mLet, mSame, bI, h_2, h_43_0, h_70, Bool.true_eq_false, if_true, if_false, Bool.false_eq_true, reduceIte] <;> try rfl) rfl)
    refine v_tabC (i := 1) (tgt := 79) G dX6_letsOn_43 rfl rfl (by decide) (by decide) (fun h_43_1 => ?_) (fun h_43_1 => ?_)
    · refine v_iload_5_4 G dX6_letsOn_79 ?_
      exact v_zret G hQ dX6_letsOn_81 (by first | exact Or.inl rfl | exact Or.inr rfl | exact bI_01 _ | assumption) (by first | contradiction | exact vDet.of (by simp only [mLet, mSame, bI, h_2, h_43_0, h_43_1, Bool.true_eq_false, if_true, if_false, Bool.false_eq_true, reduceIte] <;> try rfl) rfl)
    refine v_tabC (i := 2) (tgt := 82) G dX6_letsOn_43 rfl rfl (by decide) (by decide) (fun h_43_2 => ?_) (fun h_43_2 => ?_)
    · refine v_iload_5_4 G dX6_letsOn_82 ?_
      refine v_if_ne (tgt := 91) G dX6_letsOn_84 rfl (fun h_84 => ?_) (fun h_84 => absurd h_84 (by decide))
      refine v_iconst (v := nI 0) G dX6_letsOn_91 (by decide) ?_
      exact v_zret G hQ dX6_letsOn_92 (by first | exact Or.inl rfl | exact Or.inr rfl | exact bI_01 _ | assumption) (by first | contradiction | exact vDet.of (by simp only [mLet, mSame, bI, h_2, h_43_0, h_43_1, h_43_2, h_84, Bool.true_eq_false, if_true, if_false, Bool.false_eq_true, reduceIte] <;> try rfl) rfl)
    refine v_tabE (n := 3) (tgt := 93) G dX6_letsOn_43 (fun i hi => by rcases (show i = 0 ∨ i = 1 ∨ i = 2 by omega) with rfl | rfl | rfl <;> assumption) rfl rfl (by decide) ?_
    refine v_iload_5_2 G dX6_letsOn_93 ?_
    refine v_iload_5_3 G dX6_letsOn_94 ?_
    refine v_icmp_eq (tgt := 102) G dX6_letsOn_95 rfl (fun h_95 => ?_) (fun h_95 => ?_)
    · refine v_iconst (v := nI 0) G dX6_letsOn_102 (by decide) ?_
      exact v_zret G hQ dX6_letsOn_103 (by first | exact Or.inl rfl | exact Or.inr rfl | exact bI_01 _ | assumption) (by first | contradiction | exact vDet.of (by simp only [mLet, mSame, bI, h_2, h_43_0, h_43_1, h_43_2, h_95, Bool.true_eq_false, if_true, if_false, Bool.false_eq_true, reduceIte] <;> try rfl) rfl)
    · refine v_iconst (v := nI 1) G dX6_letsOn_98 (by decide) ?_
      refine v_goto (tgt := 103) G dX6_letsOn_99 rfl ?_
      exact v_zret G hQ dX6_letsOn_103 (by first | exact Or.inl rfl | exact Or.inr rfl | exact bI_01 _ | assumption) (by first | contradiction | exact vDet.of (by simp only [mLet, mSame, bI, h_2, h_43_0, h_43_1, h_43_2, h_95, Bool.true_eq_false, if_true, if_false, Bool.false_eq_true, reduceIte] <;> try rfl) rfl)
  · refine v_aload_5_0 G dX6_letsOn_5 ?_
    refine v_getR G vc_6 lk_X6_7 (fs_X6_0) dX6_letsOn_6 ?_
    refine v_iload_5_1 G dX6_letsOn_9 ?_
    refine v_iconst (v := nI 5) G dX6_letsOn_10 (by decide) ?_
    refine v_iaddN G dX6_letsOn_11 ?_
    refine v_iload_5_2 G dX6_letsOn_12 ?_
    refine v_iaddN G dX6_letsOn_13 ?_
    refine m_ialdN G (by decide) (as_X6_0) (by first | assumption | omega | exact oneB_in (by assumption) | exact wallB_in (by assumption) | exact oneB_m1 (by assumption) | decide) (by decide) dX6_letsOn_14 ?_
    refine v_aload_5_0 G dX6_letsOn_15 ?_
    refine v_getR G vc_6 lk_X6_7 (fs_X6_0) dX6_letsOn_16 ?_
    refine v_iload_5_1 G dX6_letsOn_19 ?_
    refine v_iconst (v := nI 5) G dX6_letsOn_20 (by decide) ?_
    refine v_iaddN G dX6_letsOn_21 ?_
    refine v_iload_5_3 G dX6_letsOn_22 ?_
    refine v_iaddN G dX6_letsOn_23 ?_
    refine m_ialdN G (by decide) (as_X6_0) (by first | assumption | omega | exact oneB_in (by assumption) | exact wallB_in (by assumption) | exact oneB_m1 (by assumption) | decide) (by decide) dX6_letsOn_24 ?_
    refine v_icmp_ne (tgt := 32) G dX6_letsOn_25 rfl (fun h_25 => ?_) (fun h_25 => ?_)
    · refine v_iconst (v := nI 0) G dX6_letsOn_32 (by decide) ?_
      refine v_istore_5_4 G dX6_letsOn_33 rfl ?_
      refine v_aload_5_0 G dX6_letsOn_35 ?_
      refine v_getR G vc_6 lk_X6_7 (fs_X6_0) dX6_letsOn_36 ?_
      refine v_iload_5_1 G dX6_letsOn_39 ?_
      refine v_iload_5_2 G dX6_letsOn_40 ?_
      refine v_iaddN G dX6_letsOn_41 ?_
      refine m_ialdN G (by decide) (as_X6_0) (by first | assumption | omega | exact oneB_in (by assumption) | exact wallB_in (by assumption) | exact oneB_m1 (by assumption) | decide) (by decide) dX6_letsOn_42 ?_
      refine v_tabC (i := 0) (tgt := 68) G dX6_letsOn_43 rfl rfl (by decide) (by decide) (fun h_43_0 => ?_) (fun h_43_0 => ?_)
      · refine v_iload_5_2 G dX6_letsOn_68 ?_
        refine v_iload_5_3 G dX6_letsOn_69 ?_
        refine v_icmp_ne (tgt := 77) G dX6_letsOn_70 rfl (fun h_70 => ?_) (fun h_70 => ?_)
        · refine v_iconst (v := nI 0) G dX6_letsOn_77 (by decide) ?_
          exact v_zret G hQ dX6_letsOn_78 (by first | exact Or.inl rfl | exact Or.inr rfl | exact bI_01 _ | assumption) (by first | contradiction | exact vDet.of (by simp only [mLet, mSame, bI, h_2, h_25, h_43_0, h_70, Bool.true_eq_false, if_true, if_false, Bool.false_eq_true, reduceIte] <;> try rfl) rfl)
        · refine v_iconst (v := nI 1) G dX6_letsOn_73 (by decide) ?_
          refine v_goto (tgt := 78) G dX6_letsOn_74 rfl ?_
          exact v_zret G hQ dX6_letsOn_78 (by first | exact Or.inl rfl | exact Or.inr rfl | exact bI_01 _ | assumption) (by first | contradiction | exact vDet.of (by simp only [mLet, mSame, bI, h_2, h_25, h_43_0, h_70, Bool.true_eq_false, if_true, if_false, Bool.false_eq_true, reduceIte] <;> try rfl) rfl)
      refine v_tabC (i := 1) (tgt := 79) G dX6_letsOn_43 rfl rfl (by decide) (by decide) (fun h_43_1 => ?_) (fun h_43_1 => ?_)
      · refine v_iload_5_4 G dX6_letsOn_79 ?_
        exact v_zret G hQ dX6_letsOn_81 (by first | exact Or.inl rfl | exact Or.inr rfl | exact bI_01 _ | assumption) (by first | contradiction | exact vDet.of (by simp only [mLet, mSame, bI, h_2, h_25, h_43_0, h_43_1, Bool.true_eq_false, if_true, if_false, Bool.false_eq_true, reduceIte] <;> try rfl) rfl)
      refine v_tabC (i := 2) (tgt := 82) G dX6_letsOn_43 rfl rfl (by decide) (by decide) (fun h_43_2 => ?_) (fun h_43_2 => ?_)
      · refine v_iload_5_4 G dX6_letsOn_82 ?_
        refine v_if_ne (tgt := 91) G dX6_letsOn_84 rfl (fun h_84 => absurd h_84 (by decide)) (fun h_84 => ?_)
        refine v_iconst (v := nI 1) G dX6_letsOn_87 (by decide) ?_
        refine v_goto (tgt := 92) G dX6_letsOn_88 rfl ?_
        exact v_zret G hQ dX6_letsOn_92 (by first | exact Or.inl rfl | exact Or.inr rfl | exact bI_01 _ | assumption) (by first | contradiction | exact vDet.of (by simp only [mLet, mSame, bI, h_2, h_25, h_43_0, h_43_1, h_43_2, h_84, Bool.true_eq_false, if_true, if_false, Bool.false_eq_true, reduceIte] <;> try rfl) rfl)
      refine v_tabE (n := 3) (tgt := 93) G dX6_letsOn_43 (fun i hi => by rcases (show i = 0 ∨ i = 1 ∨ i = 2 by omega) with rfl | rfl | rfl <;> assumption) rfl rfl (by decide) ?_
      refine v_iload_5_2 G dX6_letsOn_93 ?_
      refine v_iload_5_3 G dX6_letsOn_94 ?_
      refine v_icmp_eq (tgt := 102) G dX6_letsOn_95 rfl (fun h_95 => ?_) (fun h_95 => ?_)
      · refine v_iconst (v := nI 0) G dX6_letsOn_102 (by decide) ?_
        exact v_zret G hQ dX6_letsOn_103 (by first | exact Or.inl rfl | exact Or.inr rfl | exact bI_01 _ | assumption) (by first | contradiction | exact vDet.of (by simp only [mLet, mSame, bI, h_2, h_25, h_43_0, h_43_1, h_43_2, h_95, Bool.true_eq_false, if_true, if_false, Bool.false_eq_true, reduceIte] <;> try rfl) rfl)
      · refine v_iconst (v := nI 1) G dX6_letsOn_98 (by decide) ?_
        refine v_goto (tgt := 103) G dX6_letsOn_99 rfl ?_
        exact v_zret G hQ dX6_letsOn_103 (by first | exact Or.inl rfl | exact Or.inr rfl | exact bI_01 _ | assumption) (by first | contradiction | exact vDet.of (by simp only [mLet, mSame, bI, h_2, h_25, h_43_0, h_43_1, h_43_2, h_95, Bool.true_eq_false, if_true, if_false, Bool.false_eq_true, reduceIte] <;> try rfl) rfl)
    · refine v_iconst (v := nI 1) G dX6_letsOn_28 (by decide) ?_
      refine v_goto (tgt := 33) G dX6_letsOn_29 rfl ?_
      refine v_istore_5_4 G dX6_letsOn_33 rfl ?_
      refine v_aload_5_0 G dX6_letsOn_35 ?_
      refine v_getR G vc_6 lk_X6_7 (fs_X6_0) dX6_letsOn_36 ?_
      refine v_iload_5_1 G dX6_letsOn_39 ?_
      refine v_iload_5_2 G dX6_letsOn_40 ?_
      refine v_iaddN G dX6_letsOn_41 ?_
      refine m_ialdN G (by decide) (as_X6_0) (by first | assumption | omega | exact oneB_in (by assumption) | exact wallB_in (by assumption) | exact oneB_m1 (by assumption) | decide) (by decide) dX6_letsOn_42 ?_
      refine v_tabC (i := 0) (tgt := 68) G dX6_letsOn_43 rfl rfl (by decide) (by decide) (fun h_43_0 => ?_) (fun h_43_0 => ?_)
      · refine v_iload_5_2 G dX6_letsOn_68 ?_
        refine v_iload_5_3 G dX6_letsOn_69 ?_
        refine v_icmp_ne (tgt := 77) G dX6_letsOn_70 rfl (fun h_70 => ?_) (fun h_70 => ?_)
        · refine v_iconst (v := nI 0) G dX6_letsOn_77 (by decide) ?_
          exact v_zret G hQ dX6_letsOn_78 (by first | exact Or.inl rfl | exact Or.inr rfl | exact bI_01 _ | assumption) (by first | contradiction | exact vDet.of (by simp only [mLet, mSame, bI, h_2, h_25, h_43_0, h_70, Bool.true_eq_false, if_true, if_false, Bool.false_eq_true, reduceIte] <;> try rfl) rfl)
        · refine v_iconst (v := nI 1) G dX6_letsOn_73 (by decide) ?_
          refine v_goto (tgt := 78) G dX6_letsOn_74 rfl ?_
          exact v_zret G hQ dX6_letsOn_78 (by first | exact Or.inl rfl | exact Or.inr rfl | exact bI_01 _ | assumption) (by first | contradiction | exact vDet.of (by simp only [mLet, mSame, bI, h_2, h_25, h_43_0, h_70, Bool.true_eq_false, if_true, if_false, Bool.false_eq_true, reduceIte] <;> try rfl) rfl)
      refine v_tabC (i := 1) (tgt := 79) G dX6_letsOn_43 rfl rfl (by decide) (by decide) (fun h_43_1 => ?_) (fun h_43_1 => ?_)
      · refine v_iload_5_4 G dX6_letsOn_79 ?_
        exact v_zret G hQ dX6_letsOn_81 (by first | exact Or.inl rfl | exact Or.inr rfl | exact bI_01 _ | assumption) (by first | contradiction | exact vDet.of (by simp only [mLet, mSame, bI, h_2, h_25, h_43_0, h_43_1, Bool.true_eq_false, if_true, if_false, Bool.false_eq_true, reduceIte] <;> try rfl) rfl)
      refine v_tabC (i := 2) (tgt := 82) G dX6_letsOn_43 rfl rfl (by decide) (by decide) (fun h_43_2 => ?_) (fun h_43_2 => ?_)
      · refine v_iload_5_4 G dX6_letsOn_82 ?_
        refine v_if_ne (tgt := 91) G dX6_letsOn_84 rfl (fun h_84 => ?_) (fun h_84 => absurd h_84 (by decide))
        refine v_iconst (v := nI 0) G dX6_letsOn_91 (by decide) ?_
        exact v_zret G hQ dX6_letsOn_92 (by first | exact Or.inl rfl | exact Or.inr rfl | exact bI_01 _ | assumption) (by first | contradiction | exact vDet.of (by simp only [mLet, mSame, bI, h_2, h_25, h_43_0, h_43_1, h_43_2, h_84, Bool.true_eq_false, if_true, if_false, Bool.false_eq_true, reduceIte] <;> try rfl) rfl)
      refine v_tabE (n := 3) (tgt := 93) G dX6_letsOn_43 (fun i hi => by rcases (show i = 0 ∨ i = 1 ∨ i = 2 by omega) with rfl | rfl | rfl <;> assumption) rfl rfl (by decide) ?_
      refine v_iload_5_2 G dX6_letsOn_93 ?_
      refine v_iload_5_3 G dX6_letsOn_94 ?_
      refine v_icmp_eq (tgt := 102) G dX6_letsOn_95 rfl (fun h_95 => ?_) (fun h_95 => ?_)
      · refine v_iconst (v := nI 0) G dX6_letsOn_102 (by decide) ?_
        exact v_zret G hQ dX6_letsOn_103 (by first | exact Or.inl rfl | exact Or.inr rfl | exact bI_01 _ | assumption) (by first | contradiction | exact vDet.of (by simp only [mLet, mSame, bI, h_2, h_25, h_43_0, h_43_1, h_43_2, h_95, Bool.true_eq_false, if_true, if_false, Bool.false_eq_true, reduceIte] <;> try rfl) rfl)
      · refine v_iconst (v := nI 1) G dX6_letsOn_98 (by decide) ?_
        refine v_goto (tgt := 103) G dX6_letsOn_99 rfl ?_
        exact v_zret G hQ dX6_letsOn_103 (by first | exact Or.inl rfl | exact Or.inr rfl | exact bI_01 _ | assumption) (by first | contradiction | exact vDet.of (by simp only [mLet, mSame, bI, h_2, h_25, h_43_0, h_43_1, h_43_2, h_95, Bool.true_eq_false, if_true, if_false, Bool.false_eq_true, reduceIte] <;> try rfl) rfl)
def mPass (R : Nat → Int32) (n : Nat) (J : Int32) (g w q : Nat) : Bool := if mDoor R n g (nI w) = -4 then false else if J >>> (mDoor R n g (nI w) &&& 31) &&& nI 1 = 0 then mLet R g (mDoor R n g (nI w)).toNatClampNeg q else false
set_option maxHeartbeats 4000000 in
theorem C_X6_passesOn {σ : vW} {f : Nat → Int32} {n g w q : Nat} (hn : σ 75 1 = nI n) (hn5 : n ≤ 5) (hg : g ≤ 260) (hq5 : q < 5) : Ctr mX6_passesOn 1 [.ref 75, .int (nI g), .int (nI w), .int (nI q)] (vrow σ 81 f) (vDet (some (.int (bI (mPass (σ 76) n (σ 75 20) g w q)))) (vrow σ 81 f)) := by
  refine Ctr.intro (by decide) (fun α => Nat.le_of_ble_eq_true rfl) (fun x G hQ => ?_)
  have G : vG x RX6 cX6_passesOn 5 (some .boolean) 1 := G
  show V x 0 [some (.ref 75), some (.int (nI g)), some (.int (nI w)), some (.int (nI q)), none] [] (vrow σ 81 f)
  rcases mDoor_cases (σ 76) n g (nI w) with e | ⟨p, hp, e⟩
  · refine v_aload_5_0 G dX6_passesOn_0 ?_
    refine v_iload_5_1 G dX6_passesOn_1 ?_
    refine v_iload_5_2 G dX6_passesOn_2 ?_
    refine v_cV2 G (C_X6_doorOn (by first | assumption | omega | exact oneB_in (by assumption) | exact wallB_in (by assumption) | exact oneB_m1 (by assumption) | decide) (by first | assumption | omega | exact oneB_in (by assumption) | exact wallB_in (by assumption) | exact oneB_m1 (by assumption) | decide) (by first | assumption | omega | exact oneB_in (by assumption) | exact wallB_in (by assumption) | exact oneB_m1 (by assumption) | decide)) (by decide) md_X6_doorOn in_X6_doorOn (rv_X6 rfl) ml_X6_152 (Nat.le_of_ble_eq_true rfl) dX6_passesOn_3 ?_
    rw [e]
    refine v_istore_5_4 G dX6_passesOn_6 rfl ?_
    refine v_iload_5_4 G dX6_passesOn_8 ?_
    refine v_bipush (v := (-4)) G dX6_passesOn_10 (by decide) ?_
    refine v_icmp_eq (tgt := 42) G dX6_passesOn_12 rfl (fun h_12 => ?_) (fun h_12 => absurd rfl h_12)
    refine v_iconst (v := nI 0) G dX6_passesOn_42 (by decide) ?_
    exact v_zret G hQ dX6_passesOn_43 (by first | exact Or.inl rfl | exact Or.inr rfl | exact bI_01 _ | assumption) (vDet.of (by rw [mPass, if_pos e]; rfl) rfl)
  · have hc : (nI p).toNatClampNeg = p := nI_clamp (by omega)
    refine v_aload_5_0 G dX6_passesOn_0 ?_
    refine v_iload_5_1 G dX6_passesOn_1 ?_
    refine v_iload_5_2 G dX6_passesOn_2 ?_
    refine v_cV2 G (C_X6_doorOn (by first | assumption | omega | exact oneB_in (by assumption) | exact wallB_in (by assumption) | exact oneB_m1 (by assumption) | decide) (by first | assumption | omega | exact oneB_in (by assumption) | exact wallB_in (by assumption) | exact oneB_m1 (by assumption) | decide) (by first | assumption | omega | exact oneB_in (by assumption) | exact wallB_in (by assumption) | exact oneB_m1 (by assumption) | decide)) (by decide) md_X6_doorOn in_X6_doorOn (rv_X6 rfl) ml_X6_152 (Nat.le_of_ble_eq_true rfl) dX6_passesOn_3 ?_
    rw [e]
    refine v_istore_5_4 G dX6_passesOn_6 rfl ?_
    refine v_iload_5_4 G dX6_passesOn_8 ?_
    refine v_bipush (v := (-4)) G dX6_passesOn_10 (by decide) ?_
    refine v_icmp_eq (tgt := 42) G dX6_passesOn_12 rfl (fun h_12 => absurd h_12 (nI_nm4 (by omega))) (fun h_12 => ?_)
    refine v_aload_5_0 G dX6_passesOn_15 ?_
    refine m_getI G (by decide) vc_6 lk_X6_156 fs_X6_20 dX6_passesOn_16 ?_
    refine v_iload_5_4 G dX6_passesOn_19 ?_
    refine v_ishr G dX6_passesOn_21 ?_
    refine v_iconst (v := nI 1) G dX6_passesOn_22 (by decide) ?_
    refine v_iand G dX6_passesOn_23 ?_
    refine v_if_ne (tgt := 42) G dX6_passesOn_24 rfl (fun h_24 => ?_) (fun h_24 => ?_)
    · refine v_iconst (v := nI 0) G dX6_passesOn_42 (by decide) ?_
      exact v_zret G hQ dX6_passesOn_43 (by first | exact Or.inl rfl | exact Or.inr rfl | exact bI_01 _ | assumption) (vDet.of (by rw [mPass, if_neg (show ¬ mDoor (σ 76) n g (nI w) = -4 by rw [e]; exact nI_nm4 (by omega)), e, hc]; simp only [h_12, h_24, if_true, if_false, bI, Bool.false_eq_true]) rfl)
    · refine v_aload_5_0 G dX6_passesOn_27 ?_
      refine v_iload_5_1 G dX6_passesOn_28 ?_
      refine v_iload_5_4 G dX6_passesOn_29 ?_
      refine v_iload_5_3 G dX6_passesOn_31 ?_
      refine v_cV3 G (C_X6_letsOn (by first | assumption | omega | exact oneB_in (by assumption) | exact wallB_in (by assumption) | exact oneB_m1 (by assumption) | decide) (by first | assumption | omega | exact oneB_in (by assumption) | exact wallB_in (by assumption) | exact oneB_m1 (by assumption) | decide) (by first | assumption | omega | exact oneB_in (by assumption) | exact wallB_in (by assumption) | exact oneB_m1 (by assumption) | decide)) (by decide) md_X6_letsOn in_X6_letsOn (rv_X6 rfl) ml_X6_159 (Nat.le_of_ble_eq_true rfl) dX6_passesOn_32 ?_
      refine v_ifB_eq (tgt := 42) G dX6_passesOn_35 rfl (fun h_35 => ?_) (fun h_35 => ?_)
      · refine v_iconst (v := nI 0) G dX6_passesOn_42 (by decide) ?_
        exact v_zret G hQ dX6_passesOn_43 (by first | exact Or.inl rfl | exact Or.inr rfl | exact bI_01 _ | assumption) (vDet.of (by rw [mPass, if_neg (show ¬ mDoor (σ 76) n g (nI w) = -4 by rw [e]; exact nI_nm4 (by omega)), e, hc]; simp only [h_12, h_24, h_35, if_true, if_false, bI, Bool.false_eq_true]) rfl)
      · refine v_iconst (v := nI 1) G dX6_passesOn_38 (by decide) ?_
        refine v_goto (tgt := 43) G dX6_passesOn_39 rfl ?_
        exact v_zret G hQ dX6_passesOn_43 (by first | exact Or.inl rfl | exact Or.inr rfl | exact bI_01 _ | assumption) (vDet.of (by rw [mPass, if_neg (show ¬ mDoor (σ 76) n g (nI w) = -4 by rw [e]; exact nI_nm4 (by omega)), e, hc]; simp only [h_12, h_24, h_35, if_true, if_false, bI, Bool.false_eq_true]) rfl)
