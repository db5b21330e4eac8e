/-! The program's reader: walls, rooms, doors -/
theorem rfW_3 {σ : vW} {c : Int32} (hc : ¬ c = 0) : ¬ (rfW σ c) 1 3 = 0 := by
  unfold rfW
  split
  · rw [vset_oth (by decide), vset_at]
    exact hc
  · assumption
theorem nhR_ex {σ : vW} {k : Nat} (hk : k < 1000) (h : ¬ nhR σ (nI k) < 0) : ∃ j, j ≤ k ∧ nhR σ (nI k) = nI j := by
  have e : nhR σ (nI k) = (nhW σ (nI k)) 2 4 ∧ (nhW σ (nI k)) 1 3 = 0 := by
    unfold nhR at h ⊢
    split at h
    · rename_i h0
      rw [if_pos h0]
      exact ⟨rfl, h0⟩
    · exact absurd (by decide) h
  obtain ⟨e1, e2⟩ := e
  rw [e1] at h ⊢
  unfold nhW nh2 at e2 h ⊢
  split at e2
  · rename_i h0
    rw [if_pos h0] at h ⊢
    split at e2
    · rename_i h1
      rw [if_pos h1] at h ⊢
      rw [lt_toInt, Int32.toInt_zero] at h
      rw [le_toInt, nI_toInt (by omega)] at h1
      refine ⟨((nh1 σ) 2 4).toInt.toNat, by omega, ?_⟩
      rw [← Int32.toInt_inj, nI_toInt (by omega)]
      omega
    · exact absurd e2 (rfW_3 (by decide))
  · rename_i h0
    exact absurd e2 h0
def hdW (σ : vW) (n : Nat) : vW := if nhR σ (nI 8) < 0 then nhW σ (nI 8) else if oneB (nI n) (nI n - nI 1) = true then (if σ 17 (nhR σ (nI 8)).toNatClampNeg = -1 then vset (vset (nhW σ (nI 8)) 17 (nhR σ (nI 8)).toNatClampNeg (nI n - nI 1)) 14 (n - 1) (nhR σ (nI 8)) else rfW (nhW σ (nI 8)) (nI 4)) else nhW σ (nI 8)
set_option maxHeartbeats 4000000 in
theorem C_X0_hangToldDoor {σ : vW} {n : Nat} (hn : σ 10 10 = nI n) (hn5 : n ≤ 5) : Ctr mX0_hangToldDoor 2 [.ref 1] σ (vDet none (hdW σ n)) := by
  have hT := TB10
  have e10 : (nhW σ (nI 8)) 10 10 = nI n := by rw [nhW_sc.1 10 (by decide) (by decide)]; exact hn
  have e17 : (nhW σ (nI 8)) 17 = σ 17 := nhW_sc.1 17 (by decide) (by decide)
  refine Ctr.intro (by decide) (fun α => Nat.le_of_ble_eq_true rfl) (fun x G hQ => ?_)
  have G : vG x RX0 cX0_hangToldDoor 3 none 2 := G
  show V x 0 [some (.ref 1), none, none] [] σ
  by_cases hw : nhR σ (nI 8) < 0
  · rw [hdW, if_pos hw] at hQ
    refine v_aload_3_0 G dX0_hangToldDoor_0 ?_
    refine v_bipush (v := nI 8) G dX0_hangToldDoor_1 (by decide) ?_
    refine v_cV1 G (C_X0_numberHere) (by decide) md_X0_numberHere in_X0_numberHere (rv_X0 rfl) ml_X0_120 (Nat.le_of_ble_eq_true rfl) dX0_hangToldDoor_3 ?_
    refine v_istore_3_1 G dX0_hangToldDoor_6 rfl ?_
    refine v_aload_3_0 G dX0_hangToldDoor_7 ?_
    refine v_getR G vc_0 lk_X0_21 (fs_X0_1) dX0_hangToldDoor_8 ?_
    refine v_getI G vc_4 lk_X0_103 (fs_X4_10 (by first | assumption | exact imgP_TB)) dX0_hangToldDoor_11 ?_
    rw [e10]
    refine v_iconst (v := nI 1) G dX0_hangToldDoor_14 (by decide) ?_
    refine v_isub G dX0_hangToldDoor_15 ?_
    refine v_istore_3_2 G dX0_hangToldDoor_16 rfl ?_
    refine v_iload_3_1 G dX0_hangToldDoor_17 ?_
    refine v_if_lt (tgt := 32) G dX0_hangToldDoor_18 rfl (fun h_18 => ?_) (fun h_18 => absurd hw h_18)
    exact v_vret G hQ dX0_hangToldDoor_32 vDet.mk
  · rw [hdW, if_neg hw] at hQ
    obtain ⟨w0, hw0, ew⟩ := nhR_ex (by omega) hw
    have cw : (nI w0).toNatClampNeg = w0 := nI_clamp (by omega)
    rw [ew] at hw
    by_cases ho : oneB (nI n) (nI n - nI 1) = true
    · rw [if_pos ho, ew, cw] at hQ
      have hp : ∃ p0, p0 < 5 ∧ nI n - nI 1 = nI p0 ∧ n - 1 = p0 := by
        rcases Nat.eq_zero_or_pos n with h | h
        · subst h
          exact absurd ho (by decide)
        · exact ⟨n - 1, by omega, by rw [show n = (n - 1) + 1 by omega]; exact nI_prd _, rfl⟩
      obtain ⟨p0, hp0, ep, ep2⟩ := hp
      rw [ep, ep2] at hQ
      rw [ep] at ho
      refine v_aload_3_0 G dX0_hangToldDoor_0 ?_
      refine v_bipush (v := nI 8) G dX0_hangToldDoor_1 (by decide) ?_
      refine v_cV1 G (C_X0_numberHere) (by decide) md_X0_numberHere in_X0_numberHere (rv_X0 rfl) ml_X0_120 (Nat.le_of_ble_eq_true rfl) dX0_hangToldDoor_3 ?_
      rw [ew]
      refine v_istore_3_1 G dX0_hangToldDoor_6 rfl ?_
      refine v_aload_3_0 G dX0_hangToldDoor_7 ?_
      refine v_getR G vc_0 lk_X0_21 (fs_X0_1) dX0_hangToldDoor_8 ?_
      refine v_getI G vc_4 lk_X0_103 (fs_X4_10 (by first | assumption | exact imgP_TB)) dX0_hangToldDoor_11 ?_
      rw [e10]
      refine v_iconst (v := nI 1) G dX0_hangToldDoor_14 (by decide) ?_
      refine v_isub G dX0_hangToldDoor_15 ?_
      rw [ep]
      refine v_istore_3_2 G dX0_hangToldDoor_16 rfl ?_
      refine v_iload_3_1 G dX0_hangToldDoor_17 ?_
      refine v_if_lt (tgt := 32) G dX0_hangToldDoor_18 rfl (fun h_18 => absurd h_18 hw) (fun h_18 => ?_)
      refine v_aload_3_0 G dX0_hangToldDoor_21 ?_
      refine v_getR G vc_0 lk_X0_21 (fs_X0_1) dX0_hangToldDoor_22 ?_
      refine v_iload_3_2 G dX0_hangToldDoor_25 ?_
      refine v_cV1 G (C_X4_isOne (by first | assumption | omega | exact oneB_in (by assumption) | exact wallB_in (by assumption) | exact oneB_m1 (by assumption) | decide)) (by decide) md_X4_isOne in_X4_isOne (rv_X4 (by first | assumption | exact imgP_TB | exact shP_SB) rfl) ml_X0_123 (Nat.le_of_ble_eq_true rfl) dX0_hangToldDoor_26 ?_
      rw [e10]
      refine v_ifB_ne (tgt := 33) G dX0_hangToldDoor_29 rfl (fun h_29 => ?_) (fun h_29 => absurd ho (by rw [h_29]; exact Bool.false_ne_true))
      refine v_aload_3_0 G dX0_hangToldDoor_33 ?_
      refine v_getR G vc_0 lk_X0_21 (fs_X0_1) dX0_hangToldDoor_34 ?_
      refine v_getR G vc_4 lk_X0_127 (fs_X4_6 (by first | assumption | exact imgP_TB)) dX0_hangToldDoor_37 ?_
      refine v_iload_3_1 G dX0_hangToldDoor_40 ?_
      refine v_ialdN G (as_X4_6 (by first | assumption | exact imgP_TB)) (by first | assumption | omega | exact oneB_in (by assumption) | exact wallB_in (by assumption) | exact oneB_m1 (by assumption) | decide) (by first | decide | omega) dX0_hangToldDoor_41 ?_
      rw [e17]
      refine v_iconst (v := (-1)) G dX0_hangToldDoor_42 (by decide) ?_
      refine v_icmp_eq (tgt := 52) G dX0_hangToldDoor_43 rfl (fun h_43 => ?_) (fun h_43 => ?_)
      · refine v_aload_3_0 G dX0_hangToldDoor_52 ?_
        refine v_getR G vc_0 lk_X0_21 (fs_X0_1) dX0_hangToldDoor_53 ?_
        refine v_getR G vc_4 lk_X0_127 (fs_X4_6 (by first | assumption | exact imgP_TB)) dX0_hangToldDoor_56 ?_
        refine v_iload_3_1 G dX0_hangToldDoor_59 ?_
        refine v_iload_3_2 G dX0_hangToldDoor_60 ?_
        refine v_iastN G (as_X4_6 (by first | assumption | exact imgP_TB)) (by first | assumption | omega | exact oneB_in (by assumption) | exact wallB_in (by assumption) | exact oneB_m1 (by assumption) | decide) (by first | decide | omega) dX0_hangToldDoor_61 ?_
        refine v_aload_3_0 G dX0_hangToldDoor_62 ?_
        refine v_getR G vc_0 lk_X0_21 (fs_X0_1) dX0_hangToldDoor_63 ?_
        refine v_getR G vc_4 lk_X0_131 (fs_X4_3 (by first | assumption | exact imgP_TB)) dX0_hangToldDoor_66 ?_
        refine v_iload_3_2 G dX0_hangToldDoor_69 ?_
        refine v_iload_3_1 G dX0_hangToldDoor_70 ?_
        refine v_iastN G (as_X4_3 (by first | assumption | exact imgP_TB)) (by first | assumption | omega | exact oneB_in (by assumption) | exact wallB_in (by assumption) | exact oneB_m1 (by assumption) | decide) (by first | decide | omega) dX0_hangToldDoor_71 ?_
        exact v_vret G hQ dX0_hangToldDoor_72 (vDet.of rfl (by first | (rw [if_pos h_43]; done) | (rw [if_neg h_43]; done)))
      · refine v_aload_3_0 G dX0_hangToldDoor_46 ?_
        refine v_iconst (v := nI 4) G dX0_hangToldDoor_47 (by decide) ?_
        refine v_cV1v G (C_X0_refuse) (by decide) md_X0_refuse in_X0_refuse (rv_X0 rfl) ml_X0_82 (Nat.le_of_ble_eq_true rfl) dX0_hangToldDoor_48 ?_
        exact v_vret G hQ dX0_hangToldDoor_51 (vDet.of rfl (by first | (rw [if_pos h_43]; done) | (rw [if_neg h_43]; done)))
    · rw [if_neg ho] at hQ
      refine v_aload_3_0 G dX0_hangToldDoor_0 ?_
      refine v_bipush (v := nI 8) G dX0_hangToldDoor_1 (by decide) ?_
      refine v_cV1 G (C_X0_numberHere) (by decide) md_X0_numberHere in_X0_numberHere (rv_X0 rfl) ml_X0_120 (Nat.le_of_ble_eq_true rfl) dX0_hangToldDoor_3 ?_
      rw [ew]
      refine v_istore_3_1 G dX0_hangToldDoor_6 rfl ?_
      refine v_aload_3_0 G dX0_hangToldDoor_7 ?_
      refine v_getR G vc_0 lk_X0_21 (fs_X0_1) dX0_hangToldDoor_8 ?_
      refine v_getI G vc_4 lk_X0_103 (fs_X4_10 (by first | assumption | exact imgP_TB)) dX0_hangToldDoor_11 ?_
      rw [e10]
      refine v_iconst (v := nI 1) G dX0_hangToldDoor_14 (by decide) ?_
      refine v_isub G dX0_hangToldDoor_15 ?_
      refine v_istore_3_2 G dX0_hangToldDoor_16 rfl ?_
      refine v_iload_3_1 G dX0_hangToldDoor_17 ?_
      refine v_if_lt (tgt := 32) G dX0_hangToldDoor_18 rfl (fun h_18 => absurd h_18 hw) (fun h_18 => ?_)
      refine v_aload_3_0 G dX0_hangToldDoor_21 ?_
      refine v_getR G vc_0 lk_X0_21 (fs_X0_1) dX0_hangToldDoor_22 ?_
      refine v_iload_3_2 G dX0_hangToldDoor_25 ?_
      refine v_cV1 G (C_X4_isOne (by first | assumption | omega | exact oneB_in (by assumption) | exact wallB_in (by assumption) | exact oneB_m1 (by assumption) | decide)) (by decide) md_X4_isOne in_X4_isOne (rv_X4 (by first | assumption | exact imgP_TB | exact shP_SB) rfl) ml_X0_123 (Nat.le_of_ble_eq_true rfl) dX0_hangToldDoor_26 ?_
      rw [e10]
      refine v_ifB_ne (tgt := 33) G dX0_hangToldDoor_29 rfl (fun h_29 => absurd h_29 ho) (fun h_29 => ?_)
      exact v_vret G hQ dX0_hangToldDoor_32 vDet.mk
def wl3 (s : vW) (a b : Int32) : vW := if s 1 3 = 0 then (if a = b then rfW s (nI 3) else s) else s
def wl4 (σ : vW) : vW := tsW (ntW (wl3 (nnW (nnW σ (nI 7)) (nI 7)) (nnR σ (nI 7)) (nnR (nnW σ (nI 7)) (nI 7))))
def wlW (σ : vW) (m : Nat) : vW := if nI 9 ≤ nI m then rfW σ (nI 5) else if (wl4 σ) 1 3 = 0 then addWallW (wl4 σ) 10 m (nnR σ (nI 7)) (nnR (nnW σ (nI 7)) (nI 7)) else wl4 σ
theorem wl3_sc {s : vW} {a b : Int32} : scR (wl3 s a b) s := by
  unfold wl3
  split
  · split
    · exact rfW_sc
    · exact scR_refl s
  · exact scR_refl s
theorem tkOK_wl3 {s : vW} {a b : Int32} (h : tkOK s) : tkOK (wl3 s a b) := by
  unfold wl3
  split
  · split
    · exact tkOK_rf h
    · exact h
  · exact h
theorem wl4_sc {σ : vW} : scR (wl4 σ) σ := scR_trans tsW_sc (scR_trans ntW_sc (scR_trans wl3_sc (scR_trans nnW_sc nnW_sc)))
set_option maxHeartbeats 4000000 in
theorem C_X0_readWall {σ : vW} {m : Nat} (h : tkOK σ) (hm : σ 10 11 = nI m) (hm9 : m ≤ 9) : Ctr mX0_readWall 4 [.ref 1] σ (vDet none (wlW σ m)) := by
  have hT := TB10
  have hm4 : (wl4 σ) 10 11 = nI m := by rw [wl4_sc.1 10 (by decide) (by decide)]; exact hm
  refine Ctr.intro (by decide) (fun α => Nat.le_of_ble_eq_true rfl) (fun x G hQ => ?_)
  have G : vG x RX0 cX0_readWall 3 none 4 := G
  show V x 0 [some (.ref 1), none, none] [] σ
  by_cases hfull : nI 9 ≤ nI m
  · rw [wlW, if_pos hfull] at hQ
    refine v_aload_3_0 G dX0_readWall_0 ?_
    refine v_getR G vc_0 lk_X0_21 (fs_X0_1) dX0_readWall_1 ?_
    refine v_getI G vc_4 lk_X0_134 (fs_X4_11 (by first | assumption | exact imgP_TB)) dX0_readWall_4 ?_
    rw [hm]
    refine v_bipush (v := nI 9) G dX0_readWall_7 (by decide) ?_
    refine v_icmp_lt (tgt := 18) G dX0_readWall_9 rfl (fun h_9 => absurd h_9 (Int32.not_lt.mpr hfull)) (fun h_9 => ?_)
    refine v_aload_3_0 G dX0_readWall_12 ?_
    refine v_iconst (v := nI 5) G dX0_readWall_13 (by decide) ?_
    refine v_cV1v G (C_X0_refuse) (by decide) md_X0_refuse in_X0_refuse (rv_X0 rfl) ml_X0_82 (Nat.le_of_ble_eq_true rfl) dX0_readWall_14 ?_
    exact v_vret G hQ dX0_readWall_17 vDet.mk
  · rw [wlW, if_neg hfull] at hQ
    have hm8 : m < 9 := by
      rcases Nat.lt_or_ge m 9 with q | q
      · exact q
      · exact absurd (nI_le q (by omega)) hfull
    have k49 : V x 49 [some (.ref 1), some (.int (nnR σ (nI 7))), some (.int (nnR (nnW σ (nI 7)) (nI 7)))] [] (wl3 (nnW (nnW σ (nI 7)) (nI 7)) (nnR σ (nI 7)) (nnR (nnW σ (nI 7)) (nI 7))) := by
      refine v_aload_3_0 G dX0_readWall_49 ?_
      refine v_cV0 G (C_X0_nextToken (tkOK_wl3 (tkOK_nn (tkOK_nn h)))) (by decide) md_X0_nextToken in_X0_nextToken (rv_X0 rfl) ml_X0_48 (Nat.le_of_ble_eq_true rfl) dX0_readWall_50 ?_
      refine v_pop G dX0_readWall_53 rfl ?_
      refine v_aload_3_0 G dX0_readWall_54 ?_
      refine v_cV0v G (C_X0_takeSign) (by decide) md_X0_takeSign in_X0_takeSign (rv_X0 rfl) ml_X0_117 (Nat.le_of_ble_eq_true rfl) dX0_readWall_55 ?_
      rw [show tsW (ntW (wl3 (nnW (nnW σ (nI 7)) (nI 7)) (nnR σ (nI 7)) (nnR (nnW σ (nI 7)) (nI 7)))) = wl4 σ from rfl]
      refine v_aload_3_0 G dX0_readWall_58 ?_
      refine v_getI G vc_0 lk_X0_35 (fs_X0_3) dX0_readWall_59 ?_
      refine v_if_ne (tgt := 75) G dX0_readWall_62 rfl (fun h_62 => ?_) (fun h_62 => ?_)
      · exact v_vret G hQ dX0_readWall_75 (vDet.of rfl (by first | (rw [if_pos h_62, if_pos hm8]; done) | (rw [if_neg h_62]; done)))
      · refine v_aload_3_0 G dX0_readWall_65 ?_
        refine v_getR G vc_0 lk_X0_21 (fs_X0_1) dX0_readWall_66 ?_
        refine v_iload_3_1 G dX0_readWall_69 ?_
        refine v_iload_3_2 G dX0_readWall_70 ?_
        refine v_cV2 G (C_X4_addWall hT hm4 hm9) (by decide) md_X4_addWall in_X4_addWall (rv_X4 (by first | assumption | exact imgP_TB | exact shP_SB) rfl) ml_X0_137 (Nat.le_of_ble_eq_true rfl) dX0_readWall_71 ?_
        refine v_pop G dX0_readWall_74 rfl ?_
        exact v_vret G hQ dX0_readWall_75 (vDet.of rfl (by first | (rw [if_pos h_62, if_pos hm8]; done) | (rw [if_neg h_62]; done)))
    generalize hs2 : nnW (nnW σ (nI 7)) (nI 7) = s2 at k49
    generalize hb2 : nnR (nnW σ (nI 7)) (nI 7) = b2 at k49
    refine v_aload_3_0 G dX0_readWall_0 ?_
    refine v_getR G vc_0 lk_X0_21 (fs_X0_1) dX0_readWall_1 ?_
    refine v_getI G vc_4 lk_X0_134 (fs_X4_11 (by first | assumption | exact imgP_TB)) dX0_readWall_4 ?_
    rw [hm]
    refine v_bipush (v := nI 9) G dX0_readWall_7 (by decide) ?_
    refine v_icmp_lt (tgt := 18) G dX0_readWall_9 rfl (fun h_9 => ?_) (fun h_9 => absurd (nI_lt hm8 (by omega)) h_9)
    refine v_aload_3_0 G dX0_readWall_18 ?_
    refine v_bipush (v := nI 7) G dX0_readWall_19 (by decide) ?_
    refine v_cV1 G (C_X0_nextNumber h) (by decide) md_X0_nextNumber in_X0_nextNumber (rv_X0 rfl) ml_X0_106 (Nat.le_of_ble_eq_true rfl) dX0_readWall_21 ?_
    refine v_istore_3_1 G dX0_readWall_24 rfl ?_
    refine v_aload_3_0 G dX0_readWall_25 ?_
    refine v_bipush (v := nI 7) G dX0_readWall_26 (by decide) ?_
    refine v_cV1 G (C_X0_nextNumber (tkOK_nn h)) (by decide) md_X0_nextNumber in_X0_nextNumber (rv_X0 rfl) ml_X0_106 (Nat.le_of_ble_eq_true rfl) dX0_readWall_28 ?_
    rw [hs2, hb2]
    refine v_istore_3_2 G dX0_readWall_31 rfl ?_
    refine v_aload_3_0 G dX0_readWall_32 ?_
    refine v_getI G vc_0 lk_X0_35 (fs_X0_3) dX0_readWall_33 ?_
    refine v_if_ne (tgt := 49) G dX0_readWall_36 rfl (fun h_36 => ?_) (fun h_36 => ?_)
    · first
        | (simp only [wl3, h_9, h_36, if_pos h_41, if_true, if_false] at k49; exact k49)
        | (simp only [wl3, h_9, h_36, if_neg h_41, if_true, if_false] at k49; exact k49)
        | (simp only [wl3, h_9, h_36, if_true, if_false] at k49; exact k49)
    · refine v_iload_3_1 G dX0_readWall_39 ?_
      refine v_iload_3_2 G dX0_readWall_40 ?_
      refine v_icmp_ne (tgt := 49) G dX0_readWall_41 rfl (fun h_41 => ?_) (fun h_41 => ?_)
      · first
          | (simp only [wl3, h_9, h_36, if_pos h_41, if_true, if_false] at k49; exact k49)
          | (simp only [wl3, h_9, h_36, if_neg h_41, if_true, if_false] at k49; exact k49)
          | (simp only [wl3, h_9, h_36, if_true, if_false] at k49; exact k49)
      · refine v_aload_3_0 G dX0_readWall_44 ?_
        refine v_iconst (v := nI 3) G dX0_readWall_45 (by decide) ?_
        refine v_cV1v G (C_X0_refuse) (by decide) md_X0_refuse in_X0_refuse (rv_X0 rfl) ml_X0_82 (Nat.le_of_ble_eq_true rfl) dX0_readWall_46 ?_
        first
          | (simp only [wl3, h_9, h_36, if_pos h_41, if_true, if_false] at k49; exact k49)
          | (simp only [wl3, h_9, h_36, if_neg h_41, if_true, if_false] at k49; exact k49)
          | (simp only [wl3, h_9, h_36, if_true, if_false] at k49; exact k49)
def rm1 (σ : vW) : vW := if bitB (σ 1 5) (nnR σ (nI 7)) = true then rfW (nnW σ (nI 7)) (nI 4) else nnW σ (nI 7)
def rm2 (σ : vW) : vW := tsW (ntW (nnW (rm1 σ) (nI 99)))
def rmW1 (σ : vW) : vW := if (rm2 σ) 1 3 = 0 then (if roomB (nnR σ (nI 7)) = true then vset (vset (rm2 σ) 1 5 (σ 1 5 ||| nI 1 <<< (nnR σ (nI 7) &&& 31))) 18 (nnR σ (nI 7)).toNatClampNeg (nnR (rm1 σ) (nI 99)) else rm2 σ) else rm2 σ
theorem rm1_sc {σ : vW} : scR (rm1 σ) σ := by
  unfold rm1
  split
  · exact scR_trans rfW_sc nnW_sc
  · exact nnW_sc
theorem tkOK_rm1 {σ : vW} (h : tkOK σ) : tkOK (rm1 σ) := by
  unfold rm1
  split
  · exact tkOK_rf (tkOK_nn h)
  · exact tkOK_nn h
theorem rm2_sc {σ : vW} : scR (rm2 σ) σ := scR_trans tsW_sc (scR_trans ntW_sc (scR_trans nnW_sc rm1_sc))
set_option maxHeartbeats 4000000 in
theorem C_X0_readRoom {σ : vW} (h : tkOK σ) : Ctr mX0_readRoom 4 [.ref 1] σ (vDet none (rmW1 σ)) := by
  have hT := TB10
  have e5 : (nnW σ (nI 7)) 1 5 = σ 1 5 := nnW_sc.2.1 5 (by decide) (by decide)
  have f5 : (rm2 σ) 1 5 = σ 1 5 := rm2_sc.2.1 5 (by decide) (by decide)
  refine Ctr.intro (by decide) (fun α => Nat.le_of_ble_eq_true rfl) (fun x G hQ => ?_)
  have G : vG x RX0 cX0_readRoom 3 none 4 := G
  show V x 0 [some (.ref 1), none, none] [] σ
  have k23 : V x 23 [some (.ref 1), some (.int (nnR σ (nI 7))), none] [] (rm1 σ) := by
    have hc := hQ
    unfold rmW1 at hQ
    by_cases hr : roomB (nnR σ (nI 7)) = true
    · obtain ⟨r0, hr0, er⟩ := roomB_ex hr
      have cr : (nI r0).toNatClampNeg = r0 := nI_clamp (by omega)
      rw [if_pos hr, er, cr] at hQ
      rw [er] at hr ⊢
      refine v_aload_3_0 G dX0_readRoom_23 ?_
      refine v_bipush (v := nI 99) G dX0_readRoom_24 (by decide) ?_
      refine v_cV1 G (C_X0_nextNumber (tkOK_rm1 h)) (by decide) md_X0_nextNumber in_X0_nextNumber (rv_X0 rfl) ml_X0_106 (Nat.le_of_ble_eq_true rfl) dX0_readRoom_26 ?_
      refine v_istore_3_2 G dX0_readRoom_29 rfl ?_
      refine v_aload_3_0 G dX0_readRoom_30 ?_
      refine v_cV0 G (C_X0_nextToken (tkOK_nn (tkOK_rm1 h))) (by decide) md_X0_nextToken in_X0_nextToken (rv_X0 rfl) ml_X0_48 (Nat.le_of_ble_eq_true rfl) dX0_readRoom_31 ?_
      refine v_pop G dX0_readRoom_34 rfl ?_
      refine v_aload_3_0 G dX0_readRoom_35 ?_
      refine v_cV0v G (C_X0_takeSign) (by decide) md_X0_takeSign in_X0_takeSign (rv_X0 rfl) ml_X0_117 (Nat.le_of_ble_eq_true rfl) dX0_readRoom_36 ?_
      rw [show tsW (ntW (nnW (rm1 σ) (nI 99))) = rm2 σ from rfl]
      refine v_aload_3_0 G dX0_readRoom_39 ?_
      refine v_getI G vc_0 lk_X0_35 (fs_X0_3) dX0_readRoom_40 ?_
      refine v_if_ne (tgt := 75) G dX0_readRoom_43 rfl (fun h_43 => ?_) (fun h_43 => ?_)
      · exact v_vret G hQ dX0_readRoom_75 (vDet.of rfl (by first | (rw [if_pos h_43]; done) | (rw [if_neg h_43]; done)))
      · refine v_iload_3_1 G dX0_readRoom_46 ?_
        refine v_cN1 G (C_X5_isRoom) (by decide) md_X5_isRoom st_X5_isRoom nl_X0_144 (Nat.le_of_ble_eq_true rfl) dX0_readRoom_47 ?_
        refine v_ifB_eq (tgt := 75) G dX0_readRoom_50 rfl (fun h_50 => absurd hr (by rw [h_50]; exact Bool.false_ne_true)) (fun h_50 => ?_)
        refine v_aload_3_0 G dX0_readRoom_53 ?_
        refine v_dup G dX0_readRoom_54 rfl ?_
        refine v_getI G vc_0 lk_X0_41 (fs_X0_5) dX0_readRoom_55 ?_
        rw [f5]
        refine v_iconst (v := nI 1) G dX0_readRoom_58 (by decide) ?_
        refine v_iload_3_1 G dX0_readRoom_59 ?_
        refine v_ishl G dX0_readRoom_60 ?_
        refine v_ior G dX0_readRoom_61 ?_
        refine v_putI G vc_0 vt_0 lk_X0_41 (fs_X0_5) (ft_X0_5 _) dX0_readRoom_62 ?_
        refine v_aload_3_0 G dX0_readRoom_65 ?_
        refine v_getR G vc_0 lk_X0_21 (fs_X0_1) dX0_readRoom_66 ?_
        refine v_getR G vc_4 lk_X0_147 (fs_X4_7 (by first | assumption | exact imgP_TB)) dX0_readRoom_69 ?_
        refine v_iload_3_1 G dX0_readRoom_72 ?_
        refine v_iload_3_2 G dX0_readRoom_73 ?_
        refine v_iastN G (as_X4_7 (by first | assumption | exact imgP_TB)) (by first | assumption | omega | exact oneB_in (by assumption) | exact wallB_in (by assumption) | exact oneB_m1 (by assumption) | decide) (by first | decide | omega) dX0_readRoom_74 ?_
        exact v_vret G hQ dX0_readRoom_75 (vDet.of rfl (by first | (rw [if_pos h_43]; done) | (rw [if_neg h_43]; done)))
    · rw [if_neg hr] at hQ
      refine v_aload_3_0 G dX0_readRoom_23 ?_
      refine v_bipush (v := nI 99) G dX0_readRoom_24 (by decide) ?_
      refine v_cV1 G (C_X0_nextNumber (tkOK_rm1 h)) (by decide) md_X0_nextNumber in_X0_nextNumber (rv_X0 rfl) ml_X0_106 (Nat.le_of_ble_eq_true rfl) dX0_readRoom_26 ?_
      refine v_istore_3_2 G dX0_readRoom_29 rfl ?_
      refine v_aload_3_0 G dX0_readRoom_30 ?_
      refine v_cV0 G (C_X0_nextToken (tkOK_nn (tkOK_rm1 h))) (by decide) md_X0_nextToken in_X0_nextToken (rv_X0 rfl) ml_X0_48 (Nat.le_of_ble_eq_true rfl) dX0_readRoom_31 ?_
      refine v_pop G dX0_readRoom_34 rfl ?_
      refine v_aload_3_0 G dX0_readRoom_35 ?_
      refine v_cV0v G (C_X0_takeSign) (by decide) md_X0_takeSign in_X0_takeSign (rv_X0 rfl) ml_X0_117 (Nat.le_of_ble_eq_true rfl) dX0_readRoom_36 ?_
      rw [show tsW (ntW (nnW (rm1 σ) (nI 99))) = rm2 σ from rfl]
      refine v_aload_3_0 G dX0_readRoom_39 ?_
      refine v_getI G vc_0 lk_X0_35 (fs_X0_3) dX0_readRoom_40 ?_
      refine v_if_ne (tgt := 75) G dX0_readRoom_43 rfl (fun h_43 => ?_) (fun h_43 => ?_)
      · exact v_vret G hQ dX0_readRoom_75 (vDet.of rfl (by rw [ite_self]))
      · refine v_iload_3_1 G dX0_readRoom_46 ?_
        refine v_cN1 G (C_X5_isRoom) (by decide) md_X5_isRoom st_X5_isRoom nl_X0_144 (Nat.le_of_ble_eq_true rfl) dX0_readRoom_47 ?_
        refine v_ifB_eq (tgt := 75) G dX0_readRoom_50 rfl (fun h_50 => ?_) (fun h_50 => absurd h_50 hr)
        exact v_vret G hQ dX0_readRoom_75 (vDet.of rfl (by rw [ite_self]))
  refine v_aload_3_0 G dX0_readRoom_0 ?_
  refine v_bipush (v := nI 7) G dX0_readRoom_1 (by decide) ?_
  refine v_cV1 G (C_X0_nextNumber h) (by decide) md_X0_nextNumber in_X0_nextNumber (rv_X0 rfl) ml_X0_106 (Nat.le_of_ble_eq_true rfl) dX0_readRoom_3 ?_
  refine v_istore_3_1 G dX0_readRoom_6 rfl ?_
  refine v_aload_3_0 G dX0_readRoom_7 ?_
  refine v_getI G vc_0 lk_X0_41 (fs_X0_5) dX0_readRoom_8 ?_
  rw [e5]
  refine v_iload_3_1 G dX0_readRoom_11 ?_
  refine v_cN2 G (C_X5_hasBit) (by decide) md_X5_hasBit st_X5_hasBit nl_X0_141 (Nat.le_of_ble_eq_true rfl) dX0_readRoom_12 ?_
  refine v_ifB_eq (tgt := 23) G dX0_readRoom_15 rfl (fun h_15 => ?_) (fun h_15 => ?_)
  · simp only [rm1, h_15, if_true, if_false, Bool.false_eq_true] at k23
    exact k23
  · refine v_aload_3_0 G dX0_readRoom_18 ?_
    refine v_iconst (v := nI 4) G dX0_readRoom_19 (by decide) ?_
    refine v_cV1v G (C_X0_refuse) (by decide) md_X0_refuse in_X0_refuse (rv_X0 rfl) ml_X0_82 (Nat.le_of_ble_eq_true rfl) dX0_readRoom_20 ?_
    simp only [rm1, h_15, if_true, if_false, Bool.false_eq_true] at k23
    exact k23
/-- one told -/
def od1 (σ : vW) : vW := ntW (nnW (nnW σ (nI 3)) (nI 7))
def od2 (σ : vW) (n : Nat) (kd : Int32) : vW := addOneW (od1 σ) 10 n kd (nnR σ (nI 3)) (nnR (nnW σ (nI 3)) (nI 7))
def od3 (s : vW) (n : Nat) : vW := if s 2 2 = nI 2 then ntW (hdW s (n + 1)) else s
def odW (σ : vW) (n : Nat) (kd : Int32) : vW := if nI 5 ≤ nI n then rfW σ (nI 5) else if ntB (nnW (nnW σ (nI 3)) (nI 7)) = true then tsW (od3 (od2 σ n kd) n) else od1 σ
theorem addOneW_ne {s : vW} {n r : Nat} {k h v : Int32} (h1 : r ≠ 10) (h2 : ¬ (11 ≤ r ∧ r ≤ 14)) : (addOneW s 10 n k h v) r = s r := by
  unfold addOneW
  rw [vset_ne h1, vset_ne (by omega), vset_ne (by omega), vset_ne (by omega), vset_ne (by omega)]
theorem hdW_2 {σ : vW} {n : Nat} : (hdW σ n) 2 = σ 2 := by
  unfold hdW
  split
  · exact nhW_2
  · split
    · split
      · rw [vset_ne (by decide), vset_ne (by decide)]
        exact nhW_2
      · exact rfW_2.trans nhW_2
    · exact nhW_2
theorem tkOK_2 {b σ : vW} (h : tkOK σ) (e : b 2 = σ 2) : tkOK b := by
  obtain ⟨l, p, h1, h2, h3, h4⟩ := h
  exact ⟨l, p, h1, h2, by rw [e]; exact h3, by rw [e]; exact h4⟩
set_option maxHeartbeats 4000000 in
theorem C_X0_readOne {σ : vW} {n : Nat} {kd : Int32} (h : tkOK σ) (hn : σ 10 10 = nI n) (hn5 : n ≤ 5) : Ctr mX0_readOne 4 [.ref 1, .int kd] σ (vDet none (odW σ n kd)) := by
  have hT := TB10
  refine Ctr.intro (by decide) (fun α => Nat.le_of_ble_eq_true rfl) (fun x G hQ => ?_)
  have G : vG x RX0 cX0_readOne 4 none 4 := G
  show V x 0 [some (.ref 1), some (.int kd), none, none] [] σ
  by_cases hfull : nI 5 ≤ nI n
  · rw [odW, if_pos hfull] at hQ
    refine v_aload_4_0 G dX0_readOne_0 ?_
    refine v_getR G vc_0 lk_X0_21 (fs_X0_1) dX0_readOne_1 ?_
    refine v_getI G vc_4 lk_X0_103 (fs_X4_10 (by first | assumption | exact imgP_TB)) dX0_readOne_4 ?_
    rw [hn]
    refine v_iconst (v := nI 5) G dX0_readOne_7 (by decide) ?_
    refine v_icmp_lt (tgt := 17) G dX0_readOne_8 rfl (fun h_8 => absurd h_8 (Int32.not_lt.mpr hfull)) (fun h_8 => ?_)
    refine v_aload_4_0 G dX0_readOne_11 ?_
    refine v_iconst (v := nI 5) G dX0_readOne_12 (by decide) ?_
    refine v_cV1v G (C_X0_refuse) (by decide) md_X0_refuse in_X0_refuse (rv_X0 rfl) ml_X0_82 (Nat.le_of_ble_eq_true rfl) dX0_readOne_13 ?_
    exact v_vret G hQ dX0_readOne_16 vDet.mk
  · have hn4 : n < 5 := by
      rcases Nat.lt_or_ge n 5 with q | q
      · exact q
      · exact absurd (nI_le q (by omega)) hfull
    rw [odW, if_neg hfull] at hQ
    have hk1 : tkOK (od1 σ) := tkOK_nt (tkOK_nn (tkOK_nn h))
    have hn1 : (od1 σ) 10 10 = nI n := by rw [od1, ntW_sc.1 10 (by decide) (by decide), nnW_sc.1 10 (by decide) (by decide), nnW_sc.1 10 (by decide) (by decide)]; exact hn
    have e2 : (od2 σ n kd) 2 = (od1 σ) 2 := addOneW_ne (by decide) (by decide)
    have hk2 : tkOK (od2 σ n kd) := tkOK_2 hk1 e2
    have hn2 : (od2 σ n kd) 10 10 = nI (n + 1) := by rw [od2, addOneW, vset_at]
    have hk3 : tkOK (hdW (od2 σ n kd) (n + 1)) := tkOK_2 hk2 hdW_2
    by_cases hb : ntB (nnW (nnW σ (nI 3)) (nI 7)) = true
    · rw [if_pos hb] at hQ
      have k69 : ∀ a b, V x 69 [some (.ref 1), some (.int kd), some (.int a), some (.int b)] [] (od3 (od2 σ n kd) n) := by
        intro a b
        refine v_aload_4_0 G dX0_readOne_69 ?_
        refine v_cV0v G (C_X0_takeSign) (by decide) md_X0_takeSign in_X0_takeSign (rv_X0 rfl) ml_X0_117 (Nat.le_of_ble_eq_true rfl) dX0_readOne_70 ?_
        exact v_vret G hQ dX0_readOne_73 vDet.mk
      have k49 : ∀ a b, V x 49 [some (.ref 1), some (.int kd), some (.int a), some (.int b)] [] (od2 σ n kd) := by
        intro a b
        have k := k69 a b
        refine v_aload_4_0 G dX0_readOne_49 ?_
        refine v_getR G vc_0 lk_X0_12 (fs_X0_0) dX0_readOne_50 ?_
        refine v_getI G vc_3 lk_X0_52 (fs_X3_2) dX0_readOne_53 ?_
        refine v_iconst (v := nI 2) G dX0_readOne_56 (by decide) ?_
        refine v_icmp_ne (tgt := 69) G dX0_readOne_57 rfl (fun h_57 => ?_) (fun h_57 => ?_)
        · simp only [od3, h_57, if_true, if_false] at k
          exact k
        · refine v_aload_4_0 G dX0_readOne_60 ?_
          refine v_cV0v G (C_X0_hangToldDoor hn2 (by omega)) (by decide) md_X0_hangToldDoor in_X0_hangToldDoor (rv_X0 rfl) ml_X0_114 (Nat.le_of_ble_eq_true rfl) dX0_readOne_61 ?_
          refine v_aload_4_0 G dX0_readOne_64 ?_
          refine v_cV0 G (C_X0_nextToken hk3) (by decide) md_X0_nextToken in_X0_nextToken (rv_X0 rfl) ml_X0_48 (Nat.le_of_ble_eq_true rfl) dX0_readOne_65 ?_
          refine v_pop G dX0_readOne_68 rfl ?_
          simp only [od3, h_57, if_true, if_false] at k
          exact k
      refine v_aload_4_0 G dX0_readOne_0 ?_
      refine v_getR G vc_0 lk_X0_21 (fs_X0_1) dX0_readOne_1 ?_
      refine v_getI G vc_4 lk_X0_103 (fs_X4_10 (by first | assumption | exact imgP_TB)) dX0_readOne_4 ?_
      rw [hn]
      refine v_iconst (v := nI 5) G dX0_readOne_7 (by decide) ?_
      refine v_icmp_lt (tgt := 17) G dX0_readOne_8 rfl (fun h_8 => ?_) (fun h_8 => absurd (nI_lt hn4 (by omega)) h_8)
      refine v_aload_4_0 G dX0_readOne_17 ?_
      refine v_iconst (v := nI 3) G dX0_readOne_18 (by decide) ?_
      refine v_cV1 G (C_X0_nextNumber h) (by decide) md_X0_nextNumber in_X0_nextNumber (rv_X0 rfl) ml_X0_106 (Nat.le_of_ble_eq_true rfl) dX0_readOne_19 ?_
      refine v_istore_4_2 G dX0_readOne_22 rfl ?_
      refine v_aload_4_0 G dX0_readOne_23 ?_
      refine v_bipush (v := nI 7) G dX0_readOne_24 (by decide) ?_
      refine v_cV1 G (C_X0_nextNumber (tkOK_nn h)) (by decide) md_X0_nextNumber in_X0_nextNumber (rv_X0 rfl) ml_X0_106 (Nat.le_of_ble_eq_true rfl) dX0_readOne_26 ?_
      refine v_istore_4_3 G dX0_readOne_29 rfl ?_
      refine v_aload_4_0 G dX0_readOne_30 ?_
      refine v_cV0 G (C_X0_nextToken (tkOK_nn (tkOK_nn h))) (by decide) md_X0_nextToken in_X0_nextToken (rv_X0 rfl) ml_X0_48 (Nat.le_of_ble_eq_true rfl) dX0_readOne_31 ?_
      refine v_ifB_ne (tgt := 38) G dX0_readOne_34 rfl (fun h_34 => ?_) (fun h_34 => absurd hb (by rw [h_34]; exact Bool.false_ne_true))
      refine v_aload_4_0 G dX0_readOne_38 ?_
      refine v_getR G vc_0 lk_X0_21 (fs_X0_1) dX0_readOne_39 ?_
      refine v_iload_4_1 G dX0_readOne_42 ?_
      refine v_iload_4_2 G dX0_readOne_43 ?_
      refine v_iload_4_3 G dX0_readOne_44 ?_
      refine v_cV3 G (C_X4_addOne hT hn1 hn5) (by decide) md_X4_addOne in_X4_addOne (rv_X4 (by first | assumption | exact imgP_TB | exact shP_SB) rfl) ml_X0_110 (Nat.le_of_ble_eq_true rfl) dX0_readOne_45 ?_
      rw [if_pos hn4]
      refine v_pop G dX0_readOne_48 rfl ?_
      exact k49 _ _
    · rw [if_neg hb] at hQ
      refine v_aload_4_0 G dX0_readOne_0 ?_
      refine v_getR G vc_0 lk_X0_21 (fs_X0_1) dX0_readOne_1 ?_
      refine v_getI G vc_4 lk_X0_103 (fs_X4_10 (by first | assumption | exact imgP_TB)) dX0_readOne_4 ?_
      rw [hn]
      refine v_iconst (v := nI 5) G dX0_readOne_7 (by decide) ?_
      refine v_icmp_lt (tgt := 17) G dX0_readOne_8 rfl (fun h_8 => ?_) (fun h_8 => absurd (nI_lt hn4 (by omega)) h_8)
      refine v_aload_4_0 G dX0_readOne_17 ?_
      refine v_iconst (v := nI 3) G dX0_readOne_18 (by decide) ?_
      refine v_cV1 G (C_X0_nextNumber h) (by decide) md_X0_nextNumber in_X0_nextNumber (rv_X0 rfl) ml_X0_106 (Nat.le_of_ble_eq_true rfl) dX0_readOne_19 ?_
      refine v_istore_4_2 G dX0_readOne_22 rfl ?_
      refine v_aload_4_0 G dX0_readOne_23 ?_
      refine v_bipush (v := nI 7) G dX0_readOne_24 (by decide) ?_
      refine v_cV1 G (C_X0_nextNumber (tkOK_nn h)) (by decide) md_X0_nextNumber in_X0_nextNumber (rv_X0 rfl) ml_X0_106 (Nat.le_of_ble_eq_true rfl) dX0_readOne_26 ?_
      refine v_istore_4_3 G dX0_readOne_29 rfl ?_
      refine v_aload_4_0 G dX0_readOne_30 ?_
      refine v_cV0 G (C_X0_nextToken (tkOK_nn (tkOK_nn h))) (by decide) md_X0_nextToken in_X0_nextToken (rv_X0 rfl) ml_X0_48 (Nat.le_of_ble_eq_true rfl) dX0_readOne_31 ?_
      refine v_ifB_ne (tgt := 38) G dX0_readOne_34 rfl (fun h_34 => absurd h_34 hb) (fun h_34 => ?_)
      exact v_vret G hQ dX0_readOne_37 vDet.mk
