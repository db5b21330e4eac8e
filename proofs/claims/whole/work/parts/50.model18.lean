/-! The model's reader: lines -/
def nmQ (σ : vW) : Int32 := nmR σ (σ 75 10).toNatClampNeg (σ 75 15).toNatClampNeg (σ 75 14).toNatClampNeg
theorem C_X6_nm {σ : vW} {f : Nat → Int32} (h : tpH σ) (hc : cutOK σ) : Ctr mX6_nameHere 1 [.ref 75] (vrow σ 81 f) (vDet (some (.int (nmQ σ))) (vrow σ 81 f)) := by
  obtain ⟨l, q, p, h1, h2, h3, h4, h5, h6⟩ := h
  rw [nmQ, h4, h5, h6, nI_clamp (by omega), nI_clamp (by omega), nI_clamp (by omega)]
  exact C_X6_nameHere h4 h1 h5 h6 h2 h3 hc
def ln1 (σ : vW) (nm : Int32) (k m : Nat) : vW := if nI 3 < nm then (if nm = nI 4 then (if nI m = nI 9 then failW σ (nI 5) else σ) else σ) else if nI k = nI 5 then failW σ (nI 5) else σ
def ln2 (σ : vW) (nm : Int32) : vW := if nm = nI 6 then (if σ 75 6 = 0 then σ else failW σ (nI 4)) else σ
def ln3 (σ : vW) (nm : Int32) : vW := vset σ 75 6 (if σ 75 6 = 0 then (if nm = nI 6 then nI 1 else nI 0) else nI 1)
def lnA (σ : vW) (nm : Int32) (k m : Nat) : vW := ln3 (ln2 (ln1 σ nm k m) nm) nm
def lnB (σ : vW) (nm : Int32) (k m : Nat) : vW := stp (lnA σ nm k m)
def lnC (σ : vW) (nm : Int32) (k m K : Nat) : vW := rmoW (lnB σ nm k m) nm k m K
def ln5 (σ : vW) : vW := if σ 75 12 = 0 then (if σ 75 16 = nI 3 then σ else failW σ (nI 2)) else σ
def lnZ (σ : vW) (nm : Int32) (k m K : Nat) : vW := if inZ nm 7 = true then (if (lnB σ nm k m) 75 12 ≤ 0 then stp (ln5 (lnC σ nm k m K)) else lnB σ nm k m) else failW σ (nI 2)
def lnW (σ : vW) (k m K : Nat) : vW := lnZ σ (nmQ σ) k m K
theorem ln1_H {σ : vW} {nm : Int32} {k m : Nat} (h : tpH σ) : tpH (ln1 σ nm k m) := by
  unfold ln1
  split
  · split
    · split
      · exact tpH_fail h
      · exact h
    · exact h
  · split
    · exact tpH_fail h
    · exact h
theorem ln2_H {σ : vW} {nm : Int32} (h : tpH σ) : tpH (ln2 σ nm) := by
  unfold ln2
  split
  · split
    · exact h
    · exact tpH_fail h
  · exact h
theorem lnA_H {σ : vW} {nm : Int32} {k m : Nat} (h : tpH σ) : tpH (lnA σ nm k m) := tpH_fld (ln2_H (ln1_H h)) (by decide)
theorem ln5_H {σ : vW} (h : tpH σ) : tpH (ln5 σ) := by
  unfold ln5
  split
  · split
    · exact h
    · exact tpH_fail h
  · exact h
theorem ln1_sc {σ : vW} {nm : Int32} {k m : Nat} : scT (ln1 σ nm k m) σ := by
  unfold ln1
  split
  · split
    · split
      · exact scT_fail (scT_refl σ)
      · exact scT_refl σ
    · exact scT_refl σ
  · split
    · exact scT_fail (scT_refl σ)
    · exact scT_refl σ
theorem ln2_sc {σ : vW} {nm : Int32} : scT (ln2 σ nm) σ := by
  unfold ln2
  split
  · split
    · exact scT_refl σ
    · exact scT_fail (scT_refl σ)
  · exact scT_refl σ
theorem lnB_row {σ : vW} {nm : Int32} {k m r : Nat} (hr : r ≠ 75) : (lnB σ nm k m) r = σ r := by
  rw [lnB, stp_sc.1 r hr, lnA, ln3, vset_ne hr, ln2_sc.1 r hr, ln1_sc.1 r hr]
theorem lnB_fld {σ : vW} {nm : Int32} {k m i : Nat} (hi : ¬ (12 ≤ i ∧ i ≤ 17)) (h6 : i ≠ 6) : (lnB σ nm k m) 75 i = σ 75 i := by
  rw [lnB, stp_sc.2 i hi, lnA, ln3, vset_oth h6, ln2_sc.2 i hi, ln1_sc.2 i hi]
theorem fail_12 {σ : vW} {c : Int32} (h : σ 75 12 = 0) : (failW σ c) 75 12 = c := by rw [failW, if_pos h, vset_oth (by decide), vset_at]
theorem fail_n {σ : vW} {c : Int32} (h : ¬ σ 75 12 = 0) : failW σ c = σ := by rw [failW, if_neg h]
theorem lnB_5 {σ : vW} {nm : Int32} {k m : Nat} (h : (ln1 σ nm k m) 75 12 = nI 5) : ¬ (lnB σ nm k m) 75 12 ≤ 0 := by
  have h5 : ¬ nI 5 ≤ 0 := by decide
  have h6 : ¬ nI 5 = 0 := by decide
  have e1 : (ln2 (ln1 σ nm k m) nm) 75 12 = nI 5 := by
    unfold ln2
    split
    · split
      · exact h
      · rw [fail_n (by rw [h]; exact h6)]
        exact h
    · exact h
  have e2 : (lnA σ nm k m) 75 12 = nI 5 := by rw [lnA, ln3, vset_oth (by decide)]; exact e1
  rw [lnB, stp_id (by rw [e2]; exact h5), e2]
  exact h5
theorem no34 {nm : Int32} (h : ¬ nI 3 < nm) (h2 : nm = nI 4) : False := h (by rw [h2]; decide)
set_option maxHeartbeats 4000000 in
theorem C_X6_readLine {σ : vW} {f : Nat → Int32} {k m K : Nat} (h : tpH σ) (hc : cutOK σ) (h0 : σ 75 12 = 0) (hk : σ 75 3 = nI k) (hk5 : k ≤ 5) (hm : σ 77 25 = nI m) (hm9 : m ≤ 9) (hK : σ 77 52 = nI K) (hK6 : K ≤ 6) : Ctr mX6_readLine 6 [.ref 75] (vrow σ 81 f) (vDet none (vrow (lnW σ k m K) 81 f)) := by
  refine Ctr.intro (by decide) (fun α => Nat.le_of_ble_eq_true rfl) (fun x G hQ => ?_)
  have G : vG x RX6 cX6_readLine 2 none 6 := G
  show V x 0 [some (.ref 75), none] [] (vrow σ 81 f)
  rw [lnW] at hQ
  refine v_aload_2_0 G dX6_readLine_0 ?_
  refine v_cV0 G (C_X6_nm (by first | assumption | omega | exact oneB_in (by assumption) | exact wallB_in (by assumption) | exact oneB_m1 (by assumption) | decide) (by first | assumption | omega | exact oneB_in (by assumption) | exact wallB_in (by assumption) | exact oneB_m1 (by assumption) | decide)) (by decide) md_X6_nameHere in_X6_nameHere (rv_X6 rfl) ml_X6_125 (Nat.le_of_ble_eq_true rfl) dX6_readLine_1 ?_
  refine v_istore_2_1 G dX6_readLine_4 rfl ?_
  generalize nmQ σ = nm at hQ ⊢
  by_cases hin : inZ nm 7 = true
  · have hB : tpH (lnB σ nm k m) := tpH_stp (lnA_H h)
    have hk5' : (lnB σ nm k m) 75 12 ≤ 0 → ¬ nI 3 < nm → k < 5 := by
      intro hb h3
      rcases Nat.lt_or_eq_of_le hk5 with q | q
      · exact q
      · exact absurd hb (lnB_5 (by rw [ln1, if_neg h3, if_pos (congrArg nI q)]; exact fail_12 h0))
    have hm9' : (lnB σ nm k m) 75 12 ≤ 0 → nm = nI 4 → m < 9 := by
      intro hb h3
      rcases Nat.lt_or_eq_of_le hm9 with q | q
      · exact q
      · exact absurd hb (lnB_5 (by rw [ln1, if_pos (by rw [h3]; decide), if_pos h3, if_pos (congrArg nI q)]; exact fail_12 h0))
    have k98 : V x 98 [some (.ref 75), some (.int nm)] [] (vrow (lnA σ nm k m) 81 f) := by
      by_cases hb : (lnB σ nm k m) 75 12 ≤ 0
      · rw [lnZ, if_pos hin, if_pos hb] at hQ
        have k135 : V x 135 [some (.ref 75), some (.int nm)] [] (vrow (ln5 (lnC σ nm k m K)) 81 f) := by
          refine v_aload_2_0 G dX6_readLine_135 ?_
          refine v_cV0v G (C_X6_stp (ln5_H (rmoW_H hB)).ok) (by decide) md_X6_step in_X6_step (rv_X6 rfl) ml_X6_91 (Nat.le_of_ble_eq_true rfl) dX6_readLine_136 ?_
          exact v_vret G hQ dX6_readLine_139 vDet.mk
        have k115 : V x 115 [some (.ref 75), some (.int nm)] [] (vrow (lnC σ nm k m K) 81 f) := by
          generalize lnC σ nm k m K = W at k135
          refine v_aload_2_0 G dX6_readLine_115 ?_
          refine m_getI G (by decide) vc_6 lk_X6_57 fs_X6_12 dX6_readLine_116 ?_
          refine v_if_ne (tgt := 135) G dX6_readLine_119 rfl (fun h_119 => ?_) (fun h_119 => ?_)
          · simp only [ln5, h_119, if_true, if_false] at k135
            exact k135
          · refine v_aload_2_0 G dX6_readLine_122 ?_
            refine m_getI G (by decide) vc_6 lk_X6_66 fs_X6_16 dX6_readLine_123 ?_
            refine v_iconst (v := nI 3) G dX6_readLine_126 (by decide) ?_
            refine v_icmp_eq (tgt := 135) G dX6_readLine_127 rfl (fun h_127 => ?_) (fun h_127 => ?_)
            · simp only [ln5, h_119, h_127, if_true, if_false] at k135
              exact k135
            · refine v_aload_2_0 G dX6_readLine_130 ?_
              refine v_iconst (v := nI 2) G dX6_readLine_131 (by decide) ?_
              refine v_cV1v G (C_X6_fails) (by decide) md_X6_fails in_X6_fails (rv_X6 rfl) ml_X6_87 (Nat.le_of_ble_eq_true rfl) dX6_readLine_132 ?_
              simp only [ln5, h_119, h_127, if_true, if_false] at k135
              exact k135
        refine v_aload_2_0 G dX6_readLine_98 ?_
        refine v_cV0v G (C_X6_stp (lnA_H h).ok) (by decide) md_X6_step in_X6_step (rv_X6 rfl) ml_X6_91 (Nat.le_of_ble_eq_true rfl) dX6_readLine_99 ?_
        rw [show stp (lnA σ nm k m) = lnB σ nm k m from rfl]
        refine v_aload_2_0 G dX6_readLine_102 ?_
        refine m_getI G (by decide) vc_6 lk_X6_57 fs_X6_12 dX6_readLine_103 ?_
        refine v_if_le (tgt := 110) G dX6_readLine_106 rfl (fun h_106 => ?_) (fun h_106 => absurd hb h_106)
        refine v_aload_2_0 G dX6_readLine_110 ?_
        refine v_iload_2_1 G dX6_readLine_111 ?_
        refine v_cV1v G (C_X6_readMore hB (by rw [lnB_fld (by omega) (by decide)]; exact hk) (hk5' hb) (by rw [lnB_row (by decide)]; exact hm) (hm9' hb) (by rw [lnB_row (by decide)]; exact hK) hK6) (by decide) md_X6_readMore in_X6_readMore (rv_X6 rfl) ml_X6_135 (Nat.le_of_ble_eq_true rfl) dX6_readLine_112 ?_
        exact k115
      · rw [lnZ, if_pos hin, if_neg hb] at hQ
        refine v_aload_2_0 G dX6_readLine_98 ?_
        refine v_cV0v G (C_X6_stp (lnA_H h).ok) (by decide) md_X6_step in_X6_step (rv_X6 rfl) ml_X6_91 (Nat.le_of_ble_eq_true rfl) dX6_readLine_99 ?_
        rw [show stp (lnA σ nm k m) = lnB σ nm k m from rfl]
        refine v_aload_2_0 G dX6_readLine_102 ?_
        refine m_getI G (by decide) vc_6 lk_X6_57 fs_X6_12 dX6_readLine_103 ?_
        refine v_if_le (tgt := 110) G dX6_readLine_106 rfl (fun h_106 => absurd h_106 hb) (fun h_106 => ?_)
        exact v_vret G hQ dX6_readLine_109 vDet.mk
    unfold lnA at k98
    have k76 : V x 76 [some (.ref 75), some (.int nm)] [] (vrow (ln2 (ln1 σ nm k m) nm) 81 f) := by
      generalize ln2 (ln1 σ nm k m) nm = W at k98
      refine v_aload_2_0 G dX6_readLine_76 ?_
      refine v_aload_2_0 G dX6_readLine_77 ?_
      refine m_getI G (by decide) vc_6 lk_X6_131 fs_X6_6 dX6_readLine_78 ?_
      refine v_if_ne (tgt := 90) G dX6_readLine_81 rfl (fun h_81 => ?_) (fun h_81 => ?_)
      · refine v_iconst (v := nI 1) G dX6_readLine_90 (by decide) ?_
        refine v_goto (tgt := 95) G dX6_readLine_91 rfl ?_
        refine m_putI G (by decide) vc_6 vt_6 lk_X6_131 fs_X6_6 (ft_X6_6 (by first | exact Or.inl rfl | exact Or.inr rfl | exact bI_01 _)) dX6_readLine_95 ?_
        first
          | (simp only [ln3, h_81, if_pos h_87, if_true, if_false] at k98; exact k98)
          | (simp only [ln3, h_81, if_neg h_87, if_true, if_false] at k98; exact k98)
          | (simp only [ln3, h_81, if_true, if_false] at k98; exact k98)
      · refine v_iload_2_1 G dX6_readLine_84 ?_
        refine v_bipush (v := nI 6) G dX6_readLine_85 (by decide) ?_
        refine v_icmp_ne (tgt := 94) G dX6_readLine_87 rfl (fun h_87 => ?_) (fun h_87 => ?_)
        · refine v_iconst (v := nI 0) G dX6_readLine_94 (by decide) ?_
          refine m_putI G (by decide) vc_6 vt_6 lk_X6_131 fs_X6_6 (ft_X6_6 (by first | exact Or.inl rfl | exact Or.inr rfl | exact bI_01 _)) dX6_readLine_95 ?_
          first
            | (simp only [ln3, h_81, if_pos h_87, if_true, if_false] at k98; exact k98)
            | (simp only [ln3, h_81, if_neg h_87, if_true, if_false] at k98; exact k98)
            | (simp only [ln3, h_81, if_true, if_false] at k98; exact k98)
        · refine v_iconst (v := nI 1) G dX6_readLine_90 (by decide) ?_
          refine v_goto (tgt := 95) G dX6_readLine_91 rfl ?_
          refine m_putI G (by decide) vc_6 vt_6 lk_X6_131 fs_X6_6 (ft_X6_6 (by first | exact Or.inl rfl | exact Or.inr rfl | exact bI_01 _)) dX6_readLine_95 ?_
          first
            | (simp only [ln3, h_81, if_pos h_87, if_true, if_false] at k98; exact k98)
            | (simp only [ln3, h_81, if_neg h_87, if_true, if_false] at k98; exact k98)
            | (simp only [ln3, h_81, if_true, if_false] at k98; exact k98)
    have k58 : V x 58 [some (.ref 75), some (.int nm)] [] (vrow (ln1 σ nm k m) 81 f) := by
      generalize ln1 σ nm k m = W at k76
      refine v_iload_2_1 G dX6_readLine_58 ?_
      refine v_bipush (v := nI 6) G dX6_readLine_59 (by decide) ?_
      refine v_icmp_ne (tgt := 76) G dX6_readLine_61 rfl (fun h_61 => ?_) (fun h_61 => ?_)
      · first
          | (simp only [ln2, if_pos h_61, if_true, if_false] at k76; exact k76)
          | (simp only [ln2, if_neg h_61, if_true, if_false] at k76; exact k76)
      · refine v_aload_2_0 G dX6_readLine_64 ?_
        refine m_getI G (by decide) vc_6 lk_X6_131 fs_X6_6 dX6_readLine_65 ?_
        refine v_if_eq (tgt := 76) G dX6_readLine_68 rfl (fun h_68 => ?_) (fun h_68 => ?_)
        · first
            | (simp only [ln2, h_68, if_pos h_61, if_true, if_false] at k76; exact k76)
            | (simp only [ln2, h_68, if_neg h_61, if_true, if_false] at k76; exact k76)
        · refine v_aload_2_0 G dX6_readLine_71 ?_
          refine v_iconst (v := nI 4) G dX6_readLine_72 (by decide) ?_
          refine v_cV1v G (C_X6_fails) (by decide) md_X6_fails in_X6_fails (rv_X6 rfl) ml_X6_87 (Nat.le_of_ble_eq_true rfl) dX6_readLine_73 ?_
          first
            | (simp only [ln2, h_68, if_pos h_61, if_true, if_false] at k76; exact k76)
            | (simp only [ln2, h_68, if_neg h_61, if_true, if_false] at k76; exact k76)
    refine v_iload_2_1 G dX6_readLine_5 ?_
    refine v_i2l G dX6_readLine_6 ?_
    refine v_lconst (v := lN 0) G dX6_readLine_7 (by decide) ?_
    refine v_ldc2 G ct_X6_129 dX6_readLine_8 ?_
    refine v_cS3 G (C_inK 7 (by decide)) (by decide) md_X6_in st_X6_in ml_X6_49 (Nat.le_of_ble_eq_true rfl) dX6_readLine_11 ?_
    refine v_ifB_ne (tgt := 23) G dX6_readLine_14 rfl (fun h_14 => ?_) (fun h_14 => absurd hin (by rw [h_14]; exact Bool.false_ne_true))
    refine v_iload_2_1 G dX6_readLine_23 ?_
    refine v_iconst (v := nI 3) G dX6_readLine_24 (by decide) ?_
    refine v_icmp_gt (tgt := 36) G dX6_readLine_25 rfl (fun h_25 => ?_) (fun h_25 => ?_)
    · refine v_iload_2_1 G dX6_readLine_36 ?_
      refine v_iconst (v := nI 4) G dX6_readLine_37 (by decide) ?_
      refine v_icmp_ne (tgt := 58) G dX6_readLine_38 rfl (fun h_38 => ?_) (fun h_38 => ?_)
      · first
          | exact (no34 h_25 h_38).elim
          | (rw [ln1, if_pos h_25, if_pos h_38, if_pos h_50] at k58; exact k58)
          | (rw [ln1, if_pos h_25, if_pos h_38, if_neg h_50] at k58; exact k58)
          | (rw [ln1, if_pos h_25, if_neg h_38] at k58; exact k58)
          | (rw [ln1, if_neg h_25, if_pos h_33] at k58; exact k58)
          | (rw [ln1, if_neg h_25, if_neg h_33] at k58; exact k58)
      · refine v_aload_2_0 G dX6_readLine_41 ?_
        refine v_getR G vc_6 lk_X6_13 (fs_X6_2) dX6_readLine_42 ?_
        refine v_bipush (v := nI 25) G dX6_readLine_45 (by decide) ?_
        refine m_ialdN G (by decide) (as_X6_2) (by first | assumption | omega | exact oneB_in (by assumption) | exact wallB_in (by assumption) | exact oneB_m1 (by assumption) | decide) (by decide) dX6_readLine_47 ?_
        rw [hm]
        refine v_bipush (v := nI 9) G dX6_readLine_48 (by decide) ?_
        refine v_icmp_ne (tgt := 58) G dX6_readLine_50 rfl (fun h_50 => ?_) (fun h_50 => ?_)
        · first
            | exact (no34 h_25 h_38).elim
            | (rw [ln1, if_pos h_25, if_pos h_38, if_pos h_50] at k58; exact k58)
            | (rw [ln1, if_pos h_25, if_pos h_38, if_neg h_50] at k58; exact k58)
            | (rw [ln1, if_pos h_25, if_neg h_38] at k58; exact k58)
            | (rw [ln1, if_neg h_25, if_pos h_33] at k58; exact k58)
            | (rw [ln1, if_neg h_25, if_neg h_33] at k58; exact k58)
        · refine v_aload_2_0 G dX6_readLine_53 ?_
          refine v_iconst (v := nI 5) G dX6_readLine_54 (by decide) ?_
          refine v_cV1v G (C_X6_fails) (by decide) md_X6_fails in_X6_fails (rv_X6 rfl) ml_X6_87 (Nat.le_of_ble_eq_true rfl) dX6_readLine_55 ?_
          first
            | exact (no34 h_25 h_38).elim
            | (rw [ln1, if_pos h_25, if_pos h_38, if_pos h_50] at k58; exact k58)
            | (rw [ln1, if_pos h_25, if_pos h_38, if_neg h_50] at k58; exact k58)
            | (rw [ln1, if_pos h_25, if_neg h_38] at k58; exact k58)
            | (rw [ln1, if_neg h_25, if_pos h_33] at k58; exact k58)
            | (rw [ln1, if_neg h_25, if_neg h_33] at k58; exact k58)
    · refine v_aload_2_0 G dX6_readLine_28 ?_
      refine m_getI G (by decide) vc_6 lk_X6_101 fs_X6_3 dX6_readLine_29 ?_
      rw [hk]
      refine v_iconst (v := nI 5) G dX6_readLine_32 (by decide) ?_
      refine v_icmp_eq (tgt := 53) G dX6_readLine_33 rfl (fun h_33 => ?_) (fun h_33 => ?_)
      · refine v_aload_2_0 G dX6_readLine_53 ?_
        refine v_iconst (v := nI 5) G dX6_readLine_54 (by decide) ?_
        refine v_cV1v G (C_X6_fails) (by decide) md_X6_fails in_X6_fails (rv_X6 rfl) ml_X6_87 (Nat.le_of_ble_eq_true rfl) dX6_readLine_55 ?_
        first
          | exact (no34 h_25 h_38).elim
          | (rw [ln1, if_pos h_25, if_pos h_38, if_pos h_50] at k58; exact k58)
          | (rw [ln1, if_pos h_25, if_pos h_38, if_neg h_50] at k58; exact k58)
          | (rw [ln1, if_pos h_25, if_neg h_38] at k58; exact k58)
          | (rw [ln1, if_neg h_25, if_pos h_33] at k58; exact k58)
          | (rw [ln1, if_neg h_25, if_neg h_33] at k58; exact k58)
      · refine v_iload_2_1 G dX6_readLine_36 ?_
        refine v_iconst (v := nI 4) G dX6_readLine_37 (by decide) ?_
        refine v_icmp_ne (tgt := 58) G dX6_readLine_38 rfl (fun h_38 => ?_) (fun h_38 => ?_)
        · first
            | exact (no34 h_25 h_38).elim
            | (rw [ln1, if_pos h_25, if_pos h_38, if_pos h_50] at k58; exact k58)
            | (rw [ln1, if_pos h_25, if_pos h_38, if_neg h_50] at k58; exact k58)
            | (rw [ln1, if_pos h_25, if_neg h_38] at k58; exact k58)
            | (rw [ln1, if_neg h_25, if_pos h_33] at k58; exact k58)
            | (rw [ln1, if_neg h_25, if_neg h_33] at k58; exact k58)
        · refine v_aload_2_0 G dX6_readLine_41 ?_
          refine v_getR G vc_6 lk_X6_13 (fs_X6_2) dX6_readLine_42 ?_
          refine v_bipush (v := nI 25) G dX6_readLine_45 (by decide) ?_
          refine m_ialdN G (by decide) (as_X6_2) (by first | assumption | omega | exact oneB_in (by assumption) | exact wallB_in (by assumption) | exact oneB_m1 (by assumption) | decide) (by decide) dX6_readLine_47 ?_
          rw [hm]
          refine v_bipush (v := nI 9) G dX6_readLine_48 (by decide) ?_
          refine v_icmp_ne (tgt := 58) G dX6_readLine_50 rfl (fun h_50 => ?_) (fun h_50 => ?_)
          · first
              | exact (no34 h_25 h_38).elim
              | (rw [ln1, if_pos h_25, if_pos h_38, if_pos h_50] at k58; exact k58)
              | (rw [ln1, if_pos h_25, if_pos h_38, if_neg h_50] at k58; exact k58)
              | (rw [ln1, if_pos h_25, if_neg h_38] at k58; exact k58)
              | (rw [ln1, if_neg h_25, if_pos h_33] at k58; exact k58)
              | (rw [ln1, if_neg h_25, if_neg h_33] at k58; exact k58)
          · refine v_aload_2_0 G dX6_readLine_53 ?_
            refine v_iconst (v := nI 5) G dX6_readLine_54 (by decide) ?_
            refine v_cV1v G (C_X6_fails) (by decide) md_X6_fails in_X6_fails (rv_X6 rfl) ml_X6_87 (Nat.le_of_ble_eq_true rfl) dX6_readLine_55 ?_
            first
              | exact (no34 h_25 h_38).elim
              | (rw [ln1, if_pos h_25, if_pos h_38, if_pos h_50] at k58; exact k58)
              | (rw [ln1, if_pos h_25, if_pos h_38, if_neg h_50] at k58; exact k58)
              | (rw [ln1, if_pos h_25, if_neg h_38] at k58; exact k58)
              | (rw [ln1, if_neg h_25, if_pos h_33] at k58; exact k58)
              | (rw [ln1, if_neg h_25, if_neg h_33] at k58; exact k58)
  · rw [lnZ, if_neg hin] at hQ
    refine v_iload_2_1 G dX6_readLine_5 ?_
    refine v_i2l G dX6_readLine_6 ?_
    refine v_lconst (v := lN 0) G dX6_readLine_7 (by decide) ?_
    refine v_ldc2 G ct_X6_129 dX6_readLine_8 ?_
    refine v_cS3 G (C_inK 7 (by decide)) (by decide) md_X6_in st_X6_in ml_X6_49 (Nat.le_of_ble_eq_true rfl) dX6_readLine_11 ?_
    refine v_ifB_ne (tgt := 23) G dX6_readLine_14 rfl (fun h_14 => absurd h_14 hin) (fun h_14 => ?_)
    refine v_aload_2_0 G dX6_readLine_17 ?_
    refine v_iconst (v := nI 2) G dX6_readLine_18 (by decide) ?_
    refine v_cV1v G (C_X6_fails) (by decide) md_X6_fails in_X6_fails (rv_X6 rfl) ml_X6_87 (Nat.le_of_ble_eq_true rfl) dX6_readLine_19 ?_
    exact v_vret G hQ dX6_readLine_22 vDet.mk
