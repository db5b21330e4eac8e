/-! The model's reader: names and numbers -/
def tpOK (σ : vW) : Prop := ∃ l p, l ≤ 160 ∧ p ≤ l ∧ σ 75 10 = nI l ∧ σ 75 14 = nI p
def tpH (σ : vW) : Prop := ∃ l q p, l ≤ 160 ∧ q ≤ p ∧ p ≤ l ∧ σ 75 10 = nI l ∧ σ 75 15 = nI q ∧ σ 75 14 = nI p
theorem tpH.ok {σ : vW} (h : tpH σ) : tpOK σ := by
  obtain ⟨l, q, p, h1, _, h2, h3, _, h4⟩ := h
  exact ⟨l, p, h1, h2, h3, h4⟩
def stp (σ : vW) : vW := stW σ (σ 75 10).toNatClampNeg (σ 75 14).toNatClampNeg
theorem C_X6_stp {σ : vW} {f : Nat → Int32} (h : tpOK σ) : Ctr mX6_step 1 [.ref 75] (vrow σ 81 f) (vDet none (vrow (stp σ) 81 f)) := by
  obtain ⟨l, p, h1, h2, h3, h4⟩ := h
  rw [stp, h3, h4, nI_clamp (by omega), nI_clamp (by omega)]
  exact C_X6_step h3 h1 h4 h2
/-- the same world, but for the reader's fields -/
def scT (b σ : vW) : Prop := (∀ r, r ≠ 75 → b r = σ r) ∧ ∀ i, ¬ (12 ≤ i ∧ i ≤ 17) → b 75 i = σ 75 i
theorem scT_refl (σ : vW) : scT σ σ := ⟨fun _ _ => rfl, fun _ _ => rfl⟩
theorem scT_trans {a b c : vW} (h : scT a b) (k : scT b c) : scT a c := ⟨fun r hr => (h.1 r hr).trans (k.1 r hr), fun i hi => (h.2 i hi).trans (k.2 i hi)⟩
theorem scT_set {s σ : vW} {i : Nat} {v : Int32} (h : scT s σ) (h1 : 12 ≤ i) (h2 : i ≤ 17) : scT (vset s 75 i v) σ := ⟨fun r hr => by rw [vset_ne hr]; exact h.1 r hr, fun j hj => by rw [vset_oth (by omega)]; exact h.2 j hj⟩
theorem scT_fail {s σ : vW} {c : Int32} (h : scT s σ) : scT (failW s c) σ := by
  unfold failW
  split
  · exact scT_set (scT_set h (by decide) (by decide)) (by decide) (by decide)
  · exact h
theorem failW_oth {σ : vW} {c : Int32} {i : Nat} (h1 : i ≠ 12) (h2 : i ≠ 13) : (failW σ c) 75 i = σ 75 i := by
  unfold failW
  split
  · rw [vset_oth h2, vset_oth h1]
  · rfl
theorem stW_sc {σ : vW} {l p : Nat} : scT (stW σ l p) σ := by
  have h0 : ∀ q, scT (stW0 σ q) σ := fun q => scT_set (scT_set (scT_set (scT_refl σ) (by decide) (by decide)) (by decide) (by decide)) (by decide) (by decide)
  unfold stW stW1
  split
  · split
    · exact scT_set (h0 _) (by decide) (by decide)
    · split
      · exact scT_set (scT_set (h0 _) (by decide) (by decide)) (by decide) (by decide)
      · split
        · split
          · exact scT_set (scT_set (scT_set (h0 _) (by decide) (by decide)) (by decide) (by decide)) (by decide) (by decide)
          · exact scT_fail (scT_set (scT_set (scT_set (h0 _) (by decide) (by decide)) (by decide) (by decide)) (by decide) (by decide))
        · split
          · exact scT_set (scT_set (h0 _) (by decide) (by decide)) (by decide) (by decide)
          · exact scT_fail (scT_set (scT_set (h0 _) (by decide) (by decide)) (by decide) (by decide))
  · exact scT_refl σ
theorem stp_sc {σ : vW} : scT (stp σ) σ := stW_sc
/-- where the reader stands after a step -/
theorem stW_at {σ : vW} {l p : Nat} (hpl : p ≤ l) (hb : σ 75 12 ≤ 0) : ∃ q e, q ≤ e ∧ e ≤ l ∧ (stW σ l p) 75 15 = nI q ∧ (stW σ l p) 75 14 = nI e := by
  obtain ⟨hq1, hq2⟩ := skB_le (σ := σ) hpl
  rw [stW, if_pos hb]
  generalize skB σ l p = q at hq1 hq2
  have a15 : (stW0 σ q) 75 15 = nI q := by rw [stW0, vset_oth (by decide), vset_at]
  have a14 : (stW0 σ q) 75 14 = nI q := by rw [stW0, vset_oth (by decide), vset_oth (by decide), vset_at]
  unfold stW1
  split
  · exact ⟨q, q, Nat.le_refl q, hq2, by rw [vset_oth (by decide)]; exact a15, by rw [vset_oth (by decide)]; exact a14⟩
  · have hql : q < l := by
      rename_i hne
      rcases Nat.lt_or_ge q l with h | h
      · exact h
      · exact absurd (by rw [mByte, if_neg (by omega)]) hne
    split
    · have h := skL_le (σ := σ) hq2
      exact ⟨q, skL σ l q, h.1, h.2, by rw [vset_oth (by decide), vset_oth (by decide)]; exact a15, by rw [vset_oth (by decide), vset_at]⟩
    · split
      · have h := skD_le (σ := σ) hq2
        split
        · exact ⟨q, skD σ l q, h.1, h.2, by rw [vset_oth (by decide), vset_oth (by decide), vset_oth (by decide)]; exact a15, by rw [vset_oth (by decide), vset_at]⟩
        · exact ⟨q, skD σ l q, h.1, h.2, by rw [failW_oth (by decide) (by decide), vset_oth (by decide), vset_oth (by decide), vset_oth (by decide)]; exact a15, by rw [failW_oth (by decide) (by decide), vset_oth (by decide), vset_at]⟩
      · split
        · exact ⟨q, q + 1, by omega, hql, by rw [vset_oth (by decide), vset_oth (by decide)]; exact a15, by rw [vset_at]⟩
        · exact ⟨q, q + 1, by omega, hql, by rw [failW_oth (by decide) (by decide), vset_oth (by decide), vset_oth (by decide)]; exact a15, by rw [failW_oth (by decide) (by decide), vset_at]⟩
theorem stp_H {σ : vW} (h : tpOK σ) (hb : σ 75 12 ≤ 0) : tpH (stp σ) := by
  obtain ⟨l, p, h1, h2, h3, h4⟩ := h
  obtain ⟨q, e, k1, k2, k3, k4⟩ := stW_at (σ := σ) h2 hb
  have e1 : stp σ = stW σ l p := by rw [stp, h3, h4, nI_clamp (by omega), nI_clamp (by omega)]
  rw [e1]
  exact ⟨l, q, e, h1, k1, k2, by rw [stW_sc.2 10 (by omega)]; exact h3, k3, k4⟩
theorem stp_id {σ : vW} (hb : ¬ σ 75 12 ≤ 0) : stp σ = σ := by rw [stp, stW, if_neg hb]
theorem tpH_stp {σ : vW} (h : tpH σ) : tpH (stp σ) := by
  by_cases hb : σ 75 12 ≤ 0
  · exact stp_H h.ok hb
  · rw [stp_id hb]
    exact h
theorem tpH_fail {σ : vW} {c : Int32} (h : tpH σ) : tpH (failW σ c) := by
  obtain ⟨l, q, p, h1, h2, h3, h4, h5, h6⟩ := h
  exact ⟨l, q, p, h1, h2, h3, by rw [failW_oth (by decide) (by decide)]; exact h4, by rw [failW_oth (by decide) (by decide)]; exact h5, by rw [failW_oth (by decide) (by decide)]; exact h6⟩
theorem tpH_row {σ : vW} {r i : Nat} {v : Int32} (h : tpH σ) (hr : r ≠ 75) : tpH (vset σ r i v) := by
  obtain ⟨l, q, p, h1, h2, h3, h4, h5, h6⟩ := h
  have e : (vset σ r i v) 75 = σ 75 := vset_ne (Ne.symm hr)
  exact ⟨l, q, p, h1, h2, h3, by rw [e]; exact h4, by rw [e]; exact h5, by rw [e]; exact h6⟩
theorem tpH_fld {σ : vW} {i : Nat} {v : Int32} (h : tpH σ) (hi : i ≠ 10 ∧ i ≠ 14 ∧ i ≠ 15) : tpH (vset σ 75 i v) := by
  obtain ⟨l, q, p, h1, h2, h3, h4, h5, h6⟩ := h
  exact ⟨l, q, p, h1, h2, h3, by rw [vset_oth (Ne.symm hi.1)]; exact h4, by rw [vset_oth (Ne.symm hi.2.2)]; exact h5, by rw [vset_oth (Ne.symm hi.2.1)]; exact h6⟩
/-- a number within bounds, not told before -/
def ot1 (σ : vW) : vW := if σ 75 12 = 0 then (if σ 75 16 = nI 2 then σ else failW σ (nI 2)) else σ
def ot2 (σ : vW) (lo hi : Int32) : vW := if σ 75 12 = 0 then (if inL (σ 75 17).toInt64 lo.toInt64 hi.toInt64 = true then σ else failW σ (nI 3)) else σ
def ot3 (σ : vW) (mk : Int32) : vW := if σ 75 12 = 0 then (if mk = 0 then σ else if mk >>> (σ 75 17 &&& 31) &&& nI 1 = nI 1 then failW σ (nI 4) else σ) else σ
def otA (σ : vW) (lo hi mk : Int32) : vW := ot3 (ot2 (ot1 σ) lo hi) mk
def otR (σ : vW) (lo hi mk : Int32) : Int32 := if (otA σ lo hi mk) 75 12 = 0 then (otA σ lo hi mk) 75 17 else lo
def otW (σ : vW) (lo hi mk : Int32) : vW := stp (otA σ lo hi mk)
theorem ot1_H {σ : vW} (h : tpH σ) : tpH (ot1 σ) := by
  unfold ot1
  split
  · split
    · exact h
    · exact tpH_fail h
  · exact h
theorem ot2_H {σ : vW} {lo hi : Int32} (h : tpH σ) : tpH (ot2 σ lo hi) := by
  unfold ot2
  split
  · split
    · exact h
    · exact tpH_fail h
  · exact h
theorem ot3_H {σ : vW} {mk : Int32} (h : tpH σ) : tpH (ot3 σ mk) := by
  unfold ot3
  split
  · split
    · exact h
    · split
      · exact tpH_fail h
      · exact h
  · exact h
theorem otW_H {σ : vW} {lo hi mk : Int32} (h : tpH σ) : tpH (otW σ lo hi mk) := tpH_stp (ot3_H (ot2_H (ot1_H h)))
theorem ot1_sc {σ : vW} : scT (ot1 σ) σ := by
  unfold ot1
  split
  · split
    · exact scT_refl σ
    · exact scT_fail (scT_refl σ)
  · exact scT_refl σ
theorem ot2_sc {σ : vW} {lo hi : Int32} : scT (ot2 σ lo hi) σ := by
  unfold ot2
  split
  · split
    · exact scT_refl σ
    · exact scT_fail (scT_refl σ)
  · exact scT_refl σ
theorem ot3_sc {σ : vW} {mk : Int32} : scT (ot3 σ mk) σ := by
  unfold ot3
  split
  · split
    · exact scT_refl σ
    · split
      · exact scT_fail (scT_refl σ)
      · exact scT_refl σ
  · exact scT_refl σ
theorem otW_sc {σ : vW} {lo hi mk : Int32} : scT (otW σ lo hi mk) σ := scT_trans stp_sc (scT_trans ot3_sc (scT_trans ot2_sc ot1_sc))
set_option maxHeartbeats 4000000 in
theorem C_X6_other {σ : vW} {f : Nat → Int32} {lo hi mk : Int32} (h : tpH σ) : Ctr mX6_other 2 [.ref 75, .int lo, .int hi, .int mk] (vrow σ 81 f) (vDet (some (.int (otR σ lo hi mk))) (vrow (otW σ lo hi mk) 81 f)) := by
  refine Ctr.intro (by decide) (fun α => Nat.le_of_ble_eq_true rfl) (fun x G hQ => ?_)
  have G : vG x RX6 cX6_other 5 (some .int) 2 := G
  show V x 0 [some (.ref 75), some (.int lo), some (.int hi), some (.int mk), none] [] (vrow σ 81 f)
  have h3 : tpH (otA σ lo hi mk) := ot3_H (ot2_H (ot1_H h))
  have k75 : V x 75 [some (.ref 75), some (.int lo), some (.int hi), some (.int mk), none] [] (vrow (otA σ lo hi mk) 81 f) := by
    refine v_aload_5_0 G dX6_other_75 ?_
    refine m_getI G (by decide) vc_6 lk_X6_57 fs_X6_12 dX6_other_76 ?_
    refine v_if_ne (tgt := 89) G dX6_other_79 rfl (fun h_79 => ?_) (fun h_79 => ?_)
    · refine v_iload_5_1 G dX6_other_89 ?_
      refine v_istore_5_4 G dX6_other_90 rfl ?_
      refine v_aload_5_0 G dX6_other_92 ?_
      refine v_cV0v G (C_X6_stp h3.ok) (by decide) md_X6_step in_X6_step (rv_X6 rfl) ml_X6_91 (Nat.le_of_ble_eq_true rfl) dX6_other_93 ?_
      refine v_iload_5_4 G dX6_other_96 ?_
      exact v_iret G hQ dX6_other_98 (vDet.of (by simp only [otR, h_79, if_true, if_false]) rfl)
    · refine v_aload_5_0 G dX6_other_82 ?_
      refine m_getI G (by decide) vc_6 lk_X6_76 fs_X6_17 dX6_other_83 ?_
      refine v_goto (tgt := 90) G dX6_other_86 rfl ?_
      refine v_istore_5_4 G dX6_other_90 rfl ?_
      refine v_aload_5_0 G dX6_other_92 ?_
      refine v_cV0v G (C_X6_stp h3.ok) (by decide) md_X6_step in_X6_step (rv_X6 rfl) ml_X6_91 (Nat.le_of_ble_eq_true rfl) dX6_other_93 ?_
      refine v_iload_5_4 G dX6_other_96 ?_
      exact v_iret G hQ dX6_other_98 (vDet.of (by simp only [otR, h_79, if_true, if_false]) rfl)
  unfold otA at k75
  have k47 : V x 47 [some (.ref 75), some (.int lo), some (.int hi), some (.int mk), none] [] (vrow (ot2 (ot1 σ) lo hi) 81 f) := by
    generalize ot2 (ot1 σ) lo hi = W at k75
    refine v_aload_5_0 G dX6_other_47 ?_
    refine m_getI G (by decide) vc_6 lk_X6_57 fs_X6_12 dX6_other_48 ?_
    refine v_if_ne (tgt := 75) G dX6_other_51 rfl (fun h_51 => ?_) (fun h_51 => ?_)
    · first
        | (simp only [ot3, h_51, if_pos h_55, if_true, if_false] at k75; exact k75)
        | (simp only [ot3, h_51, if_neg h_55, if_true, if_false] at k75; exact k75)
        | (simp only [ot3, h_51, if_true, if_false] at k75; exact k75)
    · refine v_iload_5_3 G dX6_other_54 ?_
      refine v_if_eq (tgt := 75) G dX6_other_55 rfl (fun h_55 => ?_) (fun h_55 => ?_)
      · first
          | (simp only [ot3, h_51, if_pos h_55, if_true, if_false] at k75; exact k75)
          | (simp only [ot3, h_51, if_neg h_55, if_true, if_false] at k75; exact k75)
          | (simp only [ot3, h_51, if_true, if_false] at k75; exact k75)
      · refine v_iload_5_3 G dX6_other_58 ?_
        refine v_aload_5_0 G dX6_other_59 ?_
        refine m_getI G (by decide) vc_6 lk_X6_76 fs_X6_17 dX6_other_60 ?_
        refine v_ishr G dX6_other_63 ?_
        refine v_iconst (v := nI 1) G dX6_other_64 (by decide) ?_
        refine v_iand G dX6_other_65 ?_
        refine v_iconst (v := nI 1) G dX6_other_66 (by decide) ?_
        refine v_icmp_ne (tgt := 75) G dX6_other_67 rfl (fun h_67 => ?_) (fun h_67 => ?_)
        · first
            | (simp only [ot3, h_51, h_67, if_pos h_55, if_true, if_false] at k75; exact k75)
            | (simp only [ot3, h_51, h_67, if_neg h_55, if_true, if_false] at k75; exact k75)
            | (simp only [ot3, h_51, h_67, if_true, if_false] at k75; exact k75)
        · refine v_aload_5_0 G dX6_other_70 ?_
          refine v_iconst (v := nI 4) G dX6_other_71 (by decide) ?_
          refine v_cV1v G (C_X6_fails) (by decide) md_X6_fails in_X6_fails (rv_X6 rfl) ml_X6_87 (Nat.le_of_ble_eq_true rfl) dX6_other_72 ?_
          first
            | (simp only [ot3, h_51, h_67, if_pos h_55, if_true, if_false] at k75; exact k75)
            | (simp only [ot3, h_51, h_67, if_neg h_55, if_true, if_false] at k75; exact k75)
            | (simp only [ot3, h_51, h_67, if_true, if_false] at k75; exact k75)
  have k20 : V x 20 [some (.ref 75), some (.int lo), some (.int hi), some (.int mk), none] [] (vrow (ot1 σ) 81 f) := by
    generalize ot1 σ = W at k47
    refine v_aload_5_0 G dX6_other_20 ?_
    refine m_getI G (by decide) vc_6 lk_X6_57 fs_X6_12 dX6_other_21 ?_
    refine v_if_ne (tgt := 47) G dX6_other_24 rfl (fun h_24 => ?_) (fun h_24 => ?_)
    · simp only [ot2, h_24, if_true, if_false, Bool.false_eq_true] at k47
      exact k47
    · refine v_aload_5_0 G dX6_other_27 ?_
      refine m_getI G (by decide) vc_6 lk_X6_76 fs_X6_17 dX6_other_28 ?_
      refine v_i2l G dX6_other_31 ?_
      refine v_iload_5_1 G dX6_other_32 ?_
      refine v_i2l G dX6_other_33 ?_
      refine v_iload_5_2 G dX6_other_34 ?_
      refine v_i2l G dX6_other_35 ?_
      refine v_cS3 G C_X6_in (by decide) md_X6_in st_X6_in ml_X6_49 (Nat.le_of_ble_eq_true rfl) dX6_other_36 ?_
      refine v_ifB_ne (tgt := 47) G dX6_other_39 rfl (fun h_39 => ?_) (fun h_39 => ?_)
      · simp only [ot2, h_24, h_39, if_true, if_false, Bool.false_eq_true] at k47
        exact k47
      · refine v_aload_5_0 G dX6_other_42 ?_
        refine v_iconst (v := nI 3) G dX6_other_43 (by decide) ?_
        refine v_cV1v G (C_X6_fails) (by decide) md_X6_fails in_X6_fails (rv_X6 rfl) ml_X6_87 (Nat.le_of_ble_eq_true rfl) dX6_other_44 ?_
        simp only [ot2, h_24, h_39, if_true, if_false, Bool.false_eq_true] at k47
        exact k47
  refine v_aload_5_0 G dX6_other_0 ?_
  refine m_getI G (by decide) vc_6 lk_X6_57 fs_X6_12 dX6_other_1 ?_
  refine v_if_ne (tgt := 20) G dX6_other_4 rfl (fun h_4 => ?_) (fun h_4 => ?_)
  · simp only [ot1, h_4, if_true, if_false] at k20
    exact k20
  · refine v_aload_5_0 G dX6_other_7 ?_
    refine m_getI G (by decide) vc_6 lk_X6_66 fs_X6_16 dX6_other_8 ?_
    refine v_iconst (v := nI 2) G dX6_other_11 (by decide) ?_
    refine v_icmp_eq (tgt := 20) G dX6_other_12 rfl (fun h_12 => ?_) (fun h_12 => ?_)
    · simp only [ot1, h_4, h_12, if_true, if_false] at k20
      exact k20
    · refine v_aload_5_0 G dX6_other_15 ?_
      refine v_iconst (v := nI 2) G dX6_other_16 (by decide) ?_
      refine v_cV1v G (C_X6_fails) (by decide) md_X6_fails in_X6_fails (rv_X6 rfl) ml_X6_87 (Nat.le_of_ble_eq_true rfl) dX6_other_17 ?_
      simp only [ot1, h_4, h_12, if_true, if_false] at k20
      exact k20
def whW (σ : vW) (mk : Int32) : vW := vset (otW σ (nI 0) (nI 8) mk) 75 8 (if otR σ (nI 0) (nI 8) mk ≤ σ 75 8 then σ 75 8 else otR σ (nI 0) (nI 8) mk)
theorem whW_H {σ : vW} {mk : Int32} (h : tpH σ) : tpH (whW σ mk) := tpH_fld (otW_H h) (by decide)
set_option maxHeartbeats 4000000 in
theorem C_X6_wallHere {σ : vW} {f : Nat → Int32} {mk : Int32} (h : tpH σ) : Ctr mX6_wallHere 3 [.ref 75, .int mk] (vrow σ 81 f) (vDet (some (.int (otR σ (nI 0) (nI 8) mk))) (vrow (whW σ mk) 81 f)) := by
  have e8 : (otW σ (nI 0) (nI 8) mk) 75 8 = σ 75 8 := otW_sc.2 8 (by omega)
  refine Ctr.intro (by decide) (fun α => Nat.le_of_ble_eq_true rfl) (fun x G hQ => ?_)
  have G : vG x RX6 cX6_wallHere 3 (some .int) 3 := G
  show V x 0 [some (.ref 75), some (.int mk), none] [] (vrow σ 81 f)
  refine v_aload_3_0 G dX6_wallHere_0 ?_
  refine v_iconst (v := nI 0) G dX6_wallHere_1 (by decide) ?_
  refine v_bipush (v := nI 8) G dX6_wallHere_2 (by decide) ?_
  refine v_iload_3_1 G dX6_wallHere_4 ?_
  refine v_cV3 G (C_X6_other h) (by decide) md_X6_other in_X6_other (rv_X6 rfl) ml_X6_94 (Nat.le_of_ble_eq_true rfl) dX6_wallHere_5 ?_
  refine v_istore_3_2 G dX6_wallHere_8 rfl ?_
  refine v_aload_3_0 G dX6_wallHere_9 ?_
  refine v_iload_3_2 G dX6_wallHere_10 ?_
  refine v_aload_3_0 G dX6_wallHere_11 ?_
  refine m_getI G (by decide) vc_6 lk_X6_98 fs_X6_8 dX6_wallHere_12 ?_
  rw [e8]
  refine v_icmp_le (tgt := 22) G dX6_wallHere_15 rfl (fun h_15 => ?_) (fun h_15 => ?_)
  · refine v_aload_3_0 G dX6_wallHere_22 ?_
    refine m_getI G (by decide) vc_6 lk_X6_98 fs_X6_8 dX6_wallHere_23 ?_
    rw [e8]
    refine m_putI G (by decide) vc_6 vt_6 lk_X6_98 fs_X6_8 (ft_X6_8 _) dX6_wallHere_26 ?_
    refine v_iload_3_2 G dX6_wallHere_29 ?_
    exact v_iret G hQ dX6_wallHere_30 (vDet.of rfl (by simp only [whW, h_15, if_true, if_false]))
  · refine v_iload_3_2 G dX6_wallHere_18 ?_
    refine v_goto (tgt := 26) G dX6_wallHere_19 rfl ?_
    refine m_putI G (by decide) vc_6 vt_6 lk_X6_98 fs_X6_8 (ft_X6_8 _) dX6_wallHere_26 ?_
    refine v_iload_3_2 G dX6_wallHere_29 ?_
    exact v_iret G hQ dX6_wallHere_30 (vDet.of rfl (by simp only [whW, h_15, if_true, if_false]))
/-- one told: its kind, its house, its home, its door -/
theorem tpH_sc {b σ : vW} (h : tpH σ) (h2 : ∀ i, 10 ≤ i → i ≤ 15 → b 75 i = σ 75 i) : tpH b := by
  obtain ⟨l, q, p, h1, h3, h4, h5, h6, h7⟩ := h
  exact ⟨l, q, p, h1, h3, h4, by rw [h2 10 (by omega) (by omega)]; exact h5, by rw [h2 15 (by omega) (by omega)]; exact h6, by rw [h2 14 (by omega) (by omega)]; exact h7⟩
def ro2 (σ : vW) (k : Nat) : vW := vset (otW σ (nI 0) (nI 3) (nI 0)) 77 (5 + k) (otR σ (nI 0) (nI 3) (nI 0))
def ro3 (σ : vW) (k : Nat) : vW := vset (otW σ (nI 0) (nI 7) (nI 0)) 77 (10 + k) (otR σ (nI 0) (nI 7) (nI 0))
def ro4 (σ : vW) (k : Nat) : vW := if σ 75 12 = 0 then (if σ 75 16 = nI 2 then vset (vset (whW σ (σ 75 4)) 75 4 (σ 75 4 ||| nI 1 <<< (otR σ (nI 0) (nI 8) (σ 75 4) &&& 31))) 77 (15 + k) (otR σ (nI 0) (nI 8) (σ 75 4) + nI 1) else σ) else σ
def roW (σ : vW) (k : Nat) (kd : Int32) : vW := vset (ro4 (ro3 (ro2 (vset σ 77 k kd) k) k) k) 75 3 (nI (k + 1))
theorem ro2_H {σ : vW} {k : Nat} (h : tpH σ) : tpH (ro2 σ k) := tpH_row (otW_H h) (by decide)
theorem ro3_H {σ : vW} {k : Nat} (h : tpH σ) : tpH (ro3 σ k) := tpH_row (otW_H h) (by decide)
theorem ro4_H {σ : vW} {k : Nat} (h : tpH σ) : tpH (ro4 σ k) := by
  unfold ro4
  split
  · split
    · exact tpH_row (tpH_fld (whW_H h) (by decide)) (by decide)
    · exact h
  · exact h
theorem roW_H {σ : vW} {k : Nat} {kd : Int32} (h : tpH σ) : tpH (roW σ k kd) := tpH_fld (ro4_H (ro3_H (ro2_H (tpH_row h (by decide))))) (by decide)
theorem ro2_f {σ : vW} {k i : Nat} (hi : ¬ (12 ≤ i ∧ i ≤ 17)) : (ro2 σ k) 75 i = σ 75 i := by rw [ro2, vset_ne (by decide)]; exact otW_sc.2 i hi
theorem ro3_f {σ : vW} {k i : Nat} (hi : ¬ (12 ≤ i ∧ i ≤ 17)) : (ro3 σ k) 75 i = σ 75 i := by rw [ro3, vset_ne (by decide)]; exact otW_sc.2 i hi
theorem whW_f {σ : vW} {mk : Int32} {i : Nat} (hi : ¬ (12 ≤ i ∧ i ≤ 17)) (h8 : i ≠ 8) : (whW σ mk) 75 i = σ 75 i := by rw [whW, vset_oth h8]; exact otW_sc.2 i hi
theorem ro4_f {σ : vW} {k i : Nat} (hi : ¬ (12 ≤ i ∧ i ≤ 17)) (h8 : i ≠ 8) (h4 : i ≠ 4) : (ro4 σ k) 75 i = σ 75 i := by
  unfold ro4
  split
  · split
    · rw [vset_ne (by decide), vset_oth h4]
      exact whW_f hi h8
    · rfl
  · rfl
set_option maxHeartbeats 4000000 in
theorem C_X6_readOne {σ : vW} {f : Nat → Int32} {k : Nat} {kd : Int32} (h : tpH σ) (hk : σ 75 3 = nI k) (hk5 : k < 5) : Ctr mX6_readOne 4 [.ref 75, .int kd] (vrow σ 81 f) (vDet none (vrow (roW σ k kd) 81 f)) := by
  have h1 : tpH (vset σ 77 k kd) := tpH_row h (by decide)
  have g1 : (vset σ 77 k kd) 75 3 = nI k := by rw [vset_ne (by decide)]; exact hk
  refine Ctr.intro (by decide) (fun α => Nat.le_of_ble_eq_true rfl) (fun x G hQ => ?_)
  have G : vG x RX6 cX6_readOne 3 none 4 := G
  show V x 0 [some (.ref 75), some (.int kd), none] [] (vrow σ 81 f)
  refine v_aload_3_0 G dX6_readOne_0 ?_
  refine v_getR G vc_6 lk_X6_13 (fs_X6_2) dX6_readOne_1 ?_
  refine v_aload_3_0 G dX6_readOne_4 ?_
  refine m_getI G (by decide) vc_6 lk_X6_101 fs_X6_3 dX6_readOne_5 ?_
  rw [hk]
  refine v_iload_3_1 G dX6_readOne_8 ?_
  refine m_iastN G (by decide) (as_X6_2) (by first | assumption | omega | exact oneB_in (by assumption) | exact wallB_in (by assumption) | exact oneB_m1 (by assumption) | decide) (by decide) dX6_readOne_9 ?_
  have kA : ∀ W, tpH W → W 75 3 = nI k → vset (ro4 W k) 75 3 (nI (k + 1)) = roW σ k kd → V x 48 [some (.ref 75), some (.int kd), none] [] (vrow W 81 f) := by
    intro W hW g hr
    have g4 : (ro4 W k) 75 3 = nI k := by rw [ro4_f (by omega) (by decide) (by decide)]; exact g
    have k99 : V x 99 [some (.ref 75), some (.int kd), none] [] (vrow (ro4 W k) 81 f) := by
      refine v_aload_3_0 G dX6_readOne_99 ?_
      refine v_dup G dX6_readOne_100 rfl ?_
      refine m_getI G (by decide) vc_6 lk_X6_101 fs_X6_3 dX6_readOne_101 ?_
      rw [g4]
      refine v_iconst (v := nI 1) G dX6_readOne_104 (by decide) ?_
      refine v_iaddN G dX6_readOne_105 ?_
      refine m_putI G (by decide) vc_6 vt_6 lk_X6_101 fs_X6_3 (ft_X6_3 _) dX6_readOne_106 ?_
      exact v_vret G hQ dX6_readOne_109 (vDet.of rfl (by rw [hr]))
    have e4 : ∀ v, (whW W v) 75 4 = W 75 4 := fun v => whW_f (by omega) (by decide)
    have e2 : ∀ v u, (vset (whW W v) 75 4 u) 75 3 = nI k := fun v u => by rw [vset_oth (by decide), whW_f (by omega) (by decide)]; exact g
    refine v_aload_3_0 G dX6_readOne_48 ?_
    refine m_getI G (by decide) vc_6 lk_X6_57 fs_X6_12 dX6_readOne_49 ?_
    refine v_if_ne (tgt := 99) G dX6_readOne_52 rfl (fun h_52 => ?_) (fun h_52 => ?_)
    · simp only [ro4, h_52, if_true, if_false] at k99
      exact V.drop (by simp only [vsubP, and_self]) k99
    · refine v_aload_3_0 G dX6_readOne_55 ?_
      refine m_getI G (by decide) vc_6 lk_X6_66 fs_X6_16 dX6_readOne_56 ?_
      refine v_iconst (v := nI 2) G dX6_readOne_59 (by decide) ?_
      refine v_icmp_ne (tgt := 99) G dX6_readOne_60 rfl (fun h_60 => ?_) (fun h_60 => ?_)
      · simp only [ro4, h_52, h_60, if_true, if_false] at k99
        exact V.drop (by simp only [vsubP, and_self]) k99
      · refine v_aload_3_0 G dX6_readOne_63 ?_
        refine v_aload_3_0 G dX6_readOne_64 ?_
        refine m_getI G (by decide) vc_6 lk_X6_104 fs_X6_4 dX6_readOne_65 ?_
        refine v_cV1 G (C_X6_wallHere hW) (by decide) md_X6_wallHere in_X6_wallHere (rv_X6 rfl) ml_X6_107 (Nat.le_of_ble_eq_true rfl) dX6_readOne_68 ?_
        refine v_istore_3_2 G dX6_readOne_71 rfl ?_
        refine v_aload_3_0 G dX6_readOne_72 ?_
        refine v_dup G dX6_readOne_73 rfl ?_
        refine m_getI G (by decide) vc_6 lk_X6_104 fs_X6_4 dX6_readOne_74 ?_
        rw [e4]
        refine v_iconst (v := nI 1) G dX6_readOne_77 (by decide) ?_
        refine v_iload_3_2 G dX6_readOne_78 ?_
        refine v_ishl G dX6_readOne_79 ?_
        refine v_ior G dX6_readOne_80 ?_
        refine m_putI G (by decide) vc_6 vt_6 lk_X6_104 fs_X6_4 (ft_X6_4 _) dX6_readOne_81 ?_
        refine v_aload_3_0 G dX6_readOne_84 ?_
        refine v_getR G vc_6 lk_X6_13 (fs_X6_2) dX6_readOne_85 ?_
        refine v_bipush (v := nI 15) G dX6_readOne_88 (by decide) ?_
        refine v_aload_3_0 G dX6_readOne_90 ?_
        refine m_getI G (by decide) vc_6 lk_X6_101 fs_X6_3 dX6_readOne_91 ?_
        rw [e2]
        refine v_iaddN G dX6_readOne_94 ?_
        refine v_iload_3_2 G dX6_readOne_95 ?_
        refine v_iconst (v := nI 1) G dX6_readOne_96 (by decide) ?_
        refine v_iadd G dX6_readOne_97 ?_
        refine m_iastN G (by decide) (as_X6_2) (by first | assumption | omega | exact oneB_in (by assumption) | exact wallB_in (by assumption) | exact oneB_m1 (by assumption) | decide) (by decide) dX6_readOne_98 ?_
        simp only [ro4, h_52, h_60, if_true, if_false] at k99
        exact V.drop (by simp only [vsubP, and_self]) k99
  have kB : ∀ W, tpH W → W 75 3 = nI k → vset (ro4 (ro3 W k) k) 75 3 (nI (k + 1)) = roW σ k kd → V x 28 [some (.ref 75), some (.int kd), none] [] (vrow W 81 f) := by
    intro W hW g hr
    refine v_aload_3_0 G dX6_readOne_28 ?_
    refine v_getR G vc_6 lk_X6_13 (fs_X6_2) dX6_readOne_29 ?_
    refine v_bipush (v := nI 10) G dX6_readOne_32 (by decide) ?_
    refine v_aload_3_0 G dX6_readOne_34 ?_
    refine m_getI G (by decide) vc_6 lk_X6_101 fs_X6_3 dX6_readOne_35 ?_
    rw [g]
    refine v_iaddN G dX6_readOne_38 ?_
    refine v_aload_3_0 G dX6_readOne_39 ?_
    refine v_iconst (v := nI 0) G dX6_readOne_40 (by decide) ?_
    refine v_bipush (v := nI 7) G dX6_readOne_41 (by decide) ?_
    refine v_iconst (v := nI 0) G dX6_readOne_43 (by decide) ?_
    refine v_cV3 G (C_X6_other hW) (by decide) md_X6_other in_X6_other (rv_X6 rfl) ml_X6_94 (Nat.le_of_ble_eq_true rfl) dX6_readOne_44 ?_
    refine m_iastN G (by decide) (as_X6_2) (by first | assumption | omega | exact oneB_in (by assumption) | exact wallB_in (by assumption) | exact oneB_m1 (by assumption) | decide) (by decide) dX6_readOne_47 ?_
    exact kA _ (ro3_H hW) ((ro3_f (by omega)).trans g) hr
  refine v_aload_3_0 G dX6_readOne_10 ?_
  refine v_getR G vc_6 lk_X6_13 (fs_X6_2) dX6_readOne_11 ?_
  refine v_iconst (v := nI 5) G dX6_readOne_14 (by decide) ?_
  refine v_aload_3_0 G dX6_readOne_15 ?_
  refine m_getI G (by decide) vc_6 lk_X6_101 fs_X6_3 dX6_readOne_16 ?_
  rw [g1]
  refine v_iaddN G dX6_readOne_19 ?_
  refine v_aload_3_0 G dX6_readOne_20 ?_
  refine v_iconst (v := nI 0) G dX6_readOne_21 (by decide) ?_
  refine v_iconst (v := nI 3) G dX6_readOne_22 (by decide) ?_
  refine v_iconst (v := nI 0) G dX6_readOne_23 (by decide) ?_
  refine v_cV3 G (C_X6_other h1) (by decide) md_X6_other in_X6_other (rv_X6 rfl) ml_X6_94 (Nat.le_of_ble_eq_true rfl) dX6_readOne_24 ?_
  refine m_iastN G (by decide) (as_X6_2) (by first | assumption | omega | exact oneB_in (by assumption) | exact wallB_in (by assumption) | exact oneB_m1 (by assumption) | decide) (by decide) dX6_readOne_27 ?_
  exact kB _ (ro2_H h1) ((ro2_f (by omega)).trans g1) rfl
