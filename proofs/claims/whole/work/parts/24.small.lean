/-! Sightings, Sheet, Tape (but for its tokens) -/
theorem in_of {i : Int32} {n : Nat} (hn : n < 2147483648) (h1 : ¬ i < 0) (h2 : ¬ nI n ≤ i) : vp_in i n := by
  rw [vp_in_iff]
  simp only [lt_toInt, le_toInt, nI_toInt (show n < 2 ^ 31 by omega), Int32.toInt_zero] at h1 h2
  omega
def noteW (σ : vW) (s : Nat) (p r b : Int32) : vW := vset (vset (vset (vset σ 5 s p) 6 s r) 7 s b) 4 3 (nI (s + 1))
set_option maxHeartbeats 4000000 in
theorem C_X2_note {σ : vW} {s : Nat} {p r b : Int32} (hs : σ 4 3 = nI s) (hs6 : s ≤ 6) (hb : b = 0 ∨ b = 1) : Ctr mX2_note 0 [.ref 4, .int p, .int r, .int b] σ (vDet (some (.int (bI (decide (s < 6))))) (if s < 6 then noteW σ s p r b else σ)) := by
  refine Ctr.intro (by decide) (fun α => Nat.le_of_ble_eq_true rfl) (fun x G hQ => ?_)
  have G : vG x RX2 cX2_note 4 (some .boolean) 0 := G
  show V x 0 [some (.ref 4), some (.int p), some (.int r), some (.int b)] [] σ
  rcases Nat.lt_or_ge s 6 with h9 | h9
  · rw [decide_eq_true h9, if_pos h9] at hQ
    refine v_aload_4_0 G dX2_note_0 ?_
    refine v_getI G vc_2 lk_X2_22 (fs_X2_3) dX2_note_1 ?_
    rw [hs]
    refine v_if_lt (tgt := 16) G dX2_note_4 rfl (fun h_4 => absurd h_4 (nI_pos (by omega))) (fun h_4 => ?_)
    refine v_aload_4_0 G dX2_note_7 ?_
    refine v_getI G vc_2 lk_X2_22 (fs_X2_3) dX2_note_8 ?_
    rw [hs]
    refine v_bipush (v := nI 6) G dX2_note_11 (by decide) ?_
    refine v_icmp_lt (tgt := 18) G dX2_note_13 rfl (fun h_13 => ?_) (fun h_13 => absurd (nI_lt h9 (by decide)) h_13)
    refine v_aload_4_0 G dX2_note_18 ?_
    refine v_getR G vc_2 lk_X2_9 (fs_X2_0) dX2_note_19 ?_
    refine v_aload_4_0 G dX2_note_22 ?_
    refine v_getI G vc_2 lk_X2_22 (fs_X2_3) dX2_note_23 ?_
    rw [hs]
    refine v_iload_4_1 G dX2_note_26 ?_
    refine v_iastN G (as_X2_0) (by first | assumption | omega | exact oneB_in (by assumption) | exact wallB_in (by assumption) | exact oneB_m1 (by assumption) | decide) (by first | decide | omega) dX2_note_27 ?_
    refine v_aload_4_0 G dX2_note_28 ?_
    refine v_getR G vc_2 lk_X2_15 (fs_X2_1) dX2_note_29 ?_
    refine v_aload_4_0 G dX2_note_32 ?_
    refine v_getI G vc_2 lk_X2_22 (fs_X2_3) dX2_note_33 ?_
    rw [vset_ne (by decide), hs]
    refine v_iload_4_2 G dX2_note_36 ?_
    refine v_iastN G (as_X2_1) (by first | assumption | omega | exact oneB_in (by assumption) | exact wallB_in (by assumption) | exact oneB_m1 (by assumption) | decide) (by first | decide | omega) dX2_note_37 ?_
    refine v_aload_4_0 G dX2_note_38 ?_
    refine v_getR G vc_2 lk_X2_18 (fs_X2_2) dX2_note_39 ?_
    refine v_aload_4_0 G dX2_note_42 ?_
    refine v_getI G vc_2 lk_X2_22 (fs_X2_3) dX2_note_43 ?_
    rw [vset_ne (by decide), vset_ne (by decide), hs]
    refine v_iload_4_3 G dX2_note_46 ?_
    refine v_zastN G (as_X2_2) (by first | assumption | omega | exact oneB_in (by assumption) | exact wallB_in (by assumption) | exact oneB_m1 (by assumption) | decide) (by first | decide | omega) (by first | exact Or.inl rfl | exact Or.inr rfl | exact bI_01 _ | assumption) dX2_note_47 ?_
    refine v_aload_4_0 G dX2_note_48 ?_
    refine v_dup G dX2_note_49 rfl ?_
    refine v_getI G vc_2 lk_X2_22 (fs_X2_3) dX2_note_50 ?_
    rw [vset_ne (by decide), vset_ne (by decide), vset_ne (by decide), hs]
    refine v_iconst (v := nI 1) G dX2_note_53 (by decide) ?_
    refine v_iaddN G dX2_note_54 ?_
    refine v_putI G vc_2 vt_2 lk_X2_22 (fs_X2_3) (ft_X2_3 _) dX2_note_55 ?_
    refine v_iconst (v := nI 1) G dX2_note_58 (by decide) ?_
    exact v_zret G hQ dX2_note_59 (by first | exact Or.inl rfl | exact Or.inr rfl | exact bI_01 _ | assumption) vDet.mk
  · rw [decide_eq_false (show ¬ s < 6 by omega), if_neg (show ¬ s < 6 by omega)] at hQ
    refine v_aload_4_0 G dX2_note_0 ?_
    refine v_getI G vc_2 lk_X2_22 (fs_X2_3) dX2_note_1 ?_
    rw [hs]
    refine v_if_lt (tgt := 16) G dX2_note_4 rfl (fun h_4 => absurd h_4 (nI_pos (by omega))) (fun h_4 => ?_)
    refine v_aload_4_0 G dX2_note_7 ?_
    refine v_getI G vc_2 lk_X2_22 (fs_X2_3) dX2_note_8 ?_
    rw [hs]
    refine v_bipush (v := nI 6) G dX2_note_11 (by decide) ?_
    refine v_icmp_lt (tgt := 18) G dX2_note_13 rfl (fun h_13 => absurd h_13 (nI_nlt h9 (by omega))) (fun h_13 => ?_)
    refine v_iconst (v := nI 0) G dX2_note_16 (by decide) ?_
    exact v_zret G hQ dX2_note_17 (by first | exact Or.inl rfl | exact Or.inr rfl | exact bI_01 _ | assumption) vDet.mk
def missH (σ : vW) (t m k : Nat) : Bool := if oneB (σ t 10) (σ 5 k) = true then (if bI (bitB (reachW σ t m (σ 5 k).toNatClampNeg) (σ 6 k)) = σ 7 k then false else true) else false
def holdB (σ : vW) (t m s : Nat) : Bool := if fstP (missH σ t m) s 0 < s then false else true
set_option maxHeartbeats 4000000 in
theorem C_X2_allHoldIn {σ : vW} {t m s : Nat} (hT : TB t) (hm : σ t 11 = nI m) (hm9 : m ≤ 9) (hs : σ 4 3 = nI s) (hs6 : s ≤ 6) (hw : ∀ i, i < s → ∃ p, p < 5 ∧ σ 5 i = nI p) : Ctr mX2_allHoldIn 4 [.ref 4, .ref t] σ (vDet (some (.int (bI (holdB σ t m s)))) σ) := by
  refine Ctr.intro (by decide) (fun α => Nat.le_of_ble_eq_true rfl) (fun x G hQ => ?_)
  have G : vG x RX2 cX2_allHoldIn 3 (some .boolean) 4 := G
  show V x 0 [some (.ref 4), some (.ref t), none] [] σ
  refine v_iconst (v := nI 0) G dX2_allHoldIn_0 (by decide) ?_
  refine v_istore_3_2 G dX2_allHoldIn_1 rfl ?_
  refine v_forP (pc := 2) s (fun k => fstP (missH σ t m) s 0 = fstP (missH σ t m) (s - k) k) (fun k => ([some (.ref 4), some (.ref t), some (.int (nI k))], σ)) rfl (fun k hk hp ih => ?_) (fun hp => ?_)
  · show V x 2 [some (.ref 4), some (.ref t), some (.int (nI k))] [] σ
    have hp : fstP (missH σ t m) s 0 = fstP (missH σ t m) (s - k) k := hp
    have ih : (fstP (missH σ t m) s 0 = fstP (missH σ t m) (s - (k + 1)) (k + 1)) → V x 2 [some (.ref 4), some (.ref t), some (.int (nI (k + 1)))] [] σ := ih
    rw [show s - k = (s - (k + 1)) + 1 by omega, fstP] at hp
    obtain ⟨p, hp5, ew⟩ := hw k hk
    have hmi : missH σ t m k = if oneB (σ t 10) (nI p) = true then (if bI (bitB (reachW σ t m p) (σ 6 k)) = σ 7 k then false else true) else false := by rw [missH, ew, nI_clamp (by omega)]
    refine v_iload_3_2 G dX2_allHoldIn_2 ?_
    refine v_aload_3_0 G dX2_allHoldIn_3 ?_
    refine v_getI G vc_2 lk_X2_22 (fs_X2_3) dX2_allHoldIn_4 ?_
    refine v_icmp_ge (tgt := 65) G dX2_allHoldIn_7 rfl (fun h_7 => absurd h_7 (by rw [hs]; exact nI_ge hk (by omega))) (fun h_7 => ?_)
    refine v_iload_3_2 G dX2_allHoldIn_10 ?_
    refine v_bipush (v := nI 6) G dX2_allHoldIn_11 (by decide) ?_
    refine v_icmp_ge (tgt := 65) G dX2_allHoldIn_13 rfl (fun h_13 => absurd h_13 (nI_ge (by omega) (by decide))) (fun h_13 => ?_)
    refine v_aload_3_1 G dX2_allHoldIn_16 ?_
    refine v_aload_3_0 G dX2_allHoldIn_17 ?_
    refine v_getR G vc_2 lk_X2_9 (fs_X2_0) dX2_allHoldIn_18 ?_
    refine v_iload_3_2 G dX2_allHoldIn_21 ?_
    refine v_ialdN G (as_X2_0) (by first | assumption | omega | exact oneB_in (by assumption) | exact wallB_in (by assumption) | exact oneB_m1 (by assumption) | decide) (by first | decide | omega) dX2_allHoldIn_22 ?_
    rw [ew]
    refine v_cV1 G (C_X4_isOne (by first | assumption | omega | exact oneB_in (by assumption) | exact wallB_in (by assumption) | exact oneB_m1 (by assumption) | decide)) (by decide) md_X4_isOne in_X4_isOne (rv_X4 (by first | assumption | exact imgP_TB | exact shP_SB) rfl) ml_X2_26 (Nat.le_of_ble_eq_true rfl) dX2_allHoldIn_23 ?_
    refine v_ifB_eq (tgt := 59) G dX2_allHoldIn_26 rfl (fun h_26 => ?_) (fun h_26 => ?_)
    · refine v_iincN_3_2 G dX2_allHoldIn_59 rfl ?_
      refine v_goto (tgt := 2) G dX2_allHoldIn_62 rfl ?_
      refine ih ?_
      rw [hp, if_neg]
      simp only [hmi, h_7, h_13, h_26, if_true, if_false, Bool.false_eq_true, reduceIte, not_false_eq_true]
    · refine v_aload_3_1 G dX2_allHoldIn_29 ?_
      refine v_aload_3_0 G dX2_allHoldIn_30 ?_
      refine v_getR G vc_2 lk_X2_9 (fs_X2_0) dX2_allHoldIn_31 ?_
      refine v_iload_3_2 G dX2_allHoldIn_34 ?_
      refine v_ialdN G (as_X2_0) (by first | assumption | omega | exact oneB_in (by assumption) | exact wallB_in (by assumption) | exact oneB_m1 (by assumption) | decide) (by first | decide | omega) dX2_allHoldIn_35 ?_
      rw [ew]
      refine v_cV1 G (C_X4_reached (by first | assumption | omega | exact oneB_in (by assumption) | exact wallB_in (by assumption) | exact oneB_m1 (by assumption) | decide) (by first | assumption | omega | exact oneB_in (by assumption) | exact wallB_in (by assumption) | exact oneB_m1 (by assumption) | decide) (by first | assumption | omega | exact oneB_in (by assumption) | exact wallB_in (by assumption) | exact oneB_m1 (by assumption) | decide) (by first | assumption | omega | exact oneB_in (by assumption) | exact wallB_in (by assumption) | exact oneB_m1 (by assumption) | decide)) (by decide) md_X4_reached in_X4_reached (rv_X4 (by first | assumption | exact imgP_TB | exact shP_SB) rfl) ml_X2_32 (Nat.le_of_ble_eq_true rfl) dX2_allHoldIn_36 ?_
      refine v_aload_3_0 G dX2_allHoldIn_39 ?_
      refine v_getR G vc_2 lk_X2_15 (fs_X2_1) dX2_allHoldIn_40 ?_
      refine v_iload_3_2 G dX2_allHoldIn_43 ?_
      refine v_ialdN G (as_X2_1) (by first | assumption | omega | exact oneB_in (by assumption) | exact wallB_in (by assumption) | exact oneB_m1 (by assumption) | decide) (by first | decide | omega) dX2_allHoldIn_44 ?_
      refine v_cN2 G (C_X5_hasBit) (by decide) md_X5_hasBit st_X5_hasBit nl_X2_36 (Nat.le_of_ble_eq_true rfl) dX2_allHoldIn_45 ?_
      refine v_aload_3_0 G dX2_allHoldIn_48 ?_
      refine v_getR G vc_2 lk_X2_18 (fs_X2_2) dX2_allHoldIn_49 ?_
      refine v_iload_3_2 G dX2_allHoldIn_52 ?_
      refine v_zaldN G (as_X2_2) (by first | assumption | omega | exact oneB_in (by assumption) | exact wallB_in (by assumption) | exact oneB_m1 (by assumption) | decide) (by first | decide | omega) dX2_allHoldIn_53 ?_
      refine v_icmp_eq (tgt := 59) G dX2_allHoldIn_54 rfl (fun h_54 => ?_) (fun h_54 => ?_)
      · refine v_iincN_3_2 G dX2_allHoldIn_59 rfl ?_
        refine v_goto (tgt := 2) G dX2_allHoldIn_62 rfl ?_
        refine ih ?_
        rw [hp, if_neg]
        simp only [hmi, h_7, h_13, h_26, h_54, if_true, if_false, Bool.false_eq_true, reduceIte, not_false_eq_true]
      · refine v_iconst (v := nI 0) G dX2_allHoldIn_57 (by decide) ?_
        exact v_zret G hQ dX2_allHoldIn_58 (by first | exact Or.inl rfl | exact Or.inr rfl | exact bI_01 _ | assumption) (vDet.of (by rw [holdB, hp, if_pos (show missH σ t m k = true by simp only [hmi, h_7, h_13, h_26, h_54, if_true, if_false]), if_pos hk]; rfl) rfl)
  · show V x 2 [some (.ref 4), some (.ref t), some (.int (nI s))] [] σ
    have hp : fstP (missH σ t m) s 0 = fstP (missH σ t m) (s - s) s := hp
    rw [Nat.sub_self, fstP] at hp
    refine v_iload_3_2 G dX2_allHoldIn_2 ?_
    refine v_aload_3_0 G dX2_allHoldIn_3 ?_
    refine v_getI G vc_2 lk_X2_22 (fs_X2_3) dX2_allHoldIn_4 ?_
    refine v_icmp_ge (tgt := 65) G dX2_allHoldIn_7 rfl (fun h_7 => ?_) (fun h_7 => absurd (by rw [hs]; exact nI_le (Nat.le_refl _) (by omega)) h_7)
    refine v_iconst (v := nI 1) G dX2_allHoldIn_65 (by decide) ?_
    exact v_zret G hQ dX2_allHoldIn_66 (by first | exact Or.inl rfl | exact Or.inr rfl | exact bI_01 _ | assumption) (vDet.of (by rw [holdB, hp, if_neg (Nat.lt_irrefl s)]; rfl) rfl)
def renewW (σ : vW) (b : Nat) (l n : Int32) : vW := vrow (vset (vset σ b 1 l) b 2 n) (b + 1) (fillR (σ (b + 1)) (nI 0) 40)
set_option maxHeartbeats 4000000 in
theorem C_X1_renew {σ : vW} {b : Nat} {l n : Int32} (hB : SB b) : Ctr mX1_renew 1 [.ref b, .int l, .int n] σ (vDet none (renewW σ b l n)) := by
  have a1 : vAs (b + 1) 0 40 := as_X1_0 hB
  refine Ctr.intro (by decide) (fun α => Nat.le_of_ble_eq_true rfl) (fun x G hQ => ?_)
  have G : vG x RX1 cX1_renew 3 none 1 := G
  show V x 0 [some (.ref b), some (.int l), some (.int n)] [] σ
  refine v_aload_3_0 G dX1_renew_0 ?_
  refine v_iload_3_1 G dX1_renew_1 ?_
  refine v_putI G vc_1 vt_1 lk_X1_19 (fs_X1_1 (by first | assumption | exact shP_SB)) (ft_X1_1 _) dX1_renew_2 ?_
  refine v_aload_3_0 G dX1_renew_5 ?_
  refine v_iload_3_2 G dX1_renew_6 ?_
  refine v_putI G vc_1 vt_1 lk_X1_15 (fs_X1_2 (by first | assumption | exact shP_SB)) (ft_X1_2 _) dX1_renew_7 ?_
  refine v_aload_3_0 G dX1_renew_10 ?_
  refine v_getR G vc_1 lk_X1_9 (fs_X1_0 (by first | assumption | exact shP_SB)) dX1_renew_11 ?_
  refine v_iconst (v := nI 0) G dX1_renew_14 (by decide) ?_
  refine v_cS2v G (C_fill a1 (by decide)) (by decide) md_J7_fill_53178 st_J7_fill_53178 ml_X1_22 (Nat.le_of_ble_eq_true rfl) dX1_renew_15 ?_
  exact v_vret G hQ dX1_renew_18 (vDet.of rfl (by rw [renewW, vset_ne (show b + 1 ≠ b by omega), vset_ne (show b + 1 ≠ b by omega)]))
def fltA (σ : vW) (b : Nat) (l : Int32) (c : Int64) : Int32 := if 0 ≤ σ b 2 then (if σ b 1 = l then (if lg_cmp c (lN 0) < 0 then nI 2 else if 0 ≤ lg_cmp c (σ b 2).toInt64 then nI 2 else if lg_cmp c 40 < 0 then nI 0 else nI 2) else nI 3) else nI 1
set_option maxHeartbeats 4000000 in
theorem C_X1_faultAt {σ : vW} {b : Nat} {l : Int32} {c : Int64} (hB : SB b) : Ctr mX1_faultAt 0 [.ref b, .int l, .long c] σ (vDet (some (.int (fltA σ b l c))) σ) := by
  refine Ctr.intro (by decide) (fun α => Nat.le_of_ble_eq_true rfl) (fun x G hQ => ?_)
  have G : vG x RX1 cX1_faultAt 4 (some .int) 0 := G
  show V x 0 [some (.ref b), some (.int l), some (.long c), none] [] σ
  refine v_aload_4_0 G dX1_faultAt_0 ?_
  refine v_getI G vc_1 lk_X1_15 (fs_X1_2 (by first | assumption | exact shP_SB)) dX1_faultAt_1 ?_
  refine v_if_ge (tgt := 9) G dX1_faultAt_4 rfl (fun h_4 => ?_) (fun h_4 => ?_)
  · refine v_aload_4_0 G dX1_faultAt_9 ?_
    refine v_getI G vc_1 lk_X1_19 (fs_X1_1 (by first | assumption | exact shP_SB)) dX1_faultAt_10 ?_
    refine v_iload_4_1 G dX1_faultAt_13 ?_
    refine v_icmp_eq (tgt := 19) G dX1_faultAt_14 rfl (fun h_14 => ?_) (fun h_14 => ?_)
    · refine v_lload_4_2 G dX1_faultAt_19 ?_
      refine v_lconst (v := lN 0) G dX1_faultAt_20 (by decide) ?_
      refine v_lcmp G dX1_faultAt_21 ?_
      refine v_if_lt (tgt := 43) G dX1_faultAt_22 rfl (fun h_22 => ?_) (fun h_22 => ?_)
      · refine v_iconst (v := nI 2) G dX1_faultAt_43 (by decide) ?_
        refine v_goto (tgt := 48) G dX1_faultAt_44 rfl ?_
        exact v_iret G hQ dX1_faultAt_48 (vDet.of (by simp only [fltA, bI, h_4, h_14, h_22, if_true, if_false, Bool.false_eq_true, reduceIte] <;> try rfl) rfl)
      · refine v_lload_4_2 G dX1_faultAt_25 ?_
        refine v_aload_4_0 G dX1_faultAt_26 ?_
        refine v_getI G vc_1 lk_X1_15 (fs_X1_2 (by first | assumption | exact shP_SB)) dX1_faultAt_27 ?_
        refine v_i2l G dX1_faultAt_30 ?_
        refine v_lcmp G dX1_faultAt_31 ?_
        refine v_if_ge (tgt := 43) G dX1_faultAt_32 rfl (fun h_32 => ?_) (fun h_32 => ?_)
        · refine v_iconst (v := nI 2) G dX1_faultAt_43 (by decide) ?_
          refine v_goto (tgt := 48) G dX1_faultAt_44 rfl ?_
          exact v_iret G hQ dX1_faultAt_48 (vDet.of (by simp only [fltA, bI, h_4, h_14, h_22, h_32, if_true, if_false, Bool.false_eq_true, reduceIte] <;> try rfl) rfl)
        · refine v_lload_4_2 G dX1_faultAt_35 ?_
          refine v_ldc2 G ct_X1_28 dX1_faultAt_36 ?_
          refine v_lcmp G dX1_faultAt_39 ?_
          refine v_if_lt (tgt := 47) G dX1_faultAt_40 rfl (fun h_40 => ?_) (fun h_40 => ?_)
          · refine v_iconst (v := nI 0) G dX1_faultAt_47 (by decide) ?_
            exact v_iret G hQ dX1_faultAt_48 (vDet.of (by simp only [fltA, bI, h_4, h_14, h_22, h_32, h_40, if_true, if_false, Bool.false_eq_true, reduceIte] <;> try rfl) rfl)
          · refine v_iconst (v := nI 2) G dX1_faultAt_43 (by decide) ?_
            refine v_goto (tgt := 48) G dX1_faultAt_44 rfl ?_
            exact v_iret G hQ dX1_faultAt_48 (vDet.of (by simp only [fltA, bI, h_4, h_14, h_22, h_32, h_40, if_true, if_false, Bool.false_eq_true, reduceIte] <;> try rfl) rfl)
    · refine v_iconst (v := nI 3) G dX1_faultAt_17 (by decide) ?_
      exact v_iret G hQ dX1_faultAt_18 (vDet.of (by simp only [fltA, bI, h_4, h_14, if_true, if_false, Bool.false_eq_true, reduceIte] <;> try rfl) rfl)
  · refine v_iconst (v := nI 1) G dX1_faultAt_7 (by decide) ?_
    exact v_iret G hQ dX1_faultAt_8 (vDet.of (by simp only [fltA, bI, h_4, if_true, if_false, Bool.false_eq_true, reduceIte] <;> try rfl) rfl)
def fltB (σ : vW) (b : Nat) (l f i : Int32) : Int32 := if fltA σ b l (f.toInt64 + 2 * i.toInt64) = 0 then fltA σ b l (f.toInt64 + 2 * i.toInt64 + lN 1) else fltA σ b l (f.toInt64 + 2 * i.toInt64)
set_option maxHeartbeats 4000000 in
theorem C_X1_faultAtTwo {σ : vW} {b : Nat} {l f i : Int32} (hB : SB b) : Ctr mX1_faultAtTwo 1 [.ref b, .int l, .int f, .int i] σ (vDet (some (.int (fltB σ b l f i))) σ) := by
  refine Ctr.intro (by decide) (fun α => Nat.le_of_ble_eq_true rfl) (fun x G hQ => ?_)
  have G : vG x RX1 cX1_faultAtTwo 7 (some .int) 1 := G
  show V x 0 [some (.ref b), some (.int l), some (.int f), some (.int i), none, none, none] [] σ
  refine v_iload_7_2 G dX1_faultAtTwo_0 ?_
  refine v_i2l G dX1_faultAtTwo_1 ?_
  refine v_ldc2 G ct_X1_30 dX1_faultAtTwo_2 ?_
  refine v_iload_7_3 G dX1_faultAtTwo_5 ?_
  refine v_i2l G dX1_faultAtTwo_6 ?_
  refine v_lmul G dX1_faultAtTwo_7 ?_
  refine v_ladd G dX1_faultAtTwo_8 ?_
  refine v_lstore_7_4 G dX1_faultAtTwo_9 rfl ?_
  refine v_aload_7_0 G dX1_faultAtTwo_11 ?_
  refine v_iload_7_1 G dX1_faultAtTwo_12 ?_
  refine v_lload_7_4 G dX1_faultAtTwo_13 ?_
  refine v_cV2 G (C_X1_faultAt (by first | assumption | omega | exact oneB_in (by assumption) | exact wallB_in (by assumption) | exact oneB_m1 (by assumption) | decide)) (by decide) md_X1_faultAt in_X1_faultAt (rv_X1 (by first | assumption | exact imgP_TB | exact shP_SB) rfl) ml_X1_32 (Nat.le_of_ble_eq_true rfl) dX1_faultAtTwo_15 ?_
  refine v_istore_7_6 G dX1_faultAtTwo_18 rfl ?_
  refine v_iload_7_6 G dX1_faultAtTwo_20 ?_
  refine v_if_eq (tgt := 30) G dX1_faultAtTwo_22 rfl (fun h_22 => ?_) (fun h_22 => ?_)
  · refine v_aload_7_0 G dX1_faultAtTwo_30 ?_
    refine v_iload_7_1 G dX1_faultAtTwo_31 ?_
    refine v_lload_7_4 G dX1_faultAtTwo_32 ?_
    refine v_lconst (v := lN 1) G dX1_faultAtTwo_34 (by decide) ?_
    refine v_ladd G dX1_faultAtTwo_35 ?_
    refine v_cV2 G (C_X1_faultAt (by first | assumption | omega | exact oneB_in (by assumption) | exact wallB_in (by assumption) | exact oneB_m1 (by assumption) | decide)) (by decide) md_X1_faultAt in_X1_faultAt (rv_X1 (by first | assumption | exact imgP_TB | exact shP_SB) rfl) ml_X1_32 (Nat.le_of_ble_eq_true rfl) dX1_faultAtTwo_36 ?_
    exact v_iret G hQ dX1_faultAtTwo_39 (vDet.of (by simp only [fltB, bI, h_22, if_true, if_false, Bool.false_eq_true, reduceIte] <;> try rfl) rfl)
  · refine v_iload_7_6 G dX1_faultAtTwo_25 ?_
    refine v_goto (tgt := 39) G dX1_faultAtTwo_27 rfl ?_
    exact v_iret G hQ dX1_faultAtTwo_39 (vDet.of (by simp only [fltB, bI, h_22, if_true, if_false, Bool.false_eq_true, reduceIte] <;> try rfl) rfl)
def appW (σ : vW) (n : Nat) (c : Int32) : vW := vset (vset σ 3 n (vp_nar .byte c.toInt8.toInt32)) 2 1 (nI (n + 1))
set_option maxHeartbeats 4000000 in
theorem C_X3_append {σ : vW} {n : Nat} {c : Int32} (hn : σ 2 1 = nI n) (hn6 : n ≤ 160) : Ctr mX3_append 0 [.ref 2, .int c] σ (vDet (some (.int (bI (decide (n < 160))))) (if n < 160 then appW σ n c else σ)) := by
  refine Ctr.intro (by decide) (fun α => Nat.le_of_ble_eq_true rfl) (fun x G hQ => ?_)
  have G : vG x RX3 cX3_append 2 (some .boolean) 0 := G
  show V x 0 [some (.ref 2), some (.int c)] [] σ
  rcases Nat.lt_or_ge n 160 with h9 | h9
  · rw [decide_eq_true h9, if_pos h9] at hQ
    refine v_aload_2_0 G dX3_append_0 ?_
    refine v_getI G vc_3 lk_X3_15 (fs_X3_1) dX3_append_1 ?_
    rw [hn]
    refine v_if_lt (tgt := 17) G dX3_append_4 rfl (fun h_4 => absurd h_4 (nI_pos (by omega))) (fun h_4 => ?_)
    refine v_aload_2_0 G dX3_append_7 ?_
    refine v_getI G vc_3 lk_X3_15 (fs_X3_1) dX3_append_8 ?_
    rw [hn]
    refine v_sipush (v := nI 160) G dX3_append_11 (by decide) ?_
    refine v_icmp_lt (tgt := 19) G dX3_append_14 rfl (fun h_14 => ?_) (fun h_14 => absurd (nI_lt h9 (by decide)) h_14)
    refine v_aload_2_0 G dX3_append_19 ?_
    refine v_getR G vc_3 lk_X3_9 (fs_X3_0) dX3_append_20 ?_
    refine v_aload_2_0 G dX3_append_23 ?_
    refine v_getI G vc_3 lk_X3_15 (fs_X3_1) dX3_append_24 ?_
    rw [hn]
    refine v_iload_2_1 G dX3_append_27 ?_
    refine v_i2b G dX3_append_28 ?_
    refine v_bastN G (as_X3_0) (by first | assumption | omega | exact oneB_in (by assumption) | exact wallB_in (by assumption) | exact oneB_m1 (by assumption) | decide) (by first | decide | omega) dX3_append_29 ?_
    refine v_aload_2_0 G dX3_append_30 ?_
    refine v_dup G dX3_append_31 rfl ?_
    refine v_getI G vc_3 lk_X3_15 (fs_X3_1) dX3_append_32 ?_
    rw [vset_ne (by decide), hn]
    refine v_iconst (v := nI 1) G dX3_append_35 (by decide) ?_
    refine v_iaddN G dX3_append_36 ?_
    refine v_putI G vc_3 vt_3 lk_X3_15 (fs_X3_1) (ft_X3_1 _) dX3_append_37 ?_
    refine v_iconst (v := nI 1) G dX3_append_40 (by decide) ?_
    exact v_zret G hQ dX3_append_41 (by first | exact Or.inl rfl | exact Or.inr rfl | exact bI_01 _ | assumption) vDet.mk
  · rw [decide_eq_false (show ¬ n < 160 by omega), if_neg (show ¬ n < 160 by omega)] at hQ
    refine v_aload_2_0 G dX3_append_0 ?_
    refine v_getI G vc_3 lk_X3_15 (fs_X3_1) dX3_append_1 ?_
    rw [hn]
    refine v_if_lt (tgt := 17) G dX3_append_4 rfl (fun h_4 => absurd h_4 (nI_pos (by omega))) (fun h_4 => ?_)
    refine v_aload_2_0 G dX3_append_7 ?_
    refine v_getI G vc_3 lk_X3_15 (fs_X3_1) dX3_append_8 ?_
    rw [hn]
    refine v_sipush (v := nI 160) G dX3_append_11 (by decide) ?_
    refine v_icmp_lt (tgt := 19) G dX3_append_14 rfl (fun h_14 => absurd h_14 (nI_nlt h9 (by omega))) (fun h_14 => ?_)
    refine v_iconst (v := nI 0) G dX3_append_17 (by decide) ?_
    exact v_zret G hQ dX3_append_18 (by first | exact Or.inl rfl | exact Or.inr rfl | exact bI_01 _ | assumption) vDet.mk
set_option maxHeartbeats 4000000 in
theorem C_X3_rewind {σ : vW} : Ctr mX3_rewind 0 [.ref 2] σ (vDet none (vset σ 2 5 (nI 0))) := by
  refine Ctr.intro (by decide) (fun α => Nat.le_of_ble_eq_true rfl) (fun x G hQ => ?_)
  have G : vG x RX3 cX3_rewind 1 none 0 := G
  show V x 0 [some (.ref 2)] [] σ
  refine v_aload_1_0 G dX3_rewind_0 ?_
  refine v_iconst (v := nI 0) G dX3_rewind_1 (by decide) ?_
  refine v_putI G vc_3 vt_3 lk_X3_19 (fs_X3_5) (ft_X3_5 _) dX3_rewind_2 ?_
  exact v_vret G hQ dX3_rewind_5 vDet.mk
def byteC (σ : vW) (i : Int32) : Int32 := if i < 0 then -1 else if σ 2 1 ≤ i then -1 else if nI 160 ≤ i then -1 else σ 3 i.toNatClampNeg
set_option maxHeartbeats 4000000 in
theorem C_X3_byteAt {σ : vW} {i : Int32} : Ctr mX3_byteAt 0 [.ref 2, .int i] σ (vDet (some (.int (byteC σ i))) σ) := by
  refine Ctr.intro (by decide) (fun α => Nat.le_of_ble_eq_true rfl) (fun x G hQ => ?_)
  have G : vG x RX3 cX3_byteAt 2 (some .int) 0 := G
  show V x 0 [some (.ref 2), some (.int i)] [] σ
  refine v_iload_2_1 G dX3_byteAt_0 ?_
  refine v_if_lt (tgt := 28) G dX3_byteAt_1 rfl (fun h_1 => ?_) (fun h_1 => ?_)
  · refine v_iconst (v := (-1)) G dX3_byteAt_28 (by decide) ?_
    exact v_iret G hQ dX3_byteAt_29 (vDet.of (by simp only [byteC, bI, h_1, if_true, if_false, Bool.false_eq_true, reduceIte] <;> try rfl) rfl)
  · refine v_iload_2_1 G dX3_byteAt_4 ?_
    refine v_aload_2_0 G dX3_byteAt_5 ?_
    refine v_getI G vc_3 lk_X3_15 (fs_X3_1) dX3_byteAt_6 ?_
    refine v_icmp_ge (tgt := 28) G dX3_byteAt_9 rfl (fun h_9 => ?_) (fun h_9 => ?_)
    · refine v_iconst (v := (-1)) G dX3_byteAt_28 (by decide) ?_
      exact v_iret G hQ dX3_byteAt_29 (vDet.of (by simp only [byteC, bI, h_1, h_9, if_true, if_false, Bool.false_eq_true, reduceIte] <;> try rfl) rfl)
    · refine v_iload_2_1 G dX3_byteAt_12 ?_
      refine v_sipush (v := nI 160) G dX3_byteAt_13 (by decide) ?_
      refine v_icmp_ge (tgt := 28) G dX3_byteAt_16 rfl (fun h_16 => ?_) (fun h_16 => ?_)
      · refine v_iconst (v := (-1)) G dX3_byteAt_28 (by decide) ?_
        exact v_iret G hQ dX3_byteAt_29 (vDet.of (by simp only [byteC, bI, h_1, h_9, h_16, if_true, if_false, Bool.false_eq_true, reduceIte] <;> try rfl) rfl)
      · refine v_aload_2_0 G dX3_byteAt_19 ?_
        refine v_getR G vc_3 lk_X3_9 (fs_X3_0) dX3_byteAt_20 ?_
        refine v_iload_2_1 G dX3_byteAt_23 ?_
        refine v_bald G (as_X3_0) (by first | assumption | exact in_of (by decide) h_1 h_16) dX3_byteAt_24 ?_
        refine v_goto (tgt := 29) G dX3_byteAt_25 rfl ?_
        exact v_iret G hQ dX3_byteAt_29 (vDet.of (by simp only [byteC, bI, h_1, h_9, h_16, if_true, if_false, Bool.false_eq_true, reduceIte] <;> try rfl) rfl)
def tokOf (c : Int32) : Int32 := if 0 ≤ c then (if c < nI 97 then (if c < nI 48 then (if c = nI 59 then nI 3 else nI 0) else if nI 57 < c then (if c = nI 59 then nI 3 else nI 0) else nI 2) else if nI 122 < c then (if c < nI 48 then (if c = nI 59 then nI 3 else nI 0) else if nI 57 < c then (if c = nI 59 then nI 3 else nI 0) else nI 2) else nI 1) else nI 4
set_option maxHeartbeats 4000000 in
theorem C_X3_tokenOf {σ : vW} {c : Int32} : Ctr mX3_tokenOf 0 [.int c] σ (vDet (some (.int (tokOf c))) σ) := by
  refine Ctr.intro (by decide) (fun α => Nat.le_of_ble_eq_true rfl) (fun x G hQ => ?_)
  have G : vG x RX3 cX3_tokenOf 1 (some .int) 0 := G
  show V x 0 [some (.int c)] [] σ
  refine v_iload_1_0 G dX3_tokenOf_0 ?_
  refine v_if_ge (tgt := 6) G dX3_tokenOf_1 rfl (fun h_1 => ?_) (fun h_1 => ?_)
  · refine v_iload_1_0 G dX3_tokenOf_6 ?_
    refine v_bipush (v := nI 97) G dX3_tokenOf_7 (by decide) ?_
    refine v_icmp_lt (tgt := 20) G dX3_tokenOf_9 rfl (fun h_9 => ?_) (fun h_9 => ?_)
    · refine v_iload_1_0 G dX3_tokenOf_20 ?_
      refine v_bipush (v := nI 48) G dX3_tokenOf_21 (by decide) ?_
      refine v_icmp_lt (tgt := 34) G dX3_tokenOf_23 rfl (fun h_23 => ?_) (fun h_23 => ?_)
      · refine v_iload_1_0 G dX3_tokenOf_34 ?_
        refine v_bipush (v := nI 59) G dX3_tokenOf_35 (by decide) ?_
        refine v_icmp_ne (tgt := 44) G dX3_tokenOf_37 rfl (fun h_37 => ?_) (fun h_37 => ?_)
        · refine v_iconst (v := nI 0) G dX3_tokenOf_44 (by decide) ?_
          exact v_iret G hQ dX3_tokenOf_45 (vDet.of (by simp only [tokOf, bI, h_1, h_9, h_23, h_37, if_true, if_false, Bool.false_eq_true, reduceIte] <;> try rfl) rfl)
        · refine v_iconst (v := nI 3) G dX3_tokenOf_40 (by decide) ?_
          refine v_goto (tgt := 45) G dX3_tokenOf_41 rfl ?_
          exact v_iret G hQ dX3_tokenOf_45 (vDet.of (by simp only [tokOf, bI, h_1, h_9, h_23, h_37, if_true, if_false, Bool.false_eq_true, reduceIte] <;> try rfl) rfl)
      · refine v_iload_1_0 G dX3_tokenOf_26 ?_
        refine v_bipush (v := nI 57) G dX3_tokenOf_27 (by decide) ?_
        refine v_icmp_gt (tgt := 34) G dX3_tokenOf_29 rfl (fun h_29 => ?_) (fun h_29 => ?_)
        · refine v_iload_1_0 G dX3_tokenOf_34 ?_
          refine v_bipush (v := nI 59) G dX3_tokenOf_35 (by decide) ?_
          refine v_icmp_ne (tgt := 44) G dX3_tokenOf_37 rfl (fun h_37 => ?_) (fun h_37 => ?_)
          · refine v_iconst (v := nI 0) G dX3_tokenOf_44 (by decide) ?_
            exact v_iret G hQ dX3_tokenOf_45 (vDet.of (by simp only [tokOf, bI, h_1, h_9, h_23, h_29, h_37, if_true, if_false, Bool.false_eq_true, reduceIte] <;> try rfl) rfl)
          · refine v_iconst (v := nI 3) G dX3_tokenOf_40 (by decide) ?_
            refine v_goto (tgt := 45) G dX3_tokenOf_41 rfl ?_
            exact v_iret G hQ dX3_tokenOf_45 (vDet.of (by simp only [tokOf, bI, h_1, h_9, h_23, h_29, h_37, if_true, if_false, Bool.false_eq_true, reduceIte] <;> try rfl) rfl)
        · refine v_iconst (v := nI 2) G dX3_tokenOf_32 (by decide) ?_
          exact v_iret G hQ dX3_tokenOf_33 (vDet.of (by simp only [tokOf, bI, h_1, h_9, h_23, h_29, if_true, if_false, Bool.false_eq_true, reduceIte] <;> try rfl) rfl)
    · refine v_iload_1_0 G dX3_tokenOf_12 ?_
      refine v_bipush (v := nI 122) G dX3_tokenOf_13 (by decide) ?_
      refine v_icmp_gt (tgt := 20) G dX3_tokenOf_15 rfl (fun h_15 => ?_) (fun h_15 => ?_)
      · refine v_iload_1_0 G dX3_tokenOf_20 ?_
        refine v_bipush (v := nI 48) G dX3_tokenOf_21 (by decide) ?_
        refine v_icmp_lt (tgt := 34) G dX3_tokenOf_23 rfl (fun h_23 => ?_) (fun h_23 => ?_)
        · refine v_iload_1_0 G dX3_tokenOf_34 ?_
          refine v_bipush (v := nI 59) G dX3_tokenOf_35 (by decide) ?_
          refine v_icmp_ne (tgt := 44) G dX3_tokenOf_37 rfl (fun h_37 => ?_) (fun h_37 => ?_)
          · refine v_iconst (v := nI 0) G dX3_tokenOf_44 (by decide) ?_
            exact v_iret G hQ dX3_tokenOf_45 (vDet.of (by simp only [tokOf, bI, h_1, h_9, h_15, h_23, h_37, if_true, if_false, Bool.false_eq_true, reduceIte] <;> try rfl) rfl)
          · refine v_iconst (v := nI 3) G dX3_tokenOf_40 (by decide) ?_
            refine v_goto (tgt := 45) G dX3_tokenOf_41 rfl ?_
            exact v_iret G hQ dX3_tokenOf_45 (vDet.of (by simp only [tokOf, bI, h_1, h_9, h_15, h_23, h_37, if_true, if_false, Bool.false_eq_true, reduceIte] <;> try rfl) rfl)
        · refine v_iload_1_0 G dX3_tokenOf_26 ?_
          refine v_bipush (v := nI 57) G dX3_tokenOf_27 (by decide) ?_
          refine v_icmp_gt (tgt := 34) G dX3_tokenOf_29 rfl (fun h_29 => ?_) (fun h_29 => ?_)
          · refine v_iload_1_0 G dX3_tokenOf_34 ?_
            refine v_bipush (v := nI 59) G dX3_tokenOf_35 (by decide) ?_
            refine v_icmp_ne (tgt := 44) G dX3_tokenOf_37 rfl (fun h_37 => ?_) (fun h_37 => ?_)
            · refine v_iconst (v := nI 0) G dX3_tokenOf_44 (by decide) ?_
              exact v_iret G hQ dX3_tokenOf_45 (vDet.of (by simp only [tokOf, bI, h_1, h_9, h_15, h_23, h_29, h_37, if_true, if_false, Bool.false_eq_true, reduceIte] <;> try rfl) rfl)
            · refine v_iconst (v := nI 3) G dX3_tokenOf_40 (by decide) ?_
              refine v_goto (tgt := 45) G dX3_tokenOf_41 rfl ?_
              exact v_iret G hQ dX3_tokenOf_45 (vDet.of (by simp only [tokOf, bI, h_1, h_9, h_15, h_23, h_29, h_37, if_true, if_false, Bool.false_eq_true, reduceIte] <;> try rfl) rfl)
          · refine v_iconst (v := nI 2) G dX3_tokenOf_32 (by decide) ?_
            exact v_iret G hQ dX3_tokenOf_33 (vDet.of (by simp only [tokOf, bI, h_1, h_9, h_15, h_23, h_29, if_true, if_false, Bool.false_eq_true, reduceIte] <;> try rfl) rfl)
      · refine v_iconst (v := nI 1) G dX3_tokenOf_18 (by decide) ?_
        exact v_iret G hQ dX3_tokenOf_19 (vDet.of (by simp only [tokOf, bI, h_1, h_9, h_15, if_true, if_false, Bool.false_eq_true, reduceIte] <;> try rfl) rfl)
  · refine v_iconst (v := nI 4) G dX3_tokenOf_4 (by decide) ?_
    exact v_iret G hQ dX3_tokenOf_5 (vDet.of (by simp only [tokOf, bI, h_1, if_true, if_false, Bool.false_eq_true, reduceIte] <;> try rfl) rfl)
