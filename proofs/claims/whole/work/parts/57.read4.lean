/-! The program's reader: the plan -/
def plA (t : vW) : vW := if t 10 12 < nI 6 then t else if t 2 2 = nI 2 then rfW t (nI 5) else t
def plB (s : vW) : vW := nnW (nhW (plA (ntW s)) (nI 4)) (nI 8)
def plS (s : vW) : vW := if (plB s) 1 3 = 0 then (if (s 10 12).toNatClampNeg < 6 then addActW (plB s) 10 (s 10 12).toNatClampNeg (nhR (plA (ntW s)) (nI 4)) (nnR (nhW (plA (ntW s)) (nI 4)) (nI 8)) else plB s) else plB s
def plG : Nat → vW → vW
  | 0, s => s
  | j + 1, s => if ntB s = true then (if (ntW s) 2 2 = nI 3 then ntW s else plG j (plS s)) else ntW s
def pl0 (σ : vW) : vW := vset (if σ 1 6 = 0 then σ else rfW σ (nI 4)) 1 6 (nI 1)
def plW (σ : vW) : vW := plG 7 (pl0 σ)
theorem plA_sc {t : vW} : scR (plA t) t := by
  unfold plA
  split
  · exact scR_refl t
  · split
    · exact rfW_sc
    · exact scR_refl t
theorem plB_sc {s : vW} : scR (plB s) s := scR_trans nnW_sc (scR_trans nhW_sc (scR_trans plA_sc ntW_sc))
theorem tkOK_plA {t : vW} (h : tkOK t) : tkOK (plA t) := by
  unfold plA
  split
  · exact h
  · split
    · exact tkOK_rf h
    · exact h
theorem tkOK_plB {s : vW} (h : tkOK s) : tkOK (plB s) := tkOK_nn (tkOK_nh (tkOK_plA (tkOK_nt h)))
theorem addActW_ne {s : vW} {m r : Nat} {a b : Int32} (h1 : r ≠ 10) (h2 : r ≠ 19) (h3 : r ≠ 20) : (addActW s 10 m a b) r = s r := by
  unfold addActW
  rw [vset_ne h1, vset_ne h3, vset_ne h2]
theorem plS_ok {s : vW} {K : Nat} (h : tkOK s) (hK : s 10 12 = nI K) (hK6 : K ≤ 6) : tkOK (plS s) ∧ ∃ K', K' ≤ 6 ∧ (plS s) 10 12 = nI K' := by
  have hB := tkOK_plB h
  have hKB : (plB s) 10 12 = nI K := by rw [plB_sc.1 10 (by decide) (by decide)]; exact hK
  unfold plS
  rw [hK, nI_clamp (by omega)]
  split
  · split
    · exact ⟨tkOK_2 hB (addActW_ne (by decide) (by decide) (by decide)), K + 1, by omega, by rw [addActW, vset_at]⟩
    · exact ⟨hB, K, hK6, hKB⟩
  · exact ⟨hB, K, hK6, hKB⟩
set_option maxHeartbeats 4000000 in
theorem C_X0_readPlan {σ : vW} {K : Nat} (h : tkOK σ) (hK : σ 10 12 = nI K) (hK6 : K ≤ 6) : Ctr mX0_readPlan 4 [.ref 1] σ (vDet none (plW σ)) := by
  have hT := TB10
  refine Ctr.intro (by decide) (fun α => Nat.le_of_ble_eq_true rfl) (fun x G hQ => ?_)
  have G : vG x RX0 cX0_readPlan 4 none 4 := G
  show V x 0 [some (.ref 1), none, none, none] [] σ
  generalize hZ : plW σ = Z at hQ
  have k19 : ∀ j (W : vW) (i K : Nat), i + j = 7 → tkOK W → W 10 12 = nI K → K ≤ 6 → plG j W = Z → V x 19 [some (.ref 1), some (.int (nI i)), none, none] [] W := by
    intro j
    induction j with
    | zero =>
      intro W i K hi hW hWK hK6 hz
      refine v_iload_4_1 G dX0_readPlan_19 ?_
      refine v_bipush (v := nI 6) G dX0_readPlan_20 (by decide) ?_
      refine v_icmp_gt (tgt := 107) G dX0_readPlan_22 rfl (fun h_22 => ?_) (fun h_22 => absurd (nI_lt (by omega) (by omega)) h_22)
      exact v_vret G hQ dX0_readPlan_107 (vDet.of rfl (by rw [← hz, plG]))
    | succ j ihj =>
      intro W i K hi hW hWK hK6 hz
      rw [plG] at hz
      have e12 : (ntW W) 10 12 = nI K := by rw [ntW_sc.1 10 (by decide) (by decide)]; exact hWK
      have eB : (plB W) 10 12 = nI K := by rw [plB_sc.1 10 (by decide) (by decide)]; exact hWK
      have ck : (nI K).toNatClampNeg = K := nI_clamp (by omega)
      obtain ⟨q1, K', q2, q3⟩ := plS_ok hW hWK hK6
      have kN : plG j (plS W) = Z → V x 19 [some (.ref 1), some (.int (nI (i + 1))), none, none] [] (plS W) := fun hz2 => ihj (plS W) (i + 1) K' (by omega) q1 q3 q2 hz2
      have k71 : plG j (plS W) = Z → V x 71 [some (.ref 1), some (.int (nI i)), none, none] [] (plA (ntW W)) := by
        intro hz2
        have k := kN hz2
        unfold plS at k
        rw [hWK, ck] at k
        refine v_aload_4_0 G dX0_readPlan_71 ?_
        refine v_iconst (v := nI 4) G dX0_readPlan_72 (by decide) ?_
        refine v_cV1 G (C_X0_numberHere) (by decide) md_X0_numberHere in_X0_numberHere (rv_X0 rfl) ml_X0_120 (Nat.le_of_ble_eq_true rfl) dX0_readPlan_73 ?_
        refine v_istore_4_2 G dX0_readPlan_76 rfl ?_
        refine v_aload_4_0 G dX0_readPlan_77 ?_
        refine v_bipush (v := nI 8) G dX0_readPlan_78 (by decide) ?_
        refine v_cV1 G (C_X0_nextNumber (tkOK_nh (tkOK_plA (tkOK_nt hW)))) (by decide) md_X0_nextNumber in_X0_nextNumber (rv_X0 rfl) ml_X0_106 (Nat.le_of_ble_eq_true rfl) dX0_readPlan_80 ?_
        rw [show nnW (nhW (plA (ntW W)) (nI 4)) (nI 8) = plB W from rfl]
        refine v_istore_4_3 G dX0_readPlan_83 rfl ?_
        refine v_aload_4_0 G dX0_readPlan_84 ?_
        refine v_getI G vc_0 lk_X0_35 (fs_X0_3) dX0_readPlan_85 ?_
        refine v_if_ne (tgt := 101) G dX0_readPlan_88 rfl (fun h_88 => ?_) (fun h_88 => ?_)
        · refine v_iincN_4_1 G dX0_readPlan_101 rfl ?_
          refine v_goto (tgt := 19) G dX0_readPlan_104 rfl ?_
          first
            | (rw [if_pos h_88] at k; exact V.drop (by simp only [vsubP, and_self]) k)
            | (rw [if_neg h_88] at k; exact V.drop (by simp only [vsubP, and_self]) k)
        · refine v_aload_4_0 G dX0_readPlan_91 ?_
          refine v_getR G vc_0 lk_X0_21 (fs_X0_1) dX0_readPlan_92 ?_
          refine v_iload_4_2 G dX0_readPlan_95 ?_
          refine v_iload_4_3 G dX0_readPlan_96 ?_
          refine v_cV2 G (C_X4_addAct hT eB hK6) (by decide) md_X4_addAct in_X4_addAct (rv_X4 (by first | assumption | exact imgP_TB | exact shP_SB) rfl) ml_X0_153 (Nat.le_of_ble_eq_true rfl) dX0_readPlan_97 ?_
          refine v_pop G dX0_readPlan_100 rfl ?_
          refine v_iincN_4_1 G dX0_readPlan_101 rfl ?_
          refine v_goto (tgt := 19) G dX0_readPlan_104 rfl ?_
          first
            | (rw [if_pos h_88] at k; exact V.drop (by simp only [vsubP, and_self]) k)
            | (rw [if_neg h_88] at k; exact V.drop (by simp only [vsubP, and_self]) k)
      refine v_iload_4_1 G dX0_readPlan_19 ?_
      refine v_bipush (v := nI 6) G dX0_readPlan_20 (by decide) ?_
      refine v_icmp_gt (tgt := 107) G dX0_readPlan_22 rfl (fun h_22 => absurd h_22 (nI_nlt (by omega) (by omega))) (fun h_22 => ?_)
      refine v_aload_4_0 G dX0_readPlan_25 ?_
      refine v_cV0 G (C_X0_nextToken hW) (by decide) md_X0_nextToken in_X0_nextToken (rv_X0 rfl) ml_X0_48 (Nat.le_of_ble_eq_true rfl) dX0_readPlan_26 ?_
      refine v_ifB_eq (tgt := 107) G dX0_readPlan_29 rfl (fun h_29 => ?_) (fun h_29 => ?_)
      · exact v_vret G hQ dX0_readPlan_107 (vDet.of rfl (by first | (rw [if_pos h_29, if_pos h_40] at hz; exact hz) | (simp only [h_29, Bool.false_eq_true, if_false] at hz; exact hz)))
      · refine v_aload_4_0 G dX0_readPlan_32 ?_
        refine v_getR G vc_0 lk_X0_12 (fs_X0_0) dX0_readPlan_33 ?_
        refine v_getI G vc_3 lk_X0_52 (fs_X3_2) dX0_readPlan_36 ?_
        refine v_iconst (v := nI 3) G dX0_readPlan_39 (by decide) ?_
        refine v_icmp_eq (tgt := 107) G dX0_readPlan_40 rfl (fun h_40 => ?_) (fun h_40 => ?_)
        · exact v_vret G hQ dX0_readPlan_107 (vDet.of rfl (by first | (rw [if_pos h_29, if_pos h_40] at hz; exact hz) | (simp only [h_29, Bool.false_eq_true, if_false] at hz; exact hz)))
        · refine v_aload_4_0 G dX0_readPlan_43 ?_
          refine v_getR G vc_0 lk_X0_21 (fs_X0_1) dX0_readPlan_44 ?_
          refine v_getI G vc_4 lk_X0_150 (fs_X4_12 (by first | assumption | exact imgP_TB)) dX0_readPlan_47 ?_
          refine v_bipush (v := nI 6) G dX0_readPlan_50 (by decide) ?_
          refine v_icmp_lt (tgt := 71) G dX0_readPlan_52 rfl (fun h_52 => ?_) (fun h_52 => ?_)
          · rw [if_pos h_29, if_neg h_40] at hz
            have k := k71 hz
            first
              | (rw [plA, if_pos h_52] at k; exact k)
              | (rw [plA, if_neg h_52, if_pos h_63] at k; exact k)
              | (rw [plA, if_neg h_52, if_neg h_63] at k; exact k)
          · refine v_aload_4_0 G dX0_readPlan_55 ?_
            refine v_getR G vc_0 lk_X0_12 (fs_X0_0) dX0_readPlan_56 ?_
            refine v_getI G vc_3 lk_X0_52 (fs_X3_2) dX0_readPlan_59 ?_
            refine v_iconst (v := nI 2) G dX0_readPlan_62 (by decide) ?_
            refine v_icmp_ne (tgt := 71) G dX0_readPlan_63 rfl (fun h_63 => ?_) (fun h_63 => ?_)
            · rw [if_pos h_29, if_neg h_40] at hz
              have k := k71 hz
              first
                | (rw [plA, if_pos h_52] at k; exact k)
                | (rw [plA, if_neg h_52, if_pos h_63] at k; exact k)
                | (rw [plA, if_neg h_52, if_neg h_63] at k; exact k)
            · refine v_aload_4_0 G dX0_readPlan_66 ?_
              refine v_iconst (v := nI 5) G dX0_readPlan_67 (by decide) ?_
              refine v_cV1v G (C_X0_refuse) (by decide) md_X0_refuse in_X0_refuse (rv_X0 rfl) ml_X0_82 (Nat.le_of_ble_eq_true rfl) dX0_readPlan_68 ?_
              rw [if_pos h_29, if_neg h_40] at hz
              have k := k71 hz
              first
                | (rw [plA, if_pos h_52] at k; exact k)
                | (rw [plA, if_neg h_52, if_pos h_63] at k; exact k)
                | (rw [plA, if_neg h_52, if_neg h_63] at k; exact k)
  have hr : tkOK (if σ 1 6 = 0 then σ else rfW σ (nI 4)) := by
    split
    · exact h
    · exact tkOK_rf h
  have hr12 : (if σ 1 6 = 0 then σ else rfW σ (nI 4)) 10 12 = nI K := by
    split
    · exact hK
    · rw [rfW_sc.1 10 (by decide) (by decide)]
      exact hK
  have k12 : V x 12 [some (.ref 1), none, none, none] [] (if σ 1 6 = 0 then σ else rfW σ (nI 4)) := by
    refine v_aload_4_0 G dX0_readPlan_12 ?_
    refine v_iconst (v := nI 1) G dX0_readPlan_13 (by decide) ?_
    refine v_putI G vc_0 vt_0 lk_X0_44 (fs_X0_6) (ft_X0_6 (by first | exact Or.inl rfl | exact Or.inr rfl | exact bI_01 _)) dX0_readPlan_14 ?_
    refine v_iconst (v := nI 0) G dX0_readPlan_17 (by decide) ?_
    refine v_istore_4_1 G dX0_readPlan_18 rfl ?_
    exact k19 7 (pl0 σ) 0 K (by omega) (tkOK_2 hr (by rw [pl0, vset_ne (by decide)])) (by rw [pl0, vset_ne (by decide)]; exact hr12) hK6 hZ
  refine v_aload_4_0 G dX0_readPlan_0 ?_
  refine v_getI G vc_0 lk_X0_44 (fs_X0_6) dX0_readPlan_1 ?_
  refine v_if_eq (tgt := 12) G dX0_readPlan_4 rfl (fun h_4 => ?_) (fun h_4 => ?_)
  · simp only [h_4, if_true, if_false] at k12
    exact k12
  · refine v_aload_4_0 G dX0_readPlan_7 ?_
    refine v_iconst (v := nI 4) G dX0_readPlan_8 (by decide) ?_
    refine v_cV1v G (C_X0_refuse) (by decide) md_X0_refuse in_X0_refuse (rv_X0 rfl) ml_X0_82 (Nat.le_of_ble_eq_true rfl) dX0_readPlan_9 ?_
    simp only [h_4, if_true, if_false] at k12
    exact k12
