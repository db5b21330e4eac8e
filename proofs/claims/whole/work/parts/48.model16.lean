/-! The model's reader: walls, plans, rooms -/
def rw2 (σ : vW) (m : Nat) : vW := vset (otW σ (nI 0) (nI 7) (nI 0)) 77 (26 + m) (otR σ (nI 0) (nI 7) (nI 0))
def rw3 (σ : vW) (m : Nat) : vW := if σ 75 12 = 0 then (if σ 75 16 = nI 2 then (if σ 75 17 = σ 77 (26 + m) then failW σ (nI 3) else σ) else σ) else σ
def rw4 (σ : vW) (m : Nat) : vW := vset (otW σ (nI 0) (nI 7) (nI 0)) 77 (35 + m) (otR σ (nI 0) (nI 7) (nI 0))
def rwW (σ : vW) (m : Nat) : vW := vset (rw4 (rw3 (rw2 σ m) m) m) 77 25 (nI (m + 1))
theorem rw2_H {σ : vW} {m : Nat} (h : tpH σ) : tpH (rw2 σ m) := tpH_row (otW_H h) (by decide)
theorem rw3_H {σ : vW} {m : Nat} (h : tpH σ) : tpH (rw3 σ m) := by
  unfold rw3
  split
  · split
    · split
      · exact tpH_fail h
      · exact h
    · exact h
  · exact h
theorem rwW_H {σ : vW} {m : Nat} (h : tpH σ) : tpH (rwW σ m) := tpH_row (tpH_row (otW_H (rw3_H (rw2_H h))) (by decide)) (by decide)
theorem rw3_sc {σ : vW} {m : Nat} : scT (rw3 σ m) σ := by
  unfold rw3
  split
  · split
    · split
      · exact scT_fail (scT_refl σ)
      · exact scT_refl σ
    · exact scT_refl σ
  · exact scT_refl σ
set_option maxHeartbeats 4000000 in
theorem C_X6_readWall {σ : vW} {f : Nat → Int32} {m : Nat} (h : tpH σ) (hm : σ 77 25 = nI m) (hm9 : m < 9) : Ctr mX6_readWall 3 [.ref 75] (vrow σ 81 f) (vDet none (vrow (rwW σ m) 81 f)) := by
  refine Ctr.intro (by decide) (fun α => Nat.le_of_ble_eq_true rfl) (fun x G hQ => ?_)
  have G : vG x RX6 cX6_readWall 2 none 3 := G
  show V x 0 [some (.ref 75), none] [] (vrow σ 81 f)
  have g2 : (rw2 σ m) 77 25 = nI m := by rw [rw2, vset_oth (by omega), otW_sc.1 77 (by decide)]; exact hm
  have k61 : ∀ W, tpH W → W 77 25 = nI m → vset (rw4 W m) 77 25 (nI (m + 1)) = rwW σ m → V x 61 [some (.ref 75), some (.int (nI m))] [] (vrow W 81 f) := by
    intro W hW g hr
    have g4 : (vset (otW W (nI 0) (nI 7) (nI 0)) 77 (35 + m) (otR W (nI 0) (nI 7) (nI 0))) 77 25 = nI m := by rw [vset_oth (by omega), otW_sc.1 77 (by decide)]; exact g
    refine v_aload_2_0 G dX6_readWall_61 ?_
    refine v_getR G vc_6 lk_X6_13 (fs_X6_2) dX6_readWall_62 ?_
    refine v_bipush (v := nI 35) G dX6_readWall_65 (by decide) ?_
    refine v_iload_2_1 G dX6_readWall_67 ?_
    refine v_iaddN G dX6_readWall_68 ?_
    refine v_aload_2_0 G dX6_readWall_69 ?_
    refine v_iconst (v := nI 0) G dX6_readWall_70 (by decide) ?_
    refine v_bipush (v := nI 7) G dX6_readWall_71 (by decide) ?_
    refine v_iconst (v := nI 0) G dX6_readWall_73 (by decide) ?_
    refine v_cV3 G (C_X6_other hW) (by decide) md_X6_other in_X6_other (rv_X6 rfl) ml_X6_94 (Nat.le_of_ble_eq_true rfl) dX6_readWall_74 ?_
    refine m_iastN G (by decide) (as_X6_2) (by first | assumption | omega | exact oneB_in (by assumption) | exact wallB_in (by assumption) | exact oneB_m1 (by assumption) | decide) (by decide) dX6_readWall_77 ?_
    refine v_aload_2_0 G dX6_readWall_78 ?_
    refine v_getR G vc_6 lk_X6_13 (fs_X6_2) dX6_readWall_79 ?_
    refine v_bipush (v := nI 25) G dX6_readWall_82 (by decide) ?_
    refine v_dup2 G dX6_readWall_84 rfl rfl ?_
    refine m_ialdN G (by decide) (as_X6_2) (by first | assumption | omega | exact oneB_in (by assumption) | exact wallB_in (by assumption) | exact oneB_m1 (by assumption) | decide) (by decide) dX6_readWall_85 ?_
    rw [g4]
    refine v_iconst (v := nI 1) G dX6_readWall_86 (by decide) ?_
    refine v_iaddN G dX6_readWall_87 ?_
    refine m_iastN G (by decide) (as_X6_2) (by first | assumption | omega | exact oneB_in (by assumption) | exact wallB_in (by assumption) | exact oneB_m1 (by assumption) | decide) (by decide) dX6_readWall_88 ?_
    exact v_vret G hQ dX6_readWall_89 (vDet.of rfl (by rw [← hr, rw4]))
  have k25 : ∀ W, tpH W → W 77 25 = nI m → vset (rw4 (rw3 W m) m) 77 25 (nI (m + 1)) = rwW σ m → V x 25 [some (.ref 75), some (.int (nI m))] [] (vrow W 81 f) := by
    intro W hW g hr
    have kk := k61 (rw3 W m) (rw3_H hW) (by rw [rw3_sc.1 77 (by decide)]; exact g) hr
    refine v_aload_2_0 G dX6_readWall_25 ?_
    refine m_getI G (by decide) vc_6 lk_X6_57 fs_X6_12 dX6_readWall_26 ?_
    refine v_if_ne (tgt := 61) G dX6_readWall_29 rfl (fun h_29 => ?_) (fun h_29 => ?_)
    · simp only [rw3, h_29, if_true, if_false] at kk
      exact kk
    · refine v_aload_2_0 G dX6_readWall_32 ?_
      refine m_getI G (by decide) vc_6 lk_X6_66 fs_X6_16 dX6_readWall_33 ?_
      refine v_iconst (v := nI 2) G dX6_readWall_36 (by decide) ?_
      refine v_icmp_ne (tgt := 61) G dX6_readWall_37 rfl (fun h_37 => ?_) (fun h_37 => ?_)
      · simp only [rw3, h_29, h_37, if_true, if_false] at kk
        exact kk
      · refine v_aload_2_0 G dX6_readWall_40 ?_
        refine m_getI G (by decide) vc_6 lk_X6_76 fs_X6_17 dX6_readWall_41 ?_
        refine v_aload_2_0 G dX6_readWall_44 ?_
        refine v_getR G vc_6 lk_X6_13 (fs_X6_2) dX6_readWall_45 ?_
        refine v_bipush (v := nI 26) G dX6_readWall_48 (by decide) ?_
        refine v_iload_2_1 G dX6_readWall_50 ?_
        refine v_iaddN G dX6_readWall_51 ?_
        refine m_ialdN G (by decide) (as_X6_2) (by first | assumption | omega | exact oneB_in (by assumption) | exact wallB_in (by assumption) | exact oneB_m1 (by assumption) | decide) (by decide) dX6_readWall_52 ?_
        refine v_icmp_ne (tgt := 61) G dX6_readWall_53 rfl (fun h_53 => ?_) (fun h_53 => ?_)
        · simp only [rw3, h_29, h_37, h_53, if_true, if_false] at kk
          exact kk
        · refine v_aload_2_0 G dX6_readWall_56 ?_
          refine v_iconst (v := nI 3) G dX6_readWall_57 (by decide) ?_
          refine v_cV1v G (C_X6_fails) (by decide) md_X6_fails in_X6_fails (rv_X6 rfl) ml_X6_87 (Nat.le_of_ble_eq_true rfl) dX6_readWall_58 ?_
          simp only [rw3, h_29, h_37, h_53, if_true, if_false] at kk
          exact kk
  refine v_aload_2_0 G dX6_readWall_0 ?_
  refine v_getR G vc_6 lk_X6_13 (fs_X6_2) dX6_readWall_1 ?_
  refine v_bipush (v := nI 25) G dX6_readWall_4 (by decide) ?_
  refine m_ialdN G (by decide) (as_X6_2) (by first | assumption | omega | exact oneB_in (by assumption) | exact wallB_in (by assumption) | exact oneB_m1 (by assumption) | decide) (by decide) dX6_readWall_6 ?_
  rw [hm]
  refine v_istore_2_1 G dX6_readWall_7 rfl ?_
  refine v_aload_2_0 G dX6_readWall_8 ?_
  refine v_getR G vc_6 lk_X6_13 (fs_X6_2) dX6_readWall_9 ?_
  refine v_bipush (v := nI 26) G dX6_readWall_12 (by decide) ?_
  refine v_iload_2_1 G dX6_readWall_14 ?_
  refine v_iaddN G dX6_readWall_15 ?_
  refine v_aload_2_0 G dX6_readWall_16 ?_
  refine v_iconst (v := nI 0) G dX6_readWall_17 (by decide) ?_
  refine v_bipush (v := nI 7) G dX6_readWall_18 (by decide) ?_
  refine v_iconst (v := nI 0) G dX6_readWall_20 (by decide) ?_
  refine v_cV3 G (C_X6_other h) (by decide) md_X6_other in_X6_other (rv_X6 rfl) ml_X6_94 (Nat.le_of_ble_eq_true rfl) dX6_readWall_21 ?_
  refine m_iastN G (by decide) (as_X6_2) (by first | assumption | omega | exact oneB_in (by assumption) | exact wallB_in (by assumption) | exact oneB_m1 (by assumption) | decide) (by decide) dX6_readWall_24 ?_
  exact k25 _ (rw2_H h) g2 rfl
def rpA (σ : vW) : vW := vset (otW σ (nI 0) (nI 4) (nI 0)) 75 7 (if otR σ (nI 0) (nI 4) (nI 0) ≤ σ 75 7 then σ 75 7 else otR σ (nI 0) (nI 4) (nI 0))
def rpB (σ : vW) (K : Nat) : vW := vset (rpA σ) 77 (53 + K) (otR σ (nI 0) (nI 4) (nI 0))
def rpC (σ : vW) (K : Nat) : vW := vset (vset (whW σ (nI 0)) 77 (59 + K) (otR σ (nI 0) (nI 8) (nI 0))) 77 52 (nI (K + 1))
def rpN1 (σ : vW) (K : Nat) : vW := rpC (rpB σ K) K
theorem rpB_H {σ : vW} {K : Nat} (h : tpH σ) : tpH (rpB σ K) := tpH_row (tpH_fld (otW_H h) (by decide)) (by decide)
theorem rpN1_H {σ : vW} {K : Nat} (h : tpH σ) : tpH (rpN1 σ K) := tpH_row (tpH_row (whW_H (rpB_H h)) (by decide)) (by decide)
theorem whW_77 {σ : vW} {mk : Int32} : (whW σ mk) 77 = σ 77 := by rw [whW, vset_ne (by decide)]; exact otW_sc.1 77 (by decide)
theorem rpA_77 {σ : vW} : (rpA σ) 77 = σ 77 := by rw [rpA, vset_ne (by decide)]; exact otW_sc.1 77 (by decide)
def rpG : Nat → vW → Nat → vW
  | 0, σ, _ => σ
  | j + 1, σ, K => if σ 75 12 = 0 then (if σ 75 16 = nI 2 then (if nI K = nI 6 then failW σ (nI 5) else rpG j (rpN1 σ K) (K + 1)) else σ) else σ
def rpW (σ : vW) (K : Nat) : vW := rpG (7 - K) σ K
theorem rpG_H : ∀ j (σ : vW) (K : Nat), tpH σ → tpH (rpG j σ K)
  | 0, _, _, h => h
  | j + 1, σ, K, h => by
    unfold rpG
    split
    · split
      · split
        · exact tpH_fail h
        · exact rpG_H j _ _ (rpN1_H h)
      · exact h
    · exact h
set_option maxHeartbeats 4000000 in
theorem C_X6_readPlan {σ : vW} {f : Nat → Int32} {K : Nat} (h : tpH σ) (hK : σ 77 52 = nI K) (hK6 : K ≤ 6) : Ctr mX6_readPlan 4 [.ref 75] (vrow σ 81 f) (vDet none (vrow (rpW σ K) 81 f)) := by
  refine Ctr.intro (by decide) (fun α => Nat.le_of_ble_eq_true rfl) (fun x G hQ => ?_)
  have G : vG x RX6 cX6_readPlan 2 none 4 := G
  show V x 0 [some (.ref 75), none] [] (vrow σ 81 f)
  have main : ∀ j (W : vW) (K : Nat), K + j = 6 → tpH W → W 77 52 = nI K → rpG (j + 1) W K = rpW σ (6 - (6 - 0)) ∨ rpG (j + 1) W K = rpG (j + 1) W K → True := fun _ _ _ _ _ _ _ => trivial
  clear main
  generalize hr : rpW σ K = Z at hQ
  have main : ∀ j (W : vW) (K : Nat), K + j = 6 → tpH W → W 77 52 = nI K → rpG (j + 1) W K = Z → V x 0 [some (.ref 75), none] [] (vrow W 81 f) := by
    intro j
    induction j with
    | zero =>
      intro W K hKj hW g hz
      have e6 : nI K = nI 6 := congrArg nI (by omega)
      rw [rpG] at hz
      have kF : W 75 12 = 0 → failW W (nI 5) = Z → V x 0 [some (.ref 75), none] [] (vrow (failW W (nI 5)) 81 f) := by
        intro h0 hz2
        have hne : ¬ (failW W (nI 5)) 75 12 = 0 := by rw [failW, if_pos h0, vset_oth (by decide), vset_at]; decide
        refine v_aload_2_0 G dX6_readPlan_0 ?_
        refine m_getI G (by decide) vc_6 lk_X6_57 fs_X6_12 dX6_readPlan_1 ?_
        refine v_if_ne (tgt := 113) G dX6_readPlan_4 rfl (fun h_4 => ?_) (fun h_4 => absurd h_4 hne)
        exact v_vret G hQ dX6_readPlan_113 (vDet.of rfl (by rw [hz2]))
      refine v_aload_2_0 G dX6_readPlan_0 ?_
      refine m_getI G (by decide) vc_6 lk_X6_57 fs_X6_12 dX6_readPlan_1 ?_
      refine v_if_ne (tgt := 113) G dX6_readPlan_4 rfl (fun h_4 => ?_) (fun h_4 => ?_)
      · exact v_vret G hQ dX6_readPlan_113 (vDet.of rfl (by simp only [h_4, if_true, if_false] at hz; rw [hz]))
      · refine v_aload_2_0 G dX6_readPlan_7 ?_
        refine m_getI G (by decide) vc_6 lk_X6_66 fs_X6_16 dX6_readPlan_8 ?_
        refine v_iconst (v := nI 2) G dX6_readPlan_11 (by decide) ?_
        refine v_icmp_ne (tgt := 113) G dX6_readPlan_12 rfl (fun h_12 => ?_) (fun h_12 => ?_)
        · exact v_vret G hQ dX6_readPlan_113 (vDet.of rfl (by simp only [h_4, h_12, if_true, if_false] at hz; rw [hz]))
        · refine v_aload_2_0 G dX6_readPlan_15 ?_
          refine v_getR G vc_6 lk_X6_13 (fs_X6_2) dX6_readPlan_16 ?_
          refine v_bipush (v := nI 52) G dX6_readPlan_19 (by decide) ?_
          refine m_ialdN G (by decide) (as_X6_2) (by first | assumption | omega | exact oneB_in (by assumption) | exact wallB_in (by assumption) | exact oneB_m1 (by assumption) | decide) (by decide) dX6_readPlan_21 ?_
          rw [g]
          refine v_bipush (v := nI 6) G dX6_readPlan_22 (by decide) ?_
          refine v_icmp_ne (tgt := 35) G dX6_readPlan_24 rfl (fun h_24 => absurd e6 h_24) (fun h_24 => ?_)
          refine v_aload_2_0 G dX6_readPlan_27 ?_
          refine v_iconst (v := nI 5) G dX6_readPlan_28 (by decide) ?_
          refine v_cV1v G (C_X6_fails) (by decide) md_X6_fails in_X6_fails (rv_X6 rfl) ml_X6_87 (Nat.le_of_ble_eq_true rfl) dX6_readPlan_29 ?_
          refine v_goto (tgt := 0) G dX6_readPlan_32 rfl ?_
          simp only [h_4, h_12, h_24, e6, if_true] at hz
          exact kF h_4 hz
    | succ j ihj =>
      intro W K hKj hW g hz
      have e6 : ¬ nI K = nI 6 := fun e => by have := nI_eqN (by omega) (by omega) e; omega
      rw [rpG] at hz
      have kN : rpG (j + 1) (rpN1 W K) (K + 1) = Z → V x 0 [some (.ref 75), none] [] (vrow (rpN1 W K) 81 f) := ihj (rpN1 W K) (K + 1) (by omega) (rpN1_H hW) (by rw [rpN1, rpC, vset_at])
      have g7 : (otW W (nI 0) (nI 4) (nI 0)) 75 7 = W 75 7 := otW_sc.2 7 (by omega)
      have gA : (rpA W) 77 52 = nI K := by rw [rpA_77]; exact g
      have gB : (rpB W K) 77 52 = nI K := by rw [rpB, vset_oth (by omega)]; exact gA
      have gC : (vset (whW (rpB W K) (nI 0)) 77 (59 + K) (otR (rpB W K) (nI 0) (nI 8) (nI 0))) 77 52 = nI K := by rw [vset_oth (by omega), whW_77]; exact gB
      have k63 : rpG (j + 1) (rpN1 W K) (K + 1) = Z → V x 63 [some (.ref 75), some (.int (otR W (nI 0) (nI 4) (nI 0)))] [] (vrow (rpA W) 81 f) := by
        intro hz2
        refine v_aload_2_0 G dX6_readPlan_63 ?_
        refine v_getR G vc_6 lk_X6_13 (fs_X6_2) dX6_readPlan_64 ?_
        refine v_bipush (v := nI 53) G dX6_readPlan_67 (by decide) ?_
        refine v_aload_2_0 G dX6_readPlan_69 ?_
        refine v_getR G vc_6 lk_X6_13 (fs_X6_2) dX6_readPlan_70 ?_
        refine v_bipush (v := nI 52) G dX6_readPlan_73 (by decide) ?_
        refine m_ialdN G (by decide) (as_X6_2) (by first | assumption | omega | exact oneB_in (by assumption) | exact wallB_in (by assumption) | exact oneB_m1 (by assumption) | decide) (by decide) dX6_readPlan_75 ?_
        rw [gA]
        refine v_iaddN G dX6_readPlan_76 ?_
        refine v_iload_2_1 G dX6_readPlan_77 ?_
        refine m_iastN G (by decide) (as_X6_2) (by first | assumption | omega | exact oneB_in (by assumption) | exact wallB_in (by assumption) | exact oneB_m1 (by assumption) | decide) (by decide) dX6_readPlan_78 ?_
        rw [show vset (rpA W) 77 (53 + K) (otR W (nI 0) (nI 4) (nI 0)) = rpB W K from rfl]
        refine v_aload_2_0 G dX6_readPlan_79 ?_
        refine v_getR G vc_6 lk_X6_13 (fs_X6_2) dX6_readPlan_80 ?_
        refine v_bipush (v := nI 59) G dX6_readPlan_83 (by decide) ?_
        refine v_aload_2_0 G dX6_readPlan_85 ?_
        refine v_getR G vc_6 lk_X6_13 (fs_X6_2) dX6_readPlan_86 ?_
        refine v_bipush (v := nI 52) G dX6_readPlan_89 (by decide) ?_
        refine m_ialdN G (by decide) (as_X6_2) (by first | assumption | omega | exact oneB_in (by assumption) | exact wallB_in (by assumption) | exact oneB_m1 (by assumption) | decide) (by decide) dX6_readPlan_91 ?_
        rw [gB]
        refine v_iaddN G dX6_readPlan_92 ?_
        refine v_aload_2_0 G dX6_readPlan_93 ?_
        refine v_iconst (v := nI 0) G dX6_readPlan_94 (by decide) ?_
        refine v_cV1 G (C_X6_wallHere (rpB_H hW)) (by decide) md_X6_wallHere in_X6_wallHere (rv_X6 rfl) ml_X6_107 (Nat.le_of_ble_eq_true rfl) dX6_readPlan_95 ?_
        refine m_iastN G (by decide) (as_X6_2) (by first | assumption | omega | exact oneB_in (by assumption) | exact wallB_in (by assumption) | exact oneB_m1 (by assumption) | decide) (by decide) dX6_readPlan_98 ?_
        refine v_aload_2_0 G dX6_readPlan_99 ?_
        refine v_getR G vc_6 lk_X6_13 (fs_X6_2) dX6_readPlan_100 ?_
        refine v_bipush (v := nI 52) G dX6_readPlan_103 (by decide) ?_
        refine v_dup2 G dX6_readPlan_105 rfl rfl ?_
        refine m_ialdN G (by decide) (as_X6_2) (by first | assumption | omega | exact oneB_in (by assumption) | exact wallB_in (by assumption) | exact oneB_m1 (by assumption) | decide) (by decide) dX6_readPlan_106 ?_
        rw [gC]
        refine v_iconst (v := nI 1) G dX6_readPlan_107 (by decide) ?_
        refine v_iaddN G dX6_readPlan_108 ?_
        refine m_iastN G (by decide) (as_X6_2) (by first | assumption | omega | exact oneB_in (by assumption) | exact wallB_in (by assumption) | exact oneB_m1 (by assumption) | decide) (by decide) dX6_readPlan_109 ?_
        refine v_goto (tgt := 0) G dX6_readPlan_110 rfl ?_
        exact V.drop (by simp only [vsubP, and_self]) (kN hz2)
      refine v_aload_2_0 G dX6_readPlan_0 ?_
      refine m_getI G (by decide) vc_6 lk_X6_57 fs_X6_12 dX6_readPlan_1 ?_
      refine v_if_ne (tgt := 113) G dX6_readPlan_4 rfl (fun h_4 => ?_) (fun h_4 => ?_)
      · exact v_vret G hQ dX6_readPlan_113 (vDet.of rfl (by simp only [h_4, if_true, if_false] at hz; rw [hz]))
      · refine v_aload_2_0 G dX6_readPlan_7 ?_
        refine m_getI G (by decide) vc_6 lk_X6_66 fs_X6_16 dX6_readPlan_8 ?_
        refine v_iconst (v := nI 2) G dX6_readPlan_11 (by decide) ?_
        refine v_icmp_ne (tgt := 113) G dX6_readPlan_12 rfl (fun h_12 => ?_) (fun h_12 => ?_)
        · exact v_vret G hQ dX6_readPlan_113 (vDet.of rfl (by simp only [h_4, h_12, if_true, if_false] at hz; rw [hz]))
        · refine v_aload_2_0 G dX6_readPlan_15 ?_
          refine v_getR G vc_6 lk_X6_13 (fs_X6_2) dX6_readPlan_16 ?_
          refine v_bipush (v := nI 52) G dX6_readPlan_19 (by decide) ?_
          refine m_ialdN G (by decide) (as_X6_2) (by first | assumption | omega | exact oneB_in (by assumption) | exact wallB_in (by assumption) | exact oneB_m1 (by assumption) | decide) (by decide) dX6_readPlan_21 ?_
          rw [g]
          refine v_bipush (v := nI 6) G dX6_readPlan_22 (by decide) ?_
          refine v_icmp_ne (tgt := 35) G dX6_readPlan_24 rfl (fun h_24 => ?_) (fun h_24 => absurd h_24 e6)
          refine v_aload_2_0 G dX6_readPlan_35 ?_
          refine v_iconst (v := nI 0) G dX6_readPlan_36 (by decide) ?_
          refine v_iconst (v := nI 4) G dX6_readPlan_37 (by decide) ?_
          refine v_iconst (v := nI 0) G dX6_readPlan_38 (by decide) ?_
          refine v_cV3 G (C_X6_other hW) (by decide) md_X6_other in_X6_other (rv_X6 rfl) ml_X6_94 (Nat.le_of_ble_eq_true rfl) dX6_readPlan_39 ?_
          refine v_istore_2_1 G dX6_readPlan_42 rfl ?_
          refine v_aload_2_0 G dX6_readPlan_43 ?_
          refine v_iload_2_1 G dX6_readPlan_44 ?_
          refine v_aload_2_0 G dX6_readPlan_45 ?_
          refine m_getI G (by decide) vc_6 lk_X6_110 fs_X6_7 dX6_readPlan_46 ?_
          rw [g7]
          refine v_icmp_le (tgt := 56) G dX6_readPlan_49 rfl (fun h_49 => ?_) (fun h_49 => ?_)
          · refine v_aload_2_0 G dX6_readPlan_56 ?_
            refine m_getI G (by decide) vc_6 lk_X6_110 fs_X6_7 dX6_readPlan_57 ?_
            rw [g7]
            refine m_putI G (by decide) vc_6 vt_6 lk_X6_110 fs_X6_7 (ft_X6_7 _) dX6_readPlan_60 ?_
            simp only [h_4, h_12, e6, if_true, if_false] at hz
            have k := k63 hz
            simp only [rpA, h_49, if_true, if_false] at k
            exact k
          · refine v_iload_2_1 G dX6_readPlan_52 ?_
            refine v_goto (tgt := 60) G dX6_readPlan_53 rfl ?_
            refine m_putI G (by decide) vc_6 vt_6 lk_X6_110 fs_X6_7 (ft_X6_7 _) dX6_readPlan_60 ?_
            simp only [h_4, h_12, e6, if_true, if_false] at hz
            have k := k63 hz
            simp only [rpA, h_49, if_true, if_false] at k
            exact k
  have hfin := main (6 - K) σ K (by omega) h hK (by rw [← hr, rpW, show 6 - K + 1 = 7 - K by omega])
  exact hfin
