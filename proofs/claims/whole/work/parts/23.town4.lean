/-! Town: what is told, taken over -/
def clrW (σ : vW) (t : Nat) : vW := vrow (vrow (vset (vset (vset σ t 10 (nI 0)) t 11 (nI 0)) t 12 (nI 0)) (t + 7) (fillR (σ (t + 7)) (-1) 9)) (t + 8) (fillR (σ (t + 8)) (nI 0) 8)
theorem vrow_ne {σ : vW} {a b : Nat} {f : Nat → Int32} (h : b ≠ a) : (vrow σ a f) b = σ b := by simp [vrow, h]
set_option maxHeartbeats 4000000 in
theorem C_X4_clear {σ : vW} {t : Nat} (hT : TB t) : Ctr mX4_clear 1 [.ref t] σ (vDet none (clrW σ t)) := by
  have a7 : vAs (t + 7) 0 9 := as_X4_6 hT
  have a8 : vAs (t + 8) 0 8 := as_X4_7 hT
  refine Ctr.intro (by decide) (fun α => Nat.le_of_ble_eq_true rfl) (fun x G hQ => ?_)
  have G : vG x RX4 cX4_clear 1 none 1 := G
  show V x 0 [some (.ref t)] [] σ
  refine v_aload_1_0 G dX4_clear_0 ?_
  refine v_iconst (v := nI 0) G dX4_clear_1 (by decide) ?_
  refine v_putI G vc_4 vt_4 lk_X4_48 (fs_X4_10 (by first | assumption | exact imgP_TB)) (ft_X4_10 _) dX4_clear_2 ?_
  refine v_aload_1_0 G dX4_clear_5 ?_
  refine v_iconst (v := nI 0) G dX4_clear_6 (by decide) ?_
  refine v_putI G vc_4 vt_4 lk_X4_52 (fs_X4_11 (by first | assumption | exact imgP_TB)) (ft_X4_11 _) dX4_clear_7 ?_
  refine v_aload_1_0 G dX4_clear_10 ?_
  refine v_iconst (v := nI 0) G dX4_clear_11 (by decide) ?_
  refine v_putI G vc_4 vt_4 lk_X4_55 (fs_X4_12 (by first | assumption | exact imgP_TB)) (ft_X4_12 _) dX4_clear_12 ?_
  refine v_aload_1_0 G dX4_clear_15 ?_
  refine v_getR G vc_4 lk_X4_30 (fs_X4_6 (by first | assumption | exact imgP_TB)) dX4_clear_16 ?_
  refine v_iconst (v := (-1)) G dX4_clear_19 (by decide) ?_
  refine v_cS2v G (C_fill a7 (by decide)) (by decide) md_J7_fill_53178 st_J7_fill_53178 ml_X4_42 (Nat.le_of_ble_eq_true rfl) dX4_clear_20 ?_
  refine v_aload_1_0 G dX4_clear_23 ?_
  refine v_getR G vc_4 lk_X4_33 (fs_X4_7 (by first | assumption | exact imgP_TB)) dX4_clear_24 ?_
  refine v_iconst (v := nI 0) G dX4_clear_27 (by decide) ?_
  refine v_cS2v G (C_fill a8 (by decide)) (by decide) md_J7_fill_53178 st_J7_fill_53178 ml_X4_42 (Nat.le_of_ble_eq_true rfl) dX4_clear_28 ?_
  exact v_vret G hQ dX4_clear_31 (vDet.of rfl (by rw [clrW]; simp only [vrow_ne (show t + 8 ≠ t + 7 by omega), vset_ne (show t + 7 ≠ t by omega), vset_ne (show t + 8 ≠ t by omega)]))
/-- one row of a town into another's -/
def cpy5 (σ : vW) (a b n : Nat) : vW := vrow σ b (va_cpy (σ a) (σ b) 0 0 n)
def becW (σ : vW) (t o : Nat) : vW := cpy5 (cpy5 (cpy5 (cpy5 (cpy5 (cpy5 (cpy5 (cpy5 (cpy5 (cpy5 (vset (vset (vset σ t 10 (σ o 10)) t 11 (σ o 11)) t 12 (σ o 12)) (o + 1) (t + 1) 5) (o + 2) (t + 2) 5) (o + 3) (t + 3) 5) (o + 4) (t + 4) 5) (o + 5) (t + 5) 9) (o + 6) (t + 6) 9) (o + 7) (t + 7) 9) (o + 8) (t + 8) 8) (o + 9) (t + 9) 6) (o + 10) (t + 10) 6
theorem nI_cl0 : (nI 0).toNatClampNeg = 0 := nI_clamp (by decide)
theorem nI_cl5 : (nI 5).toNatClampNeg = 5 := nI_clamp (by decide)
theorem nI_cl6 : (nI 6).toNatClampNeg = 6 := nI_clamp (by decide)
theorem nI_cl8 : (nI 8).toNatClampNeg = 8 := nI_clamp (by decide)
theorem nI_cl9 : (nI 9).toNatClampNeg = 9 := nI_clamp (by decide)
theorem vset_ne2 {σ : vW} {a b i j : Nat} {v : Int32} (h : b ≠ a ∨ j ≠ i) : (vset σ a i v) b j = σ b j := by
  simp only [vset]
  rw [if_neg]
  rintro ⟨h1, h2⟩
  rcases h with h | h
  · exact h h1
  · exact h h2
set_option maxHeartbeats 4000000 in
theorem C_X4_become {σ : vW} {t o : Nat} (hT : TB t) (hO : TB o) (hto : o ≠ t) : Ctr mX4_become 1 [.ref t, .ref o] σ (vDet none (becW σ t o)) := by
  refine Ctr.intro (by decide) (fun α => Nat.le_of_ble_eq_true rfl) (fun x G hQ => ?_)
  have G : vG x RX4 cX4_become 2 none 1 := G
  show V x 0 [some (.ref t), some (.ref o)] [] σ
  refine v_aload_2_0 G dX4_become_0 ?_
  refine v_aload_2_1 G dX4_become_1 ?_
  refine v_getI G vc_4 lk_X4_48 (fs_X4_10 (by first | assumption | exact imgP_TB)) dX4_become_2 ?_
  refine v_putI G vc_4 vt_4 lk_X4_48 (fs_X4_10 (by first | assumption | exact imgP_TB)) (ft_X4_10 _) dX4_become_5 ?_
  refine v_aload_2_0 G dX4_become_8 ?_
  refine v_aload_2_1 G dX4_become_9 ?_
  refine v_getI G vc_4 lk_X4_52 (fs_X4_11 (by first | assumption | exact imgP_TB)) dX4_become_10 ?_
  refine v_putI G vc_4 vt_4 lk_X4_52 (fs_X4_11 (by first | assumption | exact imgP_TB)) (ft_X4_11 _) dX4_become_13 ?_
  refine v_aload_2_0 G dX4_become_16 ?_
  refine v_aload_2_1 G dX4_become_17 ?_
  refine v_getI G vc_4 lk_X4_55 (fs_X4_12 (by first | assumption | exact imgP_TB)) dX4_become_18 ?_
  refine v_putI G vc_4 vt_4 lk_X4_55 (fs_X4_12 (by first | assumption | exact imgP_TB)) (ft_X4_12 _) dX4_become_21 ?_
  refine v_aload_2_1 G dX4_become_24 ?_
  refine v_getR G vc_4 lk_X4_9 (fs_X4_0 (by first | assumption | exact imgP_TB)) dX4_become_25 ?_
  refine v_iconst (v := nI 0) G dX4_become_28 (by decide) ?_
  refine v_aload_2_0 G dX4_become_29 ?_
  refine v_getR G vc_4 lk_X4_9 (fs_X4_0 (by first | assumption | exact imgP_TB)) dX4_become_30 ?_
  refine v_iconst (v := nI 0) G dX4_become_33 (by decide) ?_
  refine v_iconst (v := nI 5) G dX4_become_34 (by decide) ?_
  refine v_copy G (by decide) ml_X4_58c nv_copy sv_copy iv_copy (as_X4_0 hO) (as_X4_0 hT) (by decide) (by decide) (by decide) (by decide) (by decide) rfl dX4_become_35 ?_
  refine v_aload_2_1 G dX4_become_38 ?_
  refine v_getR G vc_4 lk_X4_15 (fs_X4_1 (by first | assumption | exact imgP_TB)) dX4_become_39 ?_
  refine v_iconst (v := nI 0) G dX4_become_42 (by decide) ?_
  refine v_aload_2_0 G dX4_become_43 ?_
  refine v_getR G vc_4 lk_X4_15 (fs_X4_1 (by first | assumption | exact imgP_TB)) dX4_become_44 ?_
  refine v_iconst (v := nI 0) G dX4_become_47 (by decide) ?_
  refine v_iconst (v := nI 5) G dX4_become_48 (by decide) ?_
  refine v_copy G (by decide) ml_X4_58c nv_copy sv_copy iv_copy (as_X4_1 hO) (as_X4_1 hT) (by decide) (by decide) (by decide) (by decide) (by decide) rfl dX4_become_49 ?_
  refine v_aload_2_1 G dX4_become_52 ?_
  refine v_getR G vc_4 lk_X4_18 (fs_X4_2 (by first | assumption | exact imgP_TB)) dX4_become_53 ?_
  refine v_iconst (v := nI 0) G dX4_become_56 (by decide) ?_
  refine v_aload_2_0 G dX4_become_57 ?_
  refine v_getR G vc_4 lk_X4_18 (fs_X4_2 (by first | assumption | exact imgP_TB)) dX4_become_58 ?_
  refine v_iconst (v := nI 0) G dX4_become_61 (by decide) ?_
  refine v_iconst (v := nI 5) G dX4_become_62 (by decide) ?_
  refine v_copy G (by decide) ml_X4_58c nv_copy sv_copy iv_copy (as_X4_2 hO) (as_X4_2 hT) (by decide) (by decide) (by decide) (by decide) (by decide) rfl dX4_become_63 ?_
  refine v_aload_2_1 G dX4_become_66 ?_
  refine v_getR G vc_4 lk_X4_21 (fs_X4_3 (by first | assumption | exact imgP_TB)) dX4_become_67 ?_
  refine v_iconst (v := nI 0) G dX4_become_70 (by decide) ?_
  refine v_aload_2_0 G dX4_become_71 ?_
  refine v_getR G vc_4 lk_X4_21 (fs_X4_3 (by first | assumption | exact imgP_TB)) dX4_become_72 ?_
  refine v_iconst (v := nI 0) G dX4_become_75 (by decide) ?_
  refine v_iconst (v := nI 5) G dX4_become_76 (by decide) ?_
  refine v_copy G (by decide) ml_X4_58c nv_copy sv_copy iv_copy (as_X4_3 hO) (as_X4_3 hT) (by decide) (by decide) (by decide) (by decide) (by decide) rfl dX4_become_77 ?_
  refine v_aload_2_1 G dX4_become_80 ?_
  refine v_getR G vc_4 lk_X4_24 (fs_X4_4 (by first | assumption | exact imgP_TB)) dX4_become_81 ?_
  refine v_iconst (v := nI 0) G dX4_become_84 (by decide) ?_
  refine v_aload_2_0 G dX4_become_85 ?_
  refine v_getR G vc_4 lk_X4_24 (fs_X4_4 (by first | assumption | exact imgP_TB)) dX4_become_86 ?_
  refine v_iconst (v := nI 0) G dX4_become_89 (by decide) ?_
  refine v_bipush (v := nI 9) G dX4_become_90 (by decide) ?_
  refine v_copy G (by decide) ml_X4_58c nv_copy sv_copy iv_copy (as_X4_4 hO) (as_X4_4 hT) (by decide) (by decide) (by decide) (by decide) (by decide) rfl dX4_become_92 ?_
  refine v_aload_2_1 G dX4_become_95 ?_
  refine v_getR G vc_4 lk_X4_27 (fs_X4_5 (by first | assumption | exact imgP_TB)) dX4_become_96 ?_
  refine v_iconst (v := nI 0) G dX4_become_99 (by decide) ?_
  refine v_aload_2_0 G dX4_become_100 ?_
  refine v_getR G vc_4 lk_X4_27 (fs_X4_5 (by first | assumption | exact imgP_TB)) dX4_become_101 ?_
  refine v_iconst (v := nI 0) G dX4_become_104 (by decide) ?_
  refine v_bipush (v := nI 9) G dX4_become_105 (by decide) ?_
  refine v_copy G (by decide) ml_X4_58c nv_copy sv_copy iv_copy (as_X4_5 hO) (as_X4_5 hT) (by decide) (by decide) (by decide) (by decide) (by decide) rfl dX4_become_107 ?_
  refine v_aload_2_1 G dX4_become_110 ?_
  refine v_getR G vc_4 lk_X4_30 (fs_X4_6 (by first | assumption | exact imgP_TB)) dX4_become_111 ?_
  refine v_iconst (v := nI 0) G dX4_become_114 (by decide) ?_
  refine v_aload_2_0 G dX4_become_115 ?_
  refine v_getR G vc_4 lk_X4_30 (fs_X4_6 (by first | assumption | exact imgP_TB)) dX4_become_116 ?_
  refine v_iconst (v := nI 0) G dX4_become_119 (by decide) ?_
  refine v_bipush (v := nI 9) G dX4_become_120 (by decide) ?_
  refine v_copy G (by decide) ml_X4_58c nv_copy sv_copy iv_copy (as_X4_6 hO) (as_X4_6 hT) (by decide) (by decide) (by decide) (by decide) (by decide) rfl dX4_become_122 ?_
  refine v_aload_2_1 G dX4_become_125 ?_
  refine v_getR G vc_4 lk_X4_33 (fs_X4_7 (by first | assumption | exact imgP_TB)) dX4_become_126 ?_
  refine v_iconst (v := nI 0) G dX4_become_129 (by decide) ?_
  refine v_aload_2_0 G dX4_become_130 ?_
  refine v_getR G vc_4 lk_X4_33 (fs_X4_7 (by first | assumption | exact imgP_TB)) dX4_become_131 ?_
  refine v_iconst (v := nI 0) G dX4_become_134 (by decide) ?_
  refine v_bipush (v := nI 8) G dX4_become_135 (by decide) ?_
  refine v_copy G (by decide) ml_X4_58c nv_copy sv_copy iv_copy (as_X4_7 hO) (as_X4_7 hT) (by decide) (by decide) (by decide) (by decide) (by decide) rfl dX4_become_137 ?_
  refine v_aload_2_1 G dX4_become_140 ?_
  refine v_getR G vc_4 lk_X4_36 (fs_X4_8 (by first | assumption | exact imgP_TB)) dX4_become_141 ?_
  refine v_iconst (v := nI 0) G dX4_become_144 (by decide) ?_
  refine v_aload_2_0 G dX4_become_145 ?_
  refine v_getR G vc_4 lk_X4_36 (fs_X4_8 (by first | assumption | exact imgP_TB)) dX4_become_146 ?_
  refine v_iconst (v := nI 0) G dX4_become_149 (by decide) ?_
  refine v_bipush (v := nI 6) G dX4_become_150 (by decide) ?_
  refine v_copy G (by decide) ml_X4_58c nv_copy sv_copy iv_copy (as_X4_8 hO) (as_X4_8 hT) (by decide) (by decide) (by decide) (by decide) (by decide) rfl dX4_become_152 ?_
  refine v_aload_2_1 G dX4_become_155 ?_
  refine v_getR G vc_4 lk_X4_39 (fs_X4_9 (by first | assumption | exact imgP_TB)) dX4_become_156 ?_
  refine v_iconst (v := nI 0) G dX4_become_159 (by decide) ?_
  refine v_aload_2_0 G dX4_become_160 ?_
  refine v_getR G vc_4 lk_X4_39 (fs_X4_9 (by first | assumption | exact imgP_TB)) dX4_become_161 ?_
  refine v_iconst (v := nI 0) G dX4_become_164 (by decide) ?_
  refine v_bipush (v := nI 6) G dX4_become_165 (by decide) ?_
  refine v_copy G (by decide) ml_X4_58c nv_copy sv_copy iv_copy (as_X4_9 hO) (as_X4_9 hT) (by decide) (by decide) (by decide) (by decide) (by decide) rfl dX4_become_167 ?_
  exact v_vret G hQ dX4_become_170 (vDet.of rfl (by simp only [becW, cpy5, nI_cl0, nI_cl5, nI_cl6, nI_cl8, nI_cl9, vset_ne2 (Or.inl hto)]))
def addOneW (σ : vW) (t n : Nat) (k h r : Int32) : vW := vset (vset (vset (vset (vset σ (t + 1) n k) (t + 2) n h) (t + 3) n r) (t + 4) n (-1)) t 10 (nI (n + 1))
set_option maxHeartbeats 4000000 in
theorem C_X4_addOne {σ : vW} {t n : Nat} {k h r : Int32} (hT : TB t) (hn : σ t 10 = nI n) (hn5 : n ≤ 5) : Ctr mX4_addOne 0 [.ref t, .int k, .int h, .int r] σ (vDet (some (.int (bI (decide (n < 5))))) (if n < 5 then addOneW σ t n k h r else σ)) := by
  refine Ctr.intro (by decide) (fun α => Nat.le_of_ble_eq_true rfl) (fun x G hQ => ?_)
  have G : vG x RX4 cX4_addOne 4 (some .boolean) 0 := G
  show V x 0 [some (.ref t), some (.int k), some (.int h), some (.int r)] [] σ
  have e1 : ∀ a i v, a ≠ t → (vset σ a i v) t 10 = nI n := fun a i v ha => by rw [vset_ne (Ne.symm ha)]; exact hn
  rcases Nat.lt_or_ge n 5 with h5 | h5
  · rw [decide_eq_true h5, if_pos h5] at hQ
    refine v_aload_4_0 G dX4_addOne_0 ?_
    refine v_getI G vc_4 lk_X4_48 (fs_X4_10 (by first | assumption | exact imgP_TB)) dX4_addOne_1 ?_
    rw [hn]
    refine v_if_lt (tgt := 15) G dX4_addOne_4 rfl (fun h_4 => absurd h_4 (nI_pos (by omega))) (fun h_4 => ?_)
    refine v_aload_4_0 G dX4_addOne_7 ?_
    refine v_getI G vc_4 lk_X4_48 (fs_X4_10 (by first | assumption | exact imgP_TB)) dX4_addOne_8 ?_
    refine v_iconst (v := nI 5) G dX4_addOne_11 (by decide) ?_
    rw [hn]
    refine v_icmp_lt (tgt := 17) G dX4_addOne_12 rfl (fun h_12 => ?_) (fun h_12 => absurd (nI_lt h5 (by decide)) h_12)
    refine v_aload_4_0 G dX4_addOne_17 ?_
    refine v_getR G vc_4 lk_X4_9 (fs_X4_0 (by first | assumption | exact imgP_TB)) dX4_addOne_18 ?_
    refine v_aload_4_0 G dX4_addOne_21 ?_
    refine v_getI G vc_4 lk_X4_48 (fs_X4_10 (by first | assumption | exact imgP_TB)) dX4_addOne_22 ?_
    rw [hn]
    refine v_iload_4_1 G dX4_addOne_25 ?_
    refine v_iastN G (as_X4_0 (by first | assumption | exact imgP_TB)) (by first | assumption | omega | exact oneB_in (by assumption) | exact wallB_in (by assumption) | exact oneB_m1 (by assumption) | decide) (by first | decide | omega) dX4_addOne_26 ?_
    refine v_aload_4_0 G dX4_addOne_27 ?_
    refine v_getR G vc_4 lk_X4_15 (fs_X4_1 (by first | assumption | exact imgP_TB)) dX4_addOne_28 ?_
    refine v_aload_4_0 G dX4_addOne_31 ?_
    refine v_getI G vc_4 lk_X4_48 (fs_X4_10 (by first | assumption | exact imgP_TB)) dX4_addOne_32 ?_
    rw [vset_ne (show t ≠ t + 1 by omega), hn]
    refine v_iload_4_2 G dX4_addOne_35 ?_
    refine v_iastN G (as_X4_1 (by first | assumption | exact imgP_TB)) (by first | assumption | omega | exact oneB_in (by assumption) | exact wallB_in (by assumption) | exact oneB_m1 (by assumption) | decide) (by first | decide | omega) dX4_addOne_36 ?_
    refine v_aload_4_0 G dX4_addOne_37 ?_
    refine v_getR G vc_4 lk_X4_18 (fs_X4_2 (by first | assumption | exact imgP_TB)) dX4_addOne_38 ?_
    refine v_aload_4_0 G dX4_addOne_41 ?_
    refine v_getI G vc_4 lk_X4_48 (fs_X4_10 (by first | assumption | exact imgP_TB)) dX4_addOne_42 ?_
    rw [vset_ne (show t ≠ t + 2 by omega), vset_ne (show t ≠ t + 1 by omega), hn]
    refine v_iload_4_3 G dX4_addOne_45 ?_
    refine v_iastN G (as_X4_2 (by first | assumption | exact imgP_TB)) (by first | assumption | omega | exact oneB_in (by assumption) | exact wallB_in (by assumption) | exact oneB_m1 (by assumption) | decide) (by first | decide | omega) dX4_addOne_46 ?_
    refine v_aload_4_0 G dX4_addOne_47 ?_
    refine v_getR G vc_4 lk_X4_21 (fs_X4_3 (by first | assumption | exact imgP_TB)) dX4_addOne_48 ?_
    refine v_aload_4_0 G dX4_addOne_51 ?_
    refine v_getI G vc_4 lk_X4_48 (fs_X4_10 (by first | assumption | exact imgP_TB)) dX4_addOne_52 ?_
    rw [vset_ne (show t ≠ t + 3 by omega), vset_ne (show t ≠ t + 2 by omega), vset_ne (show t ≠ t + 1 by omega), hn]
    refine v_iconst (v := (-1)) G dX4_addOne_55 (by decide) ?_
    refine v_iastN G (as_X4_3 (by first | assumption | exact imgP_TB)) (by first | assumption | omega | exact oneB_in (by assumption) | exact wallB_in (by assumption) | exact oneB_m1 (by assumption) | decide) (by first | decide | omega) dX4_addOne_56 ?_
    refine v_aload_4_0 G dX4_addOne_57 ?_
    refine v_dup G dX4_addOne_58 rfl ?_
    refine v_getI G vc_4 lk_X4_48 (fs_X4_10 (by first | assumption | exact imgP_TB)) dX4_addOne_59 ?_
    rw [vset_ne (show t ≠ t + 4 by omega), vset_ne (show t ≠ t + 3 by omega), vset_ne (show t ≠ t + 2 by omega), vset_ne (show t ≠ t + 1 by omega), hn]
    refine v_iconst (v := nI 1) G dX4_addOne_62 (by decide) ?_
    refine v_iaddN G dX4_addOne_63 ?_
    refine v_putI G vc_4 vt_4 lk_X4_48 (fs_X4_10 (by first | assumption | exact imgP_TB)) (ft_X4_10 _) dX4_addOne_64 ?_
    refine v_iconst (v := nI 1) G dX4_addOne_67 (by decide) ?_
    exact v_zret G hQ dX4_addOne_68 (by first | exact Or.inl rfl | exact Or.inr rfl | exact bI_01 _ | assumption) vDet.mk
  · rw [decide_eq_false (show ¬ n < 5 by omega), if_neg (show ¬ n < 5 by omega)] at hQ
    refine v_aload_4_0 G dX4_addOne_0 ?_
    refine v_getI G vc_4 lk_X4_48 (fs_X4_10 (by first | assumption | exact imgP_TB)) dX4_addOne_1 ?_
    rw [hn]
    refine v_if_lt (tgt := 15) G dX4_addOne_4 rfl (fun h_4 => absurd h_4 (nI_pos (by omega))) (fun h_4 => ?_)
    refine v_aload_4_0 G dX4_addOne_7 ?_
    refine v_getI G vc_4 lk_X4_48 (fs_X4_10 (by first | assumption | exact imgP_TB)) dX4_addOne_8 ?_
    refine v_iconst (v := nI 5) G dX4_addOne_11 (by decide) ?_
    rw [hn]
    refine v_icmp_lt (tgt := 17) G dX4_addOne_12 rfl (fun h_12 => absurd h_12 (nI_nlt h5 (by omega))) (fun h_12 => ?_)
    refine v_iconst (v := nI 0) G dX4_addOne_15 (by decide) ?_
    exact v_zret G hQ dX4_addOne_16 (by first | exact Or.inl rfl | exact Or.inr rfl | exact bI_01 _ | assumption) vDet.mk
def addWallW (σ : vW) (t m : Nat) (a b : Int32) : vW := vset (vset (vset σ (t + 5) m a) (t + 6) m b) t 11 (nI (m + 1))
set_option maxHeartbeats 4000000 in
theorem C_X4_addWall {σ : vW} {t m : Nat} {a b : Int32} (hT : TB t) (hm : σ t 11 = nI m) (hm9 : m ≤ 9) : Ctr mX4_addWall 0 [.ref t, .int a, .int b] σ (vDet (some (.int (bI (decide (m < 9))))) (if m < 9 then addWallW σ t m a b else σ)) := by
  refine Ctr.intro (by decide) (fun α => Nat.le_of_ble_eq_true rfl) (fun x G hQ => ?_)
  have G : vG x RX4 cX4_addWall 3 (some .boolean) 0 := G
  show V x 0 [some (.ref t), some (.int a), some (.int b)] [] σ
  rcases Nat.lt_or_ge m 9 with h9 | h9
  · rw [decide_eq_true h9, if_pos h9] at hQ
    refine v_aload_3_0 G dX4_addWall_0 ?_
    refine v_getI G vc_4 lk_X4_52 (fs_X4_11 (by first | assumption | exact imgP_TB)) dX4_addWall_1 ?_
    rw [hm]
    refine v_if_lt (tgt := 16) G dX4_addWall_4 rfl (fun h_4 => absurd h_4 (nI_pos (by omega))) (fun h_4 => ?_)
    refine v_aload_3_0 G dX4_addWall_7 ?_
    refine v_getI G vc_4 lk_X4_52 (fs_X4_11 (by first | assumption | exact imgP_TB)) dX4_addWall_8 ?_
    rw [hm]
    refine v_bipush (v := nI 9) G dX4_addWall_11 (by decide) ?_
    refine v_icmp_lt (tgt := 18) G dX4_addWall_13 rfl (fun h_13 => ?_) (fun h_13 => absurd (nI_lt h9 (by decide)) h_13)
    refine v_aload_3_0 G dX4_addWall_18 ?_
    refine v_getR G vc_4 lk_X4_24 (fs_X4_4 (by first | assumption | exact imgP_TB)) dX4_addWall_19 ?_
    refine v_aload_3_0 G dX4_addWall_22 ?_
    refine v_getI G vc_4 lk_X4_52 (fs_X4_11 (by first | assumption | exact imgP_TB)) dX4_addWall_23 ?_
    rw [hm]
    refine v_iload_3_1 G dX4_addWall_26 ?_
    refine v_iastN G (as_X4_4 (by first | assumption | exact imgP_TB)) (by first | assumption | omega | exact oneB_in (by assumption) | exact wallB_in (by assumption) | exact oneB_m1 (by assumption) | decide) (by first | decide | omega) dX4_addWall_27 ?_
    refine v_aload_3_0 G dX4_addWall_28 ?_
    refine v_getR G vc_4 lk_X4_27 (fs_X4_5 (by first | assumption | exact imgP_TB)) dX4_addWall_29 ?_
    refine v_aload_3_0 G dX4_addWall_32 ?_
    refine v_getI G vc_4 lk_X4_52 (fs_X4_11 (by first | assumption | exact imgP_TB)) dX4_addWall_33 ?_
    rw [vset_ne (show t ≠ t + 5 by omega), hm]
    refine v_iload_3_2 G dX4_addWall_36 ?_
    refine v_iastN G (as_X4_5 (by first | assumption | exact imgP_TB)) (by first | assumption | omega | exact oneB_in (by assumption) | exact wallB_in (by assumption) | exact oneB_m1 (by assumption) | decide) (by first | decide | omega) dX4_addWall_37 ?_
    refine v_aload_3_0 G dX4_addWall_38 ?_
    refine v_dup G dX4_addWall_39 rfl ?_
    refine v_getI G vc_4 lk_X4_52 (fs_X4_11 (by first | assumption | exact imgP_TB)) dX4_addWall_40 ?_
    rw [vset_ne (show t ≠ t + 6 by omega), vset_ne (show t ≠ t + 5 by omega), hm]
    refine v_iconst (v := nI 1) G dX4_addWall_43 (by decide) ?_
    refine v_iaddN G dX4_addWall_44 ?_
    refine v_putI G vc_4 vt_4 lk_X4_52 (fs_X4_11 (by first | assumption | exact imgP_TB)) (ft_X4_11 _) dX4_addWall_45 ?_
    refine v_iconst (v := nI 1) G dX4_addWall_48 (by decide) ?_
    exact v_zret G hQ dX4_addWall_49 (by first | exact Or.inl rfl | exact Or.inr rfl | exact bI_01 _ | assumption) vDet.mk
  · rw [decide_eq_false (show ¬ m < 9 by omega), if_neg (show ¬ m < 9 by omega)] at hQ
    refine v_aload_3_0 G dX4_addWall_0 ?_
    refine v_getI G vc_4 lk_X4_52 (fs_X4_11 (by first | assumption | exact imgP_TB)) dX4_addWall_1 ?_
    rw [hm]
    refine v_if_lt (tgt := 16) G dX4_addWall_4 rfl (fun h_4 => absurd h_4 (nI_pos (by omega))) (fun h_4 => ?_)
    refine v_aload_3_0 G dX4_addWall_7 ?_
    refine v_getI G vc_4 lk_X4_52 (fs_X4_11 (by first | assumption | exact imgP_TB)) dX4_addWall_8 ?_
    rw [hm]
    refine v_bipush (v := nI 9) G dX4_addWall_11 (by decide) ?_
    refine v_icmp_lt (tgt := 18) G dX4_addWall_13 rfl (fun h_13 => absurd h_13 (nI_nlt h9 (by omega))) (fun h_13 => ?_)
    refine v_iconst (v := nI 0) G dX4_addWall_16 (by decide) ?_
    exact v_zret G hQ dX4_addWall_17 (by first | exact Or.inl rfl | exact Or.inr rfl | exact bI_01 _ | assumption) vDet.mk
def addActW (σ : vW) (t m : Nat) (a b : Int32) : vW := vset (vset (vset σ (t + 9) m a) (t + 10) m b) t 12 (nI (m + 1))
set_option maxHeartbeats 4000000 in
theorem C_X4_addAct {σ : vW} {t m : Nat} {a b : Int32} (hT : TB t) (hm : σ t 12 = nI m) (hm9 : m ≤ 6) : Ctr mX4_addAct 0 [.ref t, .int a, .int b] σ (vDet (some (.int (bI (decide (m < 6))))) (if m < 6 then addActW σ t m a b else σ)) := by
  refine Ctr.intro (by decide) (fun α => Nat.le_of_ble_eq_true rfl) (fun x G hQ => ?_)
  have G : vG x RX4 cX4_addAct 3 (some .boolean) 0 := G
  show V x 0 [some (.ref t), some (.int a), some (.int b)] [] σ
  rcases Nat.lt_or_ge m 6 with h9 | h9
  · rw [decide_eq_true h9, if_pos h9] at hQ
    refine v_aload_3_0 G dX4_addAct_0 ?_
    refine v_getI G vc_4 lk_X4_55 (fs_X4_12 (by first | assumption | exact imgP_TB)) dX4_addAct_1 ?_
    rw [hm]
    refine v_if_lt (tgt := 16) G dX4_addAct_4 rfl (fun h_4 => absurd h_4 (nI_pos (by omega))) (fun h_4 => ?_)
    refine v_aload_3_0 G dX4_addAct_7 ?_
    refine v_getI G vc_4 lk_X4_55 (fs_X4_12 (by first | assumption | exact imgP_TB)) dX4_addAct_8 ?_
    rw [hm]
    refine v_bipush (v := nI 6) G dX4_addAct_11 (by decide) ?_
    refine v_icmp_lt (tgt := 18) G dX4_addAct_13 rfl (fun h_13 => ?_) (fun h_13 => absurd (nI_lt h9 (by decide)) h_13)
    refine v_aload_3_0 G dX4_addAct_18 ?_
    refine v_getR G vc_4 lk_X4_36 (fs_X4_8 (by first | assumption | exact imgP_TB)) dX4_addAct_19 ?_
    refine v_aload_3_0 G dX4_addAct_22 ?_
    refine v_getI G vc_4 lk_X4_55 (fs_X4_12 (by first | assumption | exact imgP_TB)) dX4_addAct_23 ?_
    rw [hm]
    refine v_iload_3_1 G dX4_addAct_26 ?_
    refine v_iastN G (as_X4_8 (by first | assumption | exact imgP_TB)) (by first | assumption | omega | exact oneB_in (by assumption) | exact wallB_in (by assumption) | exact oneB_m1 (by assumption) | decide) (by first | decide | omega) dX4_addAct_27 ?_
    refine v_aload_3_0 G dX4_addAct_28 ?_
    refine v_getR G vc_4 lk_X4_39 (fs_X4_9 (by first | assumption | exact imgP_TB)) dX4_addAct_29 ?_
    refine v_aload_3_0 G dX4_addAct_32 ?_
    refine v_getI G vc_4 lk_X4_55 (fs_X4_12 (by first | assumption | exact imgP_TB)) dX4_addAct_33 ?_
    rw [vset_ne (show t ≠ t + 9 by omega), hm]
    refine v_iload_3_2 G dX4_addAct_36 ?_
    refine v_iastN G (as_X4_9 (by first | assumption | exact imgP_TB)) (by first | assumption | omega | exact oneB_in (by assumption) | exact wallB_in (by assumption) | exact oneB_m1 (by assumption) | decide) (by first | decide | omega) dX4_addAct_37 ?_
    refine v_aload_3_0 G dX4_addAct_38 ?_
    refine v_dup G dX4_addAct_39 rfl ?_
    refine v_getI G vc_4 lk_X4_55 (fs_X4_12 (by first | assumption | exact imgP_TB)) dX4_addAct_40 ?_
    rw [vset_ne (show t ≠ t + 10 by omega), vset_ne (show t ≠ t + 9 by omega), hm]
    refine v_iconst (v := nI 1) G dX4_addAct_43 (by decide) ?_
    refine v_iaddN G dX4_addAct_44 ?_
    refine v_putI G vc_4 vt_4 lk_X4_55 (fs_X4_12 (by first | assumption | exact imgP_TB)) (ft_X4_12 _) dX4_addAct_45 ?_
    refine v_iconst (v := nI 1) G dX4_addAct_48 (by decide) ?_
    exact v_zret G hQ dX4_addAct_49 (by first | exact Or.inl rfl | exact Or.inr rfl | exact bI_01 _ | assumption) vDet.mk
  · rw [decide_eq_false (show ¬ m < 6 by omega), if_neg (show ¬ m < 6 by omega)] at hQ
    refine v_aload_3_0 G dX4_addAct_0 ?_
    refine v_getI G vc_4 lk_X4_55 (fs_X4_12 (by first | assumption | exact imgP_TB)) dX4_addAct_1 ?_
    rw [hm]
    refine v_if_lt (tgt := 16) G dX4_addAct_4 rfl (fun h_4 => absurd h_4 (nI_pos (by omega))) (fun h_4 => ?_)
    refine v_aload_3_0 G dX4_addAct_7 ?_
    refine v_getI G vc_4 lk_X4_55 (fs_X4_12 (by first | assumption | exact imgP_TB)) dX4_addAct_8 ?_
    rw [hm]
    refine v_bipush (v := nI 6) G dX4_addAct_11 (by decide) ?_
    refine v_icmp_lt (tgt := 18) G dX4_addAct_13 rfl (fun h_13 => absurd h_13 (nI_nlt h9 (by omega))) (fun h_13 => ?_)
    refine v_iconst (v := nI 0) G dX4_addAct_16 (by decide) ?_
    exact v_zret G hQ dX4_addAct_17 (by first | exact Or.inl rfl | exact Or.inr rfl | exact bI_01 _ | assumption) vDet.mk
/-- a door in a wall that there is not; an act of a one or a wall that there is not -/
def missO (σ : vW) (t : Nat) (w : Nat) : Bool := if σ (t + 7) w = -1 then false else true
def missA (σ : vW) (t : Nat) (i : Nat) : Bool := if oneB (σ t 10) (σ (t + 9) i) = true then (if wallB (σ t 11) (σ (t + 10) i) = true then false else true) else true
def missB (σ : vW) (t m K : Nat) : Bool := if fstP (missO σ t) (9 - m) m < 9 then true else if fstP (missA σ t) K 0 < K then true else false
set_option maxHeartbeats 4000000 in
theorem C_X4_namesMissing {σ : vW} {t m K : Nat} (hT : TB t) (hm : σ t 11 = nI m) (hm9 : m ≤ 9) (hK : σ t 12 = nI K) (hK6 : K ≤ 6) : Ctr mX4_namesMissing 1 [.ref t] σ (vDet (some (.int (bI (missB σ t m K)))) σ) := by
  refine Ctr.intro (by decide) (fun α => Nat.le_of_ble_eq_true rfl) (fun x G hQ => ?_)
  have G : vG x RX4 cX4_namesMissing 2 (some .boolean) 1 := G
  show V x 0 [some (.ref t), none] [] σ
  refine v_aload_2_0 G dX4_namesMissing_0 ?_
  refine v_getI G vc_4 lk_X4_52 (fs_X4_11 (by first | assumption | exact imgP_TB)) dX4_namesMissing_1 ?_
  rw [hm]
  refine v_istore_2_1 G dX4_namesMissing_4 rfl ?_
  refine v_forP (pc := 5) (9 - m) (fun k => fstP (missO σ t) (9 - m) m = fstP (missO σ t) (9 - m - k) (m + k)) (fun k => ([some (.ref t), some (.int (nI (m + k)))], σ)) rfl (fun k hk hp ih => ?_) (fun hp => ?_)
  · show V x 5 [some (.ref t), some (.int (nI (m + k)))] [] σ
    have hp : fstP (missO σ t) (9 - m) m = fstP (missO σ t) (9 - m - k) (m + k) := hp
    have ih : (fstP (missO σ t) (9 - m) m = fstP (missO σ t) (9 - m - (k + 1)) (m + (k + 1))) → V x 5 [some (.ref t), some (.int (nI (m + k + 1)))] [] σ := ih
    rw [show 9 - m - k = (9 - m - (k + 1)) + 1 by omega, fstP] at hp
    refine v_iload_2_1 G dX4_namesMissing_5 ?_
    refine v_bipush (v := nI 9) G dX4_namesMissing_6 (by decide) ?_
    refine v_icmp_ge (tgt := 33) G dX4_namesMissing_8 rfl (fun h_8 => absurd h_8 (nI_ge (by omega) (by decide))) (fun h_8 => ?_)
    refine v_iload_2_1 G dX4_namesMissing_11 ?_
    refine v_if_lt (tgt := 27) G dX4_namesMissing_12 rfl (fun h_12 => absurd h_12 (nI_pos (by omega))) (fun h_12 => ?_)
    refine v_aload_2_0 G dX4_namesMissing_15 ?_
    refine v_getR G vc_4 lk_X4_30 (fs_X4_6 (by first | assumption | exact imgP_TB)) dX4_namesMissing_16 ?_
    refine v_iload_2_1 G dX4_namesMissing_19 ?_
    refine v_ialdN G (as_X4_6 (by first | assumption | exact imgP_TB)) (by first | assumption | omega | exact oneB_in (by assumption) | exact wallB_in (by assumption) | exact oneB_m1 (by assumption) | decide) (by first | decide | omega) dX4_namesMissing_20 ?_
    refine v_iconst (v := (-1)) G dX4_namesMissing_21 (by decide) ?_
    refine v_icmp_eq (tgt := 27) G dX4_namesMissing_22 rfl (fun h_22 => ?_) (fun h_22 => ?_)
    · refine v_iincN_2_1 G dX4_namesMissing_27 rfl ?_
      refine v_goto (tgt := 5) G dX4_namesMissing_30 rfl ?_
      refine ih ?_
      rw [hp, if_neg (by simp only [missO, h_22, if_true, Bool.false_eq_true, not_false_eq_true])]
      rfl
    · refine v_iconst (v := nI 1) G dX4_namesMissing_25 (by decide) ?_
      exact v_zret G hQ dX4_namesMissing_26 (by first | exact Or.inl rfl | exact Or.inr rfl | exact bI_01 _ | assumption) (vDet.of (by rw [missB, hp, if_pos (show missO σ t (m + k) = true by simp only [missO, h_22, if_false]), if_pos (show m + k < 9 by omega)]; rfl) rfl)
  · show V x 5 [some (.ref t), some (.int (nI (m + (9 - m))))] [] σ
    have hp : fstP (missO σ t) (9 - m) m = fstP (missO σ t) (9 - m - (9 - m)) (m + (9 - m)) := hp
    rw [Nat.sub_self, show m + (9 - m) = 9 by omega, fstP] at hp
    rw [show m + (9 - m) = 9 by omega]
    have hb : missB σ t m K = if fstP (missA σ t) K 0 < K then true else false := by rw [missB, hp, if_neg (by decide)]
    refine v_iload_2_1 G dX4_namesMissing_5 ?_
    refine v_bipush (v := nI 9) G dX4_namesMissing_6 (by decide) ?_
    refine v_icmp_ge (tgt := 33) G dX4_namesMissing_8 rfl (fun h_8 => ?_) (fun h_8 => absurd (nI_le (by decide) (by decide)) h_8)
    refine v_iconst (v := nI 0) G dX4_namesMissing_33 (by decide) ?_
    refine v_istore_2_1 G dX4_namesMissing_34 rfl ?_
    refine v_forP (pc := 35) (K) (fun k => fstP (missA σ t) K 0 = fstP (missA σ t) (K - k) k) (fun k => ([some (.ref t), some (.int (nI k))], σ)) rfl (fun k hk hp ih => ?_) (fun hp => ?_)
    · show V x 35 [some (.ref t), some (.int (nI k))] [] σ
      have ih : (fstP (missA σ t) K 0 = fstP (missA σ t) (K - (k + 1)) (k + 1)) → V x 35 [some (.ref t), some (.int (nI (k + 1)))] [] σ := ih
      have hp : fstP (missA σ t) K 0 = fstP (missA σ t) (K - k) k := hp
      rw [show K - k = (K - (k + 1)) + 1 by omega, fstP] at hp
      refine v_iload_2_1 G dX4_namesMissing_35 ?_
      refine v_aload_2_0 G dX4_namesMissing_36 ?_
      refine v_getI G vc_4 lk_X4_55 (fs_X4_12 (by first | assumption | exact imgP_TB)) dX4_namesMissing_37 ?_
      refine v_icmp_ge (tgt := 83) G dX4_namesMissing_40 rfl (fun h_40 => absurd h_40 (by rw [hK]; exact nI_ge hk (by omega))) (fun h_40 => ?_)
      refine v_iload_2_1 G dX4_namesMissing_43 ?_
      refine v_bipush (v := nI 6) G dX4_namesMissing_44 (by decide) ?_
      refine v_icmp_ge (tgt := 83) G dX4_namesMissing_46 rfl (fun h_46 => absurd h_46 (nI_ge (by omega) (by decide))) (fun h_46 => ?_)
      refine v_aload_2_0 G dX4_namesMissing_49 ?_
      refine v_aload_2_0 G dX4_namesMissing_50 ?_
      refine v_getR G vc_4 lk_X4_36 (fs_X4_8 (by first | assumption | exact imgP_TB)) dX4_namesMissing_51 ?_
      refine v_iload_2_1 G dX4_namesMissing_54 ?_
      refine v_ialdN G (as_X4_8 (by first | assumption | exact imgP_TB)) (by first | assumption | omega | exact oneB_in (by assumption) | exact wallB_in (by assumption) | exact oneB_m1 (by assumption) | decide) (by first | decide | omega) dX4_namesMissing_55 ?_
      refine v_cV1 G (C_X4_isOne (by first | assumption | omega | exact oneB_in (by assumption) | exact wallB_in (by assumption) | exact oneB_m1 (by assumption) | decide)) (by decide) md_X4_isOne in_X4_isOne (rv_X4 (by first | assumption | exact imgP_TB | exact shP_SB) rfl) ml_X4_64 (Nat.le_of_ble_eq_true rfl) dX4_namesMissing_56 ?_
      refine v_ifB_eq (tgt := 75) G dX4_namesMissing_59 rfl (fun h_59 => ?_) (fun h_59 => ?_)
      · refine v_iconst (v := nI 1) G dX4_namesMissing_75 (by decide) ?_
        exact v_zret G hQ dX4_namesMissing_76 (by first | exact Or.inl rfl | exact Or.inr rfl | exact bI_01 _ | assumption) (vDet.of (by first | (have e : missA σ t k = true := by { simp only [missA, h_40, h_46, h_59, if_true, if_false, Bool.false_eq_true, reduceIte] }; rw [hb, hp, if_pos e, if_pos hk]; rfl) | (rw [hb, hp, Nat.sub_self, fstP, if_neg (Nat.lt_irrefl K)]; rfl)) rfl)
      · refine v_aload_2_0 G dX4_namesMissing_62 ?_
        refine v_aload_2_0 G dX4_namesMissing_63 ?_
        refine v_getR G vc_4 lk_X4_39 (fs_X4_9 (by first | assumption | exact imgP_TB)) dX4_namesMissing_64 ?_
        refine v_iload_2_1 G dX4_namesMissing_67 ?_
        refine v_ialdN G (as_X4_9 (by first | assumption | exact imgP_TB)) (by first | assumption | omega | exact oneB_in (by assumption) | exact wallB_in (by assumption) | exact oneB_m1 (by assumption) | decide) (by first | decide | omega) dX4_namesMissing_68 ?_
        refine v_cV1 G (C_X4_isWall (by first | assumption | omega | exact oneB_in (by assumption) | exact wallB_in (by assumption) | exact oneB_m1 (by assumption) | decide)) (by decide) md_X4_isWall in_X4_isWall (rv_X4 (by first | assumption | exact imgP_TB | exact shP_SB) rfl) ml_X4_68 (Nat.le_of_ble_eq_true rfl) dX4_namesMissing_69 ?_
        refine v_ifB_ne (tgt := 77) G dX4_namesMissing_72 rfl (fun h_72 => ?_) (fun h_72 => ?_)
        · refine v_iincN_2_1 G dX4_namesMissing_77 rfl ?_
          refine v_goto (tgt := 35) G dX4_namesMissing_80 rfl ?_
          refine ih ?_
          rw [hp, if_neg]
          simp only [missA, h_40, h_46, h_59, h_72, if_true, if_false, Bool.false_eq_true, reduceIte, not_false_eq_true]
        · refine v_iconst (v := nI 1) G dX4_namesMissing_75 (by decide) ?_
          exact v_zret G hQ dX4_namesMissing_76 (by first | exact Or.inl rfl | exact Or.inr rfl | exact bI_01 _ | assumption) (vDet.of (by first | (have e : missA σ t k = true := by { simp only [missA, h_40, h_46, h_59, h_72, if_true, if_false, Bool.false_eq_true, reduceIte] }; rw [hb, hp, if_pos e, if_pos hk]; rfl) | (rw [hb, hp, Nat.sub_self, fstP, if_neg (Nat.lt_irrefl K)]; rfl)) rfl)
    · show V x 35 [some (.ref t), some (.int (nI K))] [] σ
      have hp : fstP (missA σ t) K 0 = fstP (missA σ t) (K - K) K := hp
      refine v_iload_2_1 G dX4_namesMissing_35 ?_
      refine v_aload_2_0 G dX4_namesMissing_36 ?_
      refine v_getI G vc_4 lk_X4_55 (fs_X4_12 (by first | assumption | exact imgP_TB)) dX4_namesMissing_37 ?_
      refine v_icmp_ge (tgt := 83) G dX4_namesMissing_40 rfl (fun h_40 => ?_) (fun h_40 => absurd (by rw [hK]; exact nI_le (Nat.le_refl _) (by omega)) h_40)
      refine v_iconst (v := nI 0) G dX4_namesMissing_83 (by decide) ?_
      exact v_zret G hQ dX4_namesMissing_84 (by first | exact Or.inl rfl | exact Or.inr rfl | exact bI_01 _ | assumption) (vDet.of (by first | (have e : missA σ t k = true := by { simp only [missA, h_40, if_true, if_false, Bool.false_eq_true, reduceIte] }; rw [hb, hp, if_pos e, if_pos hk]; rfl) | (rw [hb, hp, Nat.sub_self, fstP, if_neg (Nat.lt_irrefl K)]; rfl)) rfl)
