/-! The model: plans tried, walls filled, kinds taken -/
def pgW (σ : vW) (n : Nat) (lo : Int32) : Nat → vW
  | 0 => vset (vset (cpW σ 0 260) 75 22 (nI 0)) 75 23 (-4)
  | k + 1 => if nI k = lo then pgW σ n lo k else
    if mCan ((pgW σ n lo k) 76) n 260 (σ 76 (53 + k)).toNatClampNeg (σ 76 (59 + k)) = true then vset (mHgW (pgW σ n lo k) n 260 (σ 76 (53 + k)).toNatClampNeg (σ 76 (59 + k))) 75 22 ((pgW σ n lo k) 75 22 + nI 1)
    else vset (mHgW (pgW σ n lo k) n 260 (σ 76 (53 + k)).toNatClampNeg (σ 76 (59 + k))) 75 23 (if (pgW σ n lo k) 75 23 = -4 then nI k else (pgW σ n lo k) 75 23)
/-- whose doors the plan has -/
def plOK (σ : vW) (K : Nat) : Prop := σ 76 52 = nI K ∧ K ≤ 6 ∧ ∀ k, k < K → ∃ p, p < 5 ∧ σ 76 (53 + k) = nI p
theorem pgW_scr {s σ : vW} {n K : Nat} {lo : Int32} (hs : scr s σ) (hP : plOK s K) : ∀ k, k ≤ K → scr (pgW s n lo k) σ
  | 0, _ => scr_fld (scr_fld (scr_cp hs) (Or.inl rfl)) (Or.inr rfl)
  | k + 1, hk => by
    obtain ⟨p, hp, e⟩ := hP.2.2 k (by omega)
    have ih := pgW_scr (n := n) (lo := lo) hs hP k (by omega)
    have hc : (nI p).toNatClampNeg = p := nI_clamp (by omega)
    unfold pgW
    rw [e, hc]
    split
    · exact ih
    · split
      · exact scr_fld (scr_hg ih hp) (Or.inl rfl)
      · exact scr_fld (scr_hg ih hp) (Or.inr rfl)
theorem pgW_ok {σ : vW} {n m K : Nat} {lo : Int32} (h : pOK σ n m 0) (hP : plOK σ K) : ∀ k, k ≤ K → pOK (pgW σ n lo k) n m 260
  | 0, _ => pOK_fld (pOK_fld (pOK_to h (by omega)) (by decide)) (by decide)
  | k + 1, hk => by
    obtain ⟨p, hp, e⟩ := hP.2.2 k (by omega)
    have ih := pgW_ok (lo := lo) h hP k (by omega)
    have hc : (nI p).toNatClampNeg = p := nI_clamp (by omega)
    unfold pgW
    rw [e, hc]
    split
    · exact ih
    · split
      · exact pOK_fld (pOK_hg ih hp (Or.inl rfl)) (by decide)
      · exact pOK_fld (pOK_hg ih hp (Or.inl rfl)) (by decide)
theorem plOK_scr {s σ : vW} {K : Nat} (hs : scr s σ) (h : plOK σ K) : plOK s K := by
  have hK := h.2.1
  refine ⟨by rw [hs.2.2 _ (by omega)]; exact h.1, h.2.1, fun k hk => ?_⟩
  obtain ⟨p, hp, e⟩ := h.2.2 k hk
  exact ⟨p, hp, by rw [hs.2.2 _ (by omega)]; exact e⟩
/-- the same plan goes the same way -/
theorem pgW_row {s σ : vW} {n K : Nat} {lo : Int32} (hs : scr s σ) (hK : K ≤ 6) : ∀ k, k ≤ K → (pgW s n lo k) 76 = (pgW σ n lo k) 76 ∧ (pgW s n lo k) 75 22 = (pgW σ n lo k) 75 22 ∧ (pgW s n lo k) 75 23 = (pgW σ n lo k) 75 23
  | 0, _ => by
    refine ⟨?_, rfl, rfl⟩
    show (vset (vset (cpW s 0 260) 75 22 (nI 0)) 75 23 (-4)) 76 = (vset (vset (cpW σ 0 260) 75 22 (nI 0)) 75 23 (-4)) 76
    rw [vset_ne (by decide), vset_ne (by decide), vset_ne (by decide), vset_ne (by decide), tri_all hs]
  | k + 1, hk => by
    obtain ⟨h1, h2, h3⟩ := pgW_row (n := n) (lo := lo) hs hK k (by omega)
    have e1 : s 76 (53 + k) = σ 76 (53 + k) := hs.2.2 _ (by omega)
    have e2 : s 76 (59 + k) = σ 76 (59 + k) := hs.2.2 _ (by omega)
    unfold pgW
    rw [e1, e2, h1]
    have r := mHgW_row (n := n) (g := 260) (p := (σ 76 (53 + k)).toNatClampNeg) (w := σ 76 (59 + k)) h1
    split
    · exact ⟨h1, h2, h3⟩
    · split
      · refine ⟨by rw [vset_ne (by decide), vset_ne (by decide)]; exact r, by rw [vset_at, vset_at, h2], by rw [vset_oth (by decide), vset_oth (by decide), mHgW_75, mHgW_75]; exact h3⟩
      · refine ⟨by rw [vset_ne (by decide), vset_ne (by decide)]; exact r, by rw [vset_oth (by decide), vset_oth (by decide), mHgW_75, mHgW_75]; exact h2, by rw [vset_at, vset_at, h3]⟩
set_option maxHeartbeats 4000000 in
theorem C_X6_planGoes {σ : vW} {f : Nat → Int32} {n m K : Nat} {lo : Int32} (hp : pOK σ n m 0) (hP : plOK σ K) : Ctr mX6_planGoes 2 [.ref 75, .int lo] (vrow σ 81 f) (vDet none (vrow (pgW σ n lo K) 81 f)) := by
  have hn5 := hp.1.2.1
  have hK6 := hP.2.1
  have hsc := pgW_scr (n := n) (lo := lo) (scr_refl σ) hP
  have hc52 : ∀ k, k ≤ K → (pgW σ n lo k) 76 52 = nI K := fun k hk => ((hsc k hk).2.2 52 (by omega)).trans hP.1
  have hc53 : ∀ k j, k ≤ K → j < 200 → (pgW σ n lo k) 76 j = σ 76 j := fun k j hk hj => (hsc k hk).2.2 j (by omega)
  have hcn : ∀ k, k ≤ K → (pgW σ n lo k) 75 1 = nI n := fun k hk => ((hsc k hk).2.1 1 (by decide) (by decide)).trans hp.1.1
  refine Ctr.intro (by decide) (fun α => Nat.le_of_ble_eq_true rfl) (fun x G hQ => ?_)
  have G : vG x RX6 cX6_planGoes 3 none 2 := G
  show V x 0 [some (.ref 75), some (.int lo), none] [] (vrow σ 81 f)
  refine v_aload_3_0 G dX6_planGoes_0 ?_
  refine v_iconst (v := nI 0) G dX6_planGoes_1 (by decide) ?_
  refine v_sipush (v := nI 260) G dX6_planGoes_2 (by decide) ?_
  refine v_cV2v G (C_X6_copies (a := 0) (b := 260) (by omega) (by omega) (by omega)) (by decide) md_X6_copies in_X6_copies (rv_X6 rfl) ml_X6_220 (Nat.le_of_ble_eq_true rfl) dX6_planGoes_5 ?_
  refine v_aload_3_0 G dX6_planGoes_8 ?_
  refine v_iconst (v := nI 0) G dX6_planGoes_9 (by decide) ?_
  refine m_putI G (by decide) vc_6 vt_6 lk_X6_224 fs_X6_22 (ft_X6_22 _) dX6_planGoes_10 ?_
  refine v_aload_3_0 G dX6_planGoes_13 ?_
  refine v_bipush (v := (-4)) G dX6_planGoes_14 (by decide) ?_
  refine m_putI G (by decide) vc_6 vt_6 lk_X6_227 fs_X6_23 (ft_X6_23 _) dX6_planGoes_16 ?_
  refine v_iconst (v := nI 0) G dX6_planGoes_19 (by decide) ?_
  refine v_istore_3_2 G dX6_planGoes_20 rfl ?_
  refine v_for (pc := 21) (K) (fun k => ([some (.ref 75), some (.int lo), some (.int (nI k))], (vrow (pgW σ n lo k) 81 f))) (fun k hk ih => ?_) ?_
  · show V x 21 [some (.ref 75), some (.int lo), some (.int (nI k))] [] (vrow (pgW σ n lo k) 81 f)
    have ih : V x 21 [some (.ref 75), some (.int lo), some (.int (nI (k + 1)))] [] (vrow (pgW σ n lo (k + 1)) 81 f) := ih
    obtain ⟨p, hp5, ep⟩ := hP.2.2 k hk
    have hc : (nI p).toNatClampNeg = p := nI_clamp (by omega)
    have e49 : (pgW σ n lo k) 76 (53 + k) = nI p := (hc53 k _ (by omega) (by omega)).trans ep
    have e58 : (pgW σ n lo k) 76 (59 + k) = σ 76 (59 + k) := hc53 k _ (by omega) (by omega)
    refine v_iload_3_2 G dX6_planGoes_21 ?_
    refine v_aload_3_0 G dX6_planGoes_22 ?_
    refine v_getR G vc_6 lk_X6_7 (fs_X6_0) dX6_planGoes_23 ?_
    refine v_bipush (v := nI 52) G dX6_planGoes_26 (by decide) ?_
    refine m_ialdN G (by decide) (as_X6_0) (by first | assumption | omega | exact oneB_in (by assumption) | exact wallB_in (by assumption) | exact oneB_m1 (by assumption) | decide) (by decide) dX6_planGoes_28 ?_
    refine v_icmp_ge (tgt := 105) G dX6_planGoes_29 rfl (fun h_29 => absurd h_29 (by rw [hc52 k (by omega)]; exact nI_ge hk (by omega))) (fun h_29 => ?_)
    refine v_iload_3_2 G dX6_planGoes_32 ?_
    refine v_iload_3_1 G dX6_planGoes_33 ?_
    refine v_icmp_eq (tgt := 99) G dX6_planGoes_34 rfl (fun h_34 => ?_) (fun h_34 => ?_)
    · refine v_iincN_3_2 G dX6_planGoes_99 rfl ?_
      refine v_goto (tgt := 21) G dX6_planGoes_102 rfl ?_
      rw [pgW, ep, hc] at ih
      simp only [h_29, h_34, if_true, if_false, Bool.false_eq_true, reduceIte] at ih
      exact ih
    · refine v_aload_3_0 G dX6_planGoes_37 ?_
      refine v_sipush (v := nI 260) G dX6_planGoes_38 (by decide) ?_
      refine v_aload_3_0 G dX6_planGoes_41 ?_
      refine v_getR G vc_6 lk_X6_7 (fs_X6_0) dX6_planGoes_42 ?_
      refine v_bipush (v := nI 53) G dX6_planGoes_45 (by decide) ?_
      refine v_iload_3_2 G dX6_planGoes_47 ?_
      refine v_iaddN G dX6_planGoes_48 ?_
      refine m_ialdN G (by decide) (as_X6_0) (by first | assumption | omega | exact oneB_in (by assumption) | exact wallB_in (by assumption) | exact oneB_m1 (by assumption) | decide) (by decide) dX6_planGoes_49 ?_
      rw [e49]
      refine v_aload_3_0 G dX6_planGoes_50 ?_
      refine v_getR G vc_6 lk_X6_7 (fs_X6_0) dX6_planGoes_51 ?_
      refine v_bipush (v := nI 59) G dX6_planGoes_54 (by decide) ?_
      refine v_iload_3_2 G dX6_planGoes_56 ?_
      refine v_iaddN G dX6_planGoes_57 ?_
      refine m_ialdN G (by decide) (as_X6_0) (by first | assumption | omega | exact oneB_in (by assumption) | exact wallB_in (by assumption) | exact oneB_m1 (by assumption) | decide) (by decide) dX6_planGoes_58 ?_
      rw [e58]
      refine v_cV3 G (C_X6_hangsOn (g := 260) (hcn k (by omega)) hn5 (by omega) hp5) (by decide) md_X6_hangsOn in_X6_hangsOn (rv_X6 rfl) ml_X6_208 (Nat.le_of_ble_eq_true rfl) dX6_planGoes_59 ?_
      refine v_ifB_eq (tgt := 78) G dX6_planGoes_62 rfl (fun h_62 => ?_) (fun h_62 => ?_)
      · refine v_aload_3_0 G dX6_planGoes_78 ?_
        refine v_aload_3_0 G dX6_planGoes_79 ?_
        refine m_getI G (by decide) vc_6 lk_X6_227 fs_X6_23 dX6_planGoes_80 ?_
        rw [mHgW_75]
        refine v_bipush (v := (-4)) G dX6_planGoes_83 (by decide) ?_
        refine v_icmp_ne (tgt := 92) G dX6_planGoes_85 rfl (fun h_85 => ?_) (fun h_85 => ?_)
        · refine v_aload_3_0 G dX6_planGoes_92 ?_
          refine m_getI G (by decide) vc_6 lk_X6_227 fs_X6_23 dX6_planGoes_93 ?_
          rw [mHgW_75]
          refine m_putI G (by decide) vc_6 vt_6 lk_X6_227 fs_X6_23 (ft_X6_23 _) dX6_planGoes_96 ?_
          refine v_iincN_3_2 G dX6_planGoes_99 rfl ?_
          refine v_goto (tgt := 21) G dX6_planGoes_102 rfl ?_
          rw [pgW, ep, hc] at ih
          simp only [h_29, h_34, h_62, h_85, if_true, if_false, Bool.false_eq_true, reduceIte] at ih
          exact ih
        · refine v_iload_3_2 G dX6_planGoes_88 ?_
          refine v_goto (tgt := 96) G dX6_planGoes_89 rfl ?_
          refine m_putI G (by decide) vc_6 vt_6 lk_X6_227 fs_X6_23 (ft_X6_23 _) dX6_planGoes_96 ?_
          refine v_iincN_3_2 G dX6_planGoes_99 rfl ?_
          refine v_goto (tgt := 21) G dX6_planGoes_102 rfl ?_
          rw [pgW, ep, hc] at ih
          simp only [h_29, h_34, h_62, h_85, if_true, if_false, Bool.false_eq_true, reduceIte] at ih
          exact ih
      · refine v_aload_3_0 G dX6_planGoes_65 ?_
        refine v_dup G dX6_planGoes_66 rfl ?_
        refine m_getI G (by decide) vc_6 lk_X6_224 fs_X6_22 dX6_planGoes_67 ?_
        rw [mHgW_75]
        refine v_iconst (v := nI 1) G dX6_planGoes_70 (by decide) ?_
        refine v_iadd G dX6_planGoes_71 ?_
        refine m_putI G (by decide) vc_6 vt_6 lk_X6_224 fs_X6_22 (ft_X6_22 _) dX6_planGoes_72 ?_
        refine v_goto (tgt := 99) G dX6_planGoes_75 rfl ?_
        refine v_iincN_3_2 G dX6_planGoes_99 rfl ?_
        refine v_goto (tgt := 21) G dX6_planGoes_102 rfl ?_
        rw [pgW, ep, hc] at ih
        simp only [h_29, h_34, h_62, if_true, if_false, Bool.false_eq_true, reduceIte] at ih
        exact ih
  · show V x 21 [some (.ref 75), some (.int lo), some (.int (nI K))] [] (vrow (pgW σ n lo K) 81 f)
    refine v_iload_3_2 G dX6_planGoes_21 ?_
    refine v_aload_3_0 G dX6_planGoes_22 ?_
    refine v_getR G vc_6 lk_X6_7 (fs_X6_0) dX6_planGoes_23 ?_
    refine v_bipush (v := nI 52) G dX6_planGoes_26 (by decide) ?_
    refine m_ialdN G (by decide) (as_X6_0) (by first | assumption | omega | exact oneB_in (by assumption) | exact wallB_in (by assumption) | exact oneB_m1 (by assumption) | decide) (by decide) dX6_planGoes_28 ?_
    refine v_icmp_ge (tgt := 105) G dX6_planGoes_29 rfl (fun h_29 => ?_) (fun h_29 => absurd (by rw [hc52 K (by omega)]; exact nI_le (Nat.le_refl _) (by omega)) h_29)
    exact v_vret G hQ dX6_planGoes_105 vDet.mk
theorem pgW_J {σ : vW} {n K : Nat} {lo : Int32} (hP : plOK σ K) : (pgW σ n lo K) 75 20 = σ 75 20 := scr_J (pgW_scr (scr_refl σ) hP K (Nat.le_refl K))
def mRunsR (σ : vW) (n m K : Nat) (k : Int32) : Int32 := if inZ k 4 = true then (if k = 0 then (pgW σ n (-4) K) 75 22 else if k = nI 1 then (pgW σ n (-4) K) 75 23 else if k = nI 2 then mAllG ((pgW σ n (-4) K) 76) n (σ 75 20) 260 m n else mHungG ((pgW σ n (-4) K) 76) 260 n) else -1
set_option maxHeartbeats 4000000 in
theorem C_X6_runs {σ : vW} {f : Nat → Int32} {n m K : Nat} {k : Int32} (hp : pOK σ n m 0) (hP : plOK σ K) : Ctr mX6_runs 5 [.ref 75, .int k] (vrow σ 81 f) (vT (some (.int (mRunsR σ n m K k))) σ) := by
  have hok := pgW_ok (lo := -4) hp hP K (Nat.le_refl K)
  have hsc := pgW_scr (n := n) (lo := -4) (scr_refl σ) hP K (Nat.le_refl K)
  refine Ctr.intro (by decide) (fun α => Nat.le_of_ble_eq_true rfl) (fun x G hQ => ?_)
  have G : vG x RX6 cX6_runs 2 (some .int) 5 := G
  show V x 0 [some (.ref 75), some (.int k)] [] (vrow σ 81 f)
  refine v_iload_2_1 G dX6_runs_0 ?_
  refine v_i2l G dX6_runs_1 ?_
  refine v_lconst (v := lN 0) G dX6_runs_2 (by decide) ?_
  refine v_ldc2 G ct_X6_195 dX6_runs_3 ?_
  refine v_cS3 G (C_inK 4 (by decide)) (by decide) md_X6_in st_X6_in ml_X6_49 (Nat.le_of_ble_eq_true rfl) dX6_runs_6 ?_
  refine v_ifB_ne (tgt := 14) G dX6_runs_9 rfl (fun h_9 => ?_) (fun h_9 => ?_)
  · refine v_aload_2_0 G dX6_runs_14 ?_
    refine v_bipush (v := (-4)) G dX6_runs_15 (by decide) ?_
    refine v_cV1v G (C_X6_planGoes (by first | assumption | omega | exact oneB_in (by assumption) | exact wallB_in (by assumption) | exact oneB_m1 (by assumption) | decide) (by first | assumption | omega | exact oneB_in (by assumption) | exact wallB_in (by assumption) | exact oneB_m1 (by assumption) | decide)) (by decide) md_X6_planGoes in_X6_planGoes (rv_X6 rfl) ml_X6_230 (Nat.le_of_ble_eq_true rfl) dX6_runs_17 ?_
    refine v_iload_2_1 G dX6_runs_20 ?_
    refine v_if_ne (tgt := 31) G dX6_runs_21 rfl (fun h_21 => ?_) (fun h_21 => ?_)
    · refine v_iload_2_1 G dX6_runs_31 ?_
      refine v_iconst (v := nI 1) G dX6_runs_32 (by decide) ?_
      refine v_icmp_ne (tgt := 43) G dX6_runs_33 rfl (fun h_33 => ?_) (fun h_33 => ?_)
      · refine v_iload_2_1 G dX6_runs_43 ?_
        refine v_iconst (v := nI 2) G dX6_runs_44 (by decide) ?_
        refine v_icmp_ne (tgt := 58) G dX6_runs_45 rfl (fun h_45 => ?_) (fun h_45 => ?_)
        · refine v_aload_2_0 G dX6_runs_58 ?_
          refine v_sipush (v := nI 260) G dX6_runs_59 (by decide) ?_
          refine v_cV1 G (C_X6_hungOn (g := 260) hok.1.1 hok.1.2.1 (by omega)) (by decide) md_X6_hungOn in_X6_hungOn (rv_X6 rfl) ml_X6_182 (Nat.le_of_ble_eq_true rfl) dX6_runs_62 ?_
          exact v_iret G hQ dX6_runs_65 (by first | exact vT.of (by first | (simp only [mRunsR, bI, h_9, if_pos h_21, if_true, if_false, Bool.false_eq_true, reduceIte, ite_self] <;> first | done | rfl) | (simp only [mRunsR, bI, h_9, if_neg h_21, if_pos h_33, if_true, if_false, Bool.false_eq_true, reduceIte, ite_self] <;> first | done | rfl) | (simp only [mRunsR, bI, h_9, if_neg h_21, if_neg h_33, if_pos h_45, if_true, if_false, Bool.false_eq_true, reduceIte, ite_self] <;> first | done | rfl) | (simp only [mRunsR, bI, h_9, if_neg h_21, if_neg h_33, if_neg h_45, if_true, if_false, Bool.false_eq_true, reduceIte, ite_self] <;> first | done | rfl))  hsc | exact vT.of (by simp only [mRunsR, h_9, bI, if_false, Bool.false_eq_true]) (scr_refl σ))
        · refine v_aload_2_0 G dX6_runs_48 ?_
          refine v_sipush (v := nI 260) G dX6_runs_49 (by decide) ?_
          refine v_cE1 G (C_X6_allOn (g := 260) hok) (by decide) md_X6_allOn in_X6_allOn (rv_X6 rfl) ml_X6_233 (Nat.le_of_ble_eq_true rfl) dX6_runs_52 (fun f => ?_)
          rw [pgW_J hP]
          refine v_goto (tgt := 65) G dX6_runs_55 rfl ?_
          exact v_iret G hQ dX6_runs_65 (by first | exact vT.of (by first | (simp only [mRunsR, bI, h_9, if_pos h_21, if_true, if_false, Bool.false_eq_true, reduceIte, ite_self] <;> first | done | rfl) | (simp only [mRunsR, bI, h_9, if_neg h_21, if_pos h_33, if_true, if_false, Bool.false_eq_true, reduceIte, ite_self] <;> first | done | rfl) | (simp only [mRunsR, bI, h_9, if_neg h_21, if_neg h_33, if_pos h_45, if_true, if_false, Bool.false_eq_true, reduceIte, ite_self] <;> first | done | rfl) | (simp only [mRunsR, bI, h_9, if_neg h_21, if_neg h_33, if_neg h_45, if_true, if_false, Bool.false_eq_true, reduceIte, ite_self] <;> first | done | rfl))  hsc | exact vT.of (by simp only [mRunsR, h_9, bI, if_false, Bool.false_eq_true]) (scr_refl σ))
      · refine v_aload_2_0 G dX6_runs_36 ?_
        refine m_getI G (by decide) vc_6 lk_X6_227 fs_X6_23 dX6_runs_37 ?_
        refine v_goto (tgt := 65) G dX6_runs_40 rfl ?_
        exact v_iret G hQ dX6_runs_65 (by first | exact vT.of (by first | (simp only [mRunsR, bI, h_9, if_pos h_21, if_true, if_false, Bool.false_eq_true, reduceIte, ite_self] <;> first | done | rfl) | (simp only [mRunsR, bI, h_9, if_neg h_21, if_pos h_33, if_true, if_false, Bool.false_eq_true, reduceIte, ite_self] <;> first | done | rfl) | (simp only [mRunsR, bI, h_9, if_neg h_21, if_neg h_33, if_pos h_45, if_true, if_false, Bool.false_eq_true, reduceIte, ite_self] <;> first | done | rfl) | (simp only [mRunsR, bI, h_9, if_neg h_21, if_neg h_33, if_neg h_45, if_true, if_false, Bool.false_eq_true, reduceIte, ite_self] <;> first | done | rfl))  hsc | exact vT.of (by simp only [mRunsR, h_9, bI, if_false, Bool.false_eq_true]) (scr_refl σ))
    · refine v_aload_2_0 G dX6_runs_24 ?_
      refine m_getI G (by decide) vc_6 lk_X6_224 fs_X6_22 dX6_runs_25 ?_
      refine v_goto (tgt := 65) G dX6_runs_28 rfl ?_
      exact v_iret G hQ dX6_runs_65 (by first | exact vT.of (by first | (simp only [mRunsR, bI, h_9, if_pos h_21, if_true, if_false, Bool.false_eq_true, reduceIte, ite_self] <;> first | done | rfl) | (simp only [mRunsR, bI, h_9, if_neg h_21, if_pos h_33, if_true, if_false, Bool.false_eq_true, reduceIte, ite_self] <;> first | done | rfl) | (simp only [mRunsR, bI, h_9, if_neg h_21, if_neg h_33, if_pos h_45, if_true, if_false, Bool.false_eq_true, reduceIte, ite_self] <;> first | done | rfl) | (simp only [mRunsR, bI, h_9, if_neg h_21, if_neg h_33, if_neg h_45, if_true, if_false, Bool.false_eq_true, reduceIte, ite_self] <;> first | done | rfl))  hsc | exact vT.of (by simp only [mRunsR, h_9, bI, if_false, Bool.false_eq_true]) (scr_refl σ))
  · refine v_iconst (v := (-1)) G dX6_runs_12 (by decide) ?_
    exact v_iret G hQ dX6_runs_13 (by first | exact vT.of (by first | (simp only [mRunsR, bI, h_9, if_pos h_21, if_true, if_false, Bool.false_eq_true, reduceIte, ite_self] <;> first | done | rfl) | (simp only [mRunsR, bI, h_9, if_neg h_21, if_pos h_33, if_true, if_false, Bool.false_eq_true, reduceIte, ite_self] <;> first | done | rfl) | (simp only [mRunsR, bI, h_9, if_neg h_21, if_neg h_33, if_pos h_45, if_true, if_false, Bool.false_eq_true, reduceIte, ite_self] <;> first | done | rfl) | (simp only [mRunsR, bI, h_9, if_neg h_21, if_neg h_33, if_neg h_45, if_true, if_false, Bool.false_eq_true, reduceIte, ite_self] <;> first | done | rfl))  hsc | exact vT.of (by simp only [mRunsR, h_9, bI, if_false, Bool.false_eq_true]) (scr_refl σ))
set_option maxHeartbeats 4000000 in
theorem C_X6_ahead {σ : vW} {f : Nat → Int32} {n m K : Nat} {a : Int32} (hp : pOK σ n m 0) (hP : plOK σ K) : Ctr mX6_ahead 4 [.ref 75, .int a] (vrow σ 81 f) (vT (some (.int (if inZ a n = true then mReachQ ((pgW σ n (-4) K) 76) n (σ 75 20) 260 m a.toNatClampNeg else -1))) σ) := by
  have hn := hp.1.1
  have hn5 := hp.1.2.1
  have hok := pgW_ok (lo := -4) hp hP K (Nat.le_refl K)
  have hsc := pgW_scr (n := n) (lo := -4) (scr_refl σ) hP K (Nat.le_refl K)
  refine Ctr.intro (by decide) (fun α => Nat.le_of_ble_eq_true rfl) (fun x G hQ => ?_)
  have G : vG x RX6 cX6_ahead 2 (some .int) 4 := G
  show V x 0 [some (.ref 75), some (.int a)] [] (vrow σ 81 f)
  refine v_aload_2_0 G dX6_ahead_0 ?_
  refine v_iload_2_1 G dX6_ahead_1 ?_
  refine v_cV1 G (C_X6_isOne (by first | assumption | omega | exact oneB_in (by assumption) | exact wallB_in (by assumption) | exact oneB_m1 (by assumption) | decide) (by first | assumption | omega | exact oneB_in (by assumption) | exact wallB_in (by assumption) | exact oneB_m1 (by assumption) | decide)) (by decide) md_X6_isOne in_X6_isOne (rv_X6 rfl) ml_X6_185 (Nat.le_of_ble_eq_true rfl) dX6_ahead_2 ?_
  refine v_ifB_ne (tgt := 10) G dX6_ahead_5 rfl (fun h_5 => ?_) (fun h_5 => ?_)
  · obtain ⟨p0, hp0, rfl⟩ := inZ_ex h_5 (by omega)
    have cp0 : (nI p0).toNatClampNeg = p0 := nI_clamp (by omega)
    refine v_aload_2_0 G dX6_ahead_10 ?_
    refine v_bipush (v := (-4)) G dX6_ahead_11 (by decide) ?_
    refine v_cV1v G (C_X6_planGoes (by first | assumption | omega | exact oneB_in (by assumption) | exact wallB_in (by assumption) | exact oneB_m1 (by assumption) | decide) (by first | assumption | omega | exact oneB_in (by assumption) | exact wallB_in (by assumption) | exact oneB_m1 (by assumption) | decide)) (by decide) md_X6_planGoes in_X6_planGoes (rv_X6 rfl) ml_X6_230 (Nat.le_of_ble_eq_true rfl) dX6_ahead_13 ?_
    refine v_aload_2_0 G dX6_ahead_16 ?_
    refine v_sipush (v := nI 260) G dX6_ahead_17 (by decide) ?_
    refine v_iload_2_1 G dX6_ahead_20 ?_
    refine v_cX2 G (C_X6_reachesOn (g := 260) hok (by omega)) (by decide) md_X6_reachesOn in_X6_reachesOn (rv_X6 rfl) ml_X6_169 (Nat.le_of_ble_eq_true rfl) dX6_ahead_21 (fun f hf => ?_)
    rw [pgW_J hP]
    exact v_iret G hQ dX6_ahead_24 (vT.of (by simp only [h_5, cp0, bI, h_5, cp0, if_true, if_false, Bool.false_eq_true, reduceIte] <;> try rfl) (by first | assumption | exact scr_refl σ))
  · refine v_iconst (v := (-1)) G dX6_ahead_8 (by decide) ?_
    exact v_iret G hQ dX6_ahead_9 (vT.of (by simp only [h_5, bI, h_5, if_true, if_false, Bool.false_eq_true, reduceIte] <;> try rfl) (by first | assumption | exact scr_refl σ))
def lvA (σ : vW) (n m K : Nat) (lo : Int32) : Int32 := mAllG ((pgW σ n lo K) 76) n (σ 75 20) 260 m n
def lvG (σ : vW) (n m K : Nat) : Nat → Int32 × Int32
  | 0 => (lvA σ n m K (-4), -4)
  | i + 1 => if lvA σ n m K (nI i) ≤ (lvG σ n m K i).1 then lvG σ n m K i else (lvA σ n m K (nI i), nI i)
def mLeaveR (σ : vW) (n m K : Nat) (k : Int32) : Int32 := if inZ k 2 = true then lstR (lvG σ n m K K) k else -1
set_option maxHeartbeats 4000000 in
theorem C_X6_leave {σ : vW} {f : Nat → Int32} {n m K : Nat} {k : Int32} (hp : pOK σ n m 0) (hP : plOK σ K) : Ctr mX6_leave 5 [.ref 75, .int k] (vrow σ 81 f) (vT (some (.int (mLeaveR σ n m K k))) σ) := by
  have hok := pgW_ok (lo := -4) hp hP K (Nat.le_refl K)
  have hsc := pgW_scr (n := n) (lo := -4) (scr_refl σ) hP K (Nat.le_refl K)
  have hK6 := hP.2.1
  have hKs : ∀ s, scr s σ → s 76 52 = nI K := fun s h => (h.2.2 52 (by omega)).trans hP.1
  have hps : ∀ s, scr s σ → pOK s n m 0 := fun s h => pOK_scr h hp (by omega)
  have hPs : ∀ s, scr s σ → plOK s K := fun s h => plOK_scr h hP
  have hrow : ∀ s lo, scr s σ → mAllG ((pgW s n lo K) 76) n ((pgW s n lo K) 75 20) 260 m n = lvA σ n m K lo := fun s lo h => by rw [lvA, (pgW_row h hK6 K (Nat.le_refl K)).1, pgW_J (hPs s h), scr_J h]
  refine Ctr.intro (by decide) (fun α => Nat.le_of_ble_eq_true rfl) (fun x G hQ => ?_)
  have G : vG x RX6 cX6_leave 6 (some .int) 5 := G
  show V x 0 [some (.ref 75), some (.int k), none, none, none, none] [] (vrow σ 81 f)
  refine v_iload_6_1 G dX6_leave_0 ?_
  refine v_i2l G dX6_leave_1 ?_
  refine v_lconst (v := lN 0) G dX6_leave_2 (by decide) ?_
  refine v_lconst (v := lN 1) G dX6_leave_3 (by decide) ?_
  refine v_cS3 G (C_inK 2 (by decide)) (by decide) md_X6_in st_X6_in ml_X6_49 (Nat.le_of_ble_eq_true rfl) dX6_leave_4 ?_
  refine v_ifB_ne (tgt := 12) G dX6_leave_7 rfl (fun h_7 => ?_) (fun h_7 => ?_)
  · refine v_aload_6_0 G dX6_leave_12 ?_
    refine v_bipush (v := (-4)) G dX6_leave_13 (by decide) ?_
    refine v_cV1v G (C_X6_planGoes (by first | assumption | omega | exact oneB_in (by assumption) | exact wallB_in (by assumption) | exact oneB_m1 (by assumption) | decide) (by first | assumption | omega | exact oneB_in (by assumption) | exact wallB_in (by assumption) | exact oneB_m1 (by assumption) | decide)) (by decide) md_X6_planGoes in_X6_planGoes (rv_X6 rfl) ml_X6_230 (Nat.le_of_ble_eq_true rfl) dX6_leave_15 ?_
    refine v_aload_6_0 G dX6_leave_18 ?_
    refine v_sipush (v := nI 260) G dX6_leave_19 (by decide) ?_
    refine v_cE1 G (C_X6_allOn (g := 260) hok) (by decide) md_X6_allOn in_X6_allOn (rv_X6 rfl) ml_X6_233 (Nat.le_of_ble_eq_true rfl) dX6_leave_22 (fun f => ?_)
    rw [hrow σ (-4) (scr_refl σ)]
    refine v_istore_6_2 G dX6_leave_25 rfl ?_
    refine v_bipush (v := (-4)) G dX6_leave_26 (by decide) ?_
    refine v_istore_6_3 G dX6_leave_28 rfl ?_
    refine v_iconst (v := nI 0) G dX6_leave_29 (by decide) ?_
    refine v_istore_6_4 G dX6_leave_30 rfl ?_
    refine v_forT (σ := σ) (pc := 32) (K) (fun i => [some (.ref 75), some (.int k), some (.int (lvG σ n m K i).1), some (.int (lvG σ n m K i).2), some (.int (nI i)), none]) (fun i hi ih s f hs => ?_) (fun s f hs => ?_) _ _ hsc
    · show V x 32 [some (.ref 75), some (.int k), some (.int (lvG σ n m K i).1), some (.int (lvG σ n m K i).2), some (.int (nI i)), none] [] (vrow s 81 f)
      have ih : ∀ s f, scr s σ → V x 32 [some (.ref 75), some (.int k), some (.int (lvG σ n m K (i + 1)).1), some (.int (lvG σ n m K (i + 1)).2), some (.int (nI (i + 1))), none] [] (vrow s 81 f) := ih
      refine v_iload_6_4 G dX6_leave_32 ?_
      refine v_aload_6_0 G dX6_leave_34 ?_
      refine v_getR G vc_6 lk_X6_7 (fs_X6_0) dX6_leave_35 ?_
      refine v_bipush (v := nI 52) G dX6_leave_38 (by decide) ?_
      refine m_ialdN G (by decide) (as_X6_0) (by first | assumption | omega | exact oneB_in (by assumption) | exact wallB_in (by assumption) | exact oneB_m1 (by assumption) | decide) (by decide) dX6_leave_40 ?_
      refine v_icmp_ge (tgt := 91) G dX6_leave_41 rfl (fun h_41 => absurd h_41 (by rw [(hKs s hs)]; exact nI_ge hi (by omega))) (fun h_41 => ?_)
      refine v_aload_6_0 G dX6_leave_44 ?_
      refine v_iload_6_4 G dX6_leave_45 ?_
      refine v_cV1v G (C_X6_planGoes (hps s hs) (hPs s hs)) (by decide) md_X6_planGoes in_X6_planGoes (rv_X6 rfl) ml_X6_230 (Nat.le_of_ble_eq_true rfl) dX6_leave_47 ?_
      refine v_aload_6_0 G dX6_leave_50 ?_
      refine v_sipush (v := nI 260) G dX6_leave_51 (by decide) ?_
      refine v_cE1 G (C_X6_allOn (g := 260) (pgW_ok (hps s hs) (hPs s hs) K (Nat.le_refl K))) (by decide) md_X6_allOn in_X6_allOn (rv_X6 rfl) ml_X6_233 (Nat.le_of_ble_eq_true rfl) dX6_leave_54 (fun f => ?_)
      rw [hrow s _ hs]
      refine v_istore_6_5 G dX6_leave_57 rfl ?_
      refine v_iload_6_5 G dX6_leave_59 ?_
      refine v_iload_6_2 G dX6_leave_61 ?_
      refine v_icmp_le (tgt := 70) G dX6_leave_62 rfl (fun h_62 => ?_) (fun h_62 => ?_)
      · refine v_iload_6_3 G dX6_leave_70 ?_
        refine v_istore_6_3 G dX6_leave_71 rfl ?_
        refine v_iload_6_5 G dX6_leave_72 ?_
        refine v_iload_6_2 G dX6_leave_74 ?_
        refine v_icmp_le (tgt := 83) G dX6_leave_75 rfl (fun h_75 => ?_) (fun h_75 => ?_)
        · refine v_iload_6_2 G dX6_leave_83 ?_
          refine v_istore_6_2 G dX6_leave_84 rfl ?_
          refine v_iincN_6_4 G dX6_leave_85 rfl ?_
          refine v_goto (tgt := 32) G dX6_leave_88 rfl ?_
          first
            | contradiction
            | (rw [lvG] at ih; simp only [h_41, h_62, h_75, if_true, if_false, reduceIte] at ih; exact V.drop (by simp only [vsubP, and_self]) (ih _ _ (pgW_scr hs (hPs s hs) K (Nat.le_refl K))))
        · refine v_iload_6_5 G dX6_leave_78 ?_
          refine v_goto (tgt := 84) G dX6_leave_80 rfl ?_
          refine v_istore_6_2 G dX6_leave_84 rfl ?_
          refine v_iincN_6_4 G dX6_leave_85 rfl ?_
          refine v_goto (tgt := 32) G dX6_leave_88 rfl ?_
          first
            | contradiction
            | (rw [lvG] at ih; simp only [h_41, h_62, h_75, if_true, if_false, reduceIte] at ih; exact V.drop (by simp only [vsubP, and_self]) (ih _ _ (pgW_scr hs (hPs s hs) K (Nat.le_refl K))))
      · refine v_iload_6_4 G dX6_leave_65 ?_
        refine v_goto (tgt := 71) G dX6_leave_67 rfl ?_
        refine v_istore_6_3 G dX6_leave_71 rfl ?_
        refine v_iload_6_5 G dX6_leave_72 ?_
        refine v_iload_6_2 G dX6_leave_74 ?_
        refine v_icmp_le (tgt := 83) G dX6_leave_75 rfl (fun h_75 => ?_) (fun h_75 => ?_)
        · refine v_iload_6_2 G dX6_leave_83 ?_
          refine v_istore_6_2 G dX6_leave_84 rfl ?_
          refine v_iincN_6_4 G dX6_leave_85 rfl ?_
          refine v_goto (tgt := 32) G dX6_leave_88 rfl ?_
          first
            | contradiction
            | (rw [lvG] at ih; simp only [h_41, h_62, h_75, if_true, if_false, reduceIte] at ih; exact V.drop (by simp only [vsubP, and_self]) (ih _ _ (pgW_scr hs (hPs s hs) K (Nat.le_refl K))))
        · refine v_iload_6_5 G dX6_leave_78 ?_
          refine v_goto (tgt := 84) G dX6_leave_80 rfl ?_
          refine v_istore_6_2 G dX6_leave_84 rfl ?_
          refine v_iincN_6_4 G dX6_leave_85 rfl ?_
          refine v_goto (tgt := 32) G dX6_leave_88 rfl ?_
          first
            | contradiction
            | (rw [lvG] at ih; simp only [h_41, h_62, h_75, if_true, if_false, reduceIte] at ih; exact V.drop (by simp only [vsubP, and_self]) (ih _ _ (pgW_scr hs (hPs s hs) K (Nat.le_refl K))))
    · show V x 32 [some (.ref 75), some (.int k), some (.int (lvG σ n m K K).1), some (.int (lvG σ n m K K).2), some (.int (nI K)), none] [] (vrow s 81 f)
      refine v_iload_6_4 G dX6_leave_32 ?_
      refine v_aload_6_0 G dX6_leave_34 ?_
      refine v_getR G vc_6 lk_X6_7 (fs_X6_0) dX6_leave_35 ?_
      refine v_bipush (v := nI 52) G dX6_leave_38 (by decide) ?_
      refine m_ialdN G (by decide) (as_X6_0) (by first | assumption | omega | exact oneB_in (by assumption) | exact wallB_in (by assumption) | exact oneB_m1 (by assumption) | decide) (by decide) dX6_leave_40 ?_
      refine v_icmp_ge (tgt := 91) G dX6_leave_41 rfl (fun h_41 => ?_) (fun h_41 => absurd (by rw [(hKs s hs)]; exact nI_le (Nat.le_refl _) (by omega)) h_41)
      refine v_iload_6_3 G dX6_leave_91 ?_
      refine v_bipush (v := (-4)) G dX6_leave_92 (by decide) ?_
      refine v_icmp_eq (tgt := 101) G dX6_leave_94 rfl (fun h_94 => ?_) (fun h_94 => ?_)
      · refine v_iload_6_3 G dX6_leave_101 ?_
        refine v_goto (tgt := 106) G dX6_leave_102 rfl ?_
        exact v_iret G hQ dX6_leave_106 (vT.of (by simp only [mLeaveR, lstR, h_7, bI, h_41, h_94, if_true, if_false, Bool.false_eq_true, reduceIte] <;> try rfl) hs)
      · refine v_iload_6_1 G dX6_leave_97 ?_
        refine v_if_ne (tgt := 105) G dX6_leave_98 rfl (fun h_98 => ?_) (fun h_98 => ?_)
        · refine v_iload_6_2 G dX6_leave_105 ?_
          exact v_iret G hQ dX6_leave_106 (vT.of (by simp only [mLeaveR, lstR, h_7, bI, h_41, h_94, h_98, if_true, if_false, Bool.false_eq_true, reduceIte] <;> try rfl) hs)
        · refine v_iload_6_3 G dX6_leave_101 ?_
          refine v_goto (tgt := 106) G dX6_leave_102 rfl ?_
          exact v_iret G hQ dX6_leave_106 (vT.of (by simp only [mLeaveR, lstR, h_7, bI, h_41, h_94, h_98, if_true, if_false, Bool.false_eq_true, reduceIte] <;> try rfl) hs)
  · refine v_iconst (v := (-1)) G dX6_leave_10 (by decide) ?_
    exact v_iret G hQ dX6_leave_11 (vT.of (by simp only [mLeaveR, bI, h_7, if_true, if_false, Bool.false_eq_true, reduceIte] <;> try rfl) (scr_refl σ))
def kyW (σ : vW) (p : Nat) : Nat → vW
  | 0 => cpW σ 0 260
  | i + 1 => vset (kyW σ p i) 76 (260 + p) (nI i)
theorem kyW_scr {σ : vW} {p : Nat} (hp : p < 5) : ∀ k, scr (kyW σ p k) σ
  | 0 => scr_cp (scr_refl σ)
  | k + 1 => scr_cell (kyW_scr hp k) (by omega) (by omega)
theorem kyW_ok {σ : vW} {n m p : Nat} (h : pOK σ n m 0) (hp : p < 5) : ∀ k, pOK (kyW σ p k) n m 260
  | 0 => pOK_to h (by omega)
  | k + 1 => pOK_set (kyW_ok h hp k) (by omega) (by omega)
def kyA (σ : vW) (n m p i : Nat) : Int32 := mAllG ((kyW σ p (i + 1)) 76) n (σ 75 20) 260 m n
def kyG (σ : vW) (n m p : Nat) : Nat → Int32 × Int32
  | 0 => (-1, nI 0)
  | i + 1 => if kyA σ n m p i ≤ (kyG σ n m p i).1 then kyG σ n m p i else (kyA σ n m p i, nI i)
def mKindlyR (σ : vW) (n m : Nat) (a k : Int32) : Int32 := if inZ a n = true then (if inZ k 2 = true then (if k = 0 then (kyG σ n m a.toNatClampNeg 4).2 else (kyG σ n m a.toNatClampNeg 4).1) else -1) else -1
set_option maxHeartbeats 4000000 in
theorem C_X6_kindly {σ : vW} {f : Nat → Int32} {n m : Nat} {a k : Int32} (hp : pOK σ n m 0) : Ctr mX6_kindly 5 [.ref 75, .int a, .int k] (vrow σ 81 f) (vT (some (.int (mKindlyR σ n m a k))) σ) := by
  have hn := hp.1.1
  have hn5 := hp.1.2.1
  refine Ctr.intro (by decide) (fun α => Nat.le_of_ble_eq_true rfl) (fun x G hQ => ?_)
  have G : vG x RX6 cX6_kindly 7 (some .int) 5 := G
  show V x 0 [some (.ref 75), some (.int a), some (.int k), none, none, none, none] [] (vrow σ 81 f)
  refine v_aload_7_0 G dX6_kindly_0 ?_
  refine v_iload_7_1 G dX6_kindly_1 ?_
  refine v_cV1 G (C_X6_isOne (by first | assumption | omega | exact oneB_in (by assumption) | exact wallB_in (by assumption) | exact oneB_m1 (by assumption) | decide) (by first | assumption | omega | exact oneB_in (by assumption) | exact wallB_in (by assumption) | exact oneB_m1 (by assumption) | decide)) (by decide) md_X6_isOne in_X6_isOne (rv_X6 rfl) ml_X6_185 (Nat.le_of_ble_eq_true rfl) dX6_kindly_2 ?_
  refine v_ifB_eq (tgt := 18) G dX6_kindly_5 rfl (fun h_5 => ?_) (fun h_5 => ?_)
  · refine v_iconst (v := (-1)) G dX6_kindly_18 (by decide) ?_
    exact v_iret G hQ dX6_kindly_19 (vT.of (by simp only [mKindlyR, bI, h_5, if_true, if_false, Bool.false_eq_true, reduceIte] <;> try rfl) (scr_refl σ))
  · obtain ⟨p0, hp0, rfl⟩ := inZ_ex h_5 (by omega)
    have cp0 : (nI p0).toNatClampNeg = p0 := nI_clamp (by omega)
    refine v_iload_7_2 G dX6_kindly_8 ?_
    refine v_i2l G dX6_kindly_9 ?_
    refine v_lconst (v := lN 0) G dX6_kindly_10 (by decide) ?_
    refine v_lconst (v := lN 1) G dX6_kindly_11 (by decide) ?_
    refine v_cS3 G (C_inK 2 (by decide)) (by decide) md_X6_in st_X6_in ml_X6_49 (Nat.le_of_ble_eq_true rfl) dX6_kindly_12 ?_
    refine v_ifB_ne (tgt := 20) G dX6_kindly_15 rfl (fun h_15 => ?_) (fun h_15 => ?_)
    · refine v_iconst (v := (-1)) G dX6_kindly_20 (by decide) ?_
      refine v_istore_7_3 G dX6_kindly_21 rfl ?_
      refine v_iconst (v := nI 0) G dX6_kindly_22 (by decide) ?_
      refine v_istore_7_4 G dX6_kindly_23 rfl ?_
      refine v_aload_7_0 G dX6_kindly_25 ?_
      refine v_iconst (v := nI 0) G dX6_kindly_26 (by decide) ?_
      refine v_sipush (v := nI 260) G dX6_kindly_27 (by decide) ?_
      refine v_cV2v G (C_X6_copies (a := 0) (b := 260) (by omega) (by omega) (by omega)) (by decide) md_X6_copies in_X6_copies (rv_X6 rfl) ml_X6_220 (Nat.le_of_ble_eq_true rfl) dX6_kindly_30 ?_
      refine v_iconst (v := nI 0) G dX6_kindly_33 (by decide) ?_
      refine v_istore_7_5 G dX6_kindly_34 rfl ?_
      refine v_forF (pc := 36) (4) (fun i => ([some (.ref 75), some (.int (nI p0)), some (.int k), some (.int (kyG σ n m p0 i).1), some (.int (kyG σ n m p0 i).2), some (.int (nI i)), none], kyW σ p0 i)) (fun i hi ih f => ?_) (fun f => ?_) f
      · show V x 36 [some (.ref 75), some (.int (nI p0)), some (.int k), some (.int (kyG σ n m p0 i).1), some (.int (kyG σ n m p0 i).2), some (.int (nI i)), none] [] (vrow (kyW σ p0 i) 81 f)
        have ih : ∀ f, V x 36 [some (.ref 75), some (.int (nI p0)), some (.int k), some (.int (kyG σ n m p0 (i + 1)).1), some (.int (kyG σ n m p0 (i + 1)).2), some (.int (nI (i + 1))), none] [] (vrow (kyW σ p0 (i + 1)) 81 f) := ih
        refine v_iload_7_5 G dX6_kindly_36 ?_
        refine v_iconst (v := nI 4) G dX6_kindly_38 (by decide) ?_
        refine v_icmp_ge (tgt := 97) G dX6_kindly_39 rfl (fun h_39 => absurd h_39 (by exact nI_ge hi (by omega))) (fun h_39 => ?_)
        refine v_aload_7_0 G dX6_kindly_42 ?_
        refine v_getR G vc_6 lk_X6_7 (fs_X6_0) dX6_kindly_43 ?_
        refine v_sipush (v := nI 260) G dX6_kindly_46 (by decide) ?_
        refine v_iload_7_1 G dX6_kindly_49 ?_
        refine v_iaddN G dX6_kindly_50 ?_
        refine v_iload_7_5 G dX6_kindly_51 ?_
        refine m_iastN G (by decide) (as_X6_0) (by first | assumption | omega | exact oneB_in (by assumption) | exact wallB_in (by assumption) | exact oneB_m1 (by assumption) | decide) (by decide) dX6_kindly_53 ?_
        rw [show vset (kyW σ p0 i) 76 (260 + p0) (nI i) = kyW σ p0 (i + 1) from rfl]
        refine v_aload_7_0 G dX6_kindly_54 ?_
        refine v_sipush (v := nI 260) G dX6_kindly_55 (by decide) ?_
        refine v_cE1 G (C_X6_allOn (g := 260) (kyW_ok hp (by omega) (i + 1))) (by decide) md_X6_allOn in_X6_allOn (rv_X6 rfl) ml_X6_233 (Nat.le_of_ble_eq_true rfl) dX6_kindly_58 (fun f => ?_)
        rw [scr_J (kyW_scr (by omega) (i + 1)), show mAllG ((kyW σ p0 (i + 1)) 76) n (σ 75 20) 260 m n = kyA σ n m p0 i from rfl]
        refine v_istore_7_6 G dX6_kindly_61 rfl ?_
        refine v_iload_7_6 G dX6_kindly_63 ?_
        refine v_iload_7_3 G dX6_kindly_65 ?_
        refine v_icmp_le (tgt := 74) G dX6_kindly_66 rfl (fun h_66 => ?_) (fun h_66 => ?_)
        · refine v_iload_7_4 G dX6_kindly_74 ?_
          refine v_istore_7_4 G dX6_kindly_76 rfl ?_
          refine v_iload_7_6 G dX6_kindly_78 ?_
          refine v_iload_7_3 G dX6_kindly_80 ?_
          refine v_icmp_le (tgt := 89) G dX6_kindly_81 rfl (fun h_81 => ?_) (fun h_81 => ?_)
          · refine v_iload_7_3 G dX6_kindly_89 ?_
            refine v_istore_7_3 G dX6_kindly_90 rfl ?_
            refine v_iincN_7_5 G dX6_kindly_91 rfl ?_
            refine v_goto (tgt := 36) G dX6_kindly_94 rfl ?_
            first
              | contradiction
              | (rw [kyG] at ih; simp only [h_39, h_66, h_81, if_true, if_false, reduceIte] at ih; exact V.drop (by simp only [vsubP, and_self]) (ih _))
          · refine v_iload_7_6 G dX6_kindly_84 ?_
            refine v_goto (tgt := 90) G dX6_kindly_86 rfl ?_
            refine v_istore_7_3 G dX6_kindly_90 rfl ?_
            refine v_iincN_7_5 G dX6_kindly_91 rfl ?_
            refine v_goto (tgt := 36) G dX6_kindly_94 rfl ?_
            first
              | contradiction
              | (rw [kyG] at ih; simp only [h_39, h_66, h_81, if_true, if_false, reduceIte] at ih; exact V.drop (by simp only [vsubP, and_self]) (ih _))
        · refine v_iload_7_5 G dX6_kindly_69 ?_
          refine v_goto (tgt := 76) G dX6_kindly_71 rfl ?_
          refine v_istore_7_4 G dX6_kindly_76 rfl ?_
          refine v_iload_7_6 G dX6_kindly_78 ?_
          refine v_iload_7_3 G dX6_kindly_80 ?_
          refine v_icmp_le (tgt := 89) G dX6_kindly_81 rfl (fun h_81 => ?_) (fun h_81 => ?_)
          · refine v_iload_7_3 G dX6_kindly_89 ?_
            refine v_istore_7_3 G dX6_kindly_90 rfl ?_
            refine v_iincN_7_5 G dX6_kindly_91 rfl ?_
            refine v_goto (tgt := 36) G dX6_kindly_94 rfl ?_
            first
              | contradiction
              | (rw [kyG] at ih; simp only [h_39, h_66, h_81, if_true, if_false, reduceIte] at ih; exact V.drop (by simp only [vsubP, and_self]) (ih _))
          · refine v_iload_7_6 G dX6_kindly_84 ?_
            refine v_goto (tgt := 90) G dX6_kindly_86 rfl ?_
            refine v_istore_7_3 G dX6_kindly_90 rfl ?_
            refine v_iincN_7_5 G dX6_kindly_91 rfl ?_
            refine v_goto (tgt := 36) G dX6_kindly_94 rfl ?_
            first
              | contradiction
              | (rw [kyG] at ih; simp only [h_39, h_66, h_81, if_true, if_false, reduceIte] at ih; exact V.drop (by simp only [vsubP, and_self]) (ih _))
      · show V x 36 [some (.ref 75), some (.int (nI p0)), some (.int k), some (.int (kyG σ n m p0 4).1), some (.int (kyG σ n m p0 4).2), some (.int (nI 4)), none] [] (vrow (kyW σ p0 4) 81 f)
        refine v_iload_7_5 G dX6_kindly_36 ?_
        refine v_iconst (v := nI 4) G dX6_kindly_38 (by decide) ?_
        refine v_icmp_ge (tgt := 97) G dX6_kindly_39 rfl (fun h_39 => ?_) (fun h_39 => absurd (by exact nI_le (Nat.le_refl _) (by omega)) h_39)
        refine v_iload_7_2 G dX6_kindly_97 ?_
        refine v_if_ne (tgt := 106) G dX6_kindly_98 rfl (fun h_98 => ?_) (fun h_98 => ?_)
        · refine v_iload_7_3 G dX6_kindly_106 ?_
          exact v_iret G hQ dX6_kindly_107 (vT.of (by simp only [mKindlyR, h_5, cp0, h_15, bI, h_39, h_98, if_true, if_false, Bool.false_eq_true, reduceIte] <;> try rfl) (kyW_scr (by omega) 4))
        · refine v_iload_7_4 G dX6_kindly_101 ?_
          refine v_goto (tgt := 107) G dX6_kindly_103 rfl ?_
          exact v_iret G hQ dX6_kindly_107 (vT.of (by simp only [mKindlyR, h_5, cp0, h_15, bI, h_39, h_98, if_true, if_false, Bool.false_eq_true, reduceIte] <;> try rfl) (kyW_scr (by omega) 4))
    · refine v_iconst (v := (-1)) G dX6_kindly_18 (by decide) ?_
      exact v_iret G hQ dX6_kindly_19 (vT.of (by simp only [mKindlyR, bI, h_5, cp0, h_15, if_true, if_false, Bool.false_eq_true, reduceIte] <;> try rfl) (scr_refl σ))

def flT (σ : vW) (n w : Nat) : Nat → Int32 := (mFlW (cpW σ 0 260) n 260 (nI w)) 76
theorem flT_scr {s σ : vW} {n w : Nat} (h : scr s σ) : (mFlW (cpW s 0 260) n 260 (nI w)) 76 = flT σ n w := mFlW_row (tri_all h)
theorem flT_J {s σ : vW} {n w : Nat} (h : scr s σ) : (mFlW (cpW s 0 260) n 260 (nI w)) 75 20 = σ 75 20 := by rw [mFlW_75, cpW_75]; exact scr_J h
def dearX (σ : vW) (n m p w : Nat) : Int32 := mGain (σ 76) n (σ 75 20) 0 m p - mGain (flT σ n w) n (σ 75 20) 260 m p
def dearG (σ : vW) (n m p : Nat) : Nat → Int32 × Int32
  | 0 => (nI 0, -4)
  | w + 1 => if dearX σ n m p w ≤ (dearG σ n m p w).1 then dearG σ n m p w else (dearX σ n m p w, nI w)
def mDearR (σ : vW) (n m : Nat) (a k : Int32) : Int32 := if inZ a n = true then (if inZ k 2 = true then lstR (dearG σ n m a.toNatClampNeg m) k else -1) else -1
set_option maxHeartbeats 4000000 in
theorem C_X6_dear {σ : vW} {f : Nat → Int32} {n m : Nat} {a k : Int32} (hp : pOK σ n m 0) : Ctr mX6_dear 5 [.ref 75, .int a, .int k] (vrow σ 81 f) (vT (some (.int (mDearR σ n m a k))) σ) := by
  have hn := hp.1.1
  have hn5 := hp.1.2.1
  have hm : σ 76 25 = nI m := hp.2.1.1
  have hm9 := hp.2.1.2.1
  have hms : ∀ s, scr s σ → s 76 25 = nI m := fun s h => (h.2.2 25 (by omega)).trans hm
  have hns : ∀ s, scr s σ → (cpW s 0 260) 75 1 = nI n := fun s h => by rw [cpW_75]; exact (h.2.1 1 (by decide) (by decide)).trans hn
  have hpt : ∀ s, scr s σ → pOK (cpW s 0 260) n m 260 := fun s h => pOK_to (pOK_scr h hp (by omega)) (by omega)
  refine Ctr.intro (by decide) (fun α => Nat.le_of_ble_eq_true rfl) (fun x G hQ => ?_)
  have G : vG x RX6 cX6_dear 8 (some .int) 5 := G
  show V x 0 [some (.ref 75), some (.int a), some (.int k), none, none, none, none, none] [] (vrow σ 81 f)
  refine v_aload_8_0 G dX6_dear_0 ?_
  refine v_iload_8_1 G dX6_dear_1 ?_
  refine v_cV1 G (C_X6_isOne (by first | assumption | omega | exact oneB_in (by assumption) | exact wallB_in (by assumption) | exact oneB_m1 (by assumption) | decide) (by first | assumption | omega | exact oneB_in (by assumption) | exact wallB_in (by assumption) | exact oneB_m1 (by assumption) | decide)) (by decide) md_X6_isOne in_X6_isOne (rv_X6 rfl) ml_X6_185 (Nat.le_of_ble_eq_true rfl) dX6_dear_2 ?_
  refine v_ifB_eq (tgt := 18) G dX6_dear_5 rfl (fun h_5 => ?_) (fun h_5 => ?_)
  · refine v_iconst (v := (-1)) G dX6_dear_18 (by decide) ?_
    exact v_iret G hQ dX6_dear_19 (vT.of (by simp only [mDearR, bI, h_5, if_true, if_false, Bool.false_eq_true, reduceIte] <;> try rfl) (scr_refl σ))
  · obtain ⟨p0, hp0, rfl⟩ := inZ_ex h_5 (by omega)
    have cp0 : (nI p0).toNatClampNeg = p0 := nI_clamp (by omega)
    refine v_iload_8_2 G dX6_dear_8 ?_
    refine v_i2l G dX6_dear_9 ?_
    refine v_lconst (v := lN 0) G dX6_dear_10 (by decide) ?_
    refine v_lconst (v := lN 1) G dX6_dear_11 (by decide) ?_
    refine v_cS3 G (C_inK 2 (by decide)) (by decide) md_X6_in st_X6_in ml_X6_49 (Nat.le_of_ble_eq_true rfl) dX6_dear_12 ?_
    refine v_ifB_ne (tgt := 20) G dX6_dear_15 rfl (fun h_15 => ?_) (fun h_15 => ?_)
    · refine v_aload_8_0 G dX6_dear_20 ?_
      refine v_iconst (v := nI 0) G dX6_dear_21 (by decide) ?_
      refine v_iload_8_1 G dX6_dear_22 ?_
      refine v_cE2 G (C_X6_gainOn (g := 0) hp (by omega)) (by decide) md_X6_gainOn in_X6_gainOn (rv_X6 rfl) ml_X6_189 (Nat.le_of_ble_eq_true rfl) dX6_dear_23 (fun f => ?_)
      refine v_istore_8_3 G dX6_dear_26 rfl ?_
      refine v_iconst (v := nI 0) G dX6_dear_27 (by decide) ?_
      refine v_istore_8_4 G dX6_dear_28 rfl ?_
      refine v_bipush (v := (-4)) G dX6_dear_30 (by decide) ?_
      refine v_istore_8_5 G dX6_dear_32 rfl ?_
      refine v_iconst (v := nI 0) G dX6_dear_34 (by decide) ?_
      refine v_istore_8_6 G dX6_dear_35 rfl ?_
      refine v_forT (σ := σ) (pc := 37) (m) (fun w => [some (.ref 75), some (.int (nI p0)), some (.int k), some (.int (mGain (σ 76) n (σ 75 20) 0 m p0)), some (.int (dearG σ n m p0 w).1), some (.int (dearG σ n m p0 w).2), some (.int (nI w)), none]) (fun w hw ih s f hs => ?_) (fun s f hs => ?_) _ _ (scr_refl σ)
      · show V x 37 [some (.ref 75), some (.int (nI p0)), some (.int k), some (.int (mGain (σ 76) n (σ 75 20) 0 m p0)), some (.int (dearG σ n m p0 w).1), some (.int (dearG σ n m p0 w).2), some (.int (nI w)), none] [] (vrow s 81 f)
        have ih : ∀ s f, scr s σ → V x 37 [some (.ref 75), some (.int (nI p0)), some (.int k), some (.int (mGain (σ 76) n (σ 75 20) 0 m p0)), some (.int (dearG σ n m p0 (w + 1)).1), some (.int (dearG σ n m p0 (w + 1)).2), some (.int (nI (w + 1))), none] [] (vrow s 81 f) := ih
        refine v_iload_8_6 G dX6_dear_37 ?_
        refine v_aload_8_0 G dX6_dear_39 ?_
        refine v_getR G vc_6 lk_X6_7 (fs_X6_0) dX6_dear_40 ?_
        refine v_bipush (v := nI 25) G dX6_dear_43 (by decide) ?_
        refine m_ialdN G (by decide) (as_X6_0) (by first | assumption | omega | exact oneB_in (by assumption) | exact wallB_in (by assumption) | exact oneB_m1 (by assumption) | decide) (by decide) dX6_dear_45 ?_
        refine v_icmp_ge (tgt := 117) G dX6_dear_46 rfl (fun h_46 => absurd h_46 (by rw [(hms s hs)]; exact nI_ge hw (by omega))) (fun h_46 => ?_)
        refine v_aload_8_0 G dX6_dear_49 ?_
        refine v_iconst (v := nI 0) G dX6_dear_50 (by decide) ?_
        refine v_sipush (v := nI 260) G dX6_dear_51 (by decide) ?_
        refine v_cV2v G (C_X6_copies (a := 0) (b := 260) (by omega) (by omega) (by omega)) (by decide) md_X6_copies in_X6_copies (rv_X6 rfl) ml_X6_220 (Nat.le_of_ble_eq_true rfl) dX6_dear_54 ?_
        refine v_aload_8_0 G dX6_dear_57 ?_
        refine v_sipush (v := nI 260) G dX6_dear_58 (by decide) ?_
        refine v_iload_8_6 G dX6_dear_61 ?_
        refine v_cV2 G (C_X6_fillsOn (g := 260) (hns s hs) hn5 (by omega)) (by decide) md_X6_fillsOn in_X6_fillsOn (rv_X6 rfl) ml_X6_214 (Nat.le_of_ble_eq_true rfl) dX6_dear_63 ?_
        refine v_pop G dX6_dear_66 rfl ?_
        refine v_iload_8_3 G dX6_dear_67 ?_
        refine v_aload_8_0 G dX6_dear_68 ?_
        refine v_sipush (v := nI 260) G dX6_dear_69 (by decide) ?_
        refine v_iload_8_1 G dX6_dear_72 ?_
        refine v_cE2 G (C_X6_gainOn (g := 260) (pOK_fl (hpt s hs) (Or.inl rfl)) (by omega)) (by decide) md_X6_gainOn in_X6_gainOn (rv_X6 rfl) ml_X6_189 (Nat.le_of_ble_eq_true rfl) dX6_dear_73 (fun f => ?_)
        rw [flT_scr hs, flT_J hs]
        refine v_isub G dX6_dear_76 ?_
        rw [show mGain (σ 76) n (σ 75 20) 0 m p0 - mGain (flT σ n w) n (σ 75 20) 260 m p0 = dearX σ n m p0 w from rfl]
        refine v_istore_8_7 G dX6_dear_77 rfl ?_
        refine v_iload_8_7 G dX6_dear_79 ?_
        refine v_iload_8_4 G dX6_dear_81 ?_
        refine v_icmp_le (tgt := 91) G dX6_dear_83 rfl (fun h_83 => ?_) (fun h_83 => ?_)
        · refine v_iload_8_5 G dX6_dear_91 ?_
          refine v_istore_8_5 G dX6_dear_93 rfl ?_
          refine v_iload_8_7 G dX6_dear_95 ?_
          refine v_iload_8_4 G dX6_dear_97 ?_
          refine v_icmp_le (tgt := 107) G dX6_dear_99 rfl (fun h_99 => ?_) (fun h_99 => ?_)
          · refine v_iload_8_4 G dX6_dear_107 ?_
            refine v_istore_8_4 G dX6_dear_109 rfl ?_
            refine v_iincN_8_6 G dX6_dear_111 rfl ?_
            refine v_goto (tgt := 37) G dX6_dear_114 rfl ?_
            first
              | contradiction
              | (rw [dearG] at ih; simp only [h_46, h_83, h_99, if_true, if_false, reduceIte] at ih; exact V.drop (by simp only [vsubP, and_self]) (ih _ _ (scr_fl (scr_cp hs) hn5)))
          · refine v_iload_8_7 G dX6_dear_102 ?_
            refine v_goto (tgt := 109) G dX6_dear_104 rfl ?_
            refine v_istore_8_4 G dX6_dear_109 rfl ?_
            refine v_iincN_8_6 G dX6_dear_111 rfl ?_
            refine v_goto (tgt := 37) G dX6_dear_114 rfl ?_
            first
              | contradiction
              | (rw [dearG] at ih; simp only [h_46, h_83, h_99, if_true, if_false, reduceIte] at ih; exact V.drop (by simp only [vsubP, and_self]) (ih _ _ (scr_fl (scr_cp hs) hn5)))
        · refine v_iload_8_6 G dX6_dear_86 ?_
          refine v_goto (tgt := 93) G dX6_dear_88 rfl ?_
          refine v_istore_8_5 G dX6_dear_93 rfl ?_
          refine v_iload_8_7 G dX6_dear_95 ?_
          refine v_iload_8_4 G dX6_dear_97 ?_
          refine v_icmp_le (tgt := 107) G dX6_dear_99 rfl (fun h_99 => ?_) (fun h_99 => ?_)
          · refine v_iload_8_4 G dX6_dear_107 ?_
            refine v_istore_8_4 G dX6_dear_109 rfl ?_
            refine v_iincN_8_6 G dX6_dear_111 rfl ?_
            refine v_goto (tgt := 37) G dX6_dear_114 rfl ?_
            first
              | contradiction
              | (rw [dearG] at ih; simp only [h_46, h_83, h_99, if_true, if_false, reduceIte] at ih; exact V.drop (by simp only [vsubP, and_self]) (ih _ _ (scr_fl (scr_cp hs) hn5)))
          · refine v_iload_8_7 G dX6_dear_102 ?_
            refine v_goto (tgt := 109) G dX6_dear_104 rfl ?_
            refine v_istore_8_4 G dX6_dear_109 rfl ?_
            refine v_iincN_8_6 G dX6_dear_111 rfl ?_
            refine v_goto (tgt := 37) G dX6_dear_114 rfl ?_
            first
              | contradiction
              | (rw [dearG] at ih; simp only [h_46, h_83, h_99, if_true, if_false, reduceIte] at ih; exact V.drop (by simp only [vsubP, and_self]) (ih _ _ (scr_fl (scr_cp hs) hn5)))
      · show V x 37 [some (.ref 75), some (.int (nI p0)), some (.int k), some (.int (mGain (σ 76) n (σ 75 20) 0 m p0)), some (.int (dearG σ n m p0 m).1), some (.int (dearG σ n m p0 m).2), some (.int (nI m)), none] [] (vrow s 81 f)
        refine v_iload_8_6 G dX6_dear_37 ?_
        refine v_aload_8_0 G dX6_dear_39 ?_
        refine v_getR G vc_6 lk_X6_7 (fs_X6_0) dX6_dear_40 ?_
        refine v_bipush (v := nI 25) G dX6_dear_43 (by decide) ?_
        refine m_ialdN G (by decide) (as_X6_0) (by first | assumption | omega | exact oneB_in (by assumption) | exact wallB_in (by assumption) | exact oneB_m1 (by assumption) | decide) (by decide) dX6_dear_45 ?_
        refine v_icmp_ge (tgt := 117) G dX6_dear_46 rfl (fun h_46 => ?_) (fun h_46 => absurd (by rw [(hms s hs)]; exact nI_le (Nat.le_refl _) (by omega)) h_46)
        refine v_iload_8_5 G dX6_dear_117 ?_
        refine v_bipush (v := (-4)) G dX6_dear_119 (by decide) ?_
        refine v_icmp_eq (tgt := 128) G dX6_dear_121 rfl (fun h_121 => ?_) (fun h_121 => ?_)
        · refine v_iload_8_5 G dX6_dear_128 ?_
          refine v_goto (tgt := 135) G dX6_dear_130 rfl ?_
          exact v_iret G hQ dX6_dear_135 (vT.of (by simp only [mDearR, lstR, h_5, cp0, h_15, bI, h_46, h_121, if_true, if_false, Bool.false_eq_true, reduceIte] <;> try rfl) hs)
        · refine v_iload_8_2 G dX6_dear_124 ?_
          refine v_if_ne (tgt := 133) G dX6_dear_125 rfl (fun h_125 => ?_) (fun h_125 => ?_)
          · refine v_iload_8_4 G dX6_dear_133 ?_
            exact v_iret G hQ dX6_dear_135 (vT.of (by simp only [mDearR, lstR, h_5, cp0, h_15, bI, h_46, h_121, h_125, if_true, if_false, Bool.false_eq_true, reduceIte] <;> try rfl) hs)
          · refine v_iload_8_5 G dX6_dear_128 ?_
            refine v_goto (tgt := 135) G dX6_dear_130 rfl ?_
            exact v_iret G hQ dX6_dear_135 (vT.of (by simp only [mDearR, lstR, h_5, cp0, h_15, bI, h_46, h_121, h_125, if_true, if_false, Bool.false_eq_true, reduceIte] <;> try rfl) hs)
    · refine v_iconst (v := (-1)) G dX6_dear_18 (by decide) ?_
      exact v_iret G hQ dX6_dear_19 (vT.of (by simp only [mDearR, bI, h_5, cp0, h_15, if_true, if_false, Bool.false_eq_true, reduceIte] <;> try rfl) (scr_refl σ))
def shF (σ : vW) (n S : Nat) : Nat → vW
  | 0 => cpW σ 0 260
  | w + 1 => if nI S >>> (nI w &&& 31) &&& nI 1 = nI 1 then mFlW (shF σ n S w) n 260 (nI w) else shF σ n S w
theorem shF_scr {s σ : vW} {n S : Nat} (h : scr s σ) (hn5 : n ≤ 5) : ∀ w, scr (shF s n S w) σ
  | 0 => scr_cp h
  | w + 1 => by
    unfold shF
    split
    · exact scr_fl (shF_scr h hn5 w) hn5
    · exact shF_scr h hn5 w
theorem shF_ok {σ : vW} {n m S : Nat} (h : pOK σ n m 0) : ∀ w, pOK (shF σ n S w) n m 260
  | 0 => pOK_to h (by omega)
  | w + 1 => by
    unfold shF
    split
    · exact pOK_fl (shF_ok h w) (Or.inl rfl)
    · exact shF_ok h w
theorem shF_row {s σ : vW} {n S : Nat} (h : scr s σ) : ∀ w, (shF s n S w) 76 = (shF σ n S w) 76
  | 0 => tri_all h
  | w + 1 => by
    unfold shF
    split
    · exact mFlW_row (shF_row h w)
    · exact shF_row h w
theorem sh1 : ∀ m, m ≤ 9 → nI 1 <<< (nI m &&& 31) = nI (2 ^ m) := by decide
def shX (σ : vW) (n m p r S : Nat) : Int32 := mReachQ ((shF σ n S m) 76) n (σ 75 20) 260 m p >>> (nI r &&& 31) &&& nI 1
def shG (σ : vW) (n m p r : Nat) : Nat → Int32 × Int32
  | 0 => (nI 100, nI 0)
  | S + 1 => if (shG σ n m p r S).1 ≤ bitsR (nI S) then shG σ n m p r S else if shX σ n m p r S = 0 then (bitsR (nI S), nI S) else shG σ n m p r S
def mShutR (σ : vW) (n m : Nat) (a r k : Int32) : Int32 := if inZ a n = true then (if inZ r 8 = true then (if inZ k 2 = true then (if σ 76 (10 + a.toNatClampNeg) = r then -2 else if k = 0 then (shG σ n m a.toNatClampNeg r.toNatClampNeg (2 ^ m)).1 else (shG σ n m a.toNatClampNeg r.toNatClampNeg (2 ^ m)).2) else -1) else -1) else -1
set_option maxHeartbeats 4000000 in
theorem C_X6_shut {σ : vW} {f : Nat → Int32} {n m : Nat} {a r k : Int32} (hp : pOK σ n m 0) : Ctr mX6_shut 4 [.ref 75, .int a, .int r, .int k] (vrow σ 81 f) (vT (some (.int (mShutR σ n m a r k))) σ) := by
  have hn := hp.1.1
  have hn5 := hp.1.2.1
  have hm : σ 76 25 = nI m := hp.2.1.1
  have hm9 := hp.2.1.2.1
  have hp2 : 2 ^ m ≤ 512 := Nat.pow_le_pow_right (show 0 < 2 by decide) hm9
  have hms : ∀ s, scr s σ → s 76 25 = nI m := fun s h => (h.2.2 25 (by omega)).trans hm
  have hns : ∀ s, scr s σ → s 75 1 = nI n := fun s h => (h.2.1 1 (by decide) (by decide)).trans hn
  have hps : ∀ s, scr s σ → pOK s n m 0 := fun s h => pOK_scr h hp (by omega)
  refine Ctr.intro (by decide) (fun α => Nat.le_of_ble_eq_true rfl) (fun x G hQ => ?_)
  have G : vG x RX6 cX6_shut 8 (some .int) 4 := G
  show V x 0 [some (.ref 75), some (.int a), some (.int r), some (.int k), none, none, none, none] [] (vrow σ 81 f)
  refine v_aload_8_0 G dX6_shut_0 ?_
  refine v_iload_8_1 G dX6_shut_1 ?_
  refine v_cV1 G (C_X6_isOne (by first | assumption | omega | exact oneB_in (by assumption) | exact wallB_in (by assumption) | exact oneB_m1 (by assumption) | decide) (by first | assumption | omega | exact oneB_in (by assumption) | exact wallB_in (by assumption) | exact oneB_m1 (by assumption) | decide)) (by decide) md_X6_isOne in_X6_isOne (rv_X6 rfl) ml_X6_185 (Nat.le_of_ble_eq_true rfl) dX6_shut_2 ?_
  refine v_ifB_eq (tgt := 25) G dX6_shut_5 rfl (fun h_5 => ?_) (fun h_5 => ?_)
  · refine v_iconst (v := (-1)) G dX6_shut_25 (by decide) ?_
    exact v_iret G hQ dX6_shut_26 (vT.of (by simp only [mShutR, bI, h_5, if_true, if_false, Bool.false_eq_true, reduceIte] <;> try rfl) (scr_refl σ))
  · obtain ⟨p0, hp0, rfl⟩ := inZ_ex h_5 (by omega)
    have cp0 : (nI p0).toNatClampNeg = p0 := nI_clamp (by omega)
    refine v_iload_8_2 G dX6_shut_8 ?_
    refine v_cS1 G (C_X6_isRoom) (by decide) md_X6_isRoom st_X6_isRoom ml_X6_197 (Nat.le_of_ble_eq_true rfl) dX6_shut_9 ?_
    refine v_ifB_eq (tgt := 25) G dX6_shut_12 rfl (fun h_12 => ?_) (fun h_12 => ?_)
    · refine v_iconst (v := (-1)) G dX6_shut_25 (by decide) ?_
      exact v_iret G hQ dX6_shut_26 (vT.of (by simp only [mShutR, bI, h_5, cp0, h_12, if_true, if_false, Bool.false_eq_true, reduceIte] <;> try rfl) (scr_refl σ))
    · obtain ⟨r0, hr0, rfl⟩ := inZ_ex h_12 (by omega)
      have cr0 : (nI r0).toNatClampNeg = r0 := nI_clamp (by omega)
      refine v_iload_8_3 G dX6_shut_15 ?_
      refine v_i2l G dX6_shut_16 ?_
      refine v_lconst (v := lN 0) G dX6_shut_17 (by decide) ?_
      refine v_lconst (v := lN 1) G dX6_shut_18 (by decide) ?_
      refine v_cS3 G (C_inK 2 (by decide)) (by decide) md_X6_in st_X6_in ml_X6_49 (Nat.le_of_ble_eq_true rfl) dX6_shut_19 ?_
      refine v_ifB_ne (tgt := 27) G dX6_shut_22 rfl (fun h_22 => ?_) (fun h_22 => ?_)
      · refine v_aload_8_0 G dX6_shut_27 ?_
        refine v_getR G vc_6 lk_X6_7 (fs_X6_0) dX6_shut_28 ?_
        refine v_bipush (v := nI 10) G dX6_shut_31 (by decide) ?_
        refine v_iload_8_1 G dX6_shut_33 ?_
        refine v_iaddN G dX6_shut_34 ?_
        refine m_ialdN G (by decide) (as_X6_0) (by first | assumption | omega | exact oneB_in (by assumption) | exact wallB_in (by assumption) | exact oneB_m1 (by assumption) | decide) (by decide) dX6_shut_35 ?_
        refine v_iload_8_2 G dX6_shut_36 ?_
        refine v_icmp_ne (tgt := 43) G dX6_shut_37 rfl (fun h_37 => ?_) (fun h_37 => ?_)
        · refine v_bipush (v := nI 100) G dX6_shut_43 (by decide) ?_
          refine v_istore_8_4 G dX6_shut_45 rfl ?_
          refine v_iconst (v := nI 0) G dX6_shut_47 (by decide) ?_
          refine v_istore_8_5 G dX6_shut_48 rfl ?_
          refine v_iconst (v := nI 0) G dX6_shut_50 (by decide) ?_
          refine v_istore_8_6 G dX6_shut_51 rfl ?_
          refine v_forT (σ := σ) (pc := 53) ((2 ^ m)) (fun S => [some (.ref 75), some (.int (nI p0)), some (.int (nI r0)), some (.int k), some (.int (shG σ n m p0 r0 S).1), some (.int (shG σ n m p0 r0 S).2), some (.int (nI S)), none]) (fun S hS ihS s f hs => ?_) (fun s f hs => ?_) _ _ (scr_refl σ)
          · show V x 53 [some (.ref 75), some (.int (nI p0)), some (.int (nI r0)), some (.int k), some (.int (shG σ n m p0 r0 S).1), some (.int (shG σ n m p0 r0 S).2), some (.int (nI S)), none] [] (vrow s 81 f)
            have ihS : ∀ s f, scr s σ → V x 53 [some (.ref 75), some (.int (nI p0)), some (.int (nI r0)), some (.int k), some (.int (shG σ n m p0 r0 (S + 1)).1), some (.int (shG σ n m p0 r0 (S + 1)).2), some (.int (nI (S + 1))), none] [] (vrow s 81 f) := ihS
            refine v_iload_8_6 G dX6_shut_53 ?_
            refine v_iconst (v := nI 1) G dX6_shut_55 (by decide) ?_
            refine v_aload_8_0 G dX6_shut_56 ?_
            refine v_getR G vc_6 lk_X6_7 (fs_X6_0) dX6_shut_57 ?_
            refine v_bipush (v := nI 25) G dX6_shut_60 (by decide) ?_
            refine m_ialdN G (by decide) (as_X6_0) (by first | assumption | omega | exact oneB_in (by assumption) | exact wallB_in (by assumption) | exact oneB_m1 (by assumption) | decide) (by decide) dX6_shut_62 ?_
            refine v_ishl G dX6_shut_63 ?_
            refine v_icmp_ge (tgt := 186) G dX6_shut_64 rfl (fun h_64 => absurd h_64 (by rw [(hms s hs), sh1 m hm9]; exact nI_ge hS (by omega))) (fun h_64 => ?_)
            refine v_iload_8_6 G dX6_shut_67 ?_
            refine v_cS1 G (C_X6_bitsOf) (by decide) md_X6_bitsOf st_X6_bitsOf ml_X6_172 (Nat.le_of_ble_eq_true rfl) dX6_shut_69 ?_
            refine v_iload_8_4 G dX6_shut_72 ?_
            refine v_icmp_ge (tgt := 180) G dX6_shut_74 rfl (fun h_74 => ?_) (fun h_74 => ?_)
            · refine v_iincN_8_6 G dX6_shut_180 rfl ?_
              refine v_goto (tgt := 53) G dX6_shut_183 rfl ?_
              first
                | contradiction
                | (rw [shG] at ihS; simp only [h_64, h_74, if_true, if_false, reduceIte] at ihS; exact V.drop (by simp only [vsubP, and_self]) (ihS _ _ (by first | assumption | exact shF_scr (by assumption) hn5 m)))
            · refine v_aload_8_0 G dX6_shut_77 ?_
              refine v_iconst (v := nI 0) G dX6_shut_78 (by decide) ?_
              refine v_sipush (v := nI 260) G dX6_shut_79 (by decide) ?_
              refine v_cV2v G (C_X6_copies (a := 0) (b := 260) (by omega) (by omega) (by omega)) (by decide) md_X6_copies in_X6_copies (rv_X6 rfl) ml_X6_220 (Nat.le_of_ble_eq_true rfl) dX6_shut_82 ?_
              refine v_iconst (v := nI 0) G dX6_shut_85 (by decide) ?_
              refine v_istore_8_7 G dX6_shut_86 rfl ?_
              refine v_for (pc := 88) (m) (fun w => ([some (.ref 75), some (.int (nI p0)), some (.int (nI r0)), some (.int k), some (.int (shG σ n m p0 r0 S).1), some (.int (shG σ n m p0 r0 S).2), some (.int (nI S)), some (.int (nI w))], (vrow (shF s n S w) 81 f))) (fun w hw ihw => ?_) ?_
              · show V x 88 [some (.ref 75), some (.int (nI p0)), some (.int (nI r0)), some (.int k), some (.int (shG σ n m p0 r0 S).1), some (.int (shG σ n m p0 r0 S).2), some (.int (nI S)), some (.int (nI w))] [] (vrow (shF s n S w) 81 f)
                have ihw : V x 88 [some (.ref 75), some (.int (nI p0)), some (.int (nI r0)), some (.int k), some (.int (shG σ n m p0 r0 S).1), some (.int (shG σ n m p0 r0 S).2), some (.int (nI S)), some (.int (nI (w + 1)))] [] (vrow (shF s n S (w + 1)) 81 f) := ihw
                refine v_iload_8_7 G dX6_shut_88 ?_
                refine v_aload_8_0 G dX6_shut_90 ?_
                refine v_getR G vc_6 lk_X6_7 (fs_X6_0) dX6_shut_91 ?_
                refine v_bipush (v := nI 25) G dX6_shut_94 (by decide) ?_
                refine m_ialdN G (by decide) (as_X6_0) (by first | assumption | omega | exact oneB_in (by assumption) | exact wallB_in (by assumption) | exact oneB_m1 (by assumption) | decide) (by decide) dX6_shut_96 ?_
                refine v_icmp_ge (tgt := 127) G dX6_shut_97 rfl (fun h_97 => absurd h_97 (by rw [(((shF_scr hs hn5 _).2.2 25 (by omega)).trans hm)]; exact nI_ge hw (by omega))) (fun h_97 => ?_)
                refine v_iload_8_6 G dX6_shut_100 ?_
                refine v_iload_8_7 G dX6_shut_102 ?_
                refine v_ishr G dX6_shut_104 ?_
                refine v_iconst (v := nI 1) G dX6_shut_105 (by decide) ?_
                refine v_iand G dX6_shut_106 ?_
                refine v_iconst (v := nI 1) G dX6_shut_107 (by decide) ?_
                refine v_icmp_ne (tgt := 121) G dX6_shut_108 rfl (fun h_108 => ?_) (fun h_108 => ?_)
                · refine v_iincN_8_7 G dX6_shut_121 rfl ?_
                  refine v_goto (tgt := 88) G dX6_shut_124 rfl ?_
                  rw [shF] at ihw
                  simp only [h_97, h_108, if_true, if_false, reduceIte] at ihw
                  exact ihw
                · refine v_aload_8_0 G dX6_shut_111 ?_
                  refine v_sipush (v := nI 260) G dX6_shut_112 (by decide) ?_
                  refine v_iload_8_7 G dX6_shut_115 ?_
                  refine v_cV2 G (C_X6_fillsOn (g := 260) (((shF_scr hs hn5 _).2.1 1 (by decide) (by decide)).trans hn) hn5 (by omega)) (by decide) md_X6_fillsOn in_X6_fillsOn (rv_X6 rfl) ml_X6_214 (Nat.le_of_ble_eq_true rfl) dX6_shut_117 ?_
                  refine v_pop G dX6_shut_120 rfl ?_
                  refine v_iincN_8_7 G dX6_shut_121 rfl ?_
                  refine v_goto (tgt := 88) G dX6_shut_124 rfl ?_
                  rw [shF] at ihw
                  simp only [h_97, h_108, if_true, if_false, reduceIte] at ihw
                  exact ihw
              · show V x 88 [some (.ref 75), some (.int (nI p0)), some (.int (nI r0)), some (.int k), some (.int (shG σ n m p0 r0 S).1), some (.int (shG σ n m p0 r0 S).2), some (.int (nI S)), some (.int (nI m))] [] (vrow (shF s n S m) 81 f)
                refine v_iload_8_7 G dX6_shut_88 ?_
                refine v_aload_8_0 G dX6_shut_90 ?_
                refine v_getR G vc_6 lk_X6_7 (fs_X6_0) dX6_shut_91 ?_
                refine v_bipush (v := nI 25) G dX6_shut_94 (by decide) ?_
                refine m_ialdN G (by decide) (as_X6_0) (by first | assumption | omega | exact oneB_in (by assumption) | exact wallB_in (by assumption) | exact oneB_m1 (by assumption) | decide) (by decide) dX6_shut_96 ?_
                refine v_icmp_ge (tgt := 127) G dX6_shut_97 rfl (fun h_97 => ?_) (fun h_97 => absurd (by rw [(((shF_scr hs hn5 _).2.2 25 (by omega)).trans hm)]; exact nI_le (Nat.le_refl _) (by omega)) h_97)
                refine v_aload_8_0 G dX6_shut_127 ?_
                refine v_sipush (v := nI 260) G dX6_shut_128 (by decide) ?_
                refine v_iload_8_1 G dX6_shut_131 ?_
                refine v_cX2 G (C_X6_reachesOn (g := 260) (shF_ok (hps s hs) m) (by omega)) (by decide) md_X6_reachesOn in_X6_reachesOn (rv_X6 rfl) ml_X6_169 (Nat.le_of_ble_eq_true rfl) dX6_shut_132 (fun f hf => ?_)
                rw [shF_row hs, scr_J (shF_scr hs hn5 m)]
                refine v_iload_8_2 G dX6_shut_135 ?_
                refine v_ishr G dX6_shut_136 ?_
                refine v_iconst (v := nI 1) G dX6_shut_137 (by decide) ?_
                refine v_iand G dX6_shut_138 ?_
                rw [show mReachQ ((shF σ n S m) 76) n (σ 75 20) 260 m p0 >>> (nI r0 &&& 31) &&& nI 1 = shX σ n m p0 r0 S from rfl]
                refine v_if_ne (tgt := 146) G dX6_shut_139 rfl (fun h_139 => ?_) (fun h_139 => ?_)
                · refine v_iconst (v := nI 0) G dX6_shut_146 (by decide) ?_
                  refine v_istore_8_7 G dX6_shut_147 rfl ?_
                  refine v_iload_8_7 G dX6_shut_149 ?_
                  refine v_if_eq (tgt := 159) G dX6_shut_151 rfl (fun h_151 => ?_) (fun h_151 => absurd (by decide) h_151)
                  refine v_iload_8_5 G dX6_shut_159 ?_
                  refine v_istore_8_5 G dX6_shut_161 rfl ?_
                  refine v_iload_8_7 G dX6_shut_163 ?_
                  refine v_if_eq (tgt := 176) G dX6_shut_165 rfl (fun h_165 => ?_) (fun h_165 => absurd (by decide) h_165)
                  refine v_iload_8_4 G dX6_shut_176 ?_
                  refine v_istore_8_4 G dX6_shut_178 rfl ?_
                  refine v_iincN_8_6 G dX6_shut_180 rfl ?_
                  refine v_goto (tgt := 53) G dX6_shut_183 rfl ?_
                  first
                    | contradiction
                    | (rw [shG] at ihS; simp only [h_74, h_97, h_139, h_151, h_165, if_true, if_false, reduceIte] at ihS; exact V.drop (by simp only [vsubP, and_self]) (ihS _ _ (by first | assumption | exact shF_scr (by assumption) hn5 m)))
                · refine v_iconst (v := nI 1) G dX6_shut_142 (by decide) ?_
                  refine v_goto (tgt := 147) G dX6_shut_143 rfl ?_
                  refine v_istore_8_7 G dX6_shut_147 rfl ?_
                  refine v_iload_8_7 G dX6_shut_149 ?_
                  refine v_if_eq (tgt := 159) G dX6_shut_151 rfl (fun h_151 => absurd h_151 (by decide)) (fun h_151 => ?_)
                  refine v_iload_8_6 G dX6_shut_154 ?_
                  refine v_goto (tgt := 161) G dX6_shut_156 rfl ?_
                  refine v_istore_8_5 G dX6_shut_161 rfl ?_
                  refine v_iload_8_7 G dX6_shut_163 ?_
                  refine v_if_eq (tgt := 176) G dX6_shut_165 rfl (fun h_165 => absurd h_165 (by decide)) (fun h_165 => ?_)
                  refine v_iload_8_6 G dX6_shut_168 ?_
                  refine v_cS1 G (C_X6_bitsOf) (by decide) md_X6_bitsOf st_X6_bitsOf ml_X6_172 (Nat.le_of_ble_eq_true rfl) dX6_shut_170 ?_
                  refine v_goto (tgt := 178) G dX6_shut_173 rfl ?_
                  refine v_istore_8_4 G dX6_shut_178 rfl ?_
                  refine v_iincN_8_6 G dX6_shut_180 rfl ?_
                  refine v_goto (tgt := 53) G dX6_shut_183 rfl ?_
                  first
                    | contradiction
                    | (rw [shG] at ihS; simp only [h_74, h_97, h_139, h_151, h_165, if_true, if_false, reduceIte] at ihS; exact V.drop (by simp only [vsubP, and_self]) (ihS _ _ (by first | assumption | exact shF_scr (by assumption) hn5 m)))
          · show V x 53 [some (.ref 75), some (.int (nI p0)), some (.int (nI r0)), some (.int k), some (.int (shG σ n m p0 r0 (2 ^ m)).1), some (.int (shG σ n m p0 r0 (2 ^ m)).2), some (.int (nI (2 ^ m))), none] [] (vrow s 81 f)
            refine v_iload_8_6 G dX6_shut_53 ?_
            refine v_iconst (v := nI 1) G dX6_shut_55 (by decide) ?_
            refine v_aload_8_0 G dX6_shut_56 ?_
            refine v_getR G vc_6 lk_X6_7 (fs_X6_0) dX6_shut_57 ?_
            refine v_bipush (v := nI 25) G dX6_shut_60 (by decide) ?_
            refine m_ialdN G (by decide) (as_X6_0) (by first | assumption | omega | exact oneB_in (by assumption) | exact wallB_in (by assumption) | exact oneB_m1 (by assumption) | decide) (by decide) dX6_shut_62 ?_
            refine v_ishl G dX6_shut_63 ?_
            refine v_icmp_ge (tgt := 186) G dX6_shut_64 rfl (fun h_64 => ?_) (fun h_64 => absurd (by rw [(hms s hs), sh1 m hm9]; exact nI_le (Nat.le_refl _) (by omega)) h_64)
            refine v_iload_8_3 G dX6_shut_186 ?_
            refine v_if_ne (tgt := 195) G dX6_shut_187 rfl (fun h_187 => ?_) (fun h_187 => ?_)
            · refine v_iload_8_5 G dX6_shut_195 ?_
              exact v_iret G hQ dX6_shut_197 (vT.of (by simp only [mShutR, h_5, cp0, h_12, cr0, h_22, h_37, bI, h_64, h_187, if_true, if_false, Bool.false_eq_true, reduceIte] <;> try rfl) hs)
            · refine v_iload_8_4 G dX6_shut_190 ?_
              refine v_goto (tgt := 197) G dX6_shut_192 rfl ?_
              exact v_iret G hQ dX6_shut_197 (vT.of (by simp only [mShutR, h_5, cp0, h_12, cr0, h_22, h_37, bI, h_64, h_187, if_true, if_false, Bool.false_eq_true, reduceIte] <;> try rfl) hs)
        · refine v_bipush (v := (-2)) G dX6_shut_40 (by decide) ?_
          exact v_iret G hQ dX6_shut_42 (vT.of (by simp only [mShutR, bI, h_5, cp0, h_12, cr0, h_22, h_37, if_true, if_false, Bool.false_eq_true, reduceIte] <;> try rfl) (scr_refl σ))
      · refine v_iconst (v := (-1)) G dX6_shut_25 (by decide) ?_
        exact v_iret G hQ dX6_shut_26 (vT.of (by simp only [mShutR, bI, h_5, cp0, h_12, cr0, h_22, if_true, if_false, Bool.false_eq_true, reduceIte] <;> try rfl) (scr_refl σ))
