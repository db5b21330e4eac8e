/-! The model: plans tried, walls filled, kinds taken -/
def pgW (σ : vW) (n : Nat) (lo : Int32) : Nat → vW
  | 0 => vset (vset (cpW σ 0 260) 75 22 (nI 0)) 75 23 (-4)
  | k + 1 => if nI k = lo then pgW σ n lo k else
    if mCan ((pgW σ n lo k) 76) n 260 (σ 76 (53 + k)).toNatClampNeg (σ 76 (59 + k)) = true then vset (mHgW (pgW σ n lo k) n 260 (σ 76 (53 + k)).toNatClampNeg (σ 76 (59 + k))) 75 22 ((pgW σ n lo k) 75 22 + nI 1)
    else vset (mHgW (pgW σ n lo k) n 260 (σ 76 (53 + k)).toNatClampNeg (σ 76 (59 + k))) 75 23 (if (pgW σ n lo k) 75 23 = -4 then nI k else (pgW σ n lo k) 75 23)
/-- whose doors the plan has -/
def plOK (σ : vW) (K : Nat) : Prop := σ 76 52 = nI K ∧ K ≤ 6 ∧ ∀ k, k < K → ∃ p, p < 5 ∧ σ 76 (53 + k) = nI p
theorem pgW_scr {s σ : vW} {n K : Nat} {lo : Int32} (hs : scr s σ) (hP : plOK s K) : ∀ k, k ≤ K → scr (pgW s n lo k) σ
  | 0, _ => scr_fld (scr_fld (scr_cp hs) (Or.inl rfl)) (Or.inr rfl)
  | k + 1, hk => by
    obtain ⟨p, hp, e⟩ := hP.2.2 k (by omega)
    have ih := pgW_scr (n := n) (lo := lo) hs hP k (by omega)
    have hc : (nI p).toNatClampNeg = p := nI_clamp (by omega)
    unfold pgW
    rw [e, hc]
    split
    · exact ih
    · split
      · exact scr_fld (scr_hg ih hp) (Or.inl rfl)
      · exact scr_fld (scr_hg ih hp) (Or.inr rfl)
theorem pgW_ok {σ : vW} {n m K : Nat} {lo : Int32} (h : pOK σ n m 0) (hP : plOK σ K) : ∀ k, k ≤ K → pOK (pgW σ n lo k) n m 260
  | 0, _ => pOK_fld (pOK_fld (pOK_to h (by omega)) (by decide)) (by decide)
  | k + 1, hk => by
    obtain ⟨p, hp, e⟩ := hP.2.2 k (by omega)
    have ih := pgW_ok (lo := lo) h hP k (by omega)
    have hc : (nI p).toNatClampNeg = p := nI_clamp (by omega)
    unfold pgW
    rw [e, hc]
    split
    · exact ih
    · split
      · exact pOK_fld (pOK_hg ih hp (Or.inl rfl)) (by decide)
      · exact pOK_fld (pOK_hg ih hp (Or.inl rfl)) (by decide)
theorem plOK_scr {s σ : vW} {K : Nat} (hs : scr s σ) (h : plOK σ K) : plOK s K := by
  have hK := h.2.1
  refine ⟨by rw [hs.2.2 _ (by omega)]; exact h.1, h.2.1, fun k hk => ?_⟩
  obtain ⟨p, hp, e⟩ := h.2.2 k hk
  exact ⟨p, hp, by rw [hs.2.2 _ (by omega)]; exact e⟩
/-- the same plan goes the same way -/
theorem pgW_row {s σ : vW} {n K : Nat} {lo : Int32} (hs : scr s σ) (hK : K ≤ 6) : ∀ k, k ≤ K → (pgW s n lo k) 76 = (pgW σ n lo k) 76 ∧ (pgW s n lo k) 75 22 = (pgW σ n lo k) 75 22 ∧ (pgW s n lo k) 75 23 = (pgW σ n lo k) 75 23
  | 0, _ => by
    refine ⟨?_, rfl, rfl⟩
    show (vset (vset (cpW s 0 260) 75 22 (nI 0)) 75 23 (-4)) 76 = (vset (vset (cpW σ 0 260) 75 22 (nI 0)) 75 23 (-4)) 76
    rw [vset_ne (by decide), vset_ne (by decide), vset_ne (by decide), vset_ne (by decide), tri_all hs]
  | k + 1, hk => by
    obtain ⟨h1, h2, h3⟩ := pgW_row (n := n) (lo := lo) hs hK k (by omega)
    have e1 : s 76 (53 + k) = σ 76 (53 + k) := hs.2.2 _ (by omega)
    have e2 : s 76 (59 + k) = σ 76 (59 + k) := hs.2.2 _ (by omega)
    unfold pgW
    rw [e1, e2, h1]
    have r := mHgW_row (n := n) (g := 260) (p := (σ 76 (53 + k)).toNatClampNeg) (w := σ 76 (59 + k)) h1
    split
    · exact ⟨h1, h2, h3⟩
    · split
      · refine ⟨by rw [vset_ne (by decide), vset_ne (by decide)]; exact r, by rw [vset_at, vset_at, h2], by rw [vset_oth (by decide), vset_oth (by decide), mHgW_75, mHgW_75]; exact h3⟩
      · refine ⟨by rw [vset_ne (by decide), vset_ne (by decide)]; exact r, by rw [vset_oth (by decide), vset_oth (by decide), mHgW_75, mHgW_75]; exact h2, by rw [vset_at, vset_at, h3]⟩
set_option maxHeartbeats 4000000 in
theorem C_X6_planGoes {σ : vW} {f : Nat → Int32} {n m K : Nat} {lo : Int32} (hp : pOK σ n m 0) (hP : plOK σ K) : Ctr mX6_planGoes 2 [.ref 75, .int lo] (vrow σ 81 f) (vDet none (vrow (pgW σ n lo K) 81 f)) := by
  have hn5 := hp.1.2.1
  have hK6 := hP.2.1
  have hsc := pgW_scr (n := n) (lo := lo) (scr_refl σ) hP
  have hc52 : ∀ k, k ≤ K → (pgW σ n lo k) 76 52 = nI K := fun k hk => ((hsc k hk).2.2 52 (by omega)).trans hP.1
  have hc53 : ∀ k j, k ≤ K → j < 200 → (pgW σ n lo k) 76 j = σ 76 j := fun k j hk hj => (hsc k hk).2.2 j (by omega)
  have hcn : ∀ k, k ≤ K → (pgW σ n lo k) 75 1 = nI n := fun k hk => ((hsc k hk).2.1 1 (by decide) (by decide)).trans hp.1.1
  refine Ctr.intro (by decide) (fun α => Nat.le_of_ble_eq_true rfl) (fun x G hQ => ?_)
  have G : vG x RX6 cX6_planGoes 3 none 2 := G
  show V x 0 [some (.ref 75), some (.int lo), none] [] (vrow σ 81 f)
  refine v_aload_3_0 G dX6_planGoes_0 ?_
  refine v_iconst (v := nI 0) G dX6_planGoes_1 (by decide) ?_
  refine v_sipush (v := nI 260) G dX6_planGoes_2 (by decide) ?_
  refine v_cV2v G (C_X6_copies (a := 0) (b := 260) (by omega) (by omega) (by omega)) (by decide) md_X6_copies in_X6_copies (rv_X6 rfl) ml_X6_220 (Nat.le_of_ble_eq_true rfl) dX6_planGoes_5 ?_
  refine v_aload_3_0 G dX6_planGoes_8 ?_
  refine v_iconst (v := nI 0) G dX6_planGoes_9 (by decide) ?_
  refine m_putI G (by decide) vc_6 vt_6 lk_X6_224 fs_X6_22 (ft_X6_22 _) dX6_planGoes_10 ?_
  refine v_aload_3_0 G dX6_planGoes_13 ?_
  refine v_bipush (v := (-4)) G dX6_planGoes_14 (by decide) ?_
  refine m_putI G (by decide) vc_6 vt_6 lk_X6_227 fs_X6_23 (ft_X6_23 _) dX6_planGoes_16 ?_
  refine v_iconst (v := nI 0) G dX6_planGoes_19 (by decide) ?_
  refine v_istore_3_2 G dX6_planGoes_20 rfl ?_
  refine v_for (pc := 21) (K) (fun k => ([some (.ref 75), some (.int lo), some (.int (nI k))], (vrow (pgW σ n lo k) 81 f))) (fun k hk ih => ?_) ?_
  · show V x 21 [some (.ref 75), some (.int lo), some (.int (nI k))] [] (vrow (pgW σ n lo k) 81 f)
    have ih : V x 21 [some (.ref 75), some (.int lo), some (.int (nI (k + 1)))] [] (vrow (pgW σ n lo (k + 1)) 81 f) := ih
    obtain ⟨p, hp5, ep⟩ := hP.2.2 k hk
    have hc : (nI p).toNatClampNeg = p := nI_clamp (by omega)
    have e49 : (pgW σ n lo k) 76 (53 + k) = nI p := (hc53 k _ (by omega) (by omega)).trans ep
    have e58 : (pgW σ n lo k) 76 (59 + k) = σ 76 (59 + k) := hc53 k _ (by omega) (by omega)
    refine v_iload_3_2 G dX6_planGoes_21 ?_
    refine v_aload_3_0 G dX6_planGoes_22 ?_
    refine v_getR G vc_6 lk_X6_7 (fs_X6_0) dX6_planGoes_23 ?_
    refine v_bipush (v := nI 52) G dX6_planGoes_26 (by decide) ?_
    refine m_ialdN G (by decide) (as_X6_0) (by first | assumption | omega | exact oneB_in (by assumption) | exact wallB_in (by assumption) | exact oneB_m1 (by assumption) | decide) (by decide) dX6_planGoes_28 ?_
    refine v_icmp_ge (tgt := 105) G dX6_planGoes_29 rfl (fun h_29 => absurd h_29 (by rw [hc52 k (by omega)]; exact nI_ge hk (by omega))) (fun h_29 => ?_)
    refine v_iload_3_2 G dX6_planGoes_32 ?_
    refine v_iload_3_1 G dX6_planGoes_33 ?_
    refine v_icmp_eq (tgt := 99) G dX6_planGoes_34 rfl (fun h_34 => ?_) (fun h_34 => ?_)
    · refine v_iincN_3_2 G dX6_planGoes_99 rfl ?_
      refine v_goto (tgt := 21) G dX6_planGoes_102 rfl ?_
      rw [pgW, ep, hc] at ih
      simp only [h_29, h_34, if_true, if_false, Bool.false_eq_true, reduceIte] at ih
      exact ih
    · refine v_aload_3_0 G dX6_planGoes_37 ?_
      refine v_sipush (v := nI 260) G dX6_planGoes_38 (by decide) ?_
      refine v_aload_3_0 G dX6_planGoes_41 ?_
      refine v_getR G vc_6 lk_X6_7 (fs_X6_0) dX6_planGoes_42 ?_
      refine v_bipush (v := nI 53) G dX6_planGoes_45 (by decide) ?_
      refine v_iload_3_2 G dX6_planGoes_47 ?_
      refine v_iaddN G dX6_planGoes_48 ?_
      refine m_ialdN G (by decide) (as_X6_0) (by first | assumption | omega | exact oneB_in (by assumption) | exact wallB_in (by assumption) | exact oneB_m1 (by assumption) | decide) (by decide) dX6_planGoes_49 ?_
      rw [e49]
      refine v_aload_3_0 G dX6_planGoes_50 ?_
      refine v_getR G vc_6 lk_X6_7 (fs_X6_0) dX6_planGoes_51 ?_
      refine v_bipush (v := nI 59) G dX6_planGoes_54 (by decide) ?_
      refine v_iload_3_2 G dX6_planGoes_56 ?_
      refine v_iaddN G dX6_planGoes_57 ?_
      refine m_ialdN G (by decide) (as_X6_0) (by first | assumption | omega | exact oneB_in (by assumption) | exact wallB_in (by assumption) | exact oneB_m1 (by assumption) | decide) (by decide) dX6_planGoes_58 ?_
      rw [e58]
      refine v_cV3 G (C_X6_hangsOn (g := 260) (hcn k (by omega)) hn5 (by omega) hp5) (by decide) md_X6_hangsOn in_X6_hangsOn (rv_X6 rfl) ml_X6_208 (Nat.le_of_ble_eq_true rfl) dX6_planGoes_59 ?_
      refine v_ifB_eq (tgt := 78) G dX6_planGoes_62 rfl (fun h_62 => ?_) (fun h_62 => ?_)
      · refine v_aload_3_0 G dX6_planGoes_78 ?_
        refine v_aload_3_0 G dX6_planGoes_79 ?_
        refine m_getI G (by decide) vc_6 lk_X6_227 fs_X6_23 dX6_planGoes_80 ?_
        rw [mHgW_75]
        refine v_bipush (v := (-4)) G dX6_planGoes_83 (by decide) ?_
        refine v_icmp_ne (tgt := 92) G dX6_planGoes_85 rfl (fun h_85 => ?_) (fun h_85 => ?_)
        · refine v_aload_3_0 G dX6_planGoes_92 ?_
          refine m_getI G (by decide) vc_6 lk_X6_227 fs_X6_23 dX6_planGoes_93 ?_
          rw [mHgW_75]
          refine m_putI G (by decide) vc_6 vt_6 lk_X6_227 fs_X6_23 (ft_X6_23 _) dX6_planGoes_96 ?_
          refine v_iincN_3_2 G dX6_planGoes_99 rfl ?_
          refine v_goto (tgt := 21) G dX6_planGoes_102 rfl ?_
          rw [pgW, ep, hc] at ih
          simp only [h_29, h_34, h_62, h_85, if_true, if_false, Bool.false_eq_true, reduceIte] at ih
          exact ih
        · refine v_iload_3_2 G dX6_planGoes_88 ?_
          refine v_goto (tgt := 96) G dX6_planGoes_89 rfl ?_
          refine m_putI G (by decide) vc_6 vt_6 lk_X6_227 fs_X6_23 (ft_X6_23 _) dX6_planGoes_96 ?_
          refine v_iincN_3_2 G dX6_planGoes_99 rfl ?_
          refine v_goto (tgt := 21) G dX6_planGoes_102 rfl ?_
          rw [pgW, ep, hc] at ih
          simp only [h_29, h_34, h_62, h_85, if_true, if_false, Bool.false_eq_true, reduceIte] at ih
          exact ih
      · refine v_aload_3_0 G dX6_planGoes_65 ?_
        refine v_dup G dX6_planGoes_66 rfl ?_
        refine m_getI G (by decide) vc_6 lk_X6_224 fs_X6_22 dX6_planGoes_67 ?_
        rw [mHgW_75]
        refine v_iconst (v := nI 1) G dX6_planGoes_70 (by decide) ?_
        refine v_iadd G dX6_planGoes_71 ?_
        refine m_putI G (by decide) vc_6 vt_6 lk_X6_224 fs_X6_22 (ft_X6_22 _) dX6_planGoes_72 ?_
        refine v_goto (tgt := 99) G dX6_planGoes_75 rfl ?_
        refine v_iincN_3_2 G dX6_planGoes_99 rfl ?_
        refine v_goto (tgt := 21) G dX6_planGoes_102 rfl ?_
        rw [pgW, ep, hc] at ih
        simp only [h_29, h_34, h_62, if_true, if_false, Bool.false_eq_true, reduceIte] at ih
        exact ih
  · show V x 21 [some (.ref 75), some (.int lo), some (.int (nI K))] [] (vrow (pgW σ n lo K) 81 f)
    refine v_iload_3_2 G dX6_planGoes_21 ?_
    refine v_aload_3_0 G dX6_planGoes_22 ?_
    refine v_getR G vc_6 lk_X6_7 (fs_X6_0) dX6_planGoes_23 ?_
    refine v_bipush (v := nI 52) G dX6_planGoes_26 (by decide) ?_
    refine m_ialdN G (by decide) (as_X6_0) (by first | assumption | omega | exact oneB_in (by assumption) | exact wallB_in (by assumption) | exact oneB_m1 (by assumption) | decide) (by decide) dX6_planGoes_28 ?_
    refine v_icmp_ge (tgt := 105) G dX6_planGoes_29 rfl (fun h_29 => ?_) (fun h_29 => absurd (by rw [hc52 K (by omega)]; exact nI_le (Nat.le_refl _) (by omega)) h_29)
    exact v_vret G hQ dX6_planGoes_105 vDet.mk
