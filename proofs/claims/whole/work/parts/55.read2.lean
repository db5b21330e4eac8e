/-! The program's reader: what it takes of the tape -/
def rfW (σ : vW) (c : Int32) : vW := if σ 1 3 = 0 then vset (vset σ 1 3 c) 1 4 (σ 2 3) else σ
set_option maxHeartbeats 4000000 in
theorem C_X0_refuse {σ : vW} {c : Int32} : Ctr mX0_refuse 0 [.ref 1, .int c] σ (vDet none (rfW σ c)) := by
  have e : (vset σ 1 3 c) 2 3 = σ 2 3 := by rw [vset_ne (by decide)]
  refine Ctr.intro (by decide) (fun α => Nat.le_of_ble_eq_true rfl) (fun x G hQ => ?_)
  have G : vG x RX0 cX0_refuse 2 none 0 := G
  show V x 0 [some (.ref 1), some (.int c)] [] σ
  refine v_aload_2_0 G dX0_refuse_0 ?_
  refine v_getI G vc_0 lk_X0_35 (fs_X0_3) dX0_refuse_1 ?_
  refine v_if_ne (tgt := 23) G dX0_refuse_4 rfl (fun h_4 => ?_) (fun h_4 => ?_)
  · exact v_vret G hQ dX0_refuse_23 (vDet.of rfl (by simp only [rfW, h_4, if_true, if_false]))
  · refine v_aload_2_0 G dX0_refuse_7 ?_
    refine v_iload_2_1 G dX0_refuse_8 ?_
    refine v_putI G vc_0 vt_0 lk_X0_35 (fs_X0_3) (ft_X0_3 _) dX0_refuse_9 ?_
    refine v_aload_2_0 G dX0_refuse_12 ?_
    refine v_aload_2_0 G dX0_refuse_13 ?_
    refine v_getR G vc_0 lk_X0_12 (fs_X0_0) dX0_refuse_14 ?_
    refine v_getI G vc_3 lk_X0_162 (fs_X3_3) dX0_refuse_17 ?_
    rw [e]
    refine v_putI G vc_0 vt_0 lk_X0_38 (fs_X0_4) (ft_X0_4 _) dX0_refuse_20 ?_
    exact v_vret G hQ dX0_refuse_23 (vDet.of rfl (by simp only [rfW, h_4, if_true, if_false]))
def tkOK (σ : vW) : Prop := ∃ l p, l ≤ 160 ∧ p ≤ l ∧ σ 2 1 = nI l ∧ σ 2 5 = nI p
def rkQ (σ : vW) : vW := rkW σ (σ 2 1).toNatClampNeg (σ 2 5).toNatClampNeg
theorem C_rk {σ : vW} (h : tkOK σ) : Ctr mX3_readToken 1 [.ref 2] σ (vDet none (rkQ σ)) := by
  obtain ⟨l, p, h1, h2, h3, h4⟩ := h
  rw [rkQ, h3, h4, nI_clamp (by omega), nI_clamp (by omega)]
  exact C_X3_readToken h3 h1 h4 h2
/-- the same world, but for the tape's fields and the fault -/
def scR (b σ : vW) : Prop := (∀ r, r ≠ 1 → r ≠ 2 → b r = σ r) ∧ (∀ i, i ≠ 3 → i ≠ 4 → b 1 i = σ 1 i) ∧ ∀ i, ¬ (2 ≤ i ∧ i ≤ 5) → b 2 i = σ 2 i
theorem scR_refl (σ : vW) : scR σ σ := ⟨fun _ _ _ => rfl, fun _ _ _ => rfl, fun _ _ => rfl⟩
theorem scR_trans {a b c : vW} (h : scR a b) (k : scR b c) : scR a c := ⟨fun r h1 h2 => (h.1 r h1 h2).trans (k.1 r h1 h2), fun i h1 h2 => (h.2.1 i h1 h2).trans (k.2.1 i h1 h2), fun i h1 => (h.2.2 i h1).trans (k.2.2 i h1)⟩
theorem scR_2 {s σ : vW} {i : Nat} {v : Int32} (h : scR s σ) (h1 : 2 ≤ i) (h2 : i ≤ 5) : scR (vset s 2 i v) σ := ⟨fun r a b => by rw [vset_ne b]; exact h.1 r a b, fun j a b => by rw [vset_ne (by decide)]; exact h.2.1 j a b, fun j a => by rw [vset_oth (by omega)]; exact h.2.2 j a⟩
theorem scR_1 {s σ : vW} {i : Nat} {v : Int32} (h : scR s σ) (hi : i = 3 ∨ i = 4) : scR (vset s 1 i v) σ := ⟨fun r a b => by rw [vset_ne a]; exact h.1 r a b, fun j a b => by rw [vset_oth (by omega)]; exact h.2.1 j a b, fun j a => by rw [vset_ne (by decide)]; exact h.2.2 j a⟩
theorem rfW_sc {σ : vW} {c : Int32} : scR (rfW σ c) σ := by
  unfold rfW
  split
  · exact scR_1 (scR_1 (scR_refl σ) (Or.inl rfl)) (Or.inr rfl)
  · exact scR_refl σ
theorem rfW_2 {σ : vW} {c : Int32} : (rfW σ c) 2 = σ 2 := by
  unfold rfW
  split
  · rw [vset_ne (by decide), vset_ne (by decide)]
  · rfl
theorem rkW1_sc {σ : vW} {l q : Nat} : scR (rkW1 σ l q) σ := by
  have h0 : scR (rk0 σ l q) σ := scR_2 (scR_2 (scR_2 (scR_2 (scR_refl σ) (by decide) (by decide)) (by decide) (by decide)) (by decide) (by decide)) (by decide) (by decide)
  have h1 : scR (rk1 σ l q) σ := scR_2 (scR_2 h0 (by decide) (by decide)) (by decide) (by decide)
  unfold rkW1
  split
  · exact scR_2 h0 (by decide) (by decide)
  · split
    · exact h1
    · split
      · split
        · exact h1
        · exact scR_2 h1 (by decide) (by decide)
      · exact h0
theorem rkQ_sc {σ : vW} : scR (rkQ σ) σ := rkW1_sc
theorem rkQ_1 {σ : vW} : (rkQ σ) 1 = σ 1 := by
  have h0 : ∀ l q, (rk0 σ l q) 1 = σ 1 := fun l q => by rw [rk0, vset_ne (by decide), vset_ne (by decide), vset_ne (by decide), vset_ne (by decide)]
  have h1 : ∀ l q, (rk1 σ l q) 1 = σ 1 := fun l q => by rw [rk1, vset_ne (by decide), vset_ne (by decide), h0]
  unfold rkQ rkW rkW1
  split
  · rw [vset_ne (by decide), h0]
  · split
    · exact h1 _ _
    · split
      · split
        · exact h1 _ _
        · rw [vset_ne (by decide), h1]
      · exact h0 _ _
theorem tkOK_rf {σ : vW} {c : Int32} (h : tkOK σ) : tkOK (rfW σ c) := by
  obtain ⟨l, p, h1, h2, h3, h4⟩ := h
  exact ⟨l, p, h1, h2, by rw [rfW_2]; exact h3, by rw [rfW_2]; exact h4⟩
theorem tkOK_rk {σ : vW} (h : tkOK σ) : tkOK (rkQ σ) := by
  obtain ⟨l, p, h1, h2, h3, h4⟩ := h
  have hl : (rkQ σ) 2 1 = nI l := (rkQ_sc.2.2 1 (by omega)).trans h3
  have e : rkQ σ = rkW σ l p := by rw [rkQ, h3, h4, nI_clamp (by omega), nI_clamp (by omega)]
  rw [e] at hl ⊢
  obtain ⟨hq1, hq2⟩ := rkB_le (σ := σ) h2
  rw [rkW] at hl ⊢
  generalize rkB σ l p = q at hl hq1 hq2
  have s5 : (rk0 σ l q) 2 5 = nI q := by rw [rk0, vset_oth (by decide), vset_oth (by decide), vset_oth (by decide), vset_at]
  have t5 : (rk1 σ l q) 2 5 = nI (rkT σ l q) := by rw [rk1, vset_at]
  have hee := rkT_le (σ := σ) (l := l) (q := q) hq2
  unfold rkW1 at hl ⊢
  by_cases h3' : tokOf (bC σ l q) = nI 3
  · rw [if_pos h3'] at hl ⊢
    have hql : q < l := by
      rcases Nat.lt_or_ge q l with h | h
      · exact h
      · exfalso
        rw [bC, if_neg (by omega)] at h3'
        exact absurd h3' (by decide)
    exact ⟨l, q + 1, h1, hql, hl, by rw [vset_at]⟩
  · rw [if_neg h3'] at hl ⊢
    by_cases a1 : tokOf (bC σ l q) = nI 1
    · rw [if_pos a1] at hl ⊢
      exact ⟨l, rkT σ l q, h1, hee.2, hl, t5⟩
    · rw [if_neg a1] at hl ⊢
      by_cases a2 : tokOf (bC σ l q) = nI 2
      · rw [if_pos a2] at hl ⊢
        by_cases a3 : nI (rkT σ l q - q) ≤ nI 2
        · rw [if_pos a3] at hl ⊢
          exact ⟨l, rkT σ l q, h1, hee.2, hl, t5⟩
        · rw [if_neg a3] at hl ⊢
          exact ⟨l, rkT σ l q, h1, hee.2, hl, by rw [vset_oth (by decide)]; exact t5⟩
      · rw [if_neg a2] at hl ⊢
        exact ⟨l, q, h1, hq2, hl, s5⟩
def ntW (σ : vW) : vW := if σ 1 3 = 0 then (if (rkQ σ) 2 2 = 0 then rfW (rkQ σ) (nI 1) else rkQ σ) else σ
def ntB (σ : vW) : Bool := if (ntW σ) 1 3 = 0 then true else false
theorem tkOK_nt {σ : vW} (h : tkOK σ) : tkOK (ntW σ) := by
  unfold ntW
  split
  · split
    · exact tkOK_rf (tkOK_rk h)
    · exact tkOK_rk h
  · exact h
theorem ntW_sc {σ : vW} : scR (ntW σ) σ := by
  unfold ntW
  split
  · split
    · exact scR_trans rfW_sc rkQ_sc
    · exact rkQ_sc
  · exact scR_refl σ
set_option maxHeartbeats 4000000 in
theorem C_X0_nextToken {σ : vW} (h : tkOK σ) : Ctr mX0_nextToken 2 [.ref 1] σ (vDet (some (.int (bI (ntB σ)))) (ntW σ)) := by
  refine Ctr.intro (by decide) (fun α => Nat.le_of_ble_eq_true rfl) (fun x G hQ => ?_)
  have G : vG x RX0 cX0_nextToken 1 (some .boolean) 2 := G
  show V x 0 [some (.ref 1)] [] σ
  have k29 : V x 29 [some (.ref 1)] [] (ntW σ) := by
    refine v_aload_1_0 G dX0_nextToken_29 ?_
    refine v_getI G vc_0 lk_X0_35 (fs_X0_3) dX0_nextToken_30 ?_
    refine v_if_ne (tgt := 40) G dX0_nextToken_33 rfl (fun h_33 => ?_) (fun h_33 => ?_)
    · refine v_iconst (v := nI 0) G dX0_nextToken_40 (by decide) ?_
      exact v_zret G hQ dX0_nextToken_41 (by first | exact Or.inl rfl | exact Or.inr rfl | exact bI_01 _ | assumption) (vDet.of (by simp only [ntB, bI, h_33, if_true, if_false, Bool.false_eq_true]) rfl)
    · refine v_iconst (v := nI 1) G dX0_nextToken_36 (by decide) ?_
      refine v_goto (tgt := 41) G dX0_nextToken_37 rfl ?_
      exact v_zret G hQ dX0_nextToken_41 (by first | exact Or.inl rfl | exact Or.inr rfl | exact bI_01 _ | assumption) (vDet.of (by simp only [ntB, bI, h_33, if_true, if_false, Bool.false_eq_true]) rfl)
  refine v_aload_1_0 G dX0_nextToken_0 ?_
  refine v_getI G vc_0 lk_X0_35 (fs_X0_3) dX0_nextToken_1 ?_
  refine v_if_ne (tgt := 29) G dX0_nextToken_4 rfl (fun h_4 => ?_) (fun h_4 => ?_)
  · simp only [ntW, h_4, if_true, if_false] at k29
    exact k29
  · refine v_aload_1_0 G dX0_nextToken_7 ?_
    refine v_getR G vc_0 lk_X0_12 (fs_X0_0) dX0_nextToken_8 ?_
    refine v_cV0v G (C_rk (by first | assumption | omega | exact oneB_in (by assumption) | exact wallB_in (by assumption) | exact oneB_m1 (by assumption) | decide)) (by decide) md_X3_readToken in_X3_readToken (rv_X3 rfl) ml_X0_156 (Nat.le_of_ble_eq_true rfl) dX0_nextToken_11 ?_
    refine v_aload_1_0 G dX0_nextToken_14 ?_
    refine v_getR G vc_0 lk_X0_12 (fs_X0_0) dX0_nextToken_15 ?_
    refine v_getI G vc_3 lk_X0_52 (fs_X3_2) dX0_nextToken_18 ?_
    refine v_if_ne (tgt := 29) G dX0_nextToken_21 rfl (fun h_21 => ?_) (fun h_21 => ?_)
    · simp only [ntW, h_4, h_21, if_true, if_false] at k29
      exact k29
    · refine v_aload_1_0 G dX0_nextToken_24 ?_
      refine v_iconst (v := nI 1) G dX0_nextToken_25 (by decide) ?_
      refine v_cV1v G (C_X0_refuse) (by decide) md_X0_refuse in_X0_refuse (rv_X0 rfl) ml_X0_82 (Nat.le_of_ble_eq_true rfl) dX0_nextToken_26 ?_
      simp only [ntW, h_4, h_21, if_true, if_false] at k29
      exact k29
def nh1 (σ : vW) : vW := if σ 1 3 = 0 then (if σ 2 2 = nI 2 then σ else rfW σ (nI 2)) else σ
def nh2 (σ : vW) (mx : Int32) : vW := if σ 1 3 = 0 then (if σ 2 4 ≤ mx then σ else rfW σ (nI 3)) else σ
def nhW (σ : vW) (mx : Int32) : vW := nh2 (nh1 σ) mx
def nhR (σ : vW) (mx : Int32) : Int32 := if (nhW σ mx) 1 3 = 0 then (nhW σ mx) 2 4 else -4
theorem nh1_sc {σ : vW} : scR (nh1 σ) σ := by
  unfold nh1
  split
  · split
    · exact scR_refl σ
    · exact rfW_sc
  · exact scR_refl σ
theorem nh2_sc {σ : vW} {mx : Int32} : scR (nh2 σ mx) σ := by
  unfold nh2
  split
  · split
    · exact scR_refl σ
    · exact rfW_sc
  · exact scR_refl σ
theorem nhW_sc {σ : vW} {mx : Int32} : scR (nhW σ mx) σ := scR_trans nh2_sc nh1_sc
theorem nhW_2 {σ : vW} {mx : Int32} : (nhW σ mx) 2 = σ 2 := by
  have h1 : (nh1 σ) 2 = σ 2 := by
    unfold nh1
    split
    · split
      · rfl
      · exact rfW_2
    · rfl
  unfold nhW nh2
  split
  · split
    · exact h1
    · exact rfW_2.trans h1
  · exact h1
theorem tkOK_nh {σ : vW} {mx : Int32} (h : tkOK σ) : tkOK (nhW σ mx) := by
  obtain ⟨l, p, h1, h2, h3, h4⟩ := h
  exact ⟨l, p, h1, h2, by rw [nhW_2]; exact h3, by rw [nhW_2]; exact h4⟩
set_option maxHeartbeats 4000000 in
theorem C_X0_numberHere {σ : vW} {mx : Int32} : Ctr mX0_numberHere 1 [.ref 1, .int mx] σ (vDet (some (.int (nhR σ mx))) (nhW σ mx)) := by
  refine Ctr.intro (by decide) (fun α => Nat.le_of_ble_eq_true rfl) (fun x G hQ => ?_)
  have G : vG x RX0 cX0_numberHere 2 (some .int) 1 := G
  show V x 0 [some (.ref 1), some (.int mx)] [] σ
  have k46 : V x 46 [some (.ref 1), some (.int mx)] [] (nhW σ mx) := by
    refine v_aload_2_0 G dX0_numberHere_46 ?_
    refine v_getI G vc_0 lk_X0_35 (fs_X0_3) dX0_numberHere_47 ?_
    refine v_if_ne (tgt := 63) G dX0_numberHere_50 rfl (fun h_50 => ?_) (fun h_50 => ?_)
    · refine v_bipush (v := (-4)) G dX0_numberHere_63 (by decide) ?_
      exact v_iret G hQ dX0_numberHere_65 (vDet.of (by simp only [nhR, h_50, if_true, if_false]) rfl)
    · refine v_aload_2_0 G dX0_numberHere_53 ?_
      refine v_getR G vc_0 lk_X0_12 (fs_X0_0) dX0_numberHere_54 ?_
      refine v_getI G vc_3 lk_X0_159 (fs_X3_4) dX0_numberHere_57 ?_
      refine v_goto (tgt := 65) G dX0_numberHere_60 rfl ?_
      exact v_iret G hQ dX0_numberHere_65 (vDet.of (by simp only [nhR, h_50, if_true, if_false]) rfl)
  unfold nhW at k46
  have k23 : V x 23 [some (.ref 1), some (.int mx)] [] (nh1 σ) := by
    generalize nh1 σ = W at k46
    refine v_aload_2_0 G dX0_numberHere_23 ?_
    refine v_getI G vc_0 lk_X0_35 (fs_X0_3) dX0_numberHere_24 ?_
    refine v_if_ne (tgt := 46) G dX0_numberHere_27 rfl (fun h_27 => ?_) (fun h_27 => ?_)
    · simp only [nh2, h_27, if_true, if_false] at k46
      exact k46
    · refine v_aload_2_0 G dX0_numberHere_30 ?_
      refine v_getR G vc_0 lk_X0_12 (fs_X0_0) dX0_numberHere_31 ?_
      refine v_getI G vc_3 lk_X0_159 (fs_X3_4) dX0_numberHere_34 ?_
      refine v_iload_2_1 G dX0_numberHere_37 ?_
      refine v_icmp_le (tgt := 46) G dX0_numberHere_38 rfl (fun h_38 => ?_) (fun h_38 => ?_)
      · simp only [nh2, h_27, h_38, if_true, if_false] at k46
        exact k46
      · refine v_aload_2_0 G dX0_numberHere_41 ?_
        refine v_iconst (v := nI 3) G dX0_numberHere_42 (by decide) ?_
        refine v_cV1v G (C_X0_refuse) (by decide) md_X0_refuse in_X0_refuse (rv_X0 rfl) ml_X0_82 (Nat.le_of_ble_eq_true rfl) dX0_numberHere_43 ?_
        simp only [nh2, h_27, h_38, if_true, if_false] at k46
        exact k46
  refine v_aload_2_0 G dX0_numberHere_0 ?_
  refine v_getI G vc_0 lk_X0_35 (fs_X0_3) dX0_numberHere_1 ?_
  refine v_if_ne (tgt := 23) G dX0_numberHere_4 rfl (fun h_4 => ?_) (fun h_4 => ?_)
  · simp only [nh1, h_4, if_true, if_false] at k23
    exact k23
  · refine v_aload_2_0 G dX0_numberHere_7 ?_
    refine v_getR G vc_0 lk_X0_12 (fs_X0_0) dX0_numberHere_8 ?_
    refine v_getI G vc_3 lk_X0_52 (fs_X3_2) dX0_numberHere_11 ?_
    refine v_iconst (v := nI 2) G dX0_numberHere_14 (by decide) ?_
    refine v_icmp_eq (tgt := 23) G dX0_numberHere_15 rfl (fun h_15 => ?_) (fun h_15 => ?_)
    · simp only [nh1, h_4, h_15, if_true, if_false] at k23
      exact k23
    · refine v_aload_2_0 G dX0_numberHere_18 ?_
      refine v_iconst (v := nI 2) G dX0_numberHere_19 (by decide) ?_
      refine v_cV1v G (C_X0_refuse) (by decide) md_X0_refuse in_X0_refuse (rv_X0 rfl) ml_X0_82 (Nat.le_of_ble_eq_true rfl) dX0_numberHere_20 ?_
      simp only [nh1, h_4, h_15, if_true, if_false] at k23
      exact k23
def nnW (σ : vW) (mx : Int32) : vW := if ntB σ = true then nhW (ntW σ) mx else ntW σ
def nnR (σ : vW) (mx : Int32) : Int32 := if ntB σ = true then nhR (ntW σ) mx else -4
theorem nnW_sc {σ : vW} {mx : Int32} : scR (nnW σ mx) σ := by
  unfold nnW
  split
  · exact scR_trans nhW_sc ntW_sc
  · exact ntW_sc
theorem tkOK_nn {σ : vW} {mx : Int32} (h : tkOK σ) : tkOK (nnW σ mx) := by
  unfold nnW
  split
  · exact tkOK_nh (tkOK_nt h)
  · exact tkOK_nt h
set_option maxHeartbeats 4000000 in
theorem C_X0_nextNumber {σ : vW} {mx : Int32} (h : tkOK σ) : Ctr mX0_nextNumber 3 [.ref 1, .int mx] σ (vDet (some (.int (nnR σ mx))) (nnW σ mx)) := by
  refine Ctr.intro (by decide) (fun α => Nat.le_of_ble_eq_true rfl) (fun x G hQ => ?_)
  have G : vG x RX0 cX0_nextNumber 2 (some .int) 3 := G
  show V x 0 [some (.ref 1), some (.int mx)] [] σ
  refine v_aload_2_0 G dX0_nextNumber_0 ?_
  refine v_cV0 G (C_X0_nextToken (by first | assumption | omega | exact oneB_in (by assumption) | exact wallB_in (by assumption) | exact oneB_m1 (by assumption) | decide)) (by decide) md_X0_nextToken in_X0_nextToken (rv_X0 rfl) ml_X0_48 (Nat.le_of_ble_eq_true rfl) dX0_nextNumber_1 ?_
  refine v_ifB_eq (tgt := 15) G dX0_nextNumber_4 rfl (fun h_4 => ?_) (fun h_4 => ?_)
  · refine v_bipush (v := (-4)) G dX0_nextNumber_15 (by decide) ?_
    exact v_iret G hQ dX0_nextNumber_17 (vDet.of (by simp only [nnR, bI, h_4, if_true, if_false, Bool.false_eq_true, reduceIte, ite_self] <;> try rfl) (by simp only [nnW, h_4, if_true, if_false, Bool.false_eq_true, reduceIte, ite_self] <;> try rfl))
  · refine v_aload_2_0 G dX0_nextNumber_7 ?_
    refine v_iload_2_1 G dX0_nextNumber_8 ?_
    refine v_cV1 G (C_X0_numberHere) (by decide) md_X0_numberHere in_X0_numberHere (rv_X0 rfl) ml_X0_120 (Nat.le_of_ble_eq_true rfl) dX0_nextNumber_9 ?_
    refine v_goto (tgt := 17) G dX0_nextNumber_12 rfl ?_
    exact v_iret G hQ dX0_nextNumber_17 (vDet.of (by simp only [nnR, bI, h_4, if_true, if_false, Bool.false_eq_true, reduceIte, ite_self] <;> try rfl) (by simp only [nnW, h_4, if_true, if_false, Bool.false_eq_true, reduceIte, ite_self] <;> try rfl))
def tsW (σ : vW) : vW := if σ 1 3 = 0 then (if σ 2 2 = nI 3 then σ else rfW σ (nI 2)) else σ
theorem tsW_sc {σ : vW} : scR (tsW σ) σ := by
  unfold tsW
  split
  · split
    · exact scR_refl σ
    · exact rfW_sc
  · exact scR_refl σ
theorem tkOK_ts {σ : vW} (h : tkOK σ) : tkOK (tsW σ) := by
  unfold tsW
  split
  · split
    · exact h
    · exact tkOK_rf h
  · exact h
set_option maxHeartbeats 4000000 in
theorem C_X0_takeSign {σ : vW} : Ctr mX0_takeSign 1 [.ref 1] σ (vDet none (tsW σ)) := by
  refine Ctr.intro (by decide) (fun α => Nat.le_of_ble_eq_true rfl) (fun x G hQ => ?_)
  have G : vG x RX0 cX0_takeSign 1 none 1 := G
  show V x 0 [some (.ref 1)] [] σ
  refine v_aload_1_0 G dX0_takeSign_0 ?_
  refine v_getI G vc_0 lk_X0_35 (fs_X0_3) dX0_takeSign_1 ?_
  refine v_if_ne (tgt := 23) G dX0_takeSign_4 rfl (fun h_4 => ?_) (fun h_4 => ?_)
  · exact v_vret G hQ dX0_takeSign_23 (vDet.of rfl (by simp only [tsW, h_4, if_true, if_false]))
  · refine v_aload_1_0 G dX0_takeSign_7 ?_
    refine v_getR G vc_0 lk_X0_12 (fs_X0_0) dX0_takeSign_8 ?_
    refine v_getI G vc_3 lk_X0_52 (fs_X3_2) dX0_takeSign_11 ?_
    refine v_iconst (v := nI 3) G dX0_takeSign_14 (by decide) ?_
    refine v_icmp_eq (tgt := 23) G dX0_takeSign_15 rfl (fun h_15 => ?_) (fun h_15 => ?_)
    · exact v_vret G hQ dX0_takeSign_23 (vDet.of rfl (by simp only [tsW, h_4, h_15, if_true, if_false]))
    · refine v_aload_1_0 G dX0_takeSign_18 ?_
      refine v_iconst (v := nI 2) G dX0_takeSign_19 (by decide) ?_
      refine v_cV1v G (C_X0_refuse) (by decide) md_X0_refuse in_X0_refuse (rv_X0 rfl) ml_X0_82 (Nat.le_of_ble_eq_true rfl) dX0_takeSign_20 ?_
      exact v_vret G hQ dX0_takeSign_23 (vDet.of rfl (by simp only [tsW, h_4, h_15, if_true, if_false]))
