/-! The model: what is kept, sheets, what was seen -/
set_option maxHeartbeats 4000000 in
theorem C_X6_keep {σ : vW} {f : Nat → Int32} {k : Int32} (hk01 : ∀ i, i < 2 → σ 84 i = 0 ∨ σ 84 i = 1) : Ctr mX6_keep 1 [.ref 75, .int k] (vrow σ 81 f) (vDet (some (.int (if inZ k 2 = true then (if σ 84 k.toNatClampNeg = 0 then nI 0 else nI 1) else -1))) (vrow (if inZ k 2 = true then vset (cpW σ 0 (65 * (k.toNatClampNeg + 1))) 84 k.toNatClampNeg (nI 1) else σ) 81 f)) := by
  refine Ctr.intro (by decide) (fun α => Nat.le_of_ble_eq_true rfl) (fun x G hQ => ?_)
  have G : vG x RX6 cX6_keep 3 (some .int) 1 := G
  show V x 0 [some (.ref 75), some (.int k), none] [] (vrow σ 81 f)
  refine v_iload_3_1 G dX6_keep_0 ?_
  refine v_i2l G dX6_keep_1 ?_
  refine v_lconst (v := lN 0) G dX6_keep_2 (by decide) ?_
  refine v_lconst (v := lN 1) G dX6_keep_3 (by decide) ?_
  refine v_cS3 G (C_inK 2 (by decide)) (by decide) md_X6_in st_X6_in ml_X6_49 (Nat.le_of_ble_eq_true rfl) dX6_keep_4 ?_
  refine v_ifB_ne (tgt := 12) G dX6_keep_7 rfl (fun h_7 => ?_) (fun h_7 => ?_)
  · obtain ⟨k0, hk0, rfl⟩ := inZ_ex h_7 (by omega)
    have ck0 : (nI k0).toNatClampNeg = k0 := nI_clamp (by omega)
    refine v_aload_3_0 G dX6_keep_12 ?_
    refine v_iconst (v := nI 0) G dX6_keep_13 (by decide) ?_
    refine v_bipush (v := nI 65) G dX6_keep_14 (by decide) ?_
    refine v_iload_3_1 G dX6_keep_16 ?_
    refine v_iconst (v := nI 1) G dX6_keep_17 (by decide) ?_
    refine v_iaddN G dX6_keep_18 ?_
    refine v_imulN G dX6_keep_19 ?_
    refine v_cV2v G (C_X6_copies (a := 0) (by omega) (by omega) (by omega)) (by decide) md_X6_copies in_X6_copies (rv_X6 rfl) ml_X6_220 (Nat.le_of_ble_eq_true rfl) dX6_keep_20 ?_
    refine v_aload_3_0 G dX6_keep_23 ?_
    refine v_getR G vc_6 lk_X6_34 (fs_X6_27) dX6_keep_24 ?_
    refine v_iload_3_1 G dX6_keep_27 ?_
    refine m_zaldN G (by decide) (as_X6_27) (by first | assumption | omega | exact oneB_in (by assumption) | exact wallB_in (by assumption) | exact oneB_m1 (by assumption) | decide) (by decide) dX6_keep_28 ?_
    rw [cpW_ne (by decide)]
    refine v_if_eq (tgt := 36) G dX6_keep_29 rfl (fun h_29 => ?_) (fun h_29 => ?_)
    · refine v_iconst (v := nI 0) G dX6_keep_36 (by decide) ?_
      refine v_istore_3_2 G dX6_keep_37 rfl ?_
      refine v_aload_3_0 G dX6_keep_38 ?_
      refine v_getR G vc_6 lk_X6_34 (fs_X6_27) dX6_keep_39 ?_
      refine v_iload_3_1 G dX6_keep_42 ?_
      refine v_iconst (v := nI 1) G dX6_keep_43 (by decide) ?_
      refine m_zastN G (by decide) (as_X6_27) (by first | assumption | omega | exact oneB_in (by assumption) | exact wallB_in (by assumption) | exact oneB_m1 (by assumption) | decide) (by decide) (by first | exact Or.inl rfl | exact Or.inr rfl | exact bI_01 _ | assumption) dX6_keep_44 ?_
      refine v_iload_3_2 G dX6_keep_45 ?_
      exact v_iret G hQ dX6_keep_46 (vDet.of (by simp only [h_7, ck0, h_29, bI, h_7, ck0, h_29, if_true, if_false, Bool.false_eq_true, reduceIte, ite_self] <;> try rfl) (by simp only [h_7, ck0, h_29, h_7, ck0, h_29, if_true, if_false, Bool.false_eq_true, reduceIte, ite_self] <;> try rfl))
    · refine v_iconst (v := nI 1) G dX6_keep_32 (by decide) ?_
      refine v_goto (tgt := 37) G dX6_keep_33 rfl ?_
      refine v_istore_3_2 G dX6_keep_37 rfl ?_
      refine v_aload_3_0 G dX6_keep_38 ?_
      refine v_getR G vc_6 lk_X6_34 (fs_X6_27) dX6_keep_39 ?_
      refine v_iload_3_1 G dX6_keep_42 ?_
      refine v_iconst (v := nI 1) G dX6_keep_43 (by decide) ?_
      refine m_zastN G (by decide) (as_X6_27) (by first | assumption | omega | exact oneB_in (by assumption) | exact wallB_in (by assumption) | exact oneB_m1 (by assumption) | decide) (by decide) (by first | exact Or.inl rfl | exact Or.inr rfl | exact bI_01 _ | assumption) dX6_keep_44 ?_
      refine v_iload_3_2 G dX6_keep_45 ?_
      exact v_iret G hQ dX6_keep_46 (vDet.of (by simp only [h_7, ck0, h_29, bI, h_7, ck0, h_29, if_true, if_false, Bool.false_eq_true, reduceIte, ite_self] <;> try rfl) (by simp only [h_7, ck0, h_29, h_7, ck0, h_29, if_true, if_false, Bool.false_eq_true, reduceIte, ite_self] <;> try rfl))
  · refine v_iconst (v := (-1)) G dX6_keep_10 (by decide) ?_
    exact v_iret G hQ dX6_keep_11 (vDet.of (by simp only [h_7, bI, h_7, if_true, if_false, Bool.false_eq_true, reduceIte, ite_self] <;> try rfl) (by simp only [h_7, h_7, if_true, if_false, Bool.false_eq_true, reduceIte, ite_self] <;> try rfl))
def mBackW (σ : vW) (k : Int32) : vW := if inZ k 2 = true then (if σ 84 k.toNatClampNeg = 0 then σ else cpW σ (65 * (k.toNatClampNeg + 1)) 0) else σ
def mBackR (σ : vW) (n : Nat) (k : Int32) : Int32 := if inZ k 2 = true then (if σ 84 k.toNatClampNeg = 0 then -2 else mHungG ((cpW σ (65 * (k.toNatClampNeg + 1)) 0) 76) 0 n) else -1
set_option maxHeartbeats 4000000 in
theorem C_X6_back {σ : vW} {f : Nat → Int32} {n : Nat} {k : Int32} (hn : σ 75 1 = nI n) (hn5 : n ≤ 5) : Ctr mX6_back 1 [.ref 75, .int k] (vrow σ 81 f) (vDet (some (.int (mBackR σ n k))) (vrow (mBackW σ k) 81 f)) := by
  refine Ctr.intro (by decide) (fun α => Nat.le_of_ble_eq_true rfl) (fun x G hQ => ?_)
  have G : vG x RX6 cX6_back 2 (some .int) 1 := G
  show V x 0 [some (.ref 75), some (.int k)] [] (vrow σ 81 f)
  refine v_iload_2_1 G dX6_back_0 ?_
  refine v_i2l G dX6_back_1 ?_
  refine v_lconst (v := lN 0) G dX6_back_2 (by decide) ?_
  refine v_lconst (v := lN 1) G dX6_back_3 (by decide) ?_
  refine v_cS3 G (C_inK 2 (by decide)) (by decide) md_X6_in st_X6_in ml_X6_49 (Nat.le_of_ble_eq_true rfl) dX6_back_4 ?_
  refine v_ifB_ne (tgt := 12) G dX6_back_7 rfl (fun h_7 => ?_) (fun h_7 => ?_)
  · obtain ⟨k0, hk0, rfl⟩ := inZ_ex h_7 (by omega)
    have ck0 : (nI k0).toNatClampNeg = k0 := nI_clamp (by omega)
    refine v_aload_2_0 G dX6_back_12 ?_
    refine v_getR G vc_6 lk_X6_34 (fs_X6_27) dX6_back_13 ?_
    refine v_iload_2_1 G dX6_back_16 ?_
    refine m_zaldN G (by decide) (as_X6_27) (by first | assumption | omega | exact oneB_in (by assumption) | exact wallB_in (by assumption) | exact oneB_m1 (by assumption) | decide) (by decide) dX6_back_17 ?_
    refine v_if_ne (tgt := 24) G dX6_back_18 rfl (fun h_18 => ?_) (fun h_18 => ?_)
    · refine v_aload_2_0 G dX6_back_24 ?_
      refine v_bipush (v := nI 65) G dX6_back_25 (by decide) ?_
      refine v_iload_2_1 G dX6_back_27 ?_
      refine v_iconst (v := nI 1) G dX6_back_28 (by decide) ?_
      refine v_iaddN G dX6_back_29 ?_
      refine v_imulN G dX6_back_30 ?_
      refine v_iconst (v := nI 0) G dX6_back_31 (by decide) ?_
      refine v_cV2v G (C_X6_copies (b := 0) (by omega) (by omega) (by omega)) (by decide) md_X6_copies in_X6_copies (rv_X6 rfl) ml_X6_220 (Nat.le_of_ble_eq_true rfl) dX6_back_32 ?_
      refine v_aload_2_0 G dX6_back_35 ?_
      refine v_iconst (v := nI 0) G dX6_back_36 (by decide) ?_
      refine v_cV1 G (C_X6_hungOn (g := 0) (by rw [cpW_75]; exact hn) hn5 (by omega)) (by decide) md_X6_hungOn in_X6_hungOn (rv_X6 rfl) ml_X6_182 (Nat.le_of_ble_eq_true rfl) dX6_back_37 ?_
      exact v_iret G hQ dX6_back_40 (vDet.of (by simp only [mBackR, bI, h_7, ck0, h_18, if_true, if_false, Bool.false_eq_true, reduceIte, ite_self] <;> try rfl) (by simp only [mBackW, h_7, ck0, h_18, if_true, if_false, Bool.false_eq_true, reduceIte, ite_self] <;> try rfl))
    · refine v_bipush (v := (-2)) G dX6_back_21 (by decide) ?_
      exact v_iret G hQ dX6_back_23 (vDet.of (by simp only [mBackR, bI, h_7, ck0, h_18, if_true, if_false, Bool.false_eq_true, reduceIte, ite_self] <;> try rfl) (by simp only [mBackW, h_7, ck0, h_18, if_true, if_false, Bool.false_eq_true, reduceIte, ite_self] <;> try rfl))
  · refine v_iconst (v := (-1)) G dX6_back_10 (by decide) ?_
    exact v_iret G hQ dX6_back_11 (vDet.of (by simp only [mBackR, bI, h_7, if_true, if_false, Bool.false_eq_true, reduceIte, ite_self] <;> try rfl) (by simp only [mBackW, h_7, if_true, if_false, Bool.false_eq_true, reduceIte, ite_self] <;> try rfl))
def mShtF (σ : vW) (s : Nat) (l v : Int32) (k : Nat) : vW := vrow (vset (vset σ 85 s l) 86 s v) 87 (fun i => if 40 * s ≤ i ∧ i < 40 * s + k then nI 0 else σ 87 i)
theorem mShtF_0 {σ : vW} {s : Nat} {l v : Int32} : mShtF σ s l v 0 = vset (vset σ 85 s l) 86 s v := by
  have e : (vset (vset σ 85 s l) 86 s v) 87 = σ 87 := by rw [vset_ne (by decide), vset_ne (by decide)]
  have e2 : (fun i => if 40 * s ≤ i ∧ i < 40 * s + 0 then nI 0 else σ 87 i) = (vset (vset σ 85 s l) 86 s v) 87 := by
    rw [e]
    funext i
    rw [if_neg (by omega)]
  rw [mShtF, e2, vrow_same]
theorem mShtF_s {σ : vW} {s k : Nat} {l v : Int32} : vset (mShtF σ s l v k) 87 (40 * s + k) (nI 0) = mShtF σ s l v (k + 1) := by
  rw [vset_row, mShtF, vrow_row, vrow_at, mShtF]
  congr 1
  funext i
  by_cases h : i = 40 * s + k
  · subst h
    simp only [upd, if_true]
    rw [if_pos (by omega)]
  · simp only [upd, if_neg h]
    by_cases h2 : 40 * s ≤ i ∧ i < 40 * s + k
    · rw [if_pos h2, if_pos (by omega)]
    · rw [if_neg h2, if_neg (by omega)]
def mShtR (s l v : Int32) : Int32 := if inZ s 4 = true then (if inZ l 3 = true then (if v ≤ nI 40 then (if 0 ≤ v then nI 1 else -14) else -1) else -1) else -1
def mShtW (σ : vW) (s l v : Int32) : vW := if inZ s 4 = true then (if inZ l 3 = true then (if v ≤ nI 40 then (if 0 ≤ v then mShtF σ s.toNatClampNeg l v 40 else σ) else σ) else σ) else σ
set_option maxHeartbeats 4000000 in
theorem C_X6_sheet {σ : vW} {f : Nat → Int32} {s l v : Int32} : Ctr mX6_sheet 1 [.ref 75, .int s, .int l, .int v] (vrow σ 81 f) (vDet (some (.int (mShtR s l v))) (vrow (mShtW σ s l v) 81 f)) := by
  refine Ctr.intro (by decide) (fun α => Nat.le_of_ble_eq_true rfl) (fun x G hQ => ?_)
  have G : vG x RX6 cX6_sheet 5 (some .int) 1 := G
  show V x 0 [some (.ref 75), some (.int s), some (.int l), some (.int v), none] [] (vrow σ 81 f)
  refine v_iload_5_1 G dX6_sheet_0 ?_
  refine v_i2l G dX6_sheet_1 ?_
  refine v_lconst (v := lN 0) G dX6_sheet_2 (by decide) ?_
  refine v_ldc2 G ct_X6_195 dX6_sheet_3 ?_
  refine v_cS3 G (C_inK 4 (by decide)) (by decide) md_X6_in st_X6_in ml_X6_49 (Nat.le_of_ble_eq_true rfl) dX6_sheet_6 ?_
  refine v_ifB_eq (tgt := 30) G dX6_sheet_9 rfl (fun h_9 => ?_) (fun h_9 => ?_)
  · refine v_iconst (v := (-1)) G dX6_sheet_30 (by decide) ?_
    exact v_iret G hQ dX6_sheet_31 (vDet.of (by simp only [mShtR, bI, h_9, if_true, if_false, Bool.false_eq_true, reduceIte, ite_self] <;> try rfl) (by simp only [mShtW, h_9, if_true, if_false, Bool.false_eq_true, reduceIte, ite_self] <;> try rfl))
  · obtain ⟨s0, hs0, rfl⟩ := inZ_ex h_9 (by omega)
    have cs0 : (nI s0).toNatClampNeg = s0 := nI_clamp (by omega)
    refine v_iload_5_2 G dX6_sheet_12 ?_
    refine v_i2l G dX6_sheet_13 ?_
    refine v_lconst (v := lN 0) G dX6_sheet_14 (by decide) ?_
    refine v_ldc2 G ct_X6_200 dX6_sheet_15 ?_
    refine v_cS3 G (C_inK 3 (by decide)) (by decide) md_X6_in st_X6_in ml_X6_49 (Nat.le_of_ble_eq_true rfl) dX6_sheet_18 ?_
    refine v_ifB_eq (tgt := 30) G dX6_sheet_21 rfl (fun h_21 => ?_) (fun h_21 => ?_)
    · refine v_iconst (v := (-1)) G dX6_sheet_30 (by decide) ?_
      exact v_iret G hQ dX6_sheet_31 (vDet.of (by simp only [mShtR, bI, h_9, cs0, h_21, if_true, if_false, Bool.false_eq_true, reduceIte, ite_self] <;> try rfl) (by simp only [mShtW, h_9, cs0, h_21, if_true, if_false, Bool.false_eq_true, reduceIte, ite_self] <;> try rfl))
    · refine v_iload_5_3 G dX6_sheet_24 ?_
      refine v_bipush (v := nI 40) G dX6_sheet_25 (by decide) ?_
      refine v_icmp_le (tgt := 32) G dX6_sheet_27 rfl (fun h_27 => ?_) (fun h_27 => ?_)
      · refine v_iload_5_3 G dX6_sheet_32 ?_
        refine v_if_ge (tgt := 39) G dX6_sheet_33 rfl (fun h_33 => ?_) (fun h_33 => ?_)
        · refine v_aload_5_0 G dX6_sheet_39 ?_
          refine v_getR G vc_6 lk_X6_38 (fs_X6_28) dX6_sheet_40 ?_
          refine v_iload_5_1 G dX6_sheet_43 ?_
          refine v_iload_5_2 G dX6_sheet_44 ?_
          refine m_iastN G (by decide) (as_X6_28) (by first | assumption | omega | exact oneB_in (by assumption) | exact wallB_in (by assumption) | exact oneB_m1 (by assumption) | decide) (by decide) dX6_sheet_45 ?_
          refine v_aload_5_0 G dX6_sheet_46 ?_
          refine v_getR G vc_6 lk_X6_41 (fs_X6_29) dX6_sheet_47 ?_
          refine v_iload_5_1 G dX6_sheet_50 ?_
          refine v_iload_5_3 G dX6_sheet_51 ?_
          refine m_iastN G (by decide) (as_X6_29) (by first | assumption | omega | exact oneB_in (by assumption) | exact wallB_in (by assumption) | exact oneB_m1 (by assumption) | decide) (by decide) dX6_sheet_52 ?_
          refine v_iconst (v := nI 0) G dX6_sheet_53 (by decide) ?_
          refine v_istore_5_4 G dX6_sheet_54 rfl ?_
          rw [← mShtF_0]
          refine v_for (pc := 56) (40) (fun k => ([some (.ref 75), some (.int (nI s0)), some (.int l), some (.int v), some (.int (nI k))], (vrow (mShtF σ s0 l v k) 81 f))) (fun k hk ih => ?_) ?_
          · show V x 56 [some (.ref 75), some (.int (nI s0)), some (.int l), some (.int v), some (.int (nI k))] [] (vrow (mShtF σ s0 l v k) 81 f)
            have ih : V x 56 [some (.ref 75), some (.int (nI s0)), some (.int l), some (.int v), some (.int (nI (k + 1)))] [] (vrow (mShtF σ s0 l v (k + 1)) 81 f) := ih
            refine v_iload_5_4 G dX6_sheet_56 ?_
            refine v_bipush (v := nI 40) G dX6_sheet_58 (by decide) ?_
            refine v_icmp_ge (tgt := 82) G dX6_sheet_60 rfl (fun h_60 => absurd h_60 (by exact nI_ge hk (by omega))) (fun h_60 => ?_)
            refine v_aload_5_0 G dX6_sheet_63 ?_
            refine v_getR G vc_6 lk_X6_44 (fs_X6_30) dX6_sheet_64 ?_
            refine v_bipush (v := nI 40) G dX6_sheet_67 (by decide) ?_
            refine v_iload_5_1 G dX6_sheet_69 ?_
            refine v_imulN G dX6_sheet_70 ?_
            refine v_iload_5_4 G dX6_sheet_71 ?_
            refine v_iaddN G dX6_sheet_73 ?_
            refine v_iconst (v := nI 0) G dX6_sheet_74 (by decide) ?_
            refine m_iastN G (by decide) (as_X6_30) (by first | assumption | omega | exact oneB_in (by assumption) | exact wallB_in (by assumption) | exact oneB_m1 (by assumption) | decide) (by decide) dX6_sheet_75 ?_
            refine v_iincN_5_4 G dX6_sheet_76 rfl ?_
            refine v_goto (tgt := 56) G dX6_sheet_79 rfl ?_
            rw [mShtF_s]
            exact ih
          · show V x 56 [some (.ref 75), some (.int (nI s0)), some (.int l), some (.int v), some (.int (nI 40))] [] (vrow (mShtF σ s0 l v 40) 81 f)
            refine v_iload_5_4 G dX6_sheet_56 ?_
            refine v_bipush (v := nI 40) G dX6_sheet_58 (by decide) ?_
            refine v_icmp_ge (tgt := 82) G dX6_sheet_60 rfl (fun h_60 => ?_) (fun h_60 => absurd (by exact nI_le (Nat.le_refl _) (by omega)) h_60)
            refine v_iconst (v := nI 1) G dX6_sheet_82 (by decide) ?_
            exact v_iret G hQ dX6_sheet_83 (vDet.of (by simp only [mShtR, h_9, cs0, h_21, h_27, h_33, bI, h_60, if_true, if_false, Bool.false_eq_true, reduceIte, ite_self] <;> try rfl) (by simp only [mShtW, h_9, cs0, h_21, h_27, h_33, h_60, if_true, if_false, Bool.false_eq_true, reduceIte, ite_self] <;> try rfl))
        · refine v_bipush (v := (-14)) G dX6_sheet_36 (by decide) ?_
          exact v_iret G hQ dX6_sheet_38 (vDet.of (by simp only [mShtR, bI, h_9, cs0, h_21, h_27, h_33, if_true, if_false, Bool.false_eq_true, reduceIte, ite_self] <;> try rfl) (by simp only [mShtW, h_9, cs0, h_21, h_27, h_33, if_true, if_false, Bool.false_eq_true, reduceIte, ite_self] <;> try rfl))
      · refine v_iconst (v := (-1)) G dX6_sheet_30 (by decide) ?_
        exact v_iret G hQ dX6_sheet_31 (vDet.of (by simp only [mShtR, bI, h_9, cs0, h_21, h_27, if_true, if_false, Bool.false_eq_true, reduceIte, ite_self] <;> try rfl) (by simp only [mShtW, h_9, cs0, h_21, h_27, if_true, if_false, Bool.false_eq_true, reduceIte, ite_self] <;> try rfl))
def mLayV (l v : Int32) : Int32 := if l = 0 then (v <<< (nI 24 &&& 31)) >>> (nI 24 &&& 31) else if l = nI 1 then (v <<< (nI 16 &&& 31)) >>> (nI 16 &&& 31) else v
def mLayR (σ : vW) (n : Nat) (s i : Int32) : Int32 := if inZ s 4 = true then (if σ 85 s.toNatClampNeg = -4 then -11 else if inZ i n = true then nI 1 else -12) else -1
def mLayW (σ : vW) (n : Nat) (s i v : Int32) : vW := if inZ s 4 = true then (if σ 85 s.toNatClampNeg = -4 then σ else if inZ i n = true then vset σ 87 (40 * s.toNatClampNeg + i.toNatClampNeg) (mLayV (σ 85 s.toNatClampNeg) v) else σ) else σ
set_option maxHeartbeats 4000000 in
theorem C_X6_lay {σ : vW} {f : Nat → Int32} {n : Nat} {s i v : Int32} (hl : ∀ k, k < 4 → s = nI k → σ 86 k = nI n) (hn : n ≤ 40) : Ctr mX6_lay 1 [.ref 75, .int s, .int i, .int v] (vrow σ 81 f) (vDet (some (.int (mLayR σ n s i))) (vrow (mLayW σ n s i v) 81 f)) := by
  have c1 : ¬ nI 1 = -4 := by decide
  have c2 : ¬ (0 : Int32) = -4 := by decide
  have c3 : ¬ nI 1 = 0 := by decide
  refine Ctr.intro (by decide) (fun α => Nat.le_of_ble_eq_true rfl) (fun x G hQ => ?_)
  have G : vG x RX6 cX6_lay 4 (some .int) 1 := G
  show V x 0 [some (.ref 75), some (.int s), some (.int i), some (.int v)] [] (vrow σ 81 f)
  refine v_iload_4_1 G dX6_lay_0 ?_
  refine v_i2l G dX6_lay_1 ?_
  refine v_lconst (v := lN 0) G dX6_lay_2 (by decide) ?_
  refine v_ldc2 G ct_X6_195 dX6_lay_3 ?_
  refine v_cS3 G (C_inK 4 (by decide)) (by decide) md_X6_in st_X6_in ml_X6_49 (Nat.le_of_ble_eq_true rfl) dX6_lay_6 ?_
  refine v_ifB_ne (tgt := 14) G dX6_lay_9 rfl (fun h_9 => ?_) (fun h_9 => ?_)
  · obtain ⟨s0, hs0, rfl⟩ := inZ_ex h_9 (by omega)
    have cs0 : (nI s0).toNatClampNeg = s0 := nI_clamp (by omega)
    refine v_aload_4_0 G dX6_lay_14 ?_
    refine v_getR G vc_6 lk_X6_38 (fs_X6_28) dX6_lay_15 ?_
    refine v_iload_4_1 G dX6_lay_18 ?_
    refine m_ialdN G (by decide) (as_X6_28) (by first | assumption | omega | exact oneB_in (by assumption) | exact wallB_in (by assumption) | exact oneB_m1 (by assumption) | decide) (by decide) dX6_lay_19 ?_
    refine v_bipush (v := (-4)) G dX6_lay_20 (by decide) ?_
    refine v_icmp_ne (tgt := 28) G dX6_lay_22 rfl (fun h_22 => ?_) (fun h_22 => ?_)
    · refine v_iload_4_2 G dX6_lay_28 ?_
      refine v_i2l G dX6_lay_29 ?_
      refine v_lconst (v := lN 0) G dX6_lay_30 (by decide) ?_
      refine v_aload_4_0 G dX6_lay_31 ?_
      refine v_getR G vc_6 lk_X6_41 (fs_X6_29) dX6_lay_32 ?_
      refine v_iload_4_1 G dX6_lay_35 ?_
      refine m_ialdN G (by decide) (as_X6_29) (by first | assumption | omega | exact oneB_in (by assumption) | exact wallB_in (by assumption) | exact oneB_m1 (by assumption) | decide) (by decide) dX6_lay_36 ?_
      rw [hl s0 hs0 rfl]
      refine v_iconst (v := nI 1) G dX6_lay_37 (by decide) ?_
      refine v_isub G dX6_lay_38 ?_
      refine v_i2l G dX6_lay_39 ?_
      refine v_cS3 G (C_inK _ (inK_1 (by omega))) (by decide) md_X6_in st_X6_in ml_X6_49 (Nat.le_of_ble_eq_true rfl) dX6_lay_40 ?_
      refine v_ifB_ne (tgt := 49) G dX6_lay_43 rfl (fun h_43 => ?_) (fun h_43 => ?_)
      · obtain ⟨i0, hi0, rfl⟩ := inZ_ex h_43 (by omega)
        have ci0 : (nI i0).toNatClampNeg = i0 := nI_clamp (by omega)
        refine v_aload_4_0 G dX6_lay_49 ?_
        refine v_getR G vc_6 lk_X6_44 (fs_X6_30) dX6_lay_50 ?_
        refine v_bipush (v := nI 40) G dX6_lay_53 (by decide) ?_
        refine v_iload_4_1 G dX6_lay_55 ?_
        refine v_imulN G dX6_lay_56 ?_
        refine v_iload_4_2 G dX6_lay_57 ?_
        refine v_iaddN G dX6_lay_58 ?_
        refine v_aload_4_0 G dX6_lay_59 ?_
        refine v_getR G vc_6 lk_X6_38 (fs_X6_28) dX6_lay_60 ?_
        refine v_iload_4_1 G dX6_lay_63 ?_
        refine m_ialdN G (by decide) (as_X6_28) (by first | assumption | omega | exact oneB_in (by assumption) | exact wallB_in (by assumption) | exact oneB_m1 (by assumption) | decide) (by decide) dX6_lay_64 ?_
        refine v_if_ne (tgt := 78) G dX6_lay_65 rfl (fun h_65 => ?_) (fun h_65 => ?_)
        · refine v_aload_4_0 G dX6_lay_78 ?_
          refine v_getR G vc_6 lk_X6_38 (fs_X6_28) dX6_lay_79 ?_
          refine v_iload_4_1 G dX6_lay_82 ?_
          refine m_ialdN G (by decide) (as_X6_28) (by first | assumption | omega | exact oneB_in (by assumption) | exact wallB_in (by assumption) | exact oneB_m1 (by assumption) | decide) (by decide) dX6_lay_83 ?_
          refine v_iconst (v := nI 1) G dX6_lay_84 (by decide) ?_
          refine v_icmp_ne (tgt := 98) G dX6_lay_85 rfl (fun h_85 => ?_) (fun h_85 => ?_)
          · refine v_iload_4_3 G dX6_lay_98 ?_
            refine m_iastN G (by decide) (as_X6_30) (by first | assumption | omega | exact oneB_in (by assumption) | exact wallB_in (by assumption) | exact oneB_m1 (by assumption) | decide) (by decide) dX6_lay_99 ?_
            refine v_iconst (v := nI 1) G dX6_lay_100 (by decide) ?_
            exact v_iret G hQ dX6_lay_101 (vDet.of (by simp only [mLayR, h_9, cs0, h_22, h_43, ci0, h_65, h_85, c1, c2, c3, if_true, if_false, Bool.false_eq_true]) (by simp only [mLayW, mLayV, h_9, cs0, h_22, h_43, ci0, h_65, h_85, c1, c2, c3, if_true, if_false, Bool.false_eq_true]))
          · refine v_iload_4_3 G dX6_lay_88 ?_
            refine v_bipush (v := nI 16) G dX6_lay_89 (by decide) ?_
            refine v_ishl G dX6_lay_91 ?_
            refine v_bipush (v := nI 16) G dX6_lay_92 (by decide) ?_
            refine v_ishr G dX6_lay_94 ?_
            refine v_goto (tgt := 99) G dX6_lay_95 rfl ?_
            refine m_iastN G (by decide) (as_X6_30) (by first | assumption | omega | exact oneB_in (by assumption) | exact wallB_in (by assumption) | exact oneB_m1 (by assumption) | decide) (by decide) dX6_lay_99 ?_
            refine v_iconst (v := nI 1) G dX6_lay_100 (by decide) ?_
            exact v_iret G hQ dX6_lay_101 (vDet.of (by simp only [mLayR, h_9, cs0, h_22, h_43, ci0, h_65, h_85, c1, c2, c3, if_true, if_false, Bool.false_eq_true]) (by simp only [mLayW, mLayV, h_9, cs0, h_22, h_43, ci0, h_65, h_85, c1, c2, c3, if_true, if_false, Bool.false_eq_true]))
        · refine v_iload_4_3 G dX6_lay_68 ?_
          refine v_bipush (v := nI 24) G dX6_lay_69 (by decide) ?_
          refine v_ishl G dX6_lay_71 ?_
          refine v_bipush (v := nI 24) G dX6_lay_72 (by decide) ?_
          refine v_ishr G dX6_lay_74 ?_
          refine v_goto (tgt := 99) G dX6_lay_75 rfl ?_
          refine m_iastN G (by decide) (as_X6_30) (by first | assumption | omega | exact oneB_in (by assumption) | exact wallB_in (by assumption) | exact oneB_m1 (by assumption) | decide) (by decide) dX6_lay_99 ?_
          refine v_iconst (v := nI 1) G dX6_lay_100 (by decide) ?_
          exact v_iret G hQ dX6_lay_101 (vDet.of (by simp only [mLayR, h_9, cs0, h_22, h_43, ci0, h_65, c1, c2, c3, if_true, if_false, Bool.false_eq_true]) (by simp only [mLayW, mLayV, h_9, cs0, h_22, h_43, ci0, h_65, c1, c2, c3, if_true, if_false, Bool.false_eq_true]))
      · refine v_bipush (v := (-12)) G dX6_lay_46 (by decide) ?_
        exact v_iret G hQ dX6_lay_48 (vDet.of (by simp only [mLayR, h_9, cs0, h_22, h_43, c1, c2, c3, if_true, if_false, Bool.false_eq_true]) (by simp only [mLayW, mLayV, h_9, cs0, h_22, h_43, c1, c2, c3, if_true, if_false, Bool.false_eq_true]))
    · refine v_bipush (v := (-11)) G dX6_lay_25 (by decide) ?_
      exact v_iret G hQ dX6_lay_27 (vDet.of (by simp only [mLayR, h_9, cs0, h_22, c1, c2, c3, if_true, if_false, Bool.false_eq_true]) (by simp only [mLayW, mLayV, h_9, cs0, h_22, c1, c2, c3, if_true, if_false, Bool.false_eq_true]))
  · refine v_iconst (v := (-1)) G dX6_lay_12 (by decide) ?_
    exact v_iret G hQ dX6_lay_13 (vDet.of (by simp only [mLayR, h_9, c1, c2, c3, if_true, if_false, Bool.false_eq_true]) (by simp only [mLayW, mLayV, h_9, c1, c2, c3, if_true, if_false, Bool.false_eq_true]))
def mSeeW (σ : vW) (s : Nat) (p r : Int32) (b : Bool) : vW := vset (vset (vset (vset σ 82 (3 * s) p) 82 (3 * s + 1) r) 82 (3 * s + 2) (bI b)) 75 25 (nI (s + 1))
def mSeeR (n s : Nat) (p r : Int32) : Int32 := if inZ p n = true then (if inZ r 8 = true then (if nI s = nI 6 then -3 else nI (s + 1)) else -1) else -1
def mSeeV (σ : vW) (n s : Nat) (p r : Int32) (b : Bool) : vW := if inZ p n = true then (if inZ r 8 = true then (if nI s = nI 6 then σ else mSeeW σ s p r b) else σ) else σ
set_option maxHeartbeats 4000000 in
theorem C_X6_see {σ : vW} {f : Nat → Int32} {n s : Nat} {p r : Int32} {b : Bool} (hn : σ 75 1 = nI n) (hn5 : n ≤ 5) (hs : σ 75 25 = nI s) (hs6 : s ≤ 6) : Ctr mX6_see 2 [.ref 75, .int p, .int r, .int (bI b)] (vrow σ 81 f) (vDet (some (.int (mSeeR n s p r))) (vrow (mSeeV σ n s p r b) 81 f)) := by
  have e : ∀ i v, (vset σ 82 i v) 75 25 = nI s := fun i v => hs
  have e2 : ∀ i v j w, (vset (vset σ 82 i v) 82 j w) 75 25 = nI s := fun i v j w => hs
  have e3 : ∀ i v j w k u, (vset (vset (vset σ 82 i v) 82 j w) 82 k u) 75 25 = nI s := fun i v j w k u => hs
  refine Ctr.intro (by decide) (fun α => Nat.le_of_ble_eq_true rfl) (fun x G hQ => ?_)
  have G : vG x RX6 cX6_see 4 (some .int) 2 := G
  show V x 0 [some (.ref 75), some (.int p), some (.int r), some (.int (bI b))] [] (vrow σ 81 f)
  refine v_aload_4_0 G dX6_see_0 ?_
  refine v_iload_4_1 G dX6_see_1 ?_
  refine v_cV1 G (C_X6_isOne (by first | exact Nat.lt_of_lt_of_le (show _ < 3 * 6 by have := nI_ne_lt h_23 hs6; omega) (by decide) | omega) (by first | exact Nat.lt_of_lt_of_le (show _ < 3 * 6 by have := nI_ne_lt h_23 hs6; omega) (by decide) | omega)) (by decide) md_X6_isOne in_X6_isOne (rv_X6 rfl) ml_X6_185 (Nat.le_of_ble_eq_true rfl) dX6_see_2 ?_
  refine v_ifB_eq (tgt := 15) G dX6_see_5 rfl (fun h_5 => ?_) (fun h_5 => ?_)
  · refine v_iconst (v := (-1)) G dX6_see_15 (by decide) ?_
    exact v_iret G hQ dX6_see_16 (vDet.of (by simp only [mSeeR, bI, h_5, if_true, if_false, Bool.false_eq_true, reduceIte, ite_self] <;> try rfl) (by simp only [mSeeV, mSeeW, h_5, if_true, if_false, Bool.false_eq_true, reduceIte, ite_self] <;> try rfl))
  · refine v_iload_4_2 G dX6_see_8 ?_
    refine v_cS1 G (C_X6_isRoom) (by decide) md_X6_isRoom st_X6_isRoom ml_X6_197 (Nat.le_of_ble_eq_true rfl) dX6_see_9 ?_
    refine v_ifB_ne (tgt := 17) G dX6_see_12 rfl (fun h_12 => ?_) (fun h_12 => ?_)
    · refine v_aload_4_0 G dX6_see_17 ?_
      refine m_getI G (by decide) vc_6 lk_X6_147 fs_X6_25 dX6_see_18 ?_
      rw [hs]
      refine v_bipush (v := nI 6) G dX6_see_21 (by decide) ?_
      refine v_icmp_ne (tgt := 29) G dX6_see_23 rfl (fun h_23 => ?_) (fun h_23 => ?_)
      · refine v_aload_4_0 G dX6_see_29 ?_
        refine v_getR G vc_6 lk_X6_28 (fs_X6_24) dX6_see_30 ?_
        refine v_iconst (v := nI 3) G dX6_see_33 (by decide) ?_
        refine v_aload_4_0 G dX6_see_34 ?_
        refine m_getI G (by decide) vc_6 lk_X6_147 fs_X6_25 dX6_see_35 ?_
        rw [hs]
        refine v_imulN G dX6_see_38 ?_
        refine v_iload_4_1 G dX6_see_39 ?_
        refine m_iastN G (by decide) (as_X6_24) (by first | exact Nat.lt_of_lt_of_le (show _ < 3 * 6 by have := nI_ne_lt h_23 hs6; omega) (by decide) | omega) (by decide) dX6_see_40 ?_
        refine v_aload_4_0 G dX6_see_41 ?_
        refine v_getR G vc_6 lk_X6_28 (fs_X6_24) dX6_see_42 ?_
        refine v_iconst (v := nI 3) G dX6_see_45 (by decide) ?_
        refine v_aload_4_0 G dX6_see_46 ?_
        refine m_getI G (by decide) vc_6 lk_X6_147 fs_X6_25 dX6_see_47 ?_
        rw [e]
        refine v_imulN G dX6_see_50 ?_
        refine v_iconst (v := nI 1) G dX6_see_51 (by decide) ?_
        refine v_iaddN G dX6_see_52 ?_
        refine v_iload_4_2 G dX6_see_53 ?_
        refine m_iastN G (by decide) (as_X6_24) (by first | exact Nat.lt_of_lt_of_le (show _ < 3 * 6 by have := nI_ne_lt h_23 hs6; omega) (by decide) | omega) (by decide) dX6_see_54 ?_
        refine v_aload_4_0 G dX6_see_55 ?_
        refine v_getR G vc_6 lk_X6_28 (fs_X6_24) dX6_see_56 ?_
        refine v_iconst (v := nI 3) G dX6_see_59 (by decide) ?_
        refine v_aload_4_0 G dX6_see_60 ?_
        refine m_getI G (by decide) vc_6 lk_X6_147 fs_X6_25 dX6_see_61 ?_
        rw [e2]
        refine v_imulN G dX6_see_64 ?_
        refine v_iconst (v := nI 2) G dX6_see_65 (by decide) ?_
        refine v_iaddN G dX6_see_66 ?_
        refine v_iload_4_3 G dX6_see_67 ?_
        refine v_ifB_eq (tgt := 75) G dX6_see_68 rfl (fun h_68 => ?_) (fun h_68 => ?_)
        · refine v_iconst (v := nI 0) G dX6_see_75 (by decide) ?_
          refine m_iastN G (by decide) (as_X6_24) (by first | exact Nat.lt_of_lt_of_le (show _ < 3 * 6 by have := nI_ne_lt h_23 hs6; omega) (by decide) | omega) (by decide) dX6_see_76 ?_
          refine v_aload_4_0 G dX6_see_77 ?_
          refine v_dup G dX6_see_78 rfl ?_
          refine m_getI G (by decide) vc_6 lk_X6_147 fs_X6_25 dX6_see_79 ?_
          rw [e3]
          refine v_iconst (v := nI 1) G dX6_see_82 (by decide) ?_
          refine v_iaddN G dX6_see_83 ?_
          refine m_putI G (by decide) vc_6 vt_6 lk_X6_147 fs_X6_25 (ft_X6_25 _) dX6_see_84 ?_
          refine v_aload_4_0 G dX6_see_87 ?_
          refine m_getI G (by decide) vc_6 lk_X6_147 fs_X6_25 dX6_see_88 ?_
          rw [vset_at]
          exact v_iret G hQ dX6_see_91 (vDet.of (by simp only [mSeeR, bI, h_5, h_12, h_23, h_68, if_true, if_false, Bool.false_eq_true, reduceIte, ite_self] <;> try rfl) (by simp only [mSeeV, mSeeW, h_5, h_12, h_23, h_68, if_true, if_false, Bool.false_eq_true, reduceIte, ite_self] <;> try rfl))
        · refine v_iconst (v := nI 1) G dX6_see_71 (by decide) ?_
          refine v_goto (tgt := 76) G dX6_see_72 rfl ?_
          refine m_iastN G (by decide) (as_X6_24) (by first | exact Nat.lt_of_lt_of_le (show _ < 3 * 6 by have := nI_ne_lt h_23 hs6; omega) (by decide) | omega) (by decide) dX6_see_76 ?_
          refine v_aload_4_0 G dX6_see_77 ?_
          refine v_dup G dX6_see_78 rfl ?_
          refine m_getI G (by decide) vc_6 lk_X6_147 fs_X6_25 dX6_see_79 ?_
          rw [e3]
          refine v_iconst (v := nI 1) G dX6_see_82 (by decide) ?_
          refine v_iaddN G dX6_see_83 ?_
          refine m_putI G (by decide) vc_6 vt_6 lk_X6_147 fs_X6_25 (ft_X6_25 _) dX6_see_84 ?_
          refine v_aload_4_0 G dX6_see_87 ?_
          refine m_getI G (by decide) vc_6 lk_X6_147 fs_X6_25 dX6_see_88 ?_
          rw [vset_at]
          exact v_iret G hQ dX6_see_91 (vDet.of (by simp only [mSeeR, bI, h_5, h_12, h_23, h_68, if_true, if_false, Bool.false_eq_true, reduceIte, ite_self] <;> try rfl) (by simp only [mSeeV, mSeeW, h_5, h_12, h_23, h_68, if_true, if_false, Bool.false_eq_true, reduceIte, ite_self] <;> try rfl))
      · refine v_bipush (v := (-3)) G dX6_see_26 (by decide) ?_
        exact v_iret G hQ dX6_see_28 (vDet.of (by simp only [mSeeR, bI, h_5, h_12, h_23, if_true, if_false, Bool.false_eq_true, reduceIte, ite_self] <;> try rfl) (by simp only [mSeeV, mSeeW, h_5, h_12, h_23, if_true, if_false, Bool.false_eq_true, reduceIte, ite_self] <;> try rfl))
    · refine v_iconst (v := (-1)) G dX6_see_15 (by decide) ?_
      exact v_iret G hQ dX6_see_16 (vDet.of (by simp only [mSeeR, bI, h_5, h_12, if_true, if_false, Bool.false_eq_true, reduceIte, ite_self] <;> try rfl) (by simp only [mSeeV, mSeeW, h_5, h_12, if_true, if_false, Bool.false_eq_true, reduceIte, ite_self] <;> try rfl))
set_option maxHeartbeats 4000000 in
theorem C_X6_forget {σ : vW} {f : Nat → Int32} {s : Nat} {k : Int32} (hs : σ 75 25 = nI s) (hs6 : s ≤ 6) : Ctr mX6_forget 1 [.ref 75, .int k] (vrow σ 81 f) (vDet (some (.int (if inZ k (s + 1) = true then nI s else -1))) (vrow (if inZ k (s + 1) = true then vset σ 75 25 k else σ) 81 f)) := by
  refine Ctr.intro (by decide) (fun α => Nat.le_of_ble_eq_true rfl) (fun x G hQ => ?_)
  have G : vG x RX6 cX6_forget 3 (some .int) 1 := G
  show V x 0 [some (.ref 75), some (.int k), none] [] (vrow σ 81 f)
  refine v_iload_3_1 G dX6_forget_0 ?_
  refine v_i2l G dX6_forget_1 ?_
  refine v_lconst (v := lN 0) G dX6_forget_2 (by decide) ?_
  refine v_aload_3_0 G dX6_forget_3 ?_
  refine m_getI G (by decide) vc_6 lk_X6_147 fs_X6_25 dX6_forget_4 ?_
  rw [hs]
  refine v_i2l G dX6_forget_7 ?_
  refine v_cS3 G (C_inK _ (inK_0 (by omega))) (by decide) md_X6_in st_X6_in ml_X6_49 (Nat.le_of_ble_eq_true rfl) dX6_forget_8 ?_
  refine v_ifB_ne (tgt := 16) G dX6_forget_11 rfl (fun h_11 => ?_) (fun h_11 => ?_)
  · refine v_aload_3_0 G dX6_forget_16 ?_
    refine m_getI G (by decide) vc_6 lk_X6_147 fs_X6_25 dX6_forget_17 ?_
    rw [hs]
    refine v_istore_3_2 G dX6_forget_20 rfl ?_
    refine v_aload_3_0 G dX6_forget_21 ?_
    refine v_iload_3_1 G dX6_forget_22 ?_
    refine m_putI G (by decide) vc_6 vt_6 lk_X6_147 fs_X6_25 (ft_X6_25 _) dX6_forget_23 ?_
    refine v_iload_3_2 G dX6_forget_26 ?_
    exact v_iret G hQ dX6_forget_27 (vDet.of (by simp only [h_11, bI, h_11, if_true, if_false, Bool.false_eq_true, reduceIte, ite_self] <;> try rfl) (by simp only [h_11, h_11, if_true, if_false, Bool.false_eq_true, reduceIte, ite_self] <;> try rfl))
  · refine v_iconst (v := (-1)) G dX6_forget_14 (by decide) ?_
    exact v_iret G hQ dX6_forget_15 (vDet.of (by simp only [h_11, bI, h_11, if_true, if_false, Bool.false_eq_true, reduceIte, ite_self] <;> try rfl) (by simp only [h_11, h_11, if_true, if_false, Bool.false_eq_true, reduceIte, ite_self] <;> try rfl))
def mSumW (R : Nat → Int32) : Nat → Int32
  | 0 => nI 0
  | r + 1 => mSumW R r + R (44 + r)
def mSumG (R : Nat → Int32) : Nat → Int32
  | 0 => nI 0
  | p + 1 => mSumG R p + R (20 + p)
def mCntR (σ : vW) (n : Nat) (k : Int32) : Int32 := if k = nI 0 then σ 75 25 else if k = nI 1 then (if σ 84 0 = 0 then nI 0 else nI 1) + (if σ 84 1 = 0 then nI 0 else nI 1) else if k = nI 2 then σ 75 10 else if k = nI 3 then (if σ 85 0 = -4 then -4 else σ 86 0) else if k = nI 4 then mSumW (σ 76) 8 else if k = nI 5 then mSumG (σ 76) n else -1
set_option maxHeartbeats 4000000 in
theorem C_X6_count {σ : vW} {f : Nat → Int32} {n : Nat} {k : Int32} (hn : σ 75 1 = nI n) (hn5 : n ≤ 5) : Ctr mX6_count 0 [.ref 75, .int k] (vrow σ 81 f) (vDet (some (.int (mCntR σ n k))) (vrow σ 81 f)) := by
  have hb : ∀ a b c d, nI (a + b) = nI c + nI d → nI (a + b) = nI c + nI d := fun _ _ _ _ h => h
  refine Ctr.intro (by decide) (fun α => Nat.le_of_ble_eq_true rfl) (fun x G hQ => ?_)
  have G : vG x RX6 cX6_count 5 (some .int) 0 := G
  show V x 0 [some (.ref 75), some (.int k), none, none, none] [] (vrow σ 81 f)
  refine v_iconst (v := nI 0) G dX6_count_0 (by decide) ?_
  refine v_istore_5_2 G dX6_count_1 rfl ?_
  refine v_iconst (v := nI 0) G dX6_count_2 (by decide) ?_
  refine v_istore_5_3 G dX6_count_3 rfl ?_
  refine v_iconst (v := nI 0) G dX6_count_4 (by decide) ?_
  refine v_istore_5_4 G dX6_count_5 rfl ?_
  refine v_for (pc := 7) (8) (fun r => ([some (.ref 75), some (.int k), some (.int (mSumW (σ 76) r)), some (.int (nI 0)), some (.int (nI r))], (vrow (σ) 81 f))) (fun r hr ih => ?_) ?_
  · show V x 7 [some (.ref 75), some (.int k), some (.int (mSumW (σ 76) r)), some (.int (nI 0)), some (.int (nI r))] [] (vrow (σ) 81 f)
    have ih : V x 7 [some (.ref 75), some (.int k), some (.int (mSumW (σ 76) (r + 1))), some (.int (nI 0)), some (.int (nI (r + 1)))] [] (vrow (σ) 81 f) := ih
    refine v_iload_5_4 G dX6_count_7 ?_
    refine v_bipush (v := nI 8) G dX6_count_9 (by decide) ?_
    refine v_icmp_ge (tgt := 33) G dX6_count_11 rfl (fun h_11 => absurd h_11 (by exact nI_ge hr (by omega))) (fun h_11 => ?_)
    refine v_iload_5_2 G dX6_count_14 ?_
    refine v_aload_5_0 G dX6_count_15 ?_
    refine v_getR G vc_6 lk_X6_7 (fs_X6_0) dX6_count_16 ?_
    refine v_bipush (v := nI 44) G dX6_count_19 (by decide) ?_
    refine v_iload_5_4 G dX6_count_21 ?_
    refine v_iaddN G dX6_count_23 ?_
    refine m_ialdN G (by decide) (as_X6_0) (by first | assumption | omega | exact oneB_in (by assumption) | exact wallB_in (by assumption) | exact oneB_m1 (by assumption) | decide) (by decide) dX6_count_24 ?_
    refine v_iadd G dX6_count_25 ?_
    refine v_istore_5_2 G dX6_count_26 rfl ?_
    refine v_iincN_5_4 G dX6_count_27 rfl ?_
    refine v_goto (tgt := 7) G dX6_count_30 rfl ?_
    rw [mSumW] at ih
    exact ih
  · show V x 7 [some (.ref 75), some (.int k), some (.int (mSumW (σ 76) 8)), some (.int (nI 0)), some (.int (nI 8))] [] (vrow (σ) 81 f)
    refine v_iload_5_4 G dX6_count_7 ?_
    refine v_bipush (v := nI 8) G dX6_count_9 (by decide) ?_
    refine v_icmp_ge (tgt := 33) G dX6_count_11 rfl (fun h_11 => ?_) (fun h_11 => absurd (by exact nI_le (Nat.le_refl _) (by omega)) h_11)
    refine v_iconst (v := nI 0) G dX6_count_33 (by decide) ?_
    refine v_istore_5_4 G dX6_count_34 rfl ?_
    refine v_for (pc := 36) (n) (fun p => ([some (.ref 75), some (.int k), some (.int (mSumW (σ 76) 8)), some (.int (mSumG (σ 76) p)), some (.int (nI p))], (vrow (σ) 81 f))) (fun p hp ih => ?_) ?_
    · show V x 36 [some (.ref 75), some (.int k), some (.int (mSumW (σ 76) 8)), some (.int (mSumG (σ 76) p)), some (.int (nI p))] [] (vrow (σ) 81 f)
      have ih : V x 36 [some (.ref 75), some (.int k), some (.int (mSumW (σ 76) 8)), some (.int (mSumG (σ 76) (p + 1))), some (.int (nI (p + 1)))] [] (vrow (σ) 81 f) := ih
      refine v_iload_5_4 G dX6_count_36 ?_
      refine v_aload_5_0 G dX6_count_38 ?_
      refine m_getI G (by decide) vc_6 lk_X6_144 fs_X6_1 dX6_count_39 ?_
      refine v_icmp_ge (tgt := 64) G dX6_count_42 rfl (fun h_42 => absurd h_42 (by rw [hn]; exact nI_ge hp (by omega))) (fun h_42 => ?_)
      refine v_iload_5_3 G dX6_count_45 ?_
      refine v_aload_5_0 G dX6_count_46 ?_
      refine v_getR G vc_6 lk_X6_7 (fs_X6_0) dX6_count_47 ?_
      refine v_bipush (v := nI 20) G dX6_count_50 (by decide) ?_
      refine v_iload_5_4 G dX6_count_52 ?_
      refine v_iaddN G dX6_count_54 ?_
      refine m_ialdN G (by decide) (as_X6_0) (by first | assumption | omega | exact oneB_in (by assumption) | exact wallB_in (by assumption) | exact oneB_m1 (by assumption) | decide) (by decide) dX6_count_55 ?_
      refine v_iadd G dX6_count_56 ?_
      refine v_istore_5_3 G dX6_count_57 rfl ?_
      refine v_iincN_5_4 G dX6_count_58 rfl ?_
      refine v_goto (tgt := 36) G dX6_count_61 rfl ?_
      rw [mSumG] at ih
      exact ih
    · show V x 36 [some (.ref 75), some (.int k), some (.int (mSumW (σ 76) 8)), some (.int (mSumG (σ 76) n)), some (.int (nI n))] [] (vrow (σ) 81 f)
      refine v_iload_5_4 G dX6_count_36 ?_
      refine v_aload_5_0 G dX6_count_38 ?_
      refine m_getI G (by decide) vc_6 lk_X6_144 fs_X6_1 dX6_count_39 ?_
      refine v_icmp_ge (tgt := 64) G dX6_count_42 rfl (fun h_42 => ?_) (fun h_42 => absurd (by rw [hn]; exact nI_le (Nat.le_refl _) (by omega)) h_42)
      refine v_iload_5_1 G dX6_count_64 ?_
      refine v_tabC (i := 0) (tgt := 104) G dX6_count_65 rfl rfl (by decide) (by decide) (fun h_65_0 => ?_) (fun h_65_0 => ?_)
      · refine v_aload_5_0 G dX6_count_104 ?_
        refine m_getI G (by decide) vc_6 lk_X6_147 fs_X6_25 dX6_count_105 ?_
        exact v_iret G hQ dX6_count_108 (vDet.of (by simp only [mCntR, bI, h_42, h_65_0, ← nI_add, if_true, if_false, Bool.false_eq_true, reduceIte] <;> try rfl) rfl)
      refine v_tabC (i := 1) (tgt := 109) G dX6_count_65 rfl rfl (by decide) (by decide) (fun h_65_1 => ?_) (fun h_65_1 => ?_)
      · refine v_aload_5_0 G dX6_count_109 ?_
        refine v_getR G vc_6 lk_X6_34 (fs_X6_27) dX6_count_110 ?_
        refine v_iconst (v := nI 0) G dX6_count_113 (by decide) ?_
        refine m_zaldN G (by decide) (as_X6_27) (by first | assumption | omega | exact oneB_in (by assumption) | exact wallB_in (by assumption) | exact oneB_m1 (by assumption) | decide) (by decide) dX6_count_114 ?_
        refine v_if_eq (tgt := 122) G dX6_count_115 rfl (fun h_115 => ?_) (fun h_115 => ?_)
        · refine v_iconst (v := nI 0) G dX6_count_122 (by decide) ?_
          refine v_aload_5_0 G dX6_count_123 ?_
          refine v_getR G vc_6 lk_X6_34 (fs_X6_27) dX6_count_124 ?_
          refine v_iconst (v := nI 1) G dX6_count_127 (by decide) ?_
          refine m_zaldN G (by decide) (as_X6_27) (by first | assumption | omega | exact oneB_in (by assumption) | exact wallB_in (by assumption) | exact oneB_m1 (by assumption) | decide) (by decide) dX6_count_128 ?_
          refine v_if_eq (tgt := 136) G dX6_count_129 rfl (fun h_129 => ?_) (fun h_129 => ?_)
          · refine v_iconst (v := nI 0) G dX6_count_136 (by decide) ?_
            refine v_iaddN G dX6_count_137 ?_
            exact v_iret G hQ dX6_count_138 (vDet.of (by simp only [mCntR, bI, h_42, h_65_0, h_65_1, h_115, h_129, ← nI_add, if_true, if_false, Bool.false_eq_true, reduceIte] <;> try rfl) rfl)
          · refine v_iconst (v := nI 1) G dX6_count_132 (by decide) ?_
            refine v_goto (tgt := 137) G dX6_count_133 rfl ?_
            refine v_iaddN G dX6_count_137 ?_
            exact v_iret G hQ dX6_count_138 (vDet.of (by simp only [mCntR, bI, h_42, h_65_0, h_65_1, h_115, h_129, ← nI_add, if_true, if_false, Bool.false_eq_true, reduceIte] <;> try rfl) rfl)
        · refine v_iconst (v := nI 1) G dX6_count_118 (by decide) ?_
          refine v_goto (tgt := 123) G dX6_count_119 rfl ?_
          refine v_aload_5_0 G dX6_count_123 ?_
          refine v_getR G vc_6 lk_X6_34 (fs_X6_27) dX6_count_124 ?_
          refine v_iconst (v := nI 1) G dX6_count_127 (by decide) ?_
          refine m_zaldN G (by decide) (as_X6_27) (by first | assumption | omega | exact oneB_in (by assumption) | exact wallB_in (by assumption) | exact oneB_m1 (by assumption) | decide) (by decide) dX6_count_128 ?_
          refine v_if_eq (tgt := 136) G dX6_count_129 rfl (fun h_129 => ?_) (fun h_129 => ?_)
          · refine v_iconst (v := nI 0) G dX6_count_136 (by decide) ?_
            refine v_iaddN G dX6_count_137 ?_
            exact v_iret G hQ dX6_count_138 (vDet.of (by simp only [mCntR, bI, h_42, h_65_0, h_65_1, h_115, h_129, ← nI_add, if_true, if_false, Bool.false_eq_true, reduceIte] <;> try rfl) rfl)
          · refine v_iconst (v := nI 1) G dX6_count_132 (by decide) ?_
            refine v_goto (tgt := 137) G dX6_count_133 rfl ?_
            refine v_iaddN G dX6_count_137 ?_
            exact v_iret G hQ dX6_count_138 (vDet.of (by simp only [mCntR, bI, h_42, h_65_0, h_65_1, h_115, h_129, ← nI_add, if_true, if_false, Bool.false_eq_true, reduceIte] <;> try rfl) rfl)
      refine v_tabC (i := 2) (tgt := 139) G dX6_count_65 rfl rfl (by decide) (by decide) (fun h_65_2 => ?_) (fun h_65_2 => ?_)
      · refine v_aload_5_0 G dX6_count_139 ?_
        refine m_getI G (by decide) vc_6 lk_X6_53 fs_X6_10 dX6_count_140 ?_
        exact v_iret G hQ dX6_count_143 (vDet.of (by simp only [mCntR, bI, h_42, h_65_0, h_65_1, h_65_2, ← nI_add, if_true, if_false, Bool.false_eq_true, reduceIte] <;> try rfl) rfl)
      refine v_tabC (i := 3) (tgt := 144) G dX6_count_65 rfl rfl (by decide) (by decide) (fun h_65_3 => ?_) (fun h_65_3 => ?_)
      · refine v_aload_5_0 G dX6_count_144 ?_
        refine v_getR G vc_6 lk_X6_38 (fs_X6_28) dX6_count_145 ?_
        refine v_iconst (v := nI 0) G dX6_count_148 (by decide) ?_
        refine m_ialdN G (by decide) (as_X6_28) (by first | assumption | omega | exact oneB_in (by assumption) | exact wallB_in (by assumption) | exact oneB_m1 (by assumption) | decide) (by decide) dX6_count_149 ?_
        refine v_bipush (v := (-4)) G dX6_count_150 (by decide) ?_
        refine v_icmp_ne (tgt := 160) G dX6_count_152 rfl (fun h_152 => ?_) (fun h_152 => ?_)
        · refine v_aload_5_0 G dX6_count_160 ?_
          refine v_getR G vc_6 lk_X6_41 (fs_X6_29) dX6_count_161 ?_
          refine v_iconst (v := nI 0) G dX6_count_164 (by decide) ?_
          refine m_ialdN G (by decide) (as_X6_29) (by first | assumption | omega | exact oneB_in (by assumption) | exact wallB_in (by assumption) | exact oneB_m1 (by assumption) | decide) (by decide) dX6_count_165 ?_
          exact v_iret G hQ dX6_count_166 (vDet.of (by simp only [mCntR, bI, h_42, h_65_0, h_65_1, h_65_2, h_65_3, h_152, ← nI_add, if_true, if_false, Bool.false_eq_true, reduceIte] <;> try rfl) rfl)
        · refine v_bipush (v := (-4)) G dX6_count_155 (by decide) ?_
          refine v_goto (tgt := 166) G dX6_count_157 rfl ?_
          exact v_iret G hQ dX6_count_166 (vDet.of (by simp only [mCntR, bI, h_42, h_65_0, h_65_1, h_65_2, h_65_3, h_152, ← nI_add, if_true, if_false, Bool.false_eq_true, reduceIte] <;> try rfl) rfl)
      refine v_tabC (i := 4) (tgt := 167) G dX6_count_65 rfl rfl (by decide) (by decide) (fun h_65_4 => ?_) (fun h_65_4 => ?_)
      · refine v_iload_5_2 G dX6_count_167 ?_
        exact v_iret G hQ dX6_count_168 (vDet.of (by simp only [mCntR, bI, h_42, h_65_0, h_65_1, h_65_2, h_65_3, h_65_4, ← nI_add, if_true, if_false, Bool.false_eq_true, reduceIte] <;> try rfl) rfl)
      refine v_tabC (i := 5) (tgt := 169) G dX6_count_65 rfl rfl (by decide) (by decide) (fun h_65_5 => ?_) (fun h_65_5 => ?_)
      · refine v_iload_5_3 G dX6_count_169 ?_
        exact v_iret G hQ dX6_count_170 (vDet.of (by simp only [mCntR, bI, h_42, h_65_0, h_65_1, h_65_2, h_65_3, h_65_4, h_65_5, ← nI_add, if_true, if_false, Bool.false_eq_true, reduceIte] <;> try rfl) rfl)
      refine v_tabE (n := 6) (tgt := 171) G dX6_count_65 (fun i hi => by rcases (show i = 0 ∨ i = 1 ∨ i = 2 ∨ i = 3 ∨ i = 4 ∨ i = 5 by omega) with rfl | rfl | rfl | rfl | rfl | rfl <;> assumption) rfl rfl (by decide) ?_
      refine v_iconst (v := (-1)) G dX6_count_171 (by decide) ?_
      exact v_iret G hQ dX6_count_172 (vDet.of (by simp only [mCntR, bI, h_42, h_65_0, h_65_1, h_65_2, h_65_3, h_65_4, h_65_5, ← nI_add, if_true, if_false, Bool.false_eq_true, reduceIte] <;> try rfl) rfl)
