/-! The model's text() -/
def lnQ (W : vW) : vW := lnW W (W 75 3).toNatClampNeg (W 77 25).toNatClampNeg (W 77 52).toNatClampNeg
theorem C_X6_line {σ : vW} {f : Nat → Int32} (h : tIV σ) (h0 : σ 75 12 = 0) : Ctr mX6_readLine 6 [.ref 75] (vrow σ 81 f) (vDet none (vrow (lnQ σ) 81 f)) := by
  obtain ⟨h1, h2, ⟨k, hk5, hk⟩, ⟨m, hm9, hm⟩, ⟨K, hK6, hK⟩⟩ := h
  rw [lnQ, hk, hm, hK, nI_clamp (by omega), nI_clamp (by omega), nI_clamp (by omega)]
  exact C_X6_readLine h1 h2 h0 hk hk5 hm hm9 hK hK6
theorem tIV_lnQ {W : vW} (h : tIV W) (h0 : W 75 12 = 0) : tIV (lnQ W) ∧ ((lnQ W) 75 12 = 0 → (W 75 14).toNatClampNeg < ((lnQ W) 75 14).toNatClampNeg) := by
  have h' := h
  obtain ⟨h1, h2, ⟨k, hk5, hk⟩, ⟨m, hm9, hm⟩, ⟨K, hK6, hK⟩⟩ := h'
  rw [lnQ, hk, hm, hK, nI_clamp (by omega), nI_clamp (by omega), nI_clamp (by omega)]
  exact ⟨tIV_line h h0 hk hk5 hm hm9 hK hK6, lnW_on h1⟩
def txG : Nat → vW → Nat → vW × Nat
  | 0, W, c => (W, c)
  | j + 1, W, c => if W 75 12 = 0 then (if W 75 16 = 0 then (W, c) else txG j (lnQ W) (c + 1)) else (W, c)
def txB (W : vW) : vW := if W 75 12 = 0 then (if W 75 3 ≤ W 75 7 then failW W (nI 6) else if W 75 8 < W 77 25 then W else failW W (nI 6)) else W
def txC (W : vW) : vW := vset (vset (txB W) 75 10 (nI 0)) 75 11 ((txB W) 75 12)
def txP (W : vW) (k : Nat) : vW := vrow W 76 (fun i => if i < k then W 77 i else W 76 i)
theorem txP_0 (W : vW) : txP W 0 = W := by
  have e : (fun i => if i < 0 then W 77 i else W 76 i) = W 76 := by
    funext i
    rw [if_neg (Nat.not_lt_zero i)]
  rw [txP, e, vrow_same]
theorem txP_s (W : vW) (k : Nat) : vset (txP W k) 76 k (W 77 k) = txP W (k + 1) := by
  rw [vset_row, txP, vrow_row, vrow_at, txP]
  congr 1
  funext i
  by_cases h : i = k
  · subst h
    simp only [upd, if_true]
    rw [if_pos (by omega)]
  · simp only [upd, if_neg h]
    by_cases h2 : i < k
    · rw [if_pos h2, if_pos (by omega)]
    · rw [if_neg h2, if_neg (by omega)]
def txD (W : vW) : vW := vset (vset (vset (vset (txP (txC W) 65) 75 1 (W 75 3)) 75 25 (nI 0)) 84 0 (nI 0)) 84 1 (nI 0)
def txE (W : vW) (c : Nat) : Int32 × vW := if (txB W) 75 12 ≤ 0 then (nI c, txD W) else (-10 - (txB W) 75 13, txC W)
def tx0 (σ : vW) : vW := vset (vset (vset (vset (vset (vset (vset (vset σ 75 12 (nI 0)) 75 14 (nI 0)) 75 3 (nI 0)) 75 4 (nI 0)) 75 5 (nI 0)) 75 6 (nI 0)) 75 7 (-1)) 75 8 (-1)
def tx1 (σ : vW) (k : Nat) : vW := vrow (tx0 σ) 77 (fillR ((tx0 σ) 77) (nI 0) k)
def mText (σ : vW) : Int32 × vW := txE (txG 162 (stp (tx1 σ 65)) 0).1 (txG 162 (stp (tx1 σ 65)) 0).2
theorem tx0_12 (σ : vW) : (tx0 σ) 75 12 = nI 0 := by rw [tx0, vset_oth (by decide), vset_oth (by decide), vset_oth (by decide), vset_oth (by decide), vset_oth (by decide), vset_oth (by decide), vset_oth (by decide), vset_at]
theorem tx0_14 (σ : vW) : (tx0 σ) 75 14 = nI 0 := by rw [tx0, vset_oth (by decide), vset_oth (by decide), vset_oth (by decide), vset_oth (by decide), vset_oth (by decide), vset_oth (by decide), vset_at]
theorem tx0_3 (σ : vW) : (tx0 σ) 75 3 = nI 0 := by rw [tx0, vset_oth (by decide), vset_oth (by decide), vset_oth (by decide), vset_oth (by decide), vset_oth (by decide), vset_at]
theorem tx0_10 (σ : vW) : (tx0 σ) 75 10 = σ 75 10 := by rw [tx0, vset_oth (by decide), vset_oth (by decide), vset_oth (by decide), vset_oth (by decide), vset_oth (by decide), vset_oth (by decide), vset_oth (by decide), vset_oth (by decide)]
theorem tx0_row (σ : vW) {r : Nat} (h : r ≠ 75) : (tx0 σ) r = σ r := by rw [tx0, vset_ne h, vset_ne h, vset_ne h, vset_ne h, vset_ne h, vset_ne h, vset_ne h, vset_ne h]
theorem tx1_75 (σ : vW) (k : Nat) : (tx1 σ k) 75 = (tx0 σ) 75 := vrow_ne (by decide)
theorem tx1_ok {σ : vW} {l : Nat} (hl : σ 75 10 = nI l) (hl6 : l ≤ 160) : tpOK (tx1 σ 65) := ⟨l, 0, hl6, Nat.zero_le l, by rw [tx1_75, tx0_10]; exact hl, by rw [tx1_75, tx0_14]⟩
theorem tx1_IV {σ : vW} {l : Nat} (hl : σ 75 10 = nI l) (hl6 : l ≤ 160) (hc : cutOK σ) : tIV (stp (tx1 σ 65)) := by
  have e12 : (tx1 σ 65) 75 12 ≤ 0 := by rw [tx1_75, tx0_12]; decide
  have e77 : ∀ i, i < 65 → (stp (tx1 σ 65)) 77 i = nI 0 := fun i hi => by rw [stp_sc.1 77 (by decide), tx1, vrow_at, fillR, if_pos hi]
  refine ⟨stp_H (tx1_ok hl hl6) e12, fun i hi => ?_, ⟨0, by omega, ?_⟩, ⟨0, by omega, e77 25 (by omega)⟩, ⟨0, by omega, e77 52 (by omega)⟩⟩
  · rw [stp_sc.1 79 (by decide), tx1, vrow_ne (by decide), tx0_row σ (by decide)]
    exact hc i hi
  · rw [stp_sc.2 3 (by omega), tx1_75, tx0_3]
theorem sp_le {W : vW} (h : tpH W) : (W 75 14).toNatClampNeg ≤ 160 := by
  obtain ⟨l, q, p, h1, h2, h3, h4, h5, h6⟩ := h
  rw [h6, nI_clamp (by omega)]
  omega
theorem bB_f {W : vW} {i : Nat} (h1 : i ≠ 12) (h2 : i ≠ 13) : (txB W) 75 i = W 75 i := by
  unfold txB
  split
  · split
    · exact failW_oth h1 h2
    · split
      · rfl
      · exact failW_oth h1 h2
  · rfl
set_option maxHeartbeats 4000000 in
theorem C_X6_text {σ : vW} {f : Nat → Int32} {l : Nat} (hl : σ 75 10 = nI l) (hl6 : l ≤ 160) (hc : cutOK σ) : Ctr mX6_text 7 [.ref 75] (vrow σ 81 f) (vDet (some (.int (mText σ).1)) (vrow (mText σ).2 81 f)) := by
  refine Ctr.intro (by decide) (fun α => Nat.le_of_ble_eq_true rfl) (fun x G hQ => ?_)
  have G : vG x RX6 cX6_text 3 (some .int) 7 := G
  show V x 0 [some (.ref 75), none, none] [] (vrow σ 81 f)
  generalize hZ : mText σ = Z at hQ
  have k129 : ∀ (W : vW) (c : Nat), tIV W → txE W c = Z → V x 129 [some (.ref 75), some (.int (nI c)), none] [] (vrow (txB W) 81 f) := by
    intro W c hI hz
    have e12 : (vset (txB W) 75 10 (nI 0)) 75 12 = (txB W) 75 12 := vset_oth (by decide)
    have c12 : (txC W) 75 12 = (txB W) 75 12 := by rw [txC, vset_oth (by decide), vset_oth (by decide)]
    have c13 : (txC W) 75 13 = (txB W) 75 13 := by rw [txC, vset_oth (by decide), vset_oth (by decide)]
    have c3 : (txP (txC W) 65) 75 3 = W 75 3 := by rw [txP, vrow_ne (by decide), txC, vset_oth (by decide), vset_oth (by decide), bB_f (by decide) (by decide)]
    have k157 : (txB W) 75 12 ≤ 0 → V x 157 [some (.ref 75), some (.int (nI c)), none] [] (vrow (txC W) 81 f) := by
      intro hb
      rw [txE, if_pos hb] at hz
      have e77 : ∀ k, (txP (txC W) k) 77 = (txC W) 77 := fun k => vrow_ne (by decide)
      refine v_iconst (v := nI 0) G dX6_text_157 (by decide) ?_
      refine v_istore_3_2 G dX6_text_158 rfl ?_
      rw [← txP_0 (txC W)]
      refine v_for (pc := 159) (65) (fun i => ([some (.ref 75), some (.int (nI c)), some (.int (nI i))], (vrow (txP (txC W) i) 81 f))) (fun i hi ih => ?_) ?_
      · show V x 159 [some (.ref 75), some (.int (nI c)), some (.int (nI i))] [] (vrow (txP (txC W) i) 81 f)
        have ih : V x 159 [some (.ref 75), some (.int (nI c)), some (.int (nI (i + 1)))] [] (vrow (txP (txC W) (i + 1)) 81 f) := ih
        refine v_iload_3_2 G dX6_text_159 ?_
        refine v_bipush (v := nI 65) G dX6_text_160 (by decide) ?_
        refine v_icmp_ge (tgt := 183) G dX6_text_162 rfl (fun h_162 => absurd h_162 (by exact nI_ge hi (by omega))) (fun h_162 => ?_)
        refine v_aload_3_0 G dX6_text_165 ?_
        refine v_getR G vc_6 lk_X6_7 (fs_X6_0) dX6_text_166 ?_
        refine v_iload_3_2 G dX6_text_169 ?_
        refine v_aload_3_0 G dX6_text_170 ?_
        refine v_getR G vc_6 lk_X6_13 (fs_X6_2) dX6_text_171 ?_
        refine v_iload_3_2 G dX6_text_174 ?_
        refine m_ialdN G (by decide) (as_X6_2) (by first | assumption | omega | exact oneB_in (by assumption) | exact wallB_in (by assumption) | exact oneB_m1 (by assumption) | decide) (by decide) dX6_text_175 ?_
        rw [e77]
        refine m_iastN G (by decide) (as_X6_0) (by first | assumption | omega | exact oneB_in (by assumption) | exact wallB_in (by assumption) | exact oneB_m1 (by assumption) | decide) (by decide) dX6_text_176 ?_
        refine v_iincN_3_2 G dX6_text_177 rfl ?_
        refine v_goto (tgt := 159) G dX6_text_180 rfl ?_
        rw [txP_s]
        exact ih
      · show V x 159 [some (.ref 75), some (.int (nI c)), some (.int (nI 65))] [] (vrow (txP (txC W) 65) 81 f)
        refine v_iload_3_2 G dX6_text_159 ?_
        refine v_bipush (v := nI 65) G dX6_text_160 (by decide) ?_
        refine v_icmp_ge (tgt := 183) G dX6_text_162 rfl (fun h_162 => ?_) (fun h_162 => absurd (by exact nI_le (Nat.le_refl _) (by omega)) h_162)
        refine v_aload_3_0 G dX6_text_183 ?_
        refine v_aload_3_0 G dX6_text_184 ?_
        refine m_getI G (by decide) vc_6 lk_X6_101 fs_X6_3 dX6_text_185 ?_
        rw [c3]
        refine m_putI G (by decide) vc_6 vt_6 lk_X6_144 fs_X6_1 (ft_X6_1 _) dX6_text_188 ?_
        refine v_aload_3_0 G dX6_text_191 ?_
        refine v_iconst (v := nI 0) G dX6_text_192 (by decide) ?_
        refine m_putI G (by decide) vc_6 vt_6 lk_X6_147 fs_X6_25 (ft_X6_25 _) dX6_text_193 ?_
        refine v_aload_3_0 G dX6_text_196 ?_
        refine v_getR G vc_6 lk_X6_34 (fs_X6_27) dX6_text_197 ?_
        refine v_iconst (v := nI 0) G dX6_text_200 (by decide) ?_
        refine v_iconst (v := nI 0) G dX6_text_201 (by decide) ?_
        refine m_zastN G (by decide) (as_X6_27) (by first | assumption | omega | exact oneB_in (by assumption) | exact wallB_in (by assumption) | exact oneB_m1 (by assumption) | decide) (by decide) (by first | exact Or.inl rfl | exact Or.inr rfl | exact bI_01 _ | assumption) dX6_text_202 ?_
        refine v_aload_3_0 G dX6_text_203 ?_
        refine v_getR G vc_6 lk_X6_34 (fs_X6_27) dX6_text_204 ?_
        refine v_iconst (v := nI 1) G dX6_text_207 (by decide) ?_
        refine v_iconst (v := nI 0) G dX6_text_208 (by decide) ?_
        refine m_zastN G (by decide) (as_X6_27) (by first | assumption | omega | exact oneB_in (by assumption) | exact wallB_in (by assumption) | exact oneB_m1 (by assumption) | decide) (by decide) (by first | exact Or.inl rfl | exact Or.inr rfl | exact bI_01 _ | assumption) dX6_text_209 ?_
        refine v_iload_3_1 G dX6_text_210 ?_
        exact v_iret G hQ dX6_text_211 (vDet.of (by rw [← hz]) (by rw [← hz]; rfl))
    refine v_aload_3_0 G dX6_text_129 ?_
    refine v_iconst (v := nI 0) G dX6_text_130 (by decide) ?_
    refine m_putI G (by decide) vc_6 vt_6 lk_X6_53 fs_X6_10 (ft_X6_10 _) dX6_text_131 ?_
    refine v_aload_3_0 G dX6_text_134 ?_
    refine v_aload_3_0 G dX6_text_135 ?_
    refine m_getI G (by decide) vc_6 lk_X6_57 fs_X6_12 dX6_text_136 ?_
    rw [e12]
    refine m_putI G (by decide) vc_6 vt_6 lk_X6_141 fs_X6_11 (ft_X6_11 _) dX6_text_139 ?_
    rw [show vset (vset (txB W) 75 10 (nI 0)) 75 11 ((txB W) 75 12) = txC W from rfl]
    refine v_aload_3_0 G dX6_text_142 ?_
    refine m_getI G (by decide) vc_6 lk_X6_57 fs_X6_12 dX6_text_143 ?_
    rw [c12]
    refine v_if_le (tgt := 157) G dX6_text_146 rfl (fun h_146 => ?_) (fun h_146 => ?_)
    · exact k157 h_146
    · refine v_bipush (v := (-10)) G dX6_text_149 (by decide) ?_
      refine v_aload_3_0 G dX6_text_151 ?_
      refine m_getI G (by decide) vc_6 lk_X6_63 fs_X6_13 dX6_text_152 ?_
      rw [c13]
      refine v_isub G dX6_text_155 ?_
      exact v_iret G hQ dX6_text_156 (vDet.of (by rw [← hz, txE, if_neg h_146]) (by rw [← hz, txE, if_neg h_146]))
  have k91 : ∀ (W : vW) (c : Nat), tIV W → txE W c = Z → V x 91 [some (.ref 75), some (.int (nI c)), none] [] (vrow W 81 f) := by
    intro W c hI hz
    have k := k129 W c hI hz
    refine v_aload_3_0 G dX6_text_91 ?_
    refine m_getI G (by decide) vc_6 lk_X6_57 fs_X6_12 dX6_text_92 ?_
    refine v_if_ne (tgt := 129) G dX6_text_95 rfl (fun h_95 => ?_) (fun h_95 => ?_)
    · simp only [txB, h_95, if_true, if_false] at k
      exact k
    · refine v_aload_3_0 G dX6_text_98 ?_
      refine m_getI G (by decide) vc_6 lk_X6_110 fs_X6_7 dX6_text_99 ?_
      refine v_aload_3_0 G dX6_text_102 ?_
      refine m_getI G (by decide) vc_6 lk_X6_101 fs_X6_3 dX6_text_103 ?_
      refine v_icmp_ge (tgt := 123) G dX6_text_106 rfl (fun h_106 => ?_) (fun h_106 => ?_)
      · refine v_aload_3_0 G dX6_text_123 ?_
        refine v_bipush (v := nI 6) G dX6_text_124 (by decide) ?_
        refine v_cV1v G (C_X6_fails) (by decide) md_X6_fails in_X6_fails (rv_X6 rfl) ml_X6_87 (Nat.le_of_ble_eq_true rfl) dX6_text_126 ?_
        simp only [txB, h_95, h_106, if_true, if_false] at k
        exact k
      · refine v_aload_3_0 G dX6_text_109 ?_
        refine m_getI G (by decide) vc_6 lk_X6_98 fs_X6_8 dX6_text_110 ?_
        refine v_aload_3_0 G dX6_text_113 ?_
        refine v_getR G vc_6 lk_X6_13 (fs_X6_2) dX6_text_114 ?_
        refine v_bipush (v := nI 25) G dX6_text_117 (by decide) ?_
        refine m_ialdN G (by decide) (as_X6_2) (by first | assumption | omega | exact oneB_in (by assumption) | exact wallB_in (by assumption) | exact oneB_m1 (by assumption) | decide) (by decide) dX6_text_119 ?_
        refine v_icmp_lt (tgt := 129) G dX6_text_120 rfl (fun h_120 => ?_) (fun h_120 => ?_)
        · simp only [txB, h_95, h_106, h_120, if_true, if_false] at k
          exact k
        · refine v_aload_3_0 G dX6_text_123 ?_
          refine v_bipush (v := nI 6) G dX6_text_124 (by decide) ?_
          refine v_cV1v G (C_X6_fails) (by decide) md_X6_fails in_X6_fails (rv_X6 rfl) ml_X6_87 (Nat.le_of_ble_eq_true rfl) dX6_text_126 ?_
          simp only [txB, h_95, h_106, h_120, if_true, if_false] at k
          exact k
  have k67 : ∀ j (W : vW) (c : Nat), tIV W → (W 75 12 = 0 → 161 ≤ (W 75 14).toNatClampNeg + j) → txE (txG j W c).1 (txG j W c).2 = Z → V x 67 [some (.ref 75), some (.int (nI c)), none] [] (vrow W 81 f) := by
    intro j
    induction j with
    | zero =>
      intro W c hI hs hz
      have hb : ¬ W 75 12 = 0 := fun e => by have := hs e; have := sp_le hI.1; omega
      refine v_aload_3_0 G dX6_text_67 ?_
      refine m_getI G (by decide) vc_6 lk_X6_57 fs_X6_12 dX6_text_68 ?_
      refine v_if_ne (tgt := 91) G dX6_text_71 rfl (fun h_71 => ?_) (fun h_71 => absurd h_71 hb)
      exact k91 W c hI hz
    | succ j ihj =>
      intro W c hI hs hz
      rw [txG] at hz
      refine v_aload_3_0 G dX6_text_67 ?_
      refine m_getI G (by decide) vc_6 lk_X6_57 fs_X6_12 dX6_text_68 ?_
      refine v_if_ne (tgt := 91) G dX6_text_71 rfl (fun h_71 => ?_) (fun h_71 => ?_)
      · simp only [h_71, if_true, if_false] at hz
        exact k91 W c hI hz
      · refine v_aload_3_0 G dX6_text_74 ?_
        refine m_getI G (by decide) vc_6 lk_X6_66 fs_X6_16 dX6_text_75 ?_
        refine v_if_eq (tgt := 91) G dX6_text_78 rfl (fun h_78 => ?_) (fun h_78 => ?_)
        · simp only [h_71, h_78, if_true, if_false] at hz
          exact k91 W c hI hz
        · refine v_aload_3_0 G dX6_text_81 ?_
          refine v_cV0v G (C_X6_line hI h_71) (by decide) md_X6_readLine in_X6_readLine (rv_X6 rfl) ml_X6_138 (Nat.le_of_ble_eq_true rfl) dX6_text_82 ?_
          refine v_iincN_3_1 G dX6_text_85 rfl ?_
          refine v_goto (tgt := 67) G dX6_text_88 rfl ?_
          have q := tIV_lnQ hI h_71
          simp only [h_71, h_78, if_true, if_false] at hz
          exact ihj (lnQ W) (c + 1) q.1 (fun e => by have := q.2 e; have := hs h_71; omega) hz
  have k63 : V x 63 [some (.ref 75), some (.int (nI 0)), some (.int (nI 65))] [] (vrow (tx1 σ 65) 81 f) := by
    refine v_aload_3_0 G dX6_text_63 ?_
    refine v_cV0v G (C_X6_stp (tx1_ok hl hl6)) (by decide) md_X6_step in_X6_step (rv_X6 rfl) ml_X6_91 (Nat.le_of_ble_eq_true rfl) dX6_text_64 ?_
    exact V.drop (by simp only [vsubP, and_self]) (k67 162 _ 0 (tx1_IV hl hl6 hc) (fun _ => by omega) (by rw [← hZ]; rfl))
  refine v_aload_3_0 G dX6_text_0 ?_
  refine v_iconst (v := nI 0) G dX6_text_1 (by decide) ?_
  refine m_putI G (by decide) vc_6 vt_6 lk_X6_57 fs_X6_12 (ft_X6_12 _) dX6_text_2 ?_
  refine v_aload_3_0 G dX6_text_5 ?_
  refine v_iconst (v := nI 0) G dX6_text_6 (by decide) ?_
  refine m_putI G (by decide) vc_6 vt_6 lk_X6_69 fs_X6_14 (ft_X6_14 _) dX6_text_7 ?_
  refine v_aload_3_0 G dX6_text_10 ?_
  refine v_iconst (v := nI 0) G dX6_text_11 (by decide) ?_
  refine m_putI G (by decide) vc_6 vt_6 lk_X6_101 fs_X6_3 (ft_X6_3 _) dX6_text_12 ?_
  refine v_aload_3_0 G dX6_text_15 ?_
  refine v_iconst (v := nI 0) G dX6_text_16 (by decide) ?_
  refine m_putI G (by decide) vc_6 vt_6 lk_X6_104 fs_X6_4 (ft_X6_4 _) dX6_text_17 ?_
  refine v_aload_3_0 G dX6_text_20 ?_
  refine v_iconst (v := nI 0) G dX6_text_21 (by decide) ?_
  refine m_putI G (by decide) vc_6 vt_6 lk_X6_119 fs_X6_5 (ft_X6_5 _) dX6_text_22 ?_
  refine v_aload_3_0 G dX6_text_25 ?_
  refine v_iconst (v := nI 0) G dX6_text_26 (by decide) ?_
  refine m_putI G (by decide) vc_6 vt_6 lk_X6_131 fs_X6_6 (ft_X6_6 (by first | exact Or.inl rfl | exact Or.inr rfl | exact bI_01 _)) dX6_text_27 ?_
  refine v_aload_3_0 G dX6_text_30 ?_
  refine v_iconst (v := (-1)) G dX6_text_31 (by decide) ?_
  refine m_putI G (by decide) vc_6 vt_6 lk_X6_110 fs_X6_7 (ft_X6_7 _) dX6_text_32 ?_
  refine v_aload_3_0 G dX6_text_35 ?_
  refine v_iconst (v := (-1)) G dX6_text_36 (by decide) ?_
  refine m_putI G (by decide) vc_6 vt_6 lk_X6_98 fs_X6_8 (ft_X6_8 _) dX6_text_37 ?_
  refine v_iconst (v := nI 0) G dX6_text_40 (by decide) ?_
  refine v_istore_3_1 G dX6_text_41 rfl ?_
  refine v_iconst (v := nI 0) G dX6_text_42 (by decide) ?_
  refine v_istore_3_2 G dX6_text_43 rfl ?_
  have e0 : tx1 σ 0 = tx0 σ := by rw [tx1, fillR_0, vrow_same]
  show V x 44 [some (.ref 75), some (.int (nI 0)), some (.int (nI 0))] [] (vrow (tx0 σ) 81 f)
  rw [← e0]
  refine v_for (pc := 44) (65) (fun i => ([some (.ref 75), some (.int (nI 0)), some (.int (nI i))], (vrow (tx1 σ i) 81 f))) (fun i hi ih => ?_) ?_
  · show V x 44 [some (.ref 75), some (.int (nI 0)), some (.int (nI i))] [] (vrow (tx1 σ i) 81 f)
    have ih : V x 44 [some (.ref 75), some (.int (nI 0)), some (.int (nI (i + 1)))] [] (vrow (tx1 σ (i + 1)) 81 f) := ih
    refine v_iload_3_2 G dX6_text_44 ?_
    refine v_bipush (v := nI 65) G dX6_text_45 (by decide) ?_
    refine v_icmp_ge (tgt := 63) G dX6_text_47 rfl (fun h_47 => absurd h_47 (by exact nI_ge hi (by omega))) (fun h_47 => ?_)
    refine v_aload_3_0 G dX6_text_50 ?_
    refine v_getR G vc_6 lk_X6_13 (fs_X6_2) dX6_text_51 ?_
    refine v_iload_3_2 G dX6_text_54 ?_
    refine v_iconst (v := nI 0) G dX6_text_55 (by decide) ?_
    refine m_iastN G (by decide) (as_X6_2) (by first | assumption | omega | exact oneB_in (by assumption) | exact wallB_in (by assumption) | exact oneB_m1 (by assumption) | decide) (by decide) dX6_text_56 ?_
    refine v_iincN_3_2 G dX6_text_57 rfl ?_
    refine v_goto (tgt := 44) G dX6_text_60 rfl ?_
    rw [tx1, vset_row, vrow_row, vrow_at, fillR_s] at *
    exact ih
  · show V x 44 [some (.ref 75), some (.int (nI 0)), some (.int (nI 65))] [] (vrow (tx1 σ 65) 81 f)
    refine v_iload_3_2 G dX6_text_44 ?_
    refine v_bipush (v := nI 65) G dX6_text_45 (by decide) ?_
    refine v_icmp_ge (tgt := 63) G dX6_text_47 rfl (fun h_47 => ?_) (fun h_47 => absurd (by exact nI_le (Nat.le_refl _) (by omega)) h_47)
    exact k63
