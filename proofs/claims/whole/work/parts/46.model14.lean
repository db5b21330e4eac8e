/-! The model's tape: one token after another -/
theorem vset_comm {σ : vW} {r i j : Nat} {u v : Int32} (h : i ≠ j) : vset (vset σ r i u) r j v = vset (vset σ r j v) r i u := by
  funext a k
  simp only [vset]
  by_cases h1 : a = r ∧ k = j
  · rw [if_pos h1, if_neg (fun q => h (q.2.symm.trans h1.2)), if_pos h1]
  · rw [if_neg h1]
    by_cases h2 : a = r ∧ k = i
    · rw [if_pos h2, if_pos h2]
    · rw [if_neg h2, if_neg h2, if_neg h1]
theorem mByte_set {σ : vW} {l k i : Nat} {v : Int32} : mByte (vset σ 75 i v) l k = mByte σ l k := by
  unfold mByte
  rw [vset_ne (by decide)]
theorem mByte_end {σ : vW} {l : Nat} : mByte σ l l = -4 := by rw [mByte, if_neg (Nat.lt_irrefl l)]
theorem nI_subN {a b : Nat} (h : b ≤ a) : nI a - nI b = nI (a - b) := by
  have e : nI a = nI (a - b) + nI b := (congrArg nI (show a = (a - b) + b by omega)).trans (nI_add _ _).symm
  rw [e]
  exact Int32.add_sub_cancel _ _
def isLow (c : Int32) : Bool := inL c.toInt64 97 122
def isDig (c : Int32) : Bool := inL c.toInt64 48 57
theorem isLow_m4 : isLow (-4) = false := by decide
theorem isDig_m4 : isDig (-4) = false := by decide
/-- the first place from p on that holds no blank, no letter, no digit -/
def skB (σ : vW) (l p : Nat) : Nat := fstP (fun k => if mByte σ l k = nI 32 then false else true) (l - p) p
def skL (σ : vW) (l p : Nat) : Nat := fstP (fun k => if isLow (mByte σ l k) = true then false else true) (l - p) p
def skD (σ : vW) (l p : Nat) : Nat := fstP (fun k => if isDig (mByte σ l k) = true then false else true) (l - p) p
theorem fstP_ge (P : Nat → Bool) : ∀ n k, k ≤ fstP P n k
  | 0, k => Nat.le_refl _
  | n + 1, k => by
    unfold fstP
    split
    · exact Nat.le_refl _
    · have := fstP_ge P n (k + 1)
      omega
theorem skB_le {σ : vW} {l p : Nat} (h : p ≤ l) : p ≤ skB σ l p ∧ skB σ l p ≤ l := ⟨fstP_ge _ _ _, by have := fstP_le (fun k => if mByte σ l k = nI 32 then false else true) (l - p) p; unfold skB; omega⟩
theorem skL_le {σ : vW} {l p : Nat} (h : p ≤ l) : p ≤ skL σ l p ∧ skL σ l p ≤ l := ⟨fstP_ge _ _ _, by have := fstP_le (fun k => if isLow (mByte σ l k) = true then false else true) (l - p) p; unfold skL; omega⟩
theorem skD_le {σ : vW} {l p : Nat} (h : p ≤ l) : p ≤ skD σ l p ∧ skD σ l p ≤ l := ⟨fstP_ge _ _ _, by have := fstP_le (fun k => if isDig (mByte σ l k) = true then false else true) (l - p) p; unfold skD; omega⟩
/-- the number told: its first two digits -/
def dgV (σ : vW) (l q : Nat) : Nat → Int32
  | 0 => nI 0
  | k + 1 => if nI 2 ≤ nI k then dgV σ l q k else nI 10 * dgV σ l q k + mByte σ l (q + k) - nI 48
def stW0 (σ : vW) (q : Nat) : vW := vset (vset (vset σ 75 14 (nI q)) 75 15 (nI q)) 75 17 (nI 0)
def stW1 (σ : vW) (l q : Nat) : vW := if mByte σ l q = -4 then vset (stW0 σ q) 75 16 (nI 0) else
  if isLow (mByte σ l q) = true then vset (vset (stW0 σ q) 75 14 (nI (skL σ l q))) 75 16 (nI 1) else
  if isDig (mByte σ l q) = true then
    (if nI (skD σ l q - q) ≤ nI 2 then vset (vset (vset (stW0 σ q) 75 17 (dgV σ l q (skD σ l q - q))) 75 14 (nI (skD σ l q))) 75 16 (nI 2)
    else failW (vset (vset (vset (stW0 σ q) 75 17 (dgV σ l q (skD σ l q - q))) 75 14 (nI (skD σ l q))) 75 16 (nI 2)) (nI 1))
  else if mByte σ l q = nI 59 then vset (vset (stW0 σ q) 75 16 (nI 3)) 75 14 (nI (q + 1)) else failW (vset (vset (stW0 σ q) 75 16 (nI 3)) 75 14 (nI (q + 1))) (nI 1)
def stW (σ : vW) (l p : Nat) : vW := if σ 75 12 ≤ 0 then stW1 σ l (skB σ l p) else σ
theorem dg_norm {W : vW} {u u' a b : Int32} : vset (vset (vset (vset W 75 17 u) 75 14 a) 75 17 u') 75 14 b = vset (vset W 75 17 u') 75 14 b := by
  rw [vset_comm (σ := vset W 75 17 u) (i := 14) (j := 17) (by decide), vset_same2, vset_same2]
set_option maxHeartbeats 4000000 in
theorem C_X6_step {σ : vW} {f : Nat → Int32} {l p : Nat} (hl : σ 75 10 = nI l) (hl6 : l ≤ 160) (hp : σ 75 14 = nI p) (hpl : p ≤ l) : Ctr mX6_step 1 [.ref 75] (vrow σ 81 f) (vDet none (vrow (stW σ l p) 81 f)) := by
  refine Ctr.intro (by decide) (fun α => Nat.le_of_ble_eq_true rfl) (fun x G hQ => ?_)
  have G : vG x RX6 cX6_step 2 none 1 := G
  show V x 0 [some (.ref 75), none] [] (vrow σ 81 f)
  by_cases hb : σ 75 12 ≤ 0
  · rw [stW, if_pos hb] at hQ
    have hend : V x 269 [some (.ref 75), none] [] (vrow (stW1 σ l (skB σ l p)) 81 f) := v_vret G hQ dX6_step_269 vDet.mk
    obtain ⟨hq1, hq2⟩ := skB_le (σ := σ) hpl
    generalize hqe : skB σ l p = q at hend hq1 hq2
    have s0 : (stW0 σ q) 75 14 = nI q := by rw [stW0, vset_oth (by decide), vset_oth (by decide), vset_at]
    have s17 : (stW0 σ q) 75 17 = nI 0 := by rw [stW0, vset_at]
    have s10 : (stW0 σ q) 75 10 = nI l := by rw [stW0, vset_oth (by decide), vset_oth (by decide), vset_oth (by decide)]; exact hl
    have s15 : (stW0 σ q) 75 15 = nI q := by rw [stW0, vset_oth (by decide), vset_at]
    have hB : ∀ k, mByte (stW0 σ q) l k = mByte σ l k := fun k => by rw [stW0, mByte_set, mByte_set, mByte_set]
    have hB1 : ∀ k v, mByte (vset (stW0 σ q) 75 14 v) l k = mByte σ l k := fun k v => by rw [mByte_set, hB]
    have hB2 : ∀ k u v, mByte (vset (vset (stW0 σ q) 75 17 u) 75 14 v) l k = mByte σ l k := fun k u v => by rw [mByte_set, mByte_set, hB]
    have h84 : isLow (mByte σ l q) = true → ¬ mByte σ l q = -4 → V x 84 [some (.ref 75), none] [] (vrow (stW0 σ q) 81 f) := by
      intro hlow hm4
      have hee := skL_le (σ := σ) (l := l) (p := q) hq2
      have h118 : V x 118 [some (.ref 75), none] [] (vrow (vset (stW0 σ q) 75 14 (nI (skL σ l q))) 81 f) := by
        refine v_aload_2_0 G dX6_step_118 ?_
        refine v_iconst (v := nI 1) G dX6_step_119 (by decide) ?_
        refine m_putI G (by decide) vc_6 vt_6 lk_X6_66 fs_X6_16 (ft_X6_16 _) dX6_step_120 ?_
        refine v_goto (tgt := 269) G dX6_step_123 rfl ?_
        rw [stW1, if_neg hm4, if_pos hlow] at hend
        exact hend
      have e0 : vset (stW0 σ q) 75 14 (nI (q + 0)) = stW0 σ q := by
        have h := vset_id (σ := stW0 σ q) (r := 75) (i := 14)
        rw [s0] at h
        exact h
      have key : V x 84 [some (.ref 75), none] [] (vrow (vset (stW0 σ q) 75 14 (nI (q + 0))) 81 f) := by
        refine v_forP (pc := 84) ((l - q)) (fun k => skL σ l q = fstP (fun k => if isLow (mByte σ l k) = true then false else true) (l - q - k) (q + k)) (fun k => ([some (.ref 75), none], (vrow (vset (stW0 σ q) 75 14 (nI (q + k))) 81 f))) rfl (fun k hk hp ih => ?_) (fun hp => ?_)
        · show V x 84 [some (.ref 75), none] [] (vrow (vset (stW0 σ q) 75 14 (nI (q + k))) 81 f)
          have ih : (skL σ l q = fstP (fun k => if isLow (mByte σ l k) = true then false else true) (l - q - (k + 1)) (q + (k + 1))) → V x 84 [some (.ref 75), none] [] (vrow (vset (stW0 σ q) 75 14 (nI (q + (k + 1)))) 81 f) := ih
          have hp : skL σ l q = fstP (fun k => if isLow (mByte σ l k) = true then false else true) (l - q - k) (q + k) := hp
          rw [show l - q - k = (l - q - (k + 1)) + 1 by omega, fstP] at hp
          have t10 : (vset (stW0 σ q) 75 14 (nI (q + k))) 75 10 = nI l := by rw [vset_oth (by decide)]; exact s10
          refine v_aload_2_0 G dX6_step_84 ?_
          refine v_aload_2_0 G dX6_step_85 ?_
          refine m_getI G (by decide) vc_6 lk_X6_69 fs_X6_14 dX6_step_86 ?_
          rw [vset_at]
          refine v_cV1 G (C_X6_byteAt (by rw [vset_oth (by decide)]; exact s10) hl6 (by omega)) (by decide) md_X6_byteAt in_X6_byteAt (rv_X6 rfl) ml_X6_72 (Nat.le_of_ble_eq_true rfl) dX6_step_89 ?_
          rw [hB1]
          refine v_i2l G dX6_step_92 ?_
          refine v_ldc2 G ct_X6_79 dX6_step_93 ?_
          refine v_ldc2 G ct_X6_81 dX6_step_96 ?_
          refine v_cS3 G C_X6_in (by decide) md_X6_in st_X6_in ml_X6_49 (Nat.le_of_ble_eq_true rfl) dX6_step_99 ?_
          refine v_ifB_eq (tgt := 118) G dX6_step_102 rfl (fun h_102 => ?_) (fun h_102 => ?_)
          · have e : skL σ l q = q + k := by rw [hp, if_pos (by rw [if_neg (by rw [isLow, h_102]; exact Bool.false_ne_true)])]
            rw [e] at h118
            exact h118
          · refine v_aload_2_0 G dX6_step_105 ?_
            refine v_dup G dX6_step_106 rfl ?_
            refine m_getI G (by decide) vc_6 lk_X6_69 fs_X6_14 dX6_step_107 ?_
            rw [vset_at]
            refine v_iconst (v := nI 1) G dX6_step_110 (by decide) ?_
            refine v_iaddN G dX6_step_111 ?_
            refine m_putI G (by decide) vc_6 vt_6 lk_X6_69 fs_X6_14 (ft_X6_14 _) dX6_step_112 ?_
            refine v_goto (tgt := 84) G dX6_step_115 rfl ?_
            rw [vset_same2]
            exact ih (by rw [hp, if_neg (by rw [if_pos (show isLow (mByte σ l (q + k)) = true from h_102)]; exact Bool.false_ne_true)]; rfl)
        · show V x 84 [some (.ref 75), none] [] (vrow (vset (stW0 σ q) 75 14 (nI (q + (l - q)))) 81 f)
          have hp : skL σ l q = fstP (fun k => if isLow (mByte σ l k) = true then false else true) (l - q - (l - q)) (q + (l - q)) := hp
          refine v_aload_2_0 G dX6_step_84 ?_
          refine v_aload_2_0 G dX6_step_85 ?_
          refine m_getI G (by decide) vc_6 lk_X6_69 fs_X6_14 dX6_step_86 ?_
          rw [vset_at]
          refine v_cV1 G (C_X6_byteAt (by rw [vset_oth (by decide)]; exact s10) hl6 (by omega)) (by decide) md_X6_byteAt in_X6_byteAt (rv_X6 rfl) ml_X6_72 (Nat.le_of_ble_eq_true rfl) dX6_step_89 ?_
          rw [hB1]
          refine v_i2l G dX6_step_92 ?_
          refine v_ldc2 G ct_X6_79 dX6_step_93 ?_
          refine v_ldc2 G ct_X6_81 dX6_step_96 ?_
          refine v_cS3 G C_X6_in (by decide) md_X6_in st_X6_in ml_X6_49 (Nat.le_of_ble_eq_true rfl) dX6_step_99 ?_
          refine v_ifB_eq (tgt := 118) G dX6_step_102 rfl (fun h_102 => ?_) (fun h_102 => (by rw [show q + (l - q) = l by omega, mByte_end] at h_102; exact absurd h_102 (by decide)))
          rw [Nat.sub_self, fstP] at hp
          rw [hp] at h118
          exact h118
      rw [e0] at key
      exact key
    have h140 : isDig (mByte σ l q) = true → ¬ isLow (mByte σ l q) = true → ¬ mByte σ l q = -4 → V x 140 [some (.ref 75), none] [] (vrow (stW0 σ q) 81 f) := by
      intro hdig hlow hm4
      have hee := skD_le (σ := σ) (l := l) (p := q) hq2
      have h217 : V x 217 [some (.ref 75), none] [] (vrow (vset (vset (stW0 σ q) 75 17 (dgV σ l q (skD σ l q - q))) 75 14 (nI (skD σ l q))) 81 f) := by
        generalize hee2 : skD σ l q = ee at hee
        refine v_aload_2_0 G dX6_step_217 ?_
        refine v_iconst (v := nI 2) G dX6_step_218 (by decide) ?_
        refine m_putI G (by decide) vc_6 vt_6 lk_X6_66 fs_X6_16 (ft_X6_16 _) dX6_step_219 ?_
        refine v_aload_2_0 G dX6_step_222 ?_
        refine m_getI G (by decide) vc_6 lk_X6_69 fs_X6_14 dX6_step_223 ?_
        rw [vset_oth (by decide), vset_at]
        refine v_aload_2_0 G dX6_step_226 ?_
        refine m_getI G (by decide) vc_6 lk_X6_60 fs_X6_15 dX6_step_227 ?_
        rw [vset_oth (by decide), vset_oth (by decide), vset_oth (by decide), s15]
        refine v_isub G dX6_step_230 ?_
        rw [nI_subN (by omega)]
        refine v_iconst (v := nI 2) G dX6_step_231 (by decide) ?_
        refine v_icmp_le (tgt := 269) G dX6_step_232 rfl (fun h_232 => ?_) (fun h_232 => ?_)
        · first
            | (rw [stW1, if_neg hm4, if_neg hlow, if_pos hdig, hee2, if_pos h_232] at hend; exact hend)
            | (rw [stW1, if_neg hm4, if_neg hlow, if_pos hdig, hee2, if_neg h_232] at hend; exact hend)
        · refine v_aload_2_0 G dX6_step_235 ?_
          refine v_iconst (v := nI 1) G dX6_step_236 (by decide) ?_
          refine v_cV1v G (C_X6_fails) (by decide) md_X6_fails in_X6_fails (rv_X6 rfl) ml_X6_87 (Nat.le_of_ble_eq_true rfl) dX6_step_237 ?_
          refine v_goto (tgt := 269) G dX6_step_240 rfl ?_
          first
            | (rw [stW1, if_neg hm4, if_neg hlow, if_pos hdig, hee2, if_pos h_232] at hend; exact hend)
            | (rw [stW1, if_neg hm4, if_neg hlow, if_pos hdig, hee2, if_neg h_232] at hend; exact hend)
      have e0 : vset (vset (stW0 σ q) 75 17 (dgV σ l q 0)) 75 14 (nI (q + 0)) = stW0 σ q := by
        have h := vset_id (σ := stW0 σ q) (r := 75) (i := 14)
        have h2 := vset_id (σ := stW0 σ q) (r := 75) (i := 17)
        rw [s0] at h
        rw [s17] at h2
        show vset (vset (stW0 σ q) 75 17 (nI 0)) 75 14 (nI q) = _
        rw [h2, h]
      have key : V x 140 [some (.ref 75), none] [] (vrow (vset (vset (stW0 σ q) 75 17 (dgV σ l q 0)) 75 14 (nI (q + 0))) 81 f) := by
        refine v_forP (pc := 140) ((l - q)) (fun k => skD σ l q = fstP (fun k => if isDig (mByte σ l k) = true then false else true) (l - q - k) (q + k)) (fun k => ([some (.ref 75), none], (vrow (vset (vset (stW0 σ q) 75 17 (dgV σ l q k)) 75 14 (nI (q + k))) 81 f))) rfl (fun k hk hp ih => ?_) (fun hp => ?_)
        · show V x 140 [some (.ref 75), none] [] (vrow (vset (vset (stW0 σ q) 75 17 (dgV σ l q k)) 75 14 (nI (q + k))) 81 f)
          have ih : (skD σ l q = fstP (fun k => if isDig (mByte σ l k) = true then false else true) (l - q - (k + 1)) (q + (k + 1))) → V x 140 [some (.ref 75), none] [] (vrow (vset (vset (stW0 σ q) 75 17 (dgV σ l q (k + 1))) 75 14 (nI (q + (k + 1)))) 81 f) := ih
          have hp : skD σ l q = fstP (fun k => if isDig (mByte σ l k) = true then false else true) (l - q - k) (q + k) := hp
          rw [show l - q - k = (l - q - (k + 1)) + 1 by omega, fstP] at hp
          refine v_aload_2_0 G dX6_step_140 ?_
          refine v_aload_2_0 G dX6_step_141 ?_
          refine m_getI G (by decide) vc_6 lk_X6_69 fs_X6_14 dX6_step_142 ?_
          rw [vset_at]
          refine v_cV1 G (C_X6_byteAt (by rw [vset_oth (by decide), vset_oth (by decide)]; exact s10) hl6 (by omega)) (by decide) md_X6_byteAt in_X6_byteAt (rv_X6 rfl) ml_X6_72 (Nat.le_of_ble_eq_true rfl) dX6_step_145 ?_
          rw [hB2]
          refine v_i2l G dX6_step_148 ?_
          refine v_ldc2 G ct_X6_83 dX6_step_149 ?_
          refine v_ldc2 G ct_X6_85 dX6_step_152 ?_
          refine v_cS3 G C_X6_in (by decide) md_X6_in st_X6_in ml_X6_49 (Nat.le_of_ble_eq_true rfl) dX6_step_155 ?_
          refine v_ifB_eq (tgt := 217) G dX6_step_158 rfl (fun h_158 => ?_) (fun h_158 => ?_)
          · have e : skD σ l q = q + k := by rw [hp, if_pos (by rw [if_neg (by rw [isDig, h_158]; exact Bool.false_ne_true)])]
            rw [e, Nat.add_sub_cancel_left] at h217
            exact h217
          · refine v_aload_2_0 G dX6_step_161 ?_
            refine v_aload_2_0 G dX6_step_162 ?_
            refine m_getI G (by decide) vc_6 lk_X6_69 fs_X6_14 dX6_step_163 ?_
            rw [vset_at]
            refine v_aload_2_0 G dX6_step_166 ?_
            refine m_getI G (by decide) vc_6 lk_X6_60 fs_X6_15 dX6_step_167 ?_
            rw [vset_oth (by decide), vset_oth (by decide), s15]
            refine v_isub G dX6_step_170 ?_
            rw [nI_subN (by omega), show q + k - q = k by omega]
            refine v_iconst (v := nI 2) G dX6_step_171 (by decide) ?_
            refine v_icmp_ge (tgt := 197) G dX6_step_172 rfl (fun h_172 => ?_) (fun h_172 => ?_)
            · refine v_aload_2_0 G dX6_step_197 ?_
              refine m_getI G (by decide) vc_6 lk_X6_76 fs_X6_17 dX6_step_198 ?_
              rw [vset_oth (by decide), vset_at]
              refine m_putI G (by decide) vc_6 vt_6 lk_X6_76 fs_X6_17 (ft_X6_17 _) dX6_step_201 ?_
              refine v_aload_2_0 G dX6_step_204 ?_
              refine v_dup G dX6_step_205 rfl ?_
              refine m_getI G (by decide) vc_6 lk_X6_69 fs_X6_14 dX6_step_206 ?_
              rw [vset_oth (by decide), vset_at]
              refine v_iconst (v := nI 1) G dX6_step_209 (by decide) ?_
              refine v_iaddN G dX6_step_210 ?_
              refine m_putI G (by decide) vc_6 vt_6 lk_X6_69 fs_X6_14 (ft_X6_14 _) dX6_step_211 ?_
              refine v_goto (tgt := 140) G dX6_step_214 rfl ?_
              rw [dg_norm]
              have ih2 := ih (by rw [hp, if_neg (by rw [if_pos (show isDig (mByte σ l (q + k)) = true from h_158)]; exact Bool.false_ne_true)]; rfl)
              rw [dgV] at ih2
              first
                | (rw [if_pos h_172] at ih2; exact ih2)
                | (rw [if_neg h_172] at ih2; exact ih2)
            · refine v_bipush (v := nI 10) G dX6_step_175 (by decide) ?_
              refine v_aload_2_0 G dX6_step_177 ?_
              refine m_getI G (by decide) vc_6 lk_X6_76 fs_X6_17 dX6_step_178 ?_
              rw [vset_oth (by decide), vset_at]
              refine v_imul G dX6_step_181 ?_
              refine v_aload_2_0 G dX6_step_182 ?_
              refine v_aload_2_0 G dX6_step_183 ?_
              refine m_getI G (by decide) vc_6 lk_X6_69 fs_X6_14 dX6_step_184 ?_
              rw [vset_at]
              refine v_cV1 G (C_X6_byteAt (by rw [vset_oth (by decide), vset_oth (by decide)]; exact s10) hl6 (by omega)) (by decide) md_X6_byteAt in_X6_byteAt (rv_X6 rfl) ml_X6_72 (Nat.le_of_ble_eq_true rfl) dX6_step_187 ?_
              rw [hB2]
              refine v_iadd G dX6_step_190 ?_
              refine v_bipush (v := nI 48) G dX6_step_191 (by decide) ?_
              refine v_isub G dX6_step_193 ?_
              refine v_goto (tgt := 201) G dX6_step_194 rfl ?_
              refine m_putI G (by decide) vc_6 vt_6 lk_X6_76 fs_X6_17 (ft_X6_17 _) dX6_step_201 ?_
              refine v_aload_2_0 G dX6_step_204 ?_
              refine v_dup G dX6_step_205 rfl ?_
              refine m_getI G (by decide) vc_6 lk_X6_69 fs_X6_14 dX6_step_206 ?_
              rw [vset_oth (by decide), vset_at]
              refine v_iconst (v := nI 1) G dX6_step_209 (by decide) ?_
              refine v_iaddN G dX6_step_210 ?_
              refine m_putI G (by decide) vc_6 vt_6 lk_X6_69 fs_X6_14 (ft_X6_14 _) dX6_step_211 ?_
              refine v_goto (tgt := 140) G dX6_step_214 rfl ?_
              rw [dg_norm]
              have ih2 := ih (by rw [hp, if_neg (by rw [if_pos (show isDig (mByte σ l (q + k)) = true from h_158)]; exact Bool.false_ne_true)]; rfl)
              rw [dgV] at ih2
              first
                | (rw [if_pos h_172] at ih2; exact ih2)
                | (rw [if_neg h_172] at ih2; exact ih2)
        · show V x 140 [some (.ref 75), none] [] (vrow (vset (vset (stW0 σ q) 75 17 (dgV σ l q (l - q))) 75 14 (nI (q + (l - q)))) 81 f)
          have hp : skD σ l q = fstP (fun k => if isDig (mByte σ l k) = true then false else true) (l - q - (l - q)) (q + (l - q)) := hp
          refine v_aload_2_0 G dX6_step_140 ?_
          refine v_aload_2_0 G dX6_step_141 ?_
          refine m_getI G (by decide) vc_6 lk_X6_69 fs_X6_14 dX6_step_142 ?_
          rw [vset_at]
          refine v_cV1 G (C_X6_byteAt (by rw [vset_oth (by decide), vset_oth (by decide)]; exact s10) hl6 (by omega)) (by decide) md_X6_byteAt in_X6_byteAt (rv_X6 rfl) ml_X6_72 (Nat.le_of_ble_eq_true rfl) dX6_step_145 ?_
          rw [hB2]
          refine v_i2l G dX6_step_148 ?_
          refine v_ldc2 G ct_X6_83 dX6_step_149 ?_
          refine v_ldc2 G ct_X6_85 dX6_step_152 ?_
          refine v_cS3 G C_X6_in (by decide) md_X6_in st_X6_in ml_X6_49 (Nat.le_of_ble_eq_true rfl) dX6_step_155 ?_
          refine v_ifB_eq (tgt := 217) G dX6_step_158 rfl (fun h_158 => ?_) (fun h_158 => (by rw [show q + (l - q) = l by omega, mByte_end] at h_158; exact absurd h_158 (by decide)))
          rw [Nat.sub_self, fstP] at hp
          rw [hp, Nat.add_sub_cancel_left] at h217
          exact h217
      rw [e0] at key
      exact key
    have h34 : V x 34 [some (.ref 75), none] [] (vrow (vset σ 75 14 (nI q)) 81 f) := by
      have w10 : (vset (vset σ 75 14 (nI q)) 75 15 (nI q)) 75 10 = nI l := by rw [vset_oth (by decide), vset_oth (by decide)]; exact hl
      have w14 : (vset (vset σ 75 14 (nI q)) 75 15 (nI q)) 75 14 = nI q := by rw [vset_oth (by decide), vset_at]
      refine v_aload_2_0 G dX6_step_34 ?_
      refine v_aload_2_0 G dX6_step_35 ?_
      refine m_getI G (by decide) vc_6 lk_X6_69 fs_X6_14 dX6_step_36 ?_
      rw [vset_at]
      refine m_putI G (by decide) vc_6 vt_6 lk_X6_60 fs_X6_15 (ft_X6_15 _) dX6_step_39 ?_
      refine v_aload_2_0 G dX6_step_42 ?_
      refine v_aload_2_0 G dX6_step_43 ?_
      refine m_getI G (by decide) vc_6 lk_X6_69 fs_X6_14 dX6_step_44 ?_
      rw [w14]
      refine v_cV1 G (C_X6_byteAt w10 hl6 (by omega)) (by decide) md_X6_byteAt in_X6_byteAt (rv_X6 rfl) ml_X6_72 (Nat.le_of_ble_eq_true rfl) dX6_step_47 ?_
      rw [mByte_set, mByte_set]
      refine v_istore_2_1 G dX6_step_50 rfl ?_
      refine v_aload_2_0 G dX6_step_51 ?_
      refine v_iconst (v := nI 0) G dX6_step_52 (by decide) ?_
      refine m_putI G (by decide) vc_6 vt_6 lk_X6_76 fs_X6_17 (ft_X6_17 _) dX6_step_53 ?_
      rw [show vset (vset (vset σ 75 14 (nI q)) 75 15 (nI q)) 75 17 (nI 0) = stW0 σ q from rfl]
      refine v_iload_2_1 G dX6_step_56 ?_
      refine v_bipush (v := (-4)) G dX6_step_57 (by decide) ?_
      refine v_icmp_ne (tgt := 70) G dX6_step_59 rfl (fun h_59 => ?_) (fun h_59 => ?_)
      · refine v_iload_2_1 G dX6_step_70 ?_
        refine v_i2l G dX6_step_71 ?_
        refine v_ldc2 G ct_X6_79 dX6_step_72 ?_
        refine v_ldc2 G ct_X6_81 dX6_step_75 ?_
        refine v_cS3 G C_X6_in (by decide) md_X6_in st_X6_in ml_X6_49 (Nat.le_of_ble_eq_true rfl) dX6_step_78 ?_
        refine v_ifB_eq (tgt := 126) G dX6_step_81 rfl (fun h_81 => ?_) (fun h_81 => ?_)
        · refine v_iload_2_1 G dX6_step_126 ?_
          refine v_i2l G dX6_step_127 ?_
          refine v_ldc2 G ct_X6_83 dX6_step_128 ?_
          refine v_ldc2 G ct_X6_85 dX6_step_131 ?_
          refine v_cS3 G C_X6_in (by decide) md_X6_in st_X6_in ml_X6_49 (Nat.le_of_ble_eq_true rfl) dX6_step_134 ?_
          refine v_ifB_eq (tgt := 243) G dX6_step_137 rfl (fun h_137 => ?_) (fun h_137 => ?_)
          · refine v_aload_2_0 G dX6_step_243 ?_
            refine v_iconst (v := nI 3) G dX6_step_244 (by decide) ?_
            refine m_putI G (by decide) vc_6 vt_6 lk_X6_66 fs_X6_16 (ft_X6_16 _) dX6_step_245 ?_
            refine v_aload_2_0 G dX6_step_248 ?_
            refine v_dup G dX6_step_249 rfl ?_
            refine m_getI G (by decide) vc_6 lk_X6_69 fs_X6_14 dX6_step_250 ?_
            rw [vset_oth (by decide), s0]
            refine v_iconst (v := nI 1) G dX6_step_253 (by decide) ?_
            refine v_iaddN G dX6_step_254 ?_
            refine m_putI G (by decide) vc_6 vt_6 lk_X6_69 fs_X6_14 (ft_X6_14 _) dX6_step_255 ?_
            refine v_iload_2_1 G dX6_step_258 ?_
            refine v_bipush (v := nI 59) G dX6_step_259 (by decide) ?_
            refine v_icmp_eq (tgt := 269) G dX6_step_261 rfl (fun h_261 => ?_) (fun h_261 => ?_)
            · first
                | (rw [stW1, if_pos h_59] at hend; exact V.drop (by simp only [vsubP, and_self]) hend)
                | (rw [stW1, if_neg h_59, isLow, h_81, if_neg Bool.false_ne_true, isDig, h_137, if_neg Bool.false_ne_true, if_pos h_261] at hend; exact V.drop (by simp only [vsubP, and_self]) hend)
                | (rw [stW1, if_neg h_59, isLow, h_81, if_neg Bool.false_ne_true, isDig, h_137, if_neg Bool.false_ne_true, if_neg h_261] at hend; exact V.drop (by simp only [vsubP, and_self]) hend)
            · refine v_aload_2_0 G dX6_step_264 ?_
              refine v_iconst (v := nI 1) G dX6_step_265 (by decide) ?_
              refine v_cV1v G (C_X6_fails) (by decide) md_X6_fails in_X6_fails (rv_X6 rfl) ml_X6_87 (Nat.le_of_ble_eq_true rfl) dX6_step_266 ?_
              first
                | (rw [stW1, if_pos h_59] at hend; exact V.drop (by simp only [vsubP, and_self]) hend)
                | (rw [stW1, if_neg h_59, isLow, h_81, if_neg Bool.false_ne_true, isDig, h_137, if_neg Bool.false_ne_true, if_pos h_261] at hend; exact V.drop (by simp only [vsubP, and_self]) hend)
                | (rw [stW1, if_neg h_59, isLow, h_81, if_neg Bool.false_ne_true, isDig, h_137, if_neg Bool.false_ne_true, if_neg h_261] at hend; exact V.drop (by simp only [vsubP, and_self]) hend)
          · exact V.drop (by simp only [vsubP, and_self]) (h140 h_137 (by rw [isLow, h_81]; exact Bool.false_ne_true) h_59)
        · exact V.drop (by simp only [vsubP, and_self]) (h84 h_81 h_59)
      · refine v_aload_2_0 G dX6_step_62 ?_
        refine v_iconst (v := nI 0) G dX6_step_63 (by decide) ?_
        refine m_putI G (by decide) vc_6 vt_6 lk_X6_66 fs_X6_16 (ft_X6_16 _) dX6_step_64 ?_
        refine v_goto (tgt := 269) G dX6_step_67 rfl ?_
        first
          | (rw [stW1, if_pos h_59] at hend; exact V.drop (by simp only [vsubP, and_self]) hend)
          | (rw [stW1, if_neg h_59, isLow, h_81, if_neg Bool.false_ne_true, isDig, h_137, if_neg Bool.false_ne_true, if_pos h_261] at hend; exact V.drop (by simp only [vsubP, and_self]) hend)
          | (rw [stW1, if_neg h_59, isLow, h_81, if_neg Bool.false_ne_true, isDig, h_137, if_neg Bool.false_ne_true, if_neg h_261] at hend; exact V.drop (by simp only [vsubP, and_self]) hend)
    have e0 : vset σ 75 14 (nI (p + 0)) = σ := by
      have h := vset_id (σ := σ) (r := 75) (i := 14)
      rw [hp] at h
      exact h
    refine v_aload_2_0 G dX6_step_0 ?_
    refine m_getI G (by decide) vc_6 lk_X6_57 fs_X6_12 dX6_step_1 ?_
    refine v_if_le (tgt := 8) G dX6_step_4 rfl (fun h_4 => ?_) (fun h_4 => absurd hb h_4)
    rw [← e0]
    have hqe2 := hqe
    unfold skB at hqe2
    refine v_forP (pc := 8) ((l - p)) (fun k => q = fstP (fun k => if mByte σ l k = nI 32 then false else true) (l - p - k) (p + k)) (fun k => ([some (.ref 75), none], (vrow (vset σ 75 14 (nI (p + k))) 81 f))) hqe2.symm (fun k hk hpk ih => ?_) (fun hpk => ?_)
    · show V x 8 [some (.ref 75), none] [] (vrow (vset σ 75 14 (nI (p + k))) 81 f)
      have ih : (q = fstP (fun k => if mByte σ l k = nI 32 then false else true) (l - p - (k + 1)) (p + (k + 1))) → V x 8 [some (.ref 75), none] [] (vrow (vset σ 75 14 (nI (p + (k + 1)))) 81 f) := ih
      have hpk : q = fstP (fun k => if mByte σ l k = nI 32 then false else true) (l - p - k) (p + k) := hpk
      rw [show l - p - k = (l - p - (k + 1)) + 1 by omega, fstP] at hpk
      refine v_aload_2_0 G dX6_step_8 ?_
      refine v_aload_2_0 G dX6_step_9 ?_
      refine m_getI G (by decide) vc_6 lk_X6_69 fs_X6_14 dX6_step_10 ?_
      rw [vset_at]
      refine v_cV1 G (C_X6_byteAt (by rw [vset_oth (by decide)]; exact hl) hl6 (by omega)) (by decide) md_X6_byteAt in_X6_byteAt (rv_X6 rfl) ml_X6_72 (Nat.le_of_ble_eq_true rfl) dX6_step_13 ?_
      rw [mByte_set]
      refine v_bipush (v := nI 32) G dX6_step_16 (by decide) ?_
      refine v_icmp_ne (tgt := 34) G dX6_step_18 rfl (fun h_18 => ?_) (fun h_18 => ?_)
      · have e : q = p + k := by rw [hpk, if_pos (by rw [if_neg h_18])]
        rw [← e]
        exact h34
      · refine v_aload_2_0 G dX6_step_21 ?_
        refine v_dup G dX6_step_22 rfl ?_
        refine m_getI G (by decide) vc_6 lk_X6_69 fs_X6_14 dX6_step_23 ?_
        rw [vset_at]
        refine v_iconst (v := nI 1) G dX6_step_26 (by decide) ?_
        refine v_iaddN G dX6_step_27 ?_
        refine m_putI G (by decide) vc_6 vt_6 lk_X6_69 fs_X6_14 (ft_X6_14 _) dX6_step_28 ?_
        refine v_goto (tgt := 8) G dX6_step_31 rfl ?_
        rw [vset_same2]
        exact ih (by rw [hpk, if_neg (by rw [if_pos h_18]; exact Bool.false_ne_true)]; rfl)
    · show V x 8 [some (.ref 75), none] [] (vrow (vset σ 75 14 (nI (p + (l - p)))) 81 f)
      have hpk : q = fstP (fun k => if mByte σ l k = nI 32 then false else true) (l - p - (l - p)) (p + (l - p)) := hpk
      refine v_aload_2_0 G dX6_step_8 ?_
      refine v_aload_2_0 G dX6_step_9 ?_
      refine m_getI G (by decide) vc_6 lk_X6_69 fs_X6_14 dX6_step_10 ?_
      rw [vset_at]
      refine v_cV1 G (C_X6_byteAt (by rw [vset_oth (by decide)]; exact hl) hl6 (by omega)) (by decide) md_X6_byteAt in_X6_byteAt (rv_X6 rfl) ml_X6_72 (Nat.le_of_ble_eq_true rfl) dX6_step_13 ?_
      rw [mByte_set]
      refine v_bipush (v := nI 32) G dX6_step_16 (by decide) ?_
      refine v_icmp_ne (tgt := 34) G dX6_step_18 rfl (fun h_18 => ?_) (fun h_18 => (by rw [show p + (l - p) = l by omega, mByte_end] at h_18; exact absurd h_18 (by decide)))
      rw [Nat.sub_self, fstP] at hpk
      rw [← hpk]
      exact h34
  · rw [stW, if_neg hb] at hQ
    refine v_aload_2_0 G dX6_step_0 ?_
    refine m_getI G (by decide) vc_6 lk_X6_57 fs_X6_12 dX6_step_1 ?_
    refine v_if_le (tgt := 8) G dX6_step_4 rfl (fun h_4 => absurd h_4 hb) (fun h_4 => ?_)
    exact v_vret G hQ dX6_step_7 vDet.mk
