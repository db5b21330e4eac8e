/-! The program's tape: one token after another -/
def bC (σ : vW) (l k : Nat) : Int32 := if k < l then σ 3 k else -1
theorem byteC_eq {W σ : vW} {l k : Nat} (hl : W 2 1 = nI l) (hl6 : l ≤ 160) (h3 : W 3 = σ 3) (hk : k < 1000) : byteC W (nI k) = bC σ l k := by
  unfold byteC bC
  rw [if_neg (nI_pos (by omega)), hl, h3, nI_clamp (by omega)]
  rcases Nat.lt_or_ge k l with h | h
  · rw [if_neg (nI_ge h (by omega)), if_neg (nI_ge (show k < 160 by omega) (by omega)), if_pos h]
  · rw [if_pos (nI_le h (by omega)), if_neg (by omega)]
def rkB (σ : vW) (l p : Nat) : Nat := fstP (fun k => if bC σ l k = nI 32 then false else true) (l - p) p
def rkT (σ : vW) (l q : Nat) : Nat := fstP (fun k => if tokOf (bC σ l k) = tokOf (bC σ l q) then false else true) (l - q) q
def rkV (σ : vW) (q : Nat) : Nat → Int32
  | 0 => nI 0
  | k + 1 => rkV σ q k * nI 10 + σ 3 (q + k) - nI 48
theorem rkB_le {σ : vW} {l p : Nat} (h : p ≤ l) : p ≤ rkB σ l p ∧ rkB σ l p ≤ l := ⟨fstP_ge _ _ _, by have := fstP_le (fun k => if bC σ l k = nI 32 then false else true) (l - p) p; unfold rkB; omega⟩
theorem rkT_le {σ : vW} {l q : Nat} (h : q ≤ l) : q ≤ rkT σ l q ∧ rkT σ l q ≤ l := ⟨fstP_ge _ _ _, by have := fstP_le (fun k => if tokOf (bC σ l k) = tokOf (bC σ l q) then false else true) (l - q) q; unfold rkT; omega⟩
def rk0 (σ : vW) (l q : Nat) : vW := vset (vset (vset (vset σ 2 5 (nI q)) 2 3 (nI q)) 2 4 (nI 0)) 2 2 (tokOf (bC σ l q))
def rk1 (σ : vW) (l q : Nat) : vW := vset (vset (rk0 σ l q) 2 4 (rkV σ q (rkT σ l q - q))) 2 5 (nI (rkT σ l q))
def rkW1 (σ : vW) (l q : Nat) : vW := if tokOf (bC σ l q) = nI 3 then vset (rk0 σ l q) 2 5 (nI (q + 1)) else if tokOf (bC σ l q) = nI 1 then rk1 σ l q else if tokOf (bC σ l q) = nI 2 then (if nI (rkT σ l q - q) ≤ nI 2 then rk1 σ l q else vset (rk1 σ l q) 2 2 (nI 0)) else rk0 σ l q
def rkW (σ : vW) (l p : Nat) : vW := rkW1 σ l (rkB σ l p)
theorem dg_normG {W : vW} {r i j : Nat} {u u' a b : Int32} (h : i ≠ j) : vset (vset (vset (vset W r i u) r j a) r i u') r j b = vset (vset W r i u') r j b := by
  rw [vset_comm (σ := vset W r i u) (i := j) (j := i) (Ne.symm h), vset_same2, vset_same2]
set_option maxHeartbeats 4000000 in
theorem C_X3_readToken {σ : vW} {l p : Nat} (hl : σ 2 1 = nI l) (hl6 : l ≤ 160) (hp : σ 2 5 = nI p) (hpl : p ≤ l) : Ctr mX3_readToken 1 [.ref 2] σ (vDet none (rkW σ l p)) := by
  refine Ctr.intro (by decide) (fun α => Nat.le_of_ble_eq_true rfl) (fun x G hQ => ?_)
  have G : vG x RX3 cX3_readToken 2 none 1 := G
  show V x 0 [some (.ref 2), none] [] σ
  obtain ⟨hq1, hq2⟩ := rkB_le (σ := σ) hpl
  have hqd : rkB σ l p = rkB σ l p := rfl
  rw [rkW] at hQ
  generalize hqe : rkB σ l p = q at hQ hq1 hq2
  have s1 : (rk0 σ l q) 2 1 = nI l := by rw [rk0, vset_oth (by decide), vset_oth (by decide), vset_oth (by decide), vset_oth (by decide)]; exact hl
  have s2 : (rk0 σ l q) 2 2 = tokOf (bC σ l q) := by rw [rk0, vset_at]
  have s3 : (rk0 σ l q) 2 3 = nI q := by rw [rk0, vset_oth (by decide), vset_oth (by decide), vset_at]
  have s4 : (rk0 σ l q) 2 4 = nI 0 := by rw [rk0, vset_oth (by decide), vset_at]
  have s5 : (rk0 σ l q) 2 5 = nI q := by rw [rk0, vset_oth (by decide), vset_oth (by decide), vset_oth (by decide), vset_at]
  have r3 : (rk0 σ l q) 3 = σ 3 := by rw [rk0, vset_ne (by decide), vset_ne (by decide), vset_ne (by decide), vset_ne (by decide)]
  have hee := rkT_le (σ := σ) (l := l) (q := q) hq2
  have h174 : (tokOf (bC σ l q) = nI 1 ∨ tokOf (bC σ l q) = nI 2) → V x 174 [some (.ref 2), none] [] (rk1 σ l q) := by
    intro hw
    have t2 : (rk1 σ l q) 2 2 = tokOf (bC σ l q) := by rw [rk1, vset_oth (by decide), vset_oth (by decide)]; exact s2
    have t3 : (rk1 σ l q) 2 3 = nI q := by rw [rk1, vset_oth (by decide), vset_oth (by decide)]; exact s3
    have t5 : (rk1 σ l q) 2 5 = nI (rkT σ l q) := by rw [rk1, vset_at]
    have n1 : ¬ nI 1 = nI 3 := by decide
    have n2 : ¬ nI 2 = nI 3 := by decide
    have n3 : ¬ nI 2 = nI 1 := by decide
    rcases hw with hw | hw
    · rw [rkW1, hw, if_neg n1, if_pos rfl] at hQ
      refine v_aload_2_0 G dX3_readToken_174 ?_
      refine v_getI G vc_3 lk_X3_35 (fs_X3_2) dX3_readToken_175 ?_
      rw [t2, hw]
      refine v_iconst (v := nI 2) G dX3_readToken_178 (by decide) ?_
      refine v_icmp_ne (tgt := 200) G dX3_readToken_179 rfl (fun h_179 => ?_) (fun h_179 => absurd h_179 (by decide))
      exact v_vret G hQ dX3_readToken_200 vDet.mk
    · rw [rkW1, hw, if_neg n2, if_neg n3, if_pos rfl] at hQ
      refine v_aload_2_0 G dX3_readToken_174 ?_
      refine v_getI G vc_3 lk_X3_35 (fs_X3_2) dX3_readToken_175 ?_
      rw [t2, hw]
      refine v_iconst (v := nI 2) G dX3_readToken_178 (by decide) ?_
      refine v_icmp_ne (tgt := 200) G dX3_readToken_179 rfl (fun h_179 => absurd rfl h_179) (fun h_179 => ?_)
      refine v_aload_2_0 G dX3_readToken_182 ?_
      refine v_getI G vc_3 lk_X3_19 (fs_X3_5) dX3_readToken_183 ?_
      rw [t5]
      refine v_aload_2_0 G dX3_readToken_186 ?_
      refine v_getI G vc_3 lk_X3_26 (fs_X3_3) dX3_readToken_187 ?_
      rw [t3]
      refine v_isub G dX3_readToken_190 ?_
      rw [nI_subN hee.1]
      refine v_iconst (v := nI 2) G dX3_readToken_191 (by decide) ?_
      refine v_icmp_le (tgt := 200) G dX3_readToken_192 rfl (fun h_192 => ?_) (fun h_192 => ?_)
      · exact v_vret G hQ dX3_readToken_200 (vDet.of rfl (by first | (rw [if_pos h_192]; done) | (rw [if_neg h_192]; done)))
      · refine v_aload_2_0 G dX3_readToken_195 ?_
        refine v_iconst (v := nI 0) G dX3_readToken_196 (by decide) ?_
        refine v_putI G vc_3 vt_3 lk_X3_35 (fs_X3_2) (ft_X3_2 _) dX3_readToken_197 ?_
        exact v_vret G hQ dX3_readToken_200 (vDet.of rfl (by first | (rw [if_pos h_192]; done) | (rw [if_neg h_192]; done)))
  have h105 : (tokOf (bC σ l q) = nI 1 ∨ tokOf (bC σ l q) = nI 2) → V x 105 [some (.ref 2), some (.int (nI 1))] [] (rk0 σ l q) := by
    intro hw
    have k174 := h174 hw
    have e0 : vset (vset (rk0 σ l q) 2 4 (rkV σ q 0)) 2 5 (nI (q + 0)) = rk0 σ l q := by
      have h := vset_id (σ := rk0 σ l q) (r := 2) (i := 5)
      have h2 := vset_id (σ := rk0 σ l q) (r := 2) (i := 4)
      rw [s5] at h
      rw [s4] at h2
      show vset (vset (rk0 σ l q) 2 4 (nI 0)) 2 5 (nI q) = _
      rw [h2, h]
    have hbe : ∀ u k, k < 1000 → byteC (vset (vset (rk0 σ l q) 2 4 u) 2 5 (nI k)) (nI k) = bC σ l k := fun u k hk => byteC_eq (by rw [vset_oth (by decide), vset_oth (by decide)]; exact s1) hl6 (by rw [vset_ne (by decide), vset_ne (by decide)]; exact r3) hk
    have hlen : ∀ u a, (vset (vset (rk0 σ l q) 2 4 u) 2 5 a) 2 1 = nI l := fun u a => by rw [vset_oth (by decide), vset_oth (by decide)]; exact s1
    have htk : ∀ u a, (vset (vset (rk0 σ l q) 2 4 u) 2 5 a) 2 2 = tokOf (bC σ l q) := fun u a => by rw [vset_oth (by decide), vset_oth (by decide)]; exact s2
    have key : V x 105 [some (.ref 2), some (.int (nI 1))] [] (vset (vset (rk0 σ l q) 2 4 (rkV σ q 0)) 2 5 (nI (q + 0))) := by
      refine v_forP (pc := 105) ((l - q)) (fun k => rkT σ l q = fstP (fun k => if tokOf (bC σ l k) = tokOf (bC σ l q) then false else true) (l - q - k) (q + k)) (fun k => ([some (.ref 2), some (.int (nI 1))], (vset (vset (rk0 σ l q) 2 4 (rkV σ q k)) 2 5 (nI (q + k))))) rfl (fun k hk hp ih => ?_) (fun hp => ?_)
      · show V x 105 [some (.ref 2), some (.int (nI 1))] [] (vset (vset (rk0 σ l q) 2 4 (rkV σ q k)) 2 5 (nI (q + k)))
        have ih : (rkT σ l q = fstP (fun k => if tokOf (bC σ l k) = tokOf (bC σ l q) then false else true) (l - q - (k + 1)) (q + (k + 1))) → V x 105 [some (.ref 2), some (.int (nI 1))] [] (vset (vset (rk0 σ l q) 2 4 (rkV σ q (k + 1))) 2 5 (nI (q + (k + 1)))) := ih
        have hp : rkT σ l q = fstP (fun k => if tokOf (bC σ l k) = tokOf (bC σ l q) then false else true) (l - q - k) (q + k) := hp
        rw [show l - q - k = (l - q - (k + 1)) + 1 by omega, fstP] at hp
        have hbk : bC σ l (q + k) = σ 3 (q + k) := if_pos (by omega)
        refine v_iload_2_1 G dX3_readToken_105 ?_
        refine v_if_eq (tgt := 174) G dX3_readToken_106 rfl (fun h_106 => absurd h_106 (by decide)) (fun h_106 => ?_)
        refine v_aload_2_0 G dX3_readToken_109 ?_
        refine v_getI G vc_3 lk_X3_19 (fs_X3_5) dX3_readToken_110 ?_
        rw [vset_at]
        refine v_aload_2_0 G dX3_readToken_113 ?_
        refine v_getI G vc_3 lk_X3_15 (fs_X3_1) dX3_readToken_114 ?_
        rw [hlen]
        refine v_icmp_ge (tgt := 174) G dX3_readToken_117 rfl (fun h_117 => absurd h_117 (nI_ge (by omega) (by omega))) (fun h_117 => ?_)
        refine v_aload_2_0 G dX3_readToken_120 ?_
        refine v_aload_2_0 G dX3_readToken_121 ?_
        refine v_getI G vc_3 lk_X3_19 (fs_X3_5) dX3_readToken_122 ?_
        rw [vset_at]
        refine v_cV1 G (C_X3_byteAt) (by decide) md_X3_byteAt in_X3_byteAt (rv_X3 rfl) ml_X3_22 (Nat.le_of_ble_eq_true rfl) dX3_readToken_125 ?_
        rw [hbe _ _ (by omega)]
        refine v_cS1 G (C_X3_tokenOf) (by decide) md_X3_tokenOf st_X3_tokenOf ml_X3_32 (Nat.le_of_ble_eq_true rfl) dX3_readToken_128 ?_
        refine v_aload_2_0 G dX3_readToken_131 ?_
        refine v_getI G vc_3 lk_X3_35 (fs_X3_2) dX3_readToken_132 ?_
        rw [htk]
        refine v_icmp_ne (tgt := 174) G dX3_readToken_135 rfl (fun h_135 => ?_) (fun h_135 => ?_)
        · have e : rkT σ l q = q + k := by rw [hp, if_pos (by rw [if_neg h_135])]
          rw [rk1, e, Nat.add_sub_cancel_left] at k174
          exact V.drop (by simp only [vsubP, and_self]) k174
        · refine v_aload_2_0 G dX3_readToken_138 ?_
          refine v_aload_2_0 G dX3_readToken_139 ?_
          refine v_getI G vc_3 lk_X3_29 (fs_X3_4) dX3_readToken_140 ?_
          rw [vset_oth (by decide), vset_at]
          refine v_bipush (v := nI 10) G dX3_readToken_143 (by decide) ?_
          refine v_imul G dX3_readToken_145 ?_
          refine v_aload_2_0 G dX3_readToken_146 ?_
          refine v_aload_2_0 G dX3_readToken_147 ?_
          refine v_getI G vc_3 lk_X3_19 (fs_X3_5) dX3_readToken_148 ?_
          rw [vset_at]
          refine v_cV1 G (C_X3_byteAt) (by decide) md_X3_byteAt in_X3_byteAt (rv_X3 rfl) ml_X3_22 (Nat.le_of_ble_eq_true rfl) dX3_readToken_151 ?_
          rw [hbe _ _ (by omega), hbk]
          refine v_iadd G dX3_readToken_154 ?_
          refine v_bipush (v := nI 48) G dX3_readToken_155 (by decide) ?_
          refine v_isub G dX3_readToken_157 ?_
          refine v_putI G vc_3 vt_3 lk_X3_29 (fs_X3_4) (ft_X3_4 _) dX3_readToken_158 ?_
          refine v_aload_2_0 G dX3_readToken_161 ?_
          refine v_dup G dX3_readToken_162 rfl ?_
          refine v_getI G vc_3 lk_X3_19 (fs_X3_5) dX3_readToken_163 ?_
          rw [vset_oth (by decide), vset_at]
          refine v_iconst (v := nI 1) G dX3_readToken_166 (by decide) ?_
          refine v_iaddN G dX3_readToken_167 ?_
          refine v_putI G vc_3 vt_3 lk_X3_19 (fs_X3_5) (ft_X3_5 _) dX3_readToken_168 ?_
          refine v_goto (tgt := 105) G dX3_readToken_171 rfl ?_
          rw [dg_normG (by decide)]
          exact ih (by rw [hp, if_neg (by rw [if_pos h_135]; exact Bool.false_ne_true)]; rfl)
      · show V x 105 [some (.ref 2), some (.int (nI 1))] [] (vset (vset (rk0 σ l q) 2 4 (rkV σ q (l - q))) 2 5 (nI (q + (l - q))))
        have hp : rkT σ l q = fstP (fun k => if tokOf (bC σ l k) = tokOf (bC σ l q) then false else true) (l - q - (l - q)) (q + (l - q)) := hp
        refine v_iload_2_1 G dX3_readToken_105 ?_
        refine v_if_eq (tgt := 174) G dX3_readToken_106 rfl (fun h_106 => absurd h_106 (by decide)) (fun h_106 => ?_)
        refine v_aload_2_0 G dX3_readToken_109 ?_
        refine v_getI G vc_3 lk_X3_19 (fs_X3_5) dX3_readToken_110 ?_
        rw [vset_at]
        refine v_aload_2_0 G dX3_readToken_113 ?_
        refine v_getI G vc_3 lk_X3_15 (fs_X3_1) dX3_readToken_114 ?_
        rw [hlen]
        refine v_icmp_ge (tgt := 174) G dX3_readToken_117 rfl (fun h_117 => ?_) (fun h_117 => absurd (nI_le (by omega) (by omega)) h_117)
        rw [Nat.sub_self, fstP] at hp
        rw [rk1, hp, Nat.add_sub_cancel_left] at k174
        exact V.drop (by simp only [vsubP, and_self]) k174
    rw [e0] at key
    exact key
  have h37 : V x 37 [some (.ref 2), none] [] (vset σ 2 5 (nI q)) := by
    have w5 : (vset (vset (vset σ 2 5 (nI q)) 2 3 (nI q)) 2 4 (nI 0)) 2 5 = nI q := by rw [vset_oth (by decide), vset_oth (by decide), vset_at]
    have hb0 : byteC (vset (vset (vset σ 2 5 (nI q)) 2 3 (nI q)) 2 4 (nI 0)) (nI q) = bC σ l q := byteC_eq (by rw [vset_oth (by decide), vset_oth (by decide), vset_oth (by decide)]; exact hl) hl6 (by rw [vset_ne (by decide), vset_ne (by decide), vset_ne (by decide)]) (by omega)
    have u2 : ∀ v, (vset (rk0 σ l q) 2 5 v) 2 2 = tokOf (bC σ l q) := fun v => by rw [vset_oth (by decide)]; exact s2
    have k65 : V x 65 [some (.ref 2), none] [] (rk0 σ l q) := by
      by_cases h3 : tokOf (bC σ l q) = nI 3
      · rw [rkW1, if_pos h3] at hQ
        refine v_aload_2_0 G dX3_readToken_65 ?_
        refine v_getI G vc_3 lk_X3_35 (fs_X3_2) dX3_readToken_66 ?_
        rw [s2, h3]
        refine v_iconst (v := nI 3) G dX3_readToken_69 (by decide) ?_
        refine v_icmp_ne (tgt := 83) G dX3_readToken_70 rfl (fun h_70 => absurd rfl h_70) (fun h_70 => ?_)
        refine v_aload_2_0 G dX3_readToken_73 ?_
        refine v_dup G dX3_readToken_74 rfl ?_
        refine v_getI G vc_3 lk_X3_19 (fs_X3_5) dX3_readToken_75 ?_
        rw [s5]
        refine v_iconst (v := nI 1) G dX3_readToken_78 (by decide) ?_
        refine v_iaddN G dX3_readToken_79 ?_
        refine v_putI G vc_3 vt_3 lk_X3_19 (fs_X3_5) (ft_X3_5 _) dX3_readToken_80 ?_
        refine v_aload_2_0 G dX3_readToken_83 ?_
        refine v_getI G vc_3 lk_X3_35 (fs_X3_2) dX3_readToken_84 ?_
        rw [u2, h3]
        refine v_iconst (v := nI 1) G dX3_readToken_87 (by decide) ?_
        refine v_icmp_eq (tgt := 99) G dX3_readToken_88 rfl (fun h_88 => absurd h_88 (by decide)) (fun h_88 => ?_)
        refine v_aload_2_0 G dX3_readToken_91 ?_
        refine v_getI G vc_3 lk_X3_35 (fs_X3_2) dX3_readToken_92 ?_
        rw [u2, h3]
        refine v_iconst (v := nI 2) G dX3_readToken_95 (by decide) ?_
        refine v_icmp_ne (tgt := 103) G dX3_readToken_96 rfl (fun h_96 => ?_) (fun h_96 => absurd h_96 (by decide))
        refine v_iconst (v := nI 0) G dX3_readToken_103 (by decide) ?_
        refine v_istore_2_1 G dX3_readToken_104 rfl ?_
        refine v_iload_2_1 G dX3_readToken_105 ?_
        refine v_if_eq (tgt := 174) G dX3_readToken_106 rfl (fun h_106 => ?_) (fun h_106 => absurd (by decide) h_106)
        refine v_aload_2_0 G dX3_readToken_174 ?_
        refine v_getI G vc_3 lk_X3_35 (fs_X3_2) dX3_readToken_175 ?_
        rw [u2, h3]
        refine v_iconst (v := nI 2) G dX3_readToken_178 (by decide) ?_
        refine v_icmp_ne (tgt := 200) G dX3_readToken_179 rfl (fun h_179 => ?_) (fun h_179 => absurd h_179 (by decide))
        exact v_vret G hQ dX3_readToken_200 vDet.mk
      · by_cases h1 : tokOf (bC σ l q) = nI 1
        · have k105 := h105 (Or.inl h1)
          refine v_aload_2_0 G dX3_readToken_65 ?_
          refine v_getI G vc_3 lk_X3_35 (fs_X3_2) dX3_readToken_66 ?_
          rw [s2]
          refine v_iconst (v := nI 3) G dX3_readToken_69 (by decide) ?_
          refine v_icmp_ne (tgt := 83) G dX3_readToken_70 rfl (fun h_70 => ?_) (fun h_70 => absurd h_70 h3)
          refine v_aload_2_0 G dX3_readToken_83 ?_
          refine v_getI G vc_3 lk_X3_35 (fs_X3_2) dX3_readToken_84 ?_
          rw [s2, h1]
          refine v_iconst (v := nI 1) G dX3_readToken_87 (by decide) ?_
          refine v_icmp_eq (tgt := 99) G dX3_readToken_88 rfl (fun h_88 => ?_) (fun h_88 => absurd rfl h_88)
          refine v_iconst (v := nI 1) G dX3_readToken_99 (by decide) ?_
          refine v_goto (tgt := 104) G dX3_readToken_100 rfl ?_
          refine v_istore_2_1 G dX3_readToken_104 rfl ?_
          exact k105
        · by_cases h2 : tokOf (bC σ l q) = nI 2
          · have k105 := h105 (Or.inr h2)
            refine v_aload_2_0 G dX3_readToken_65 ?_
            refine v_getI G vc_3 lk_X3_35 (fs_X3_2) dX3_readToken_66 ?_
            rw [s2]
            refine v_iconst (v := nI 3) G dX3_readToken_69 (by decide) ?_
            refine v_icmp_ne (tgt := 83) G dX3_readToken_70 rfl (fun h_70 => ?_) (fun h_70 => absurd h_70 h3)
            refine v_aload_2_0 G dX3_readToken_83 ?_
            refine v_getI G vc_3 lk_X3_35 (fs_X3_2) dX3_readToken_84 ?_
            rw [s2, h2]
            refine v_iconst (v := nI 1) G dX3_readToken_87 (by decide) ?_
            refine v_icmp_eq (tgt := 99) G dX3_readToken_88 rfl (fun h_88 => absurd h_88 (by decide)) (fun h_88 => ?_)
            refine v_aload_2_0 G dX3_readToken_91 ?_
            refine v_getI G vc_3 lk_X3_35 (fs_X3_2) dX3_readToken_92 ?_
            rw [s2, h2]
            refine v_iconst (v := nI 2) G dX3_readToken_95 (by decide) ?_
            refine v_icmp_ne (tgt := 103) G dX3_readToken_96 rfl (fun h_96 => absurd rfl h_96) (fun h_96 => ?_)
            refine v_iconst (v := nI 1) G dX3_readToken_99 (by decide) ?_
            refine v_goto (tgt := 104) G dX3_readToken_100 rfl ?_
            refine v_istore_2_1 G dX3_readToken_104 rfl ?_
            exact k105
          · rw [rkW1, if_neg h3, if_neg h1, if_neg h2] at hQ
            refine v_aload_2_0 G dX3_readToken_65 ?_
            refine v_getI G vc_3 lk_X3_35 (fs_X3_2) dX3_readToken_66 ?_
            rw [s2]
            refine v_iconst (v := nI 3) G dX3_readToken_69 (by decide) ?_
            refine v_icmp_ne (tgt := 83) G dX3_readToken_70 rfl (fun h_70 => ?_) (fun h_70 => absurd h_70 h3)
            refine v_aload_2_0 G dX3_readToken_83 ?_
            refine v_getI G vc_3 lk_X3_35 (fs_X3_2) dX3_readToken_84 ?_
            rw [s2]
            refine v_iconst (v := nI 1) G dX3_readToken_87 (by decide) ?_
            refine v_icmp_eq (tgt := 99) G dX3_readToken_88 rfl (fun h_88 => absurd h_88 h1) (fun h_88 => ?_)
            refine v_aload_2_0 G dX3_readToken_91 ?_
            refine v_getI G vc_3 lk_X3_35 (fs_X3_2) dX3_readToken_92 ?_
            rw [s2]
            refine v_iconst (v := nI 2) G dX3_readToken_95 (by decide) ?_
            refine v_icmp_ne (tgt := 103) G dX3_readToken_96 rfl (fun h_96 => ?_) (fun h_96 => absurd h_96 h2)
            refine v_iconst (v := nI 0) G dX3_readToken_103 (by decide) ?_
            refine v_istore_2_1 G dX3_readToken_104 rfl ?_
            refine v_iload_2_1 G dX3_readToken_105 ?_
            refine v_if_eq (tgt := 174) G dX3_readToken_106 rfl (fun h_106 => ?_) (fun h_106 => absurd (by decide) h_106)
            refine v_aload_2_0 G dX3_readToken_174 ?_
            refine v_getI G vc_3 lk_X3_35 (fs_X3_2) dX3_readToken_175 ?_
            rw [s2]
            refine v_iconst (v := nI 2) G dX3_readToken_178 (by decide) ?_
            refine v_icmp_ne (tgt := 200) G dX3_readToken_179 rfl (fun h_179 => ?_) (fun h_179 => absurd h_179 h2)
            exact v_vret G hQ dX3_readToken_200 vDet.mk
    refine v_aload_2_0 G dX3_readToken_37 ?_
    refine v_aload_2_0 G dX3_readToken_38 ?_
    refine v_getI G vc_3 lk_X3_19 (fs_X3_5) dX3_readToken_39 ?_
    rw [vset_at]
    refine v_putI G vc_3 vt_3 lk_X3_26 (fs_X3_3) (ft_X3_3 _) dX3_readToken_42 ?_
    refine v_aload_2_0 G dX3_readToken_45 ?_
    refine v_iconst (v := nI 0) G dX3_readToken_46 (by decide) ?_
    refine v_putI G vc_3 vt_3 lk_X3_29 (fs_X3_4) (ft_X3_4 _) dX3_readToken_47 ?_
    refine v_aload_2_0 G dX3_readToken_50 ?_
    refine v_aload_2_0 G dX3_readToken_51 ?_
    refine v_aload_2_0 G dX3_readToken_52 ?_
    refine v_getI G vc_3 lk_X3_19 (fs_X3_5) dX3_readToken_53 ?_
    rw [w5]
    refine v_cV1 G (C_X3_byteAt) (by decide) md_X3_byteAt in_X3_byteAt (rv_X3 rfl) ml_X3_22 (Nat.le_of_ble_eq_true rfl) dX3_readToken_56 ?_
    rw [hb0]
    refine v_cS1 G (C_X3_tokenOf) (by decide) md_X3_tokenOf st_X3_tokenOf ml_X3_32 (Nat.le_of_ble_eq_true rfl) dX3_readToken_59 ?_
    refine v_putI G vc_3 vt_3 lk_X3_35 (fs_X3_2) (ft_X3_2 _) dX3_readToken_62 ?_
    exact k65
  have e0 : vset σ 2 5 (nI (p + 0)) = σ := by
    have h := vset_id (σ := σ) (r := 2) (i := 5)
    rw [hp] at h
    exact h
  have hlw : ∀ v, (vset σ 2 5 v) 2 1 = nI l := fun v => by rw [vset_oth (by decide)]; exact hl
  have hbw : ∀ v k, k < 1000 → byteC (vset σ 2 5 v) (nI k) = bC σ l k := fun v k hk => byteC_eq (hlw v) hl6 (vset_ne (by decide)) hk
  unfold rkB at hqe
  rw [← e0]
  refine v_forP (pc := 0) ((l - p)) (fun k => q = fstP (fun k => if bC σ l k = nI 32 then false else true) (l - p - k) (p + k)) (fun k => ([some (.ref 2), none], (vset σ 2 5 (nI (p + k))))) hqe.symm (fun k hk hpk ih => ?_) (fun hpk => ?_)
  · show V x 0 [some (.ref 2), none] [] (vset σ 2 5 (nI (p + k)))
    have ih : (q = fstP (fun k => if bC σ l k = nI 32 then false else true) (l - p - (k + 1)) (p + (k + 1))) → V x 0 [some (.ref 2), none] [] (vset σ 2 5 (nI (p + (k + 1)))) := ih
    have hpk : q = fstP (fun k => if bC σ l k = nI 32 then false else true) (l - p - k) (p + k) := hpk
    rw [show l - p - k = (l - p - (k + 1)) + 1 by omega, fstP] at hpk
    refine v_aload_2_0 G dX3_readToken_0 ?_
    refine v_getI G vc_3 lk_X3_19 (fs_X3_5) dX3_readToken_1 ?_
    rw [vset_at]
    refine v_aload_2_0 G dX3_readToken_4 ?_
    refine v_getI G vc_3 lk_X3_15 (fs_X3_1) dX3_readToken_5 ?_
    rw [hlw]
    refine v_icmp_ge (tgt := 37) G dX3_readToken_8 rfl (fun h_8 => absurd h_8 (nI_ge (by omega) (by omega))) (fun h_8 => ?_)
    refine v_aload_2_0 G dX3_readToken_11 ?_
    refine v_aload_2_0 G dX3_readToken_12 ?_
    refine v_getI G vc_3 lk_X3_19 (fs_X3_5) dX3_readToken_13 ?_
    rw [vset_at]
    refine v_cV1 G (C_X3_byteAt) (by decide) md_X3_byteAt in_X3_byteAt (rv_X3 rfl) ml_X3_22 (Nat.le_of_ble_eq_true rfl) dX3_readToken_16 ?_
    rw [hbw _ _ (by omega)]
    refine v_bipush (v := nI 32) G dX3_readToken_19 (by decide) ?_
    refine v_icmp_ne (tgt := 37) G dX3_readToken_21 rfl (fun h_21 => ?_) (fun h_21 => ?_)
    · have e : q = p + k := by rw [hpk, if_pos (by rw [if_neg h_21])]
      rw [← e]
      exact h37
    · refine v_aload_2_0 G dX3_readToken_24 ?_
      refine v_dup G dX3_readToken_25 rfl ?_
      refine v_getI G vc_3 lk_X3_19 (fs_X3_5) dX3_readToken_26 ?_
      rw [vset_at]
      refine v_iconst (v := nI 1) G dX3_readToken_29 (by decide) ?_
      refine v_iaddN G dX3_readToken_30 ?_
      refine v_putI G vc_3 vt_3 lk_X3_19 (fs_X3_5) (ft_X3_5 _) dX3_readToken_31 ?_
      refine v_goto (tgt := 0) G dX3_readToken_34 rfl ?_
      rw [vset_same2]
      exact ih (by rw [hpk, if_neg (by rw [if_pos h_21]; exact Bool.false_ne_true)]; rfl)
  · show V x 0 [some (.ref 2), none] [] (vset σ 2 5 (nI (p + (l - p))))
    have hpk : q = fstP (fun k => if bC σ l k = nI 32 then false else true) (l - p - (l - p)) (p + (l - p)) := hpk
    refine v_aload_2_0 G dX3_readToken_0 ?_
    refine v_getI G vc_3 lk_X3_19 (fs_X3_5) dX3_readToken_1 ?_
    rw [vset_at]
    refine v_aload_2_0 G dX3_readToken_4 ?_
    refine v_getI G vc_3 lk_X3_15 (fs_X3_1) dX3_readToken_5 ?_
    rw [hlw]
    refine v_icmp_ge (tgt := 37) G dX3_readToken_8 rfl (fun h_8 => ?_) (fun h_8 => absurd (nI_le (by omega) (by omega)) h_8)
    rw [Nat.sub_self, fstP] at hpk
    rw [← hpk]
    exact h37
