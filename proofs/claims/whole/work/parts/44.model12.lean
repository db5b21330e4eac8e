/-! The model: drift, reading a sheet -/
theorem nI_divN {a b : Nat} (ha : a < 2147483648) (hb : b < 2147483648) : nI a / nI b = nI (a / b) := by
  apply Int32.toBitVec_inj.mp
  rw [Int32.toBitVec_div]
  show (BitVec.ofNat 32 a).sdiv (BitVec.ofNat 32 b) = BitVec.ofNat 32 (a / b)
  have m1 : (BitVec.ofNat 32 a).msb = false := by rw [BitVec.msb_eq_false_iff_two_mul_lt, BitVec.toNat_ofNat]; omega
  have m2 : (BitVec.ofNat 32 b).msb = false := by rw [BitVec.msb_eq_false_iff_two_mul_lt, BitVec.toNat_ofNat]; omega
  rw [BitVec.sdiv_eq, m1, m2]
  show BitVec.udiv _ _ = _
  apply BitVec.eq_of_toNat_eq
  have h3 : a / b ≤ a := Nat.div_le_self a b
  rw [BitVec.udiv_eq, BitVec.toNat_udiv, BitVec.toNat_ofNat, BitVec.toNat_ofNat, BitVec.toNat_ofNat, Nat.mod_eq_of_lt (show a < 2 ^ 32 by omega), Nat.mod_eq_of_lt (show b < 2 ^ 32 by omega), Nat.mod_eq_of_lt (show a / b < 2 ^ 32 by omega)]
theorem nI_remN {a b : Nat} (ha : a < 2147483648) (hb : b < 2147483648) : nI a - nI a / nI b * nI b = nI (a % b) := by
  have h := Nat.div_add_mod a b
  rw [Nat.mul_comm] at h
  rw [nI_divN ha hb, nI_mul]
  have e : nI a = nI (a % b) + nI (a / b * b) := (congrArg nI (show a = a % b + a / b * b by omega)).trans (nI_add _ _).symm
  rw [e]
  exact Int32.add_sub_cancel _ _
theorem inL1_ex {a : Int32} (h : inL a.toInt64 (lN 1) 60 = true) : ∃ j, j < 61 ∧ a = nI j := by
  have h := of_decide_eq_true h
  rw [Int32.toInt_toInt64] at h
  have h1 : (lN 1).toInt = 1 := by decide
  have h2 : (60 : Int64).toInt = 60 := by decide
  rw [h1, h2] at h
  refine ⟨a.toInt.toNat, by omega, ?_⟩
  rw [← Int32.toInt_inj, nI_toInt (by omega)]
  omega
def dfX (seed : Int32) : Nat → Int32
  | 0 => seed
  | i + 1 => dfX seed i * 1103515245 + nI 12345
def dfY (seed : Int32) (i : Nat) : Nat := (dfX seed (i + 1) >>> (nI 16 &&& 31) &&& nI 32767).toNatClampNeg
theorem dfY_nI (seed : Int32) (i : Nat) : dfX seed (i + 1) >>> (nI 16 &&& 31) &&& nI 32767 = nI (dfY seed i) ∧ dfY seed i < 32768 := by
  obtain ⟨n, hn, e⟩ := wb_of32 (dfX seed (i + 1) >>> (nI 16 &&& 31))
  have e2 : dfX seed (i + 1) >>> (nI 16 &&& 31) &&& nI 32767 = nI (n % 2 ^ 15) := by
    rw [e, show nI 32767 = nI (2 ^ 15 - 1) from rfl, fa_mask]
  have h : n % 2 ^ 15 < 32768 := Nat.mod_lt _ (by decide)
  have e3 : dfY seed i = n % 2 ^ 15 := by rw [dfY, e2, nI_clamp (by omega)]
  rw [e3]
  exact ⟨e2, h⟩
/-- one turn: a door is hung, or one is taken off -/
def df1 (t : vW) (n p w : Nat) : vW := if mCan (t 76) n 260 p (nI w) = true then mHgW t n 260 p (nI w) else if mDoor ((mHgW t n 260 p (nI w)) 76) n 260 (nI w) = -4 then mHgW t n 260 p (nI w) else vset (mHgW t n 260 p (nI w)) 76 (275 + (mDoor ((mHgW t n 260 p (nI w)) 76) n 260 (nI w)).toNatClampNeg) (nI 0)
def dfW (σ : vW) (n m : Nat) (seed : Int32) : Nat → vW
  | 0 => cpW σ 0 260
  | i + 1 => df1 (dfW σ n m seed i) n (dfY seed i % n) (dfY seed i / 8 % m)
theorem df1_both {t σ : vW} {n m p w : Nat} (h : scr t σ) (h2 : pOK t n m 260) (hp : p < 5) : scr (df1 t n p w) σ ∧ pOK (df1 t n p w) n m 260 := by
  have hn5 := h2.1.2.1
  have k1 : scr (mHgW t n 260 p (nI w)) σ := scr_hg h hp
  have k2 : pOK (mHgW t n 260 p (nI w)) n m 260 := pOK_hg h2 hp (Or.inl rfl)
  unfold df1
  split
  · exact ⟨k1, k2⟩
  · split
    · exact ⟨k1, k2⟩
    · rcases mDoor_cases ((mHgW t n 260 p (nI w)) 76) n 260 (nI w) with e | ⟨q, hq, e⟩
      · exact absurd e (by assumption)
      · rw [e, nI_clamp (by omega)]
        exact ⟨scr_cell k1 (by omega) (by omega), pOK_set k2 (by omega) (by omega)⟩
theorem dfW_both {σ : vW} {n m : Nat} {seed : Int32} (h : pOK σ n m 0) (hn0 : 0 < n) : ∀ i, scr (dfW σ n m seed i) σ ∧ pOK (dfW σ n m seed i) n m 260
  | 0 => ⟨scr_cp (scr_refl σ), pOK_to h (by omega)⟩
  | i + 1 => by
    have hn5 := h.1.2.1
    obtain ⟨h1, h2⟩ := dfW_both (seed := seed) h hn0 i
    exact df1_both h1 h2 (Nat.lt_of_lt_of_le (Nat.mod_lt _ hn0) hn5)
def mDriftR (σ : vW) (n m : Nat) (seed c k : Int32) : Int32 := if inL c.toInt64 (lN 1) 60 = true then (if inZ k 2 = true then (if nI n = 0 then -2 else if nI m = 0 then -2 else if k = 0 then mAllG ((dfW σ n m seed c.toNatClampNeg) 76) n (σ 75 20) 260 m n else mHungG ((dfW σ n m seed c.toNatClampNeg) 76) 260 n) else -1) else -1
set_option maxHeartbeats 4000000 in
theorem C_X6_drift {σ : vW} {f : Nat → Int32} {n m : Nat} {seed c k : Int32} (hp : pOK σ n m 0) : Ctr mX6_drift 5 [.ref 75, .int seed, .int c, .int k] (vrow σ 81 f) (vT (some (.int (mDriftR σ n m seed c k))) σ) := by
  have hn := hp.1.1
  have hn5 := hp.1.2.1
  have hm : σ 76 25 = nI m := hp.2.1.1
  have hm9 := hp.2.1.2.1
  refine Ctr.intro (by decide) (fun α => Nat.le_of_ble_eq_true rfl) (fun x G hQ => ?_)
  have G : vG x RX6 cX6_drift 9 (some .int) 5 := G
  show V x 0 [some (.ref 75), some (.int seed), some (.int c), some (.int k), none, none, none, none, none] [] (vrow σ 81 f)
  refine v_iload_9_2 G dX6_drift_0 ?_
  refine v_i2l G dX6_drift_1 ?_
  refine v_lconst (v := lN 1) G dX6_drift_2 (by decide) ?_
  refine v_ldc2 G ct_X6_258 dX6_drift_3 ?_
  refine v_cS3 G C_X6_in (by decide) md_X6_in st_X6_in ml_X6_49 (Nat.le_of_ble_eq_true rfl) dX6_drift_6 ?_
  refine v_ifB_eq (tgt := 22) G dX6_drift_9 rfl (fun h_9 => ?_) (fun h_9 => ?_)
  · refine v_iconst (v := (-1)) G dX6_drift_22 (by decide) ?_
    exact v_iret G hQ dX6_drift_23 (vT.of (by simp only [mDriftR, bI, h_9, if_true, if_false, Bool.false_eq_true, reduceIte] <;> try rfl) (scr_refl σ))
  · obtain ⟨c0, hc0, rfl⟩ := inL1_ex h_9
    have cc0 : (nI c0).toNatClampNeg = c0 := nI_clamp (by omega)
    refine v_iload_9_3 G dX6_drift_12 ?_
    refine v_i2l G dX6_drift_13 ?_
    refine v_lconst (v := lN 0) G dX6_drift_14 (by decide) ?_
    refine v_lconst (v := lN 1) G dX6_drift_15 (by decide) ?_
    refine v_cS3 G (C_inK 2 (by decide)) (by decide) md_X6_in st_X6_in ml_X6_49 (Nat.le_of_ble_eq_true rfl) dX6_drift_16 ?_
    refine v_ifB_ne (tgt := 24) G dX6_drift_19 rfl (fun h_19 => ?_) (fun h_19 => ?_)
    · refine v_aload_9_0 G dX6_drift_24 ?_
      refine m_getI G (by decide) vc_6 lk_X6_144 fs_X6_1 dX6_drift_25 ?_
      rw [hn]
      refine v_if_eq (tgt := 41) G dX6_drift_28 rfl (fun h_28 => ?_) (fun h_28 => ?_)
      · refine v_bipush (v := (-2)) G dX6_drift_41 (by decide) ?_
        exact v_iret G hQ dX6_drift_43 (vT.of (by simp only [mDriftR, bI, h_9, cc0, h_19, h_28, if_true, if_false, Bool.false_eq_true, reduceIte] <;> try rfl) (scr_refl σ))
      · refine v_aload_9_0 G dX6_drift_31 ?_
        refine v_getR G vc_6 lk_X6_7 (fs_X6_0) dX6_drift_32 ?_
        refine v_bipush (v := nI 25) G dX6_drift_35 (by decide) ?_
        refine m_ialdN G (by decide) (as_X6_0) (by first | assumption | omega | exact oneB_in (by assumption) | exact wallB_in (by assumption) | exact oneB_m1 (by assumption) | decide) (by decide) dX6_drift_37 ?_
        rw [hm]
        refine v_if_ne (tgt := 44) G dX6_drift_38 rfl (fun h_38 => ?_) (fun h_38 => ?_)
        · refine v_aload_9_0 G dX6_drift_44 ?_
          refine v_iconst (v := nI 0) G dX6_drift_45 (by decide) ?_
          refine v_sipush (v := nI 260) G dX6_drift_46 (by decide) ?_
          refine v_cV2v G (C_X6_copies (a := 0) (b := 260) (by omega) (by omega) (by omega)) (by decide) md_X6_copies in_X6_copies (rv_X6 rfl) ml_X6_220 (Nat.le_of_ble_eq_true rfl) dX6_drift_49 ?_
          refine v_iload_9_1 G dX6_drift_52 ?_
          refine v_istore_9_4 G dX6_drift_53 rfl ?_
          refine v_iconst (v := nI 0) G dX6_drift_55 (by decide) ?_
          refine v_istore_9_5 G dX6_drift_56 rfl ?_
          have hn0 : 0 < n := Nat.pos_of_ne_zero (fun e => h_28 (by rw [e]; rfl))
          have hm0 : 0 < m := Nat.pos_of_ne_zero (fun e => h_38 (by rw [e]; rfl))
          have hb := fun i => dfW_both (seed := seed) hp hn0 i
          have hnz : ¬ nI n = 0 := h_28
          have hmz : ¬ nI m = 0 := h_38
          have h8 : ¬ nI 8 = 0 := by decide
          have htn : ∀ i, (dfW σ n m seed i) 75 1 = nI n := fun i => (hb i).2.1.1
          have htm : ∀ i, (dfW σ n m seed i) 76 25 = nI m := fun i => ((hb i).1.2.2 25 (by omega)).trans hm
          refine v_for (pc := 58) (c0) (fun i => ([some (.ref 75), some (.int seed), some (.int (nI c0)), some (.int k), some (.int (dfX seed i)), some (.int (nI i)), none, none, none], (vrow (dfW σ n m seed i) 81 f))) (fun i hi ih => ?_) ?_
          · show V x 58 [some (.ref 75), some (.int seed), some (.int (nI c0)), some (.int k), some (.int (dfX seed i)), some (.int (nI i)), none, none, none] [] (vrow (dfW σ n m seed i) 81 f)
            have ih : V x 58 [some (.ref 75), some (.int seed), some (.int (nI c0)), some (.int k), some (.int (dfX seed (i + 1))), some (.int (nI (i + 1))), none, none, none] [] (vrow (dfW σ n m seed (i + 1)) 81 f) := ih
            obtain ⟨ey, hy⟩ := dfY_nI seed i
            have hp0 : dfY seed i % n < 5 := Nat.lt_of_lt_of_le (Nat.mod_lt _ hn0) hn5
            have htn2 : (mHgW (dfW σ n m seed i) n 260 (dfY seed i % n) (nI (dfY seed i / 8 % m))) 75 1 = nI n := by rw [mHgW_75]; exact htn i
            refine v_iload_9_5 G dX6_drift_58 ?_
            refine v_iload_9_2 G dX6_drift_60 ?_
            refine v_icmp_ge (tgt := 157) G dX6_drift_61 rfl (fun h_61 => absurd h_61 (by exact nI_ge hi (by omega))) (fun h_61 => ?_)
            refine v_iload_9_4 G dX6_drift_64 ?_
            refine v_ldc_w G ct_X6_260 dX6_drift_66 ?_
            refine v_imul G dX6_drift_69 ?_
            refine v_sipush (v := nI 12345) G dX6_drift_70 (by decide) ?_
            refine v_iadd G dX6_drift_73 ?_
            rw [show dfX seed i * 1103515245 + nI 12345 = dfX seed (i + 1) from rfl]
            refine v_istore_9_4 G dX6_drift_74 rfl ?_
            refine v_iload_9_4 G dX6_drift_76 ?_
            refine v_bipush (v := nI 16) G dX6_drift_78 (by decide) ?_
            refine v_ishr G dX6_drift_80 ?_
            refine v_sipush (v := nI 32767) G dX6_drift_81 (by decide) ?_
            refine v_iand G dX6_drift_84 ?_
            rw [ey]
            refine v_istore_9_6 G dX6_drift_85 rfl ?_
            refine v_iload_9_6 G dX6_drift_87 ?_
            refine v_bipush (v := nI 8) G dX6_drift_89 (by decide) ?_
            refine v_idiv G dX6_drift_91 (by first | assumption | omega) ?_
            rw [nI_divN (by omega) (by omega)]
            refine v_aload_9_0 G dX6_drift_92 ?_
            refine v_getR G vc_6 lk_X6_7 (fs_X6_0) dX6_drift_93 ?_
            refine v_bipush (v := nI 25) G dX6_drift_96 (by decide) ?_
            refine m_ialdN G (by decide) (as_X6_0) (by first | assumption | omega) (by decide) dX6_drift_98 ?_
            rw [htm]
            refine v_irem G dX6_drift_99 (by first | assumption | omega) ?_
            rw [nI_remN (by omega) (by omega)]
            refine v_istore_9_7 G dX6_drift_100 rfl ?_
            refine v_aload_9_0 G dX6_drift_102 ?_
            refine v_sipush (v := nI 260) G dX6_drift_103 (by decide) ?_
            refine v_iload_9_6 G dX6_drift_106 ?_
            refine v_aload_9_0 G dX6_drift_108 ?_
            refine m_getI G (by decide) vc_6 lk_X6_144 fs_X6_1 dX6_drift_109 ?_
            rw [htn]
            refine v_irem G dX6_drift_112 (by first | assumption | omega) ?_
            rw [nI_remN (by omega) (by omega)]
            refine v_iload_9_7 G dX6_drift_113 ?_
            refine v_cV3 G (C_X6_hangsOn (g := 260) (htn i) hn5 (by omega) hp0) (by decide) md_X6_hangsOn in_X6_hangsOn (rv_X6 rfl) ml_X6_208 (Nat.le_of_ble_eq_true rfl) dX6_drift_115 ?_
            refine v_ifB_ne (tgt := 151) G dX6_drift_118 rfl (fun h_118 => ?_) (fun h_118 => ?_)
            · refine v_iincN_9_5 G dX6_drift_151 rfl ?_
              refine v_goto (tgt := 58) G dX6_drift_154 rfl ?_
              simp only [dfW, df1, h_118, if_true] at ih
              exact V.drop (by simp only [vsubP, and_self]) ih
            · rcases mDoor_cases ((mHgW (dfW σ n m seed i) n 260 (dfY seed i % n) (nI (dfY seed i / 8 % m))) 76) n 260 (nI (dfY seed i / 8 % m)) with ed | ⟨d0, hd0, ed⟩
              · refine v_aload_9_0 G dX6_drift_121 ?_
                refine v_sipush (v := nI 260) G dX6_drift_122 (by decide) ?_
                refine v_iload_9_7 G dX6_drift_125 ?_
                refine v_cV2 G (C_X6_doorOn (g := 260) htn2 hn5 (by omega)) (by decide) md_X6_doorOn in_X6_doorOn (rv_X6 rfl) ml_X6_152 (Nat.le_of_ble_eq_true rfl) dX6_drift_127 ?_
                rw [ed]
                refine v_istore_9_8 G dX6_drift_130 rfl ?_
                refine v_iload_9_8 G dX6_drift_132 ?_
                refine v_bipush (v := (-4)) G dX6_drift_134 (by decide) ?_
                refine v_icmp_eq (tgt := 151) G dX6_drift_136 rfl (fun h_136 => ?_) (fun h_136 => absurd rfl h_136)
                refine v_iincN_9_5 G dX6_drift_151 rfl ?_
                refine v_goto (tgt := 58) G dX6_drift_154 rfl ?_
                simp only [dfW, df1, h_118, ed, if_true, if_false, Bool.false_eq_true, reduceIte] at ih
                exact V.drop (by simp only [vsubP, and_self]) ih
              · have nd : ¬ nI d0 = -4 := nI_nm4 (by omega)
                have cd : (nI d0).toNatClampNeg = d0 := nI_clamp (by omega)
                refine v_aload_9_0 G dX6_drift_121 ?_
                refine v_sipush (v := nI 260) G dX6_drift_122 (by decide) ?_
                refine v_iload_9_7 G dX6_drift_125 ?_
                refine v_cV2 G (C_X6_doorOn (g := 260) htn2 hn5 (by omega)) (by decide) md_X6_doorOn in_X6_doorOn (rv_X6 rfl) ml_X6_152 (Nat.le_of_ble_eq_true rfl) dX6_drift_127 ?_
                rw [ed]
                refine v_istore_9_8 G dX6_drift_130 rfl ?_
                refine v_iload_9_8 G dX6_drift_132 ?_
                refine v_bipush (v := (-4)) G dX6_drift_134 (by decide) ?_
                refine v_icmp_eq (tgt := 151) G dX6_drift_136 rfl (fun h_136 => absurd h_136 nd) (fun h_136 => ?_)
                refine v_aload_9_0 G dX6_drift_139 ?_
                refine v_getR G vc_6 lk_X6_7 (fs_X6_0) dX6_drift_140 ?_
                refine v_sipush (v := nI 275) G dX6_drift_143 (by decide) ?_
                refine v_iload_9_8 G dX6_drift_146 ?_
                refine v_iaddN G dX6_drift_148 ?_
                refine v_iconst (v := nI 0) G dX6_drift_149 (by decide) ?_
                refine m_iastN G (by decide) (as_X6_0) (by first | assumption | omega) (by decide) dX6_drift_150 ?_
                refine v_iincN_9_5 G dX6_drift_151 rfl ?_
                refine v_goto (tgt := 58) G dX6_drift_154 rfl ?_
                simp only [dfW, df1, h_118, ed, nd, cd, if_true, if_false, Bool.false_eq_true, reduceIte] at ih
                exact V.drop (by simp only [vsubP, and_self]) ih
          · show V x 58 [some (.ref 75), some (.int seed), some (.int (nI c0)), some (.int k), some (.int (dfX seed c0)), some (.int (nI c0)), none, none, none] [] (vrow (dfW σ n m seed c0) 81 f)
            refine v_iload_9_5 G dX6_drift_58 ?_
            refine v_iload_9_2 G dX6_drift_60 ?_
            refine v_icmp_ge (tgt := 157) G dX6_drift_61 rfl (fun h_61 => ?_) (fun h_61 => absurd (by exact nI_le (Nat.le_refl _) (by omega)) h_61)
            refine v_iload_9_3 G dX6_drift_157 ?_
            refine v_if_ne (tgt := 171) G dX6_drift_158 rfl (fun h_158 => ?_) (fun h_158 => ?_)
            · refine v_aload_9_0 G dX6_drift_171 ?_
              refine v_sipush (v := nI 260) G dX6_drift_172 (by decide) ?_
              refine v_cV1 G (C_X6_hungOn (g := 260) (htn c0) hn5 (by omega)) (by decide) md_X6_hungOn in_X6_hungOn (rv_X6 rfl) ml_X6_182 (Nat.le_of_ble_eq_true rfl) dX6_drift_175 ?_
              exact v_iret G hQ dX6_drift_178 (vT.of (by first | (simp only [mDriftR, h_9, cc0, h_19, h_28, h_38, if_pos h_158, hnz, hmz, if_true, if_false]; done) | (simp only [mDriftR, h_9, cc0, h_19, h_28, h_38, if_neg h_158, hnz, hmz, if_true, if_false]; done)) (hb c0).1)
            · refine v_aload_9_0 G dX6_drift_161 ?_
              refine v_sipush (v := nI 260) G dX6_drift_162 (by decide) ?_
              refine v_cE1 G (C_X6_allOn (g := 260) (hb c0).2) (by decide) md_X6_allOn in_X6_allOn (rv_X6 rfl) ml_X6_233 (Nat.le_of_ble_eq_true rfl) dX6_drift_165 (fun f => ?_)
              rw [scr_J (hb c0).1]
              refine v_goto (tgt := 178) G dX6_drift_168 rfl ?_
              exact v_iret G hQ dX6_drift_178 (vT.of (by first | (simp only [mDriftR, h_9, cc0, h_19, h_28, h_38, if_pos h_158, hnz, hmz, if_true, if_false]; done) | (simp only [mDriftR, h_9, cc0, h_19, h_28, h_38, if_neg h_158, hnz, hmz, if_true, if_false]; done)) (hb c0).1)
        · refine v_bipush (v := (-2)) G dX6_drift_41 (by decide) ?_
          exact v_iret G hQ dX6_drift_43 (vT.of (by simp only [mDriftR, bI, h_9, cc0, h_19, h_28, h_38, if_true, if_false, Bool.false_eq_true, reduceIte] <;> try rfl) (scr_refl σ))
    · refine v_iconst (v := (-1)) G dX6_drift_22 (by decide) ?_
      exact v_iret G hQ dX6_drift_23 (vT.of (by simp only [mDriftR, bI, h_9, cc0, h_19, if_true, if_false, Bool.false_eq_true, reduceIte] <;> try rfl) (scr_refl σ))
/-! reading: many acts laid on a sheet, two cells an act -/
def rfC (σ : vW) (s : Nat) (l f : Int32) (t : Nat) : Int32 := if σ 85 s = -4 then nI 1 else if σ 85 s = l then (if inL (f.toInt64 + (nI t).toInt64) (lN 0) (σ 86 s - nI 1).toInt64 = true then nI 0 else nI 2) else nI 3
def rdP0 (σ : vW) (s c : Nat) (j : Nat) : Int32 := σ 87 (40 * s + c + 2 * j)
def rdP1 (σ : vW) (s c : Nat) (j : Nat) : Int32 := σ 87 (40 * s + c + (2 * j + 1))
def hgA (t : vW) (n m : Nat) (a w : Int32) : Int32 := if inZ a n = true then (if inZ w m = true then mHangsR t n m a.toNatClampNeg w else -1) else -1
def hgV (t : vW) (n m : Nat) (a w : Int32) : vW := if inZ a n = true then (if inZ w m = true then mHgW t n 0 a.toNatClampNeg w else t) else t
def rmW (σ : vW) (n m s c : Nat) : Nat → vW
  | 0 => cpW σ 0 195
  | j + 1 => hgV (rmW σ n m s c j) n m (rdP0 σ s c j) (rdP1 σ s c j)
theorem hgV_ok {t : vW} {n m : Nat} {a w : Int32} (h : pOK t n m 0) : pOK (hgV t n m a w) n m 0 := by
  have hn5 := h.1.2.1
  unfold hgV
  split
  · rename_i h1
    obtain ⟨p, hp, rfl⟩ := inZ_ex h1 (by omega)
    split
    · rw [nI_clamp (by omega)]
      exact pOK_hg h (by omega) (Or.inl rfl)
    · exact h
  · exact h
theorem hgV_ne {t : vW} {n m r : Nat} {a w : Int32} (hr : r ≠ 76) : (hgV t n m a w) r = t r := by
  unfold hgV
  split
  · split
    · unfold mHgW
      split
      · exact vset_ne hr
      · rfl
    · rfl
  · rfl
theorem rmW_ok {σ : vW} {n m s c : Nat} (h : pOK σ n m 0) : ∀ j, pOK (rmW σ n m s c j) n m 0
  | 0 => pOK_off h (by omega)
  | j + 1 => hgV_ok (rmW_ok h j)
theorem rmW_ne {σ : vW} {n m s c r : Nat} (hr : r ≠ 76) : ∀ j, (rmW σ n m s c j) r = σ r
  | 0 => cpW_ne hr
  | j + 1 => by rw [rmW, hgV_ne hr, rmW_ne hr j]
