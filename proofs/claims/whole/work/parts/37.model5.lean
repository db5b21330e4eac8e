/-! The model: what it is asked, what is altered -/
theorem vset_oth {σ : vW} {r i j : Nat} {v : Int32} (h : j ≠ i) : (vset σ r i v) r j = σ r j := by simp [vset, h]
def mFreeG (R : Nat → Int32) : Nat → Int32
  | 0 => nI 0
  | p + 1 => mFreeG R p ||| (if mFree R 0 p = true then nI 1 <<< (nI p &&& 31) else nI 0)
def mDesG (R : Nat → Int32) (n : Nat) (J : Int32) (m : Nat) : Nat → Int32
  | 0 => nI 0
  | r + 1 => mDesG R n J m r ||| (if mWhoG R n J m (nI r) n = 0 then nI 1 <<< (nI r &&& 31) else nI 0)
def mRuleR (R : Nat → Int32) (n : Nat) (J : Int32) (m : Nat) (a : Int32) : Int32 := if a = nI 0 then nI n else if a = nI 1 then nI m else if a = nI 2 then mHungG R 0 n else if a = nI 3 then R 52 else if a = nI 4 then mFreeG R n else if a = nI 5 then mDesG R n J m 8 else -1
set_option maxHeartbeats 4000000 in
theorem C_X6_rule {σ : vW} {f : Nat → Int32} {n m : Nat} {a : Int32} (hp : pOK σ n m 0) : Ctr mX6_rule 5 [.ref 75, .int a] (vrow σ 81 f) (vFar (some (.int (mRuleR (σ 76) n (σ 75 20) m a))) σ) := by
  have hn := hp.1.1
  have hn5 := hp.1.2.1
  have hm : σ 76 25 = nI m := hp.2.1.1
  refine Ctr.intro (by decide) (fun α => Nat.le_of_ble_eq_true rfl) (fun x G hQ => ?_)
  have G : vG x RX6 cX6_rule 5 (some .int) 5 := G
  show V x 0 [some (.ref 75), some (.int a), none, none, none] [] (vrow σ 81 f)
  refine v_iconst (v := nI 0) G dX6_rule_0 (by decide) ?_
  refine v_istore_5_2 G dX6_rule_1 rfl ?_
  refine v_iconst (v := nI 0) G dX6_rule_2 (by decide) ?_
  refine v_istore_5_3 G dX6_rule_3 rfl ?_
  refine v_iconst (v := nI 0) G dX6_rule_4 (by decide) ?_
  refine v_istore_5_4 G dX6_rule_5 rfl ?_
  refine v_for (pc := 7) (n) (fun k => ([some (.ref 75), some (.int a), some (.int (mFreeG (σ 76) k)), some (.int (nI 0)), some (.int (nI k))], (vrow (σ) 81 f))) (fun k hk ih => ?_) ?_
  · show V x 7 [some (.ref 75), some (.int a), some (.int (mFreeG (σ 76) k)), some (.int (nI 0)), some (.int (nI k))] [] (vrow (σ) 81 f)
    have ih : V x 7 [some (.ref 75), some (.int a), some (.int (mFreeG (σ 76) (k + 1))), some (.int (nI 0)), some (.int (nI (k + 1)))] [] (vrow (σ) 81 f) := ih
    refine v_iload_5_4 G dX6_rule_7 ?_
    refine v_aload_5_0 G dX6_rule_9 ?_
    refine m_getI G (by decide) vc_6 lk_X6_144 fs_X6_1 dX6_rule_10 ?_
    refine v_icmp_ge (tgt := 43) G dX6_rule_13 rfl (fun h_13 => absurd h_13 (by rw [hn]; exact nI_ge hk (by omega))) (fun h_13 => ?_)
    refine v_iload_5_2 G dX6_rule_16 ?_
    refine v_aload_5_0 G dX6_rule_17 ?_
    refine v_iconst (v := nI 0) G dX6_rule_18 (by decide) ?_
    refine v_iload_5_4 G dX6_rule_19 ?_
    refine v_cV2 G (C_X6_isFreeOn (g := 0) (by omega) (by omega)) (by decide) md_X6_isFreeOn in_X6_isFreeOn (rv_X6 rfl) ml_X6_175 (Nat.le_of_ble_eq_true rfl) dX6_rule_21 ?_
    refine v_ifB_eq (tgt := 34) G dX6_rule_24 rfl (fun h_24 => ?_) (fun h_24 => ?_)
    · refine v_iconst (v := nI 0) G dX6_rule_34 (by decide) ?_
      refine v_ior G dX6_rule_35 ?_
      refine v_istore_5_2 G dX6_rule_36 rfl ?_
      refine v_iincN_5_4 G dX6_rule_37 rfl ?_
      refine v_goto (tgt := 7) G dX6_rule_40 rfl ?_
      simp only [mFreeG, h_13, h_24, if_true, if_false, Bool.false_eq_true, reduceIte, Bool.and_true, Bool.true_and, Bool.false_and, Bool.and_false] at ih
      exact ih
    · refine v_iconst (v := nI 1) G dX6_rule_27 (by decide) ?_
      refine v_iload_5_4 G dX6_rule_28 ?_
      refine v_ishl G dX6_rule_30 ?_
      refine v_goto (tgt := 35) G dX6_rule_31 rfl ?_
      refine v_ior G dX6_rule_35 ?_
      refine v_istore_5_2 G dX6_rule_36 rfl ?_
      refine v_iincN_5_4 G dX6_rule_37 rfl ?_
      refine v_goto (tgt := 7) G dX6_rule_40 rfl ?_
      simp only [mFreeG, h_13, h_24, if_true, if_false, Bool.false_eq_true, reduceIte, Bool.and_true, Bool.true_and, Bool.false_and, Bool.and_false] at ih
      exact ih
  · show V x 7 [some (.ref 75), some (.int a), some (.int (mFreeG (σ 76) n)), some (.int (nI 0)), some (.int (nI n))] [] (vrow (σ) 81 f)
    refine v_iload_5_4 G dX6_rule_7 ?_
    refine v_aload_5_0 G dX6_rule_9 ?_
    refine m_getI G (by decide) vc_6 lk_X6_144 fs_X6_1 dX6_rule_10 ?_
    refine v_icmp_ge (tgt := 43) G dX6_rule_13 rfl (fun h_13 => ?_) (fun h_13 => absurd (by rw [hn]; exact nI_le (Nat.le_refl _) (by omega)) h_13)
    refine v_iconst (v := nI 0) G dX6_rule_43 (by decide) ?_
    refine v_istore_5_4 G dX6_rule_44 rfl ?_
    refine v_forF (pc := 46) (8) (fun k => ([some (.ref 75), some (.int a), some (.int (mFreeG (σ 76) n)), some (.int (mDesG (σ 76) n (σ 75 20) m k)), some (.int (nI k))], σ)) (fun k hk ih f => ?_) (fun f => ?_) f
    · show V x 46 [some (.ref 75), some (.int a), some (.int (mFreeG (σ 76) n)), some (.int (mDesG (σ 76) n (σ 75 20) m k)), some (.int (nI k))] [] (vrow (σ) 81 f)
      have ih : ∀ f, V x 46 [some (.ref 75), some (.int a), some (.int (mFreeG (σ 76) n)), some (.int (mDesG (σ 76) n (σ 75 20) m (k + 1))), some (.int (nI (k + 1)))] [] (vrow (σ) 81 f) := ih
      refine v_iload_5_4 G dX6_rule_46 ?_
      refine v_bipush (v := nI 8) G dX6_rule_48 (by decide) ?_
      refine v_icmp_ge (tgt := 79) G dX6_rule_50 rfl (fun h_50 => absurd h_50 (by exact nI_ge hk (by omega))) (fun h_50 => ?_)
      refine v_iload_5_3 G dX6_rule_53 ?_
      refine v_aload_5_0 G dX6_rule_54 ?_
      refine v_iload_5_4 G dX6_rule_55 ?_
      refine v_cE1 G (C_X6_whoReaches hp) (by decide) md_X6_whoReaches in_X6_whoReaches (rv_X6 rfl) ml_X6_179 (Nat.le_of_ble_eq_true rfl) dX6_rule_57 (fun f => ?_)
      refine v_if_ne (tgt := 70) G dX6_rule_60 rfl (fun h_60 => ?_) (fun h_60 => ?_)
      · refine v_iconst (v := nI 0) G dX6_rule_70 (by decide) ?_
        refine v_ior G dX6_rule_71 ?_
        refine v_istore_5_3 G dX6_rule_72 rfl ?_
        refine v_iincN_5_4 G dX6_rule_73 rfl ?_
        refine v_goto (tgt := 46) G dX6_rule_76 rfl ?_
        simp only [mDesG, h_50, h_60, if_true, if_false, Bool.false_eq_true, reduceIte, Bool.and_true, Bool.true_and, Bool.false_and, Bool.and_false] at ih
        exact ih _
      · refine v_iconst (v := nI 1) G dX6_rule_63 (by decide) ?_
        refine v_iload_5_4 G dX6_rule_64 ?_
        refine v_ishl G dX6_rule_66 ?_
        refine v_goto (tgt := 71) G dX6_rule_67 rfl ?_
        refine v_ior G dX6_rule_71 ?_
        refine v_istore_5_3 G dX6_rule_72 rfl ?_
        refine v_iincN_5_4 G dX6_rule_73 rfl ?_
        refine v_goto (tgt := 46) G dX6_rule_76 rfl ?_
        simp only [mDesG, h_50, h_60, if_true, if_false, Bool.false_eq_true, reduceIte, Bool.and_true, Bool.true_and, Bool.false_and, Bool.and_false] at ih
        exact ih _
    · show V x 46 [some (.ref 75), some (.int a), some (.int (mFreeG (σ 76) n)), some (.int (mDesG (σ 76) n (σ 75 20) m 8)), some (.int (nI 8))] [] (vrow (σ) 81 f)
      refine v_iload_5_4 G dX6_rule_46 ?_
      refine v_bipush (v := nI 8) G dX6_rule_48 (by decide) ?_
      refine v_icmp_ge (tgt := 79) G dX6_rule_50 rfl (fun h_50 => ?_) (fun h_50 => absurd (by exact nI_le (Nat.le_refl _) (by omega)) h_50)
      refine v_iload_5_1 G dX6_rule_79 ?_
      refine v_tabC (i := 0) (tgt := 120) G dX6_rule_80 rfl rfl (by decide) (by decide) (fun h_80_0 => ?_) (fun h_80_0 => ?_)
      · refine v_aload_5_0 G dX6_rule_120 ?_
        refine m_getI G (by decide) vc_6 lk_X6_144 fs_X6_1 dX6_rule_121 ?_
        rw [hn]
        exact v_iret G hQ dX6_rule_124 (vFar.of (by simp only [mRuleR, bI, h_50, h_80_0, if_true, if_false, Bool.false_eq_true, reduceIte] <;> try rfl) rfl)
      refine v_tabC (i := 1) (tgt := 125) G dX6_rule_80 rfl rfl (by decide) (by decide) (fun h_80_1 => ?_) (fun h_80_1 => ?_)
      · refine v_aload_5_0 G dX6_rule_125 ?_
        refine v_getR G vc_6 lk_X6_7 (fs_X6_0) dX6_rule_126 ?_
        refine v_bipush (v := nI 25) G dX6_rule_129 (by decide) ?_
        refine m_ialdN G (by decide) (as_X6_0) (by first | assumption | omega | exact oneB_in (by assumption) | exact wallB_in (by assumption) | exact oneB_m1 (by assumption) | decide) (by decide) dX6_rule_131 ?_
        rw [hm]
        exact v_iret G hQ dX6_rule_132 (vFar.of (by simp only [mRuleR, bI, h_50, h_80_0, h_80_1, if_true, if_false, Bool.false_eq_true, reduceIte] <;> try rfl) rfl)
      refine v_tabC (i := 2) (tgt := 133) G dX6_rule_80 rfl rfl (by decide) (by decide) (fun h_80_2 => ?_) (fun h_80_2 => ?_)
      · refine v_aload_5_0 G dX6_rule_133 ?_
        refine v_iconst (v := nI 0) G dX6_rule_134 (by decide) ?_
        refine v_cV1 G (C_X6_hungOn (g := 0) hn hn5 (by omega)) (by decide) md_X6_hungOn in_X6_hungOn (rv_X6 rfl) ml_X6_182 (Nat.le_of_ble_eq_true rfl) dX6_rule_135 ?_
        exact v_iret G hQ dX6_rule_138 (vFar.of (by simp only [mRuleR, bI, h_50, h_80_0, h_80_1, h_80_2, if_true, if_false, Bool.false_eq_true, reduceIte] <;> try rfl) rfl)
      refine v_tabC (i := 3) (tgt := 139) G dX6_rule_80 rfl rfl (by decide) (by decide) (fun h_80_3 => ?_) (fun h_80_3 => ?_)
      · refine v_aload_5_0 G dX6_rule_139 ?_
        refine v_getR G vc_6 lk_X6_7 (fs_X6_0) dX6_rule_140 ?_
        refine v_bipush (v := nI 52) G dX6_rule_143 (by decide) ?_
        refine m_ialdN G (by decide) (as_X6_0) (by first | assumption | omega | exact oneB_in (by assumption) | exact wallB_in (by assumption) | exact oneB_m1 (by assumption) | decide) (by decide) dX6_rule_145 ?_
        exact v_iret G hQ dX6_rule_146 (vFar.of (by simp only [mRuleR, bI, h_50, h_80_0, h_80_1, h_80_2, h_80_3, if_true, if_false, Bool.false_eq_true, reduceIte] <;> try rfl) rfl)
      refine v_tabC (i := 4) (tgt := 147) G dX6_rule_80 rfl rfl (by decide) (by decide) (fun h_80_4 => ?_) (fun h_80_4 => ?_)
      · refine v_iload_5_2 G dX6_rule_147 ?_
        exact v_iret G hQ dX6_rule_148 (vFar.of (by simp only [mRuleR, bI, h_50, h_80_0, h_80_1, h_80_2, h_80_3, h_80_4, if_true, if_false, Bool.false_eq_true, reduceIte] <;> try rfl) rfl)
      refine v_tabC (i := 5) (tgt := 149) G dX6_rule_80 rfl rfl (by decide) (by decide) (fun h_80_5 => ?_) (fun h_80_5 => ?_)
      · refine v_iload_5_3 G dX6_rule_149 ?_
        exact v_iret G hQ dX6_rule_150 (vFar.of (by simp only [mRuleR, bI, h_50, h_80_0, h_80_1, h_80_2, h_80_3, h_80_4, h_80_5, if_true, if_false, Bool.false_eq_true, reduceIte] <;> try rfl) rfl)
      refine v_tabE (n := 6) (tgt := 151) G dX6_rule_80 (fun i hi => by rcases (show i = 0 ∨ i = 1 ∨ i = 2 ∨ i = 3 ∨ i = 4 ∨ i = 5 by omega) with rfl | rfl | rfl | rfl | rfl | rfl <;> assumption) rfl rfl (by decide) ?_
      refine v_iconst (v := (-1)) G dX6_rule_151 (by decide) ?_
      exact v_iret G hQ dX6_rule_152 (vFar.of (by simp only [mRuleR, bI, h_50, h_80_0, h_80_1, h_80_2, h_80_3, h_80_4, h_80_5, if_true, if_false, Bool.false_eq_true, reduceIte] <;> try rfl) rfl)
def mOneR (R : Nat → Int32) (n : Nat) (J : Int32) (m : Nat) (p : Nat) (k : Int32) : Int32 := if k = nI 0 then R (5 * 0 + p) else if k = nI 1 then R (5 * 1 + p) else if k = nI 2 then R (5 * 2 + p) else if k = nI 3 then (if R (15 + p) = 0 then -4 else R (15 + p) - nI 1) else if k = nI 4 then mReachQ R n J 0 m p else if k = nI 5 then mGain R n J 0 m p else if k = nI 6 then (if R (15 + p) ≤ 0 then nI 2 * R (20 + p) else nI 1) else -1
set_option maxHeartbeats 4000000 in
theorem C_X6_one {σ : vW} {f : Nat → Int32} {n m : Nat} {a k : Int32} (hp : pOK σ n m 0) : Ctr mX6_one 5 [.ref 75, .int a, .int k] (vrow σ 81 f) (vFar (some (.int (if inZ a n = true then mOneR (σ 76) n (σ 75 20) m a.toNatClampNeg k else -1))) σ) := by
  have hn := hp.1.1
  have hn5 := hp.1.2.1
  refine Ctr.intro (by decide) (fun α => Nat.le_of_ble_eq_true rfl) (fun x G hQ => ?_)
  have G : vG x RX6 cX6_one 3 (some .int) 5 := G
  show V x 0 [some (.ref 75), some (.int a), some (.int k)] [] (vrow σ 81 f)
  refine v_aload_3_0 G dX6_one_0 ?_
  refine v_iload_3_1 G dX6_one_1 ?_
  refine v_cV1 G (C_X6_isOne (by first | assumption | omega | exact oneB_in (by assumption) | exact wallB_in (by assumption) | exact oneB_m1 (by assumption) | decide) (by first | assumption | omega | exact oneB_in (by assumption) | exact wallB_in (by assumption) | exact oneB_m1 (by assumption) | decide)) (by decide) md_X6_isOne in_X6_isOne (rv_X6 rfl) ml_X6_185 (Nat.le_of_ble_eq_true rfl) dX6_one_2 ?_
  refine v_ifB_ne (tgt := 10) G dX6_one_5 rfl (fun h_5 => ?_) (fun h_5 => ?_)
  · obtain ⟨k0, hk0, rfl⟩ := inZ_ex h_5 (by omega)
    have ck0 : (nI k0).toNatClampNeg = k0 := nI_clamp (by omega)
    refine v_iload_3_2 G dX6_one_10 ?_
    refine v_tabC (i := 0) (tgt := 52) G dX6_one_11 rfl rfl (by decide) (by decide) (fun h_11_0 => ?_) (fun h_11_0 => ?_)
    · refine v_aload_3_0 G dX6_one_52 ?_
      refine v_getR G vc_6 lk_X6_7 (fs_X6_0) dX6_one_53 ?_
      refine v_iconst (v := nI 5) G dX6_one_56 (by decide) ?_
      refine v_iload_3_2 G dX6_one_57 ?_
      first | rw [h_11_2] | rw [h_11_1] | rw [h_11_0]
      refine v_imulN G dX6_one_58 ?_
      refine v_iload_3_1 G dX6_one_59 ?_
      refine v_iaddN G dX6_one_60 ?_
      refine m_ialdN G (by decide) (as_X6_0) (by first | assumption | omega | exact oneB_in (by assumption) | exact wallB_in (by assumption) | exact oneB_m1 (by assumption) | decide) (by decide) dX6_one_61 ?_
      exact v_iret G hQ dX6_one_62 (vFar.of (by simp only [mOneR, bI, h_5, ck0, h_11_0, if_true, if_false, Bool.false_eq_true, reduceIte] <;> try rfl) rfl)
    refine v_tabC (i := 1) (tgt := 52) G dX6_one_11 rfl rfl (by decide) (by decide) (fun h_11_1 => ?_) (fun h_11_1 => ?_)
    · refine v_aload_3_0 G dX6_one_52 ?_
      refine v_getR G vc_6 lk_X6_7 (fs_X6_0) dX6_one_53 ?_
      refine v_iconst (v := nI 5) G dX6_one_56 (by decide) ?_
      refine v_iload_3_2 G dX6_one_57 ?_
      first | rw [h_11_2] | rw [h_11_1] | rw [h_11_0]
      refine v_imulN G dX6_one_58 ?_
      refine v_iload_3_1 G dX6_one_59 ?_
      refine v_iaddN G dX6_one_60 ?_
      refine m_ialdN G (by decide) (as_X6_0) (by first | assumption | omega | exact oneB_in (by assumption) | exact wallB_in (by assumption) | exact oneB_m1 (by assumption) | decide) (by decide) dX6_one_61 ?_
      exact v_iret G hQ dX6_one_62 (vFar.of (by simp only [mOneR, bI, h_5, ck0, h_11_0, h_11_1, if_true, if_false, Bool.false_eq_true, reduceIte] <;> try rfl) rfl)
    refine v_tabC (i := 2) (tgt := 52) G dX6_one_11 rfl rfl (by decide) (by decide) (fun h_11_2 => ?_) (fun h_11_2 => ?_)
    · refine v_aload_3_0 G dX6_one_52 ?_
      refine v_getR G vc_6 lk_X6_7 (fs_X6_0) dX6_one_53 ?_
      refine v_iconst (v := nI 5) G dX6_one_56 (by decide) ?_
      refine v_iload_3_2 G dX6_one_57 ?_
      first | rw [h_11_2] | rw [h_11_1] | rw [h_11_0]
      refine v_imulN G dX6_one_58 ?_
      refine v_iload_3_1 G dX6_one_59 ?_
      refine v_iaddN G dX6_one_60 ?_
      refine m_ialdN G (by decide) (as_X6_0) (by first | assumption | omega | exact oneB_in (by assumption) | exact wallB_in (by assumption) | exact oneB_m1 (by assumption) | decide) (by decide) dX6_one_61 ?_
      exact v_iret G hQ dX6_one_62 (vFar.of (by simp only [mOneR, bI, h_5, ck0, h_11_0, h_11_1, h_11_2, if_true, if_false, Bool.false_eq_true, reduceIte] <;> try rfl) rfl)
    refine v_tabC (i := 3) (tgt := 63) G dX6_one_11 rfl rfl (by decide) (by decide) (fun h_11_3 => ?_) (fun h_11_3 => ?_)
    · refine v_aload_3_0 G dX6_one_63 ?_
      refine v_getR G vc_6 lk_X6_7 (fs_X6_0) dX6_one_64 ?_
      refine v_bipush (v := nI 15) G dX6_one_67 (by decide) ?_
      refine v_iload_3_1 G dX6_one_69 ?_
      refine v_iaddN G dX6_one_70 ?_
      refine m_ialdN G (by decide) (as_X6_0) (by first | assumption | omega | exact oneB_in (by assumption) | exact wallB_in (by assumption) | exact oneB_m1 (by assumption) | decide) (by decide) dX6_one_71 ?_
      refine v_if_ne (tgt := 80) G dX6_one_72 rfl (fun h_72 => ?_) (fun h_72 => ?_)
      · refine v_aload_3_0 G dX6_one_80 ?_
        refine v_getR G vc_6 lk_X6_7 (fs_X6_0) dX6_one_81 ?_
        refine v_bipush (v := nI 15) G dX6_one_84 (by decide) ?_
        refine v_iload_3_1 G dX6_one_86 ?_
        refine v_iaddN G dX6_one_87 ?_
        refine m_ialdN G (by decide) (as_X6_0) (by first | assumption | omega | exact oneB_in (by assumption) | exact wallB_in (by assumption) | exact oneB_m1 (by assumption) | decide) (by decide) dX6_one_88 ?_
        refine v_iconst (v := nI 1) G dX6_one_89 (by decide) ?_
        refine v_isub G dX6_one_90 ?_
        exact v_iret G hQ dX6_one_91 (vFar.of (by simp only [mOneR, bI, h_5, ck0, h_11_0, h_11_1, h_11_2, h_11_3, h_72, if_true, if_false, Bool.false_eq_true, reduceIte] <;> try rfl) rfl)
      · refine v_bipush (v := (-4)) G dX6_one_75 (by decide) ?_
        refine v_goto (tgt := 91) G dX6_one_77 rfl ?_
        exact v_iret G hQ dX6_one_91 (vFar.of (by simp only [mOneR, bI, h_5, ck0, h_11_0, h_11_1, h_11_2, h_11_3, h_72, if_true, if_false, Bool.false_eq_true, reduceIte] <;> try rfl) rfl)
    refine v_tabC (i := 4) (tgt := 92) G dX6_one_11 rfl rfl (by decide) (by decide) (fun h_11_4 => ?_) (fun h_11_4 => ?_)
    · refine v_aload_3_0 G dX6_one_92 ?_
      refine v_iconst (v := nI 0) G dX6_one_93 (by decide) ?_
      refine v_iload_3_1 G dX6_one_94 ?_
      refine v_cX2 G (C_X6_reachesOn (g := 0) hp (by omega)) (by decide) md_X6_reachesOn in_X6_reachesOn (rv_X6 rfl) ml_X6_169 (Nat.le_of_ble_eq_true rfl) dX6_one_95 (fun f hf => ?_)
      exact v_iret G hQ dX6_one_98 (vFar.of (by simp only [mOneR, bI, h_5, ck0, h_11_0, h_11_1, h_11_2, h_11_3, h_11_4, if_true, if_false, Bool.false_eq_true, reduceIte] <;> try rfl) rfl)
    refine v_tabC (i := 5) (tgt := 99) G dX6_one_11 rfl rfl (by decide) (by decide) (fun h_11_5 => ?_) (fun h_11_5 => ?_)
    · refine v_aload_3_0 G dX6_one_99 ?_
      refine v_iconst (v := nI 0) G dX6_one_100 (by decide) ?_
      refine v_iload_3_1 G dX6_one_101 ?_
      refine v_cE2 G (C_X6_gainOn (g := 0) hp (by omega)) (by decide) md_X6_gainOn in_X6_gainOn (rv_X6 rfl) ml_X6_189 (Nat.le_of_ble_eq_true rfl) dX6_one_102 (fun f => ?_)
      exact v_iret G hQ dX6_one_105 (vFar.of (by simp only [mOneR, bI, h_5, ck0, h_11_0, h_11_1, h_11_2, h_11_3, h_11_4, h_11_5, if_true, if_false, Bool.false_eq_true, reduceIte] <;> try rfl) rfl)
    refine v_tabC (i := 6) (tgt := 106) G dX6_one_11 rfl rfl (by decide) (by decide) (fun h_11_6 => ?_) (fun h_11_6 => ?_)
    · refine v_aload_3_0 G dX6_one_106 ?_
      refine v_getR G vc_6 lk_X6_7 (fs_X6_0) dX6_one_107 ?_
      refine v_bipush (v := nI 15) G dX6_one_110 (by decide) ?_
      refine v_iload_3_1 G dX6_one_112 ?_
      refine v_iaddN G dX6_one_113 ?_
      refine m_ialdN G (by decide) (as_X6_0) (by first | assumption | omega | exact oneB_in (by assumption) | exact wallB_in (by assumption) | exact oneB_m1 (by assumption) | decide) (by decide) dX6_one_114 ?_
      refine v_if_le (tgt := 122) G dX6_one_115 rfl (fun h_115 => ?_) (fun h_115 => ?_)
      · refine v_iconst (v := nI 2) G dX6_one_122 (by decide) ?_
        refine v_aload_3_0 G dX6_one_123 ?_
        refine v_getR G vc_6 lk_X6_7 (fs_X6_0) dX6_one_124 ?_
        refine v_bipush (v := nI 20) G dX6_one_127 (by decide) ?_
        refine v_iload_3_1 G dX6_one_129 ?_
        refine v_iaddN G dX6_one_130 ?_
        refine m_ialdN G (by decide) (as_X6_0) (by first | assumption | omega | exact oneB_in (by assumption) | exact wallB_in (by assumption) | exact oneB_m1 (by assumption) | decide) (by decide) dX6_one_131 ?_
        refine v_imul G dX6_one_132 ?_
        exact v_iret G hQ dX6_one_133 (vFar.of (by simp only [mOneR, bI, h_5, ck0, h_11_0, h_11_1, h_11_2, h_11_3, h_11_4, h_11_5, h_11_6, h_115, if_true, if_false, Bool.false_eq_true, reduceIte] <;> try rfl) rfl)
      · refine v_iconst (v := nI 1) G dX6_one_118 (by decide) ?_
        refine v_goto (tgt := 133) G dX6_one_119 rfl ?_
        exact v_iret G hQ dX6_one_133 (vFar.of (by simp only [mOneR, bI, h_5, ck0, h_11_0, h_11_1, h_11_2, h_11_3, h_11_4, h_11_5, h_11_6, h_115, if_true, if_false, Bool.false_eq_true, reduceIte] <;> try rfl) rfl)
    refine v_tabE (n := 7) (tgt := 134) G dX6_one_11 (fun i hi => by rcases (show i = 0 ∨ i = 1 ∨ i = 2 ∨ i = 3 ∨ i = 4 ∨ i = 5 ∨ i = 6 by omega) with rfl | rfl | rfl | rfl | rfl | rfl | rfl <;> assumption) rfl rfl (by decide) ?_
    refine v_iconst (v := (-1)) G dX6_one_134 (by decide) ?_
    exact v_iret G hQ dX6_one_135 (vFar.of (by simp only [mOneR, bI, h_5, ck0, h_11_0, h_11_1, h_11_2, h_11_3, h_11_4, h_11_5, h_11_6, if_true, if_false, Bool.false_eq_true, reduceIte] <;> try rfl) rfl)
  · refine v_iconst (v := (-1)) G dX6_one_8 (by decide) ?_
    exact v_iret G hQ dX6_one_9 (vFar.of (by simp only [mOneR, bI, h_5, if_true, if_false, Bool.false_eq_true, reduceIte] <;> try rfl) rfl)
def mWallG (R : Nat → Int32) (n : Nat) (J : Int32) (w : Nat) : Nat → Int32
  | 0 => nI 0
  | q + 1 => mWallG R n J w q ||| (if mPass R n J 0 w q = true then nI 1 <<< (nI q &&& 31) else nI 0)
def mWallR (R : Nat → Int32) (n : Nat) (J : Int32) (w : Nat) (k : Int32) : Int32 := if nI 2 ≤ k then (if k = nI 2 then mDoor R n 0 (nI w) else mWallG R n J w n) else R (26 + 9 * k.toNatClampNeg + w)
set_option maxHeartbeats 4000000 in
theorem C_X6_wall {σ : vW} {f : Nat → Int32} {n m : Nat} {a k : Int32} (hp : pOK σ n m 0) : Ctr mX6_wall 2 [.ref 75, .int a, .int k] (vrow σ 81 f) (vDet (some (.int (if inZ a m = true then (if inZ k 4 = true then mWallR (σ 76) n (σ 75 20) a.toNatClampNeg k else -1) else -1))) (vrow σ 81 f)) := by
  have hn := hp.1.1
  have hn5 := hp.1.2.1
  have hm : σ 76 25 = nI m := hp.2.1.1
  have hm9 := hp.2.1.2.1
  refine Ctr.intro (by decide) (fun α => Nat.le_of_ble_eq_true rfl) (fun x G hQ => ?_)
  have G : vG x RX6 cX6_wall 5 (some .int) 2 := G
  show V x 0 [some (.ref 75), some (.int a), some (.int k), none, none] [] (vrow σ 81 f)
  refine v_aload_5_0 G dX6_wall_0 ?_
  refine v_iload_5_1 G dX6_wall_1 ?_
  refine v_cV1 G (C_X6_isWall (by first | assumption | omega | exact oneB_in (by assumption) | exact wallB_in (by assumption) | exact oneB_m1 (by assumption) | decide) (by first | assumption | omega | exact oneB_in (by assumption) | exact wallB_in (by assumption) | exact oneB_m1 (by assumption) | decide)) (by decide) md_X6_isWall in_X6_isWall (rv_X6 rfl) ml_X6_192 (Nat.le_of_ble_eq_true rfl) dX6_wall_2 ?_
  refine v_ifB_eq (tgt := 20) G dX6_wall_5 rfl (fun h_5 => ?_) (fun h_5 => ?_)
  · refine v_iconst (v := (-1)) G dX6_wall_20 (by decide) ?_
    exact v_iret G hQ dX6_wall_21 (vDet.of (by simp only [h_5, bI, h_5, if_true, if_false, Bool.false_eq_true, reduceIte] <;> try rfl) rfl)
  · obtain ⟨w0, hw0, rfl⟩ := inZ_ex h_5 (by omega)
    have cw0 : (nI w0).toNatClampNeg = w0 := nI_clamp (by omega)
    refine v_iload_5_2 G dX6_wall_8 ?_
    refine v_i2l G dX6_wall_9 ?_
    refine v_lconst (v := lN 0) G dX6_wall_10 (by decide) ?_
    refine v_ldc2 G ct_X6_195 dX6_wall_11 ?_
    refine v_cS3 G (C_inK 4 (by decide)) (by decide) md_X6_in st_X6_in ml_X6_49 (Nat.le_of_ble_eq_true rfl) dX6_wall_14 ?_
    refine v_ifB_ne (tgt := 22) G dX6_wall_17 rfl (fun h_17 => ?_) (fun h_17 => ?_)
    · obtain ⟨k0, hk0, rfl⟩ := inZ_ex h_17 (by omega)
      have ck0 : (nI k0).toNatClampNeg = k0 := nI_clamp (by omega)
      refine v_iconst (v := nI 0) G dX6_wall_22 (by decide) ?_
      refine v_istore_5_3 G dX6_wall_23 rfl ?_
      refine v_iconst (v := nI 0) G dX6_wall_24 (by decide) ?_
      refine v_istore_5_4 G dX6_wall_25 rfl ?_
      refine v_for (pc := 27) (n) (fun k => ([some (.ref 75), some (.int (nI w0)), some (.int (nI k0)), some (.int (mWallG (σ 76) n (σ 75 20) w0 k)), some (.int (nI k))], (vrow (σ) 81 f))) (fun k hk ih => ?_) ?_
      · show V x 27 [some (.ref 75), some (.int (nI w0)), some (.int (nI k0)), some (.int (mWallG (σ 76) n (σ 75 20) w0 k)), some (.int (nI k))] [] (vrow (σ) 81 f)
        have ih : V x 27 [some (.ref 75), some (.int (nI w0)), some (.int (nI k0)), some (.int (mWallG (σ 76) n (σ 75 20) w0 (k + 1))), some (.int (nI (k + 1)))] [] (vrow (σ) 81 f) := ih
        refine v_iload_5_4 G dX6_wall_27 ?_
        refine v_aload_5_0 G dX6_wall_29 ?_
        refine m_getI G (by decide) vc_6 lk_X6_144 fs_X6_1 dX6_wall_30 ?_
        refine v_icmp_ge (tgt := 64) G dX6_wall_33 rfl (fun h_33 => absurd h_33 (by rw [hn]; exact nI_ge hk (by omega))) (fun h_33 => ?_)
        refine v_iload_5_3 G dX6_wall_36 ?_
        refine v_aload_5_0 G dX6_wall_37 ?_
        refine v_iconst (v := nI 0) G dX6_wall_38 (by decide) ?_
        refine v_iload_5_1 G dX6_wall_39 ?_
        refine v_iload_5_4 G dX6_wall_40 ?_
        refine v_cV3 G (C_X6_passesOn (g := 0) hn hn5 (by omega) (by omega)) (by decide) md_X6_passesOn in_X6_passesOn (rv_X6 rfl) ml_X6_163 (Nat.le_of_ble_eq_true rfl) dX6_wall_42 ?_
        refine v_ifB_eq (tgt := 55) G dX6_wall_45 rfl (fun h_45 => ?_) (fun h_45 => ?_)
        · refine v_iconst (v := nI 0) G dX6_wall_55 (by decide) ?_
          refine v_ior G dX6_wall_56 ?_
          refine v_istore_5_3 G dX6_wall_57 rfl ?_
          refine v_iincN_5_4 G dX6_wall_58 rfl ?_
          refine v_goto (tgt := 27) G dX6_wall_61 rfl ?_
          simp only [mWallG, h_33, h_45, if_true, if_false, Bool.false_eq_true, reduceIte, Bool.and_true, Bool.true_and, Bool.false_and, Bool.and_false] at ih
          exact ih
        · refine v_iconst (v := nI 1) G dX6_wall_48 (by decide) ?_
          refine v_iload_5_4 G dX6_wall_49 ?_
          refine v_ishl G dX6_wall_51 ?_
          refine v_goto (tgt := 56) G dX6_wall_52 rfl ?_
          refine v_ior G dX6_wall_56 ?_
          refine v_istore_5_3 G dX6_wall_57 rfl ?_
          refine v_iincN_5_4 G dX6_wall_58 rfl ?_
          refine v_goto (tgt := 27) G dX6_wall_61 rfl ?_
          simp only [mWallG, h_33, h_45, if_true, if_false, Bool.false_eq_true, reduceIte, Bool.and_true, Bool.true_and, Bool.false_and, Bool.and_false] at ih
          exact ih
      · show V x 27 [some (.ref 75), some (.int (nI w0)), some (.int (nI k0)), some (.int (mWallG (σ 76) n (σ 75 20) w0 n)), some (.int (nI n))] [] (vrow (σ) 81 f)
        refine v_iload_5_4 G dX6_wall_27 ?_
        refine v_aload_5_0 G dX6_wall_29 ?_
        refine m_getI G (by decide) vc_6 lk_X6_144 fs_X6_1 dX6_wall_30 ?_
        refine v_icmp_ge (tgt := 64) G dX6_wall_33 rfl (fun h_33 => ?_) (fun h_33 => absurd (by rw [hn]; exact nI_le (Nat.le_refl _) (by omega)) h_33)
        refine v_iload_5_2 G dX6_wall_64 ?_
        refine v_iconst (v := nI 2) G dX6_wall_65 (by decide) ?_
        refine v_icmp_ge (tgt := 86) G dX6_wall_66 rfl (fun h_66 => ?_) (fun h_66 => ?_)
        · refine v_iload_5_2 G dX6_wall_86 ?_
          refine v_iconst (v := nI 2) G dX6_wall_87 (by decide) ?_
          refine v_icmp_ne (tgt := 100) G dX6_wall_88 rfl (fun h_88 => ?_) (fun h_88 => ?_)
          · refine v_iload_5_3 G dX6_wall_100 ?_
            exact v_iret G hQ dX6_wall_101 (vDet.of (by simp only [mWallR, h_5, cw0, h_17, ck0, bI, h_33, h_66, h_88, if_true, if_false, Bool.false_eq_true, reduceIte] <;> try rfl) rfl)
          · refine v_aload_5_0 G dX6_wall_91 ?_
            refine v_iconst (v := nI 0) G dX6_wall_92 (by decide) ?_
            refine v_iload_5_1 G dX6_wall_93 ?_
            refine v_cV2 G (C_X6_doorOn (g := 0) hn hn5 (by omega)) (by decide) md_X6_doorOn in_X6_doorOn (rv_X6 rfl) ml_X6_152 (Nat.le_of_ble_eq_true rfl) dX6_wall_94 ?_
            refine v_goto (tgt := 101) G dX6_wall_97 rfl ?_
            exact v_iret G hQ dX6_wall_101 (vDet.of (by simp only [mWallR, h_5, cw0, h_17, ck0, bI, h_33, h_66, h_88, if_true, if_false, Bool.false_eq_true, reduceIte] <;> try rfl) rfl)
        · refine v_aload_5_0 G dX6_wall_69 ?_
          refine v_getR G vc_6 lk_X6_7 (fs_X6_0) dX6_wall_70 ?_
          refine v_bipush (v := nI 26) G dX6_wall_73 (by decide) ?_
          refine v_bipush (v := nI 9) G dX6_wall_75 (by decide) ?_
          refine v_iload_5_2 G dX6_wall_77 ?_
          refine v_imulN G dX6_wall_78 ?_
          refine v_iaddN G dX6_wall_79 ?_
          refine v_iload_5_1 G dX6_wall_80 ?_
          refine v_iaddN G dX6_wall_81 ?_
          refine m_ialdN G (by decide) (as_X6_0) (by first | assumption | omega | exact oneB_in (by assumption) | exact wallB_in (by assumption) | exact oneB_m1 (by assumption) | decide) (by decide) dX6_wall_82 ?_
          refine v_goto (tgt := 101) G dX6_wall_83 rfl ?_
          exact v_iret G hQ dX6_wall_101 (vDet.of (by simp only [mWallR, h_5, cw0, h_17, ck0, bI, h_33, h_66, if_true, if_false, Bool.false_eq_true, reduceIte] <;> try rfl) rfl)
    · refine v_iconst (v := (-1)) G dX6_wall_20 (by decide) ?_
      exact v_iret G hQ dX6_wall_21 (vDet.of (by simp only [h_5, cw0, h_17, bI, h_5, cw0, h_17, if_true, if_false, Bool.false_eq_true, reduceIte] <;> try rfl) rfl)
set_option maxHeartbeats 4000000 in
theorem C_X6_room {σ : vW} {f : Nat → Int32} {n m : Nat} {a k : Int32} (hp : pOK σ n m 0) : Ctr mX6_room 5 [.ref 75, .int a, .int k] (vrow σ 81 f) (vFar (some (.int (if inZ a 8 = true then (if inZ k 2 = true then (if k = 0 then σ 76 (44 + a.toNatClampNeg) else mWhoG (σ 76) n (σ 75 20) m a n) else -1) else -1))) σ) := by
  refine Ctr.intro (by decide) (fun α => Nat.le_of_ble_eq_true rfl) (fun x G hQ => ?_)
  have G : vG x RX6 cX6_room 3 (some .int) 5 := G
  show V x 0 [some (.ref 75), some (.int a), some (.int k)] [] (vrow σ 81 f)
  refine v_iload_3_1 G dX6_room_0 ?_
  refine v_cS1 G (C_X6_isRoom) (by decide) md_X6_isRoom st_X6_isRoom ml_X6_197 (Nat.le_of_ble_eq_true rfl) dX6_room_1 ?_
  refine v_ifB_eq (tgt := 17) G dX6_room_4 rfl (fun h_4 => ?_) (fun h_4 => ?_)
  · refine v_iconst (v := (-1)) G dX6_room_17 (by decide) ?_
    refine v_goto (tgt := 42) G dX6_room_18 rfl ?_
    exact v_iret G hQ dX6_room_42 (vFar.of (by simp only [h_4, bI, h_4, if_true, if_false, Bool.false_eq_true, reduceIte] <;> try rfl) rfl)
  · obtain ⟨r0, hr0, rfl⟩ := inZ_ex h_4 (by omega)
    have cr0 : (nI r0).toNatClampNeg = r0 := nI_clamp (by omega)
    refine v_iload_3_2 G dX6_room_7 ?_
    refine v_i2l G dX6_room_8 ?_
    refine v_lconst (v := lN 0) G dX6_room_9 (by decide) ?_
    refine v_lconst (v := lN 1) G dX6_room_10 (by decide) ?_
    refine v_cS3 G (C_inK 2 (by decide)) (by decide) md_X6_in st_X6_in ml_X6_49 (Nat.le_of_ble_eq_true rfl) dX6_room_11 ?_
    refine v_ifB_ne (tgt := 21) G dX6_room_14 rfl (fun h_14 => ?_) (fun h_14 => ?_)
    · refine v_iload_3_2 G dX6_room_21 ?_
      refine v_if_ne (tgt := 37) G dX6_room_22 rfl (fun h_22 => ?_) (fun h_22 => ?_)
      · refine v_aload_3_0 G dX6_room_37 ?_
        refine v_iload_3_1 G dX6_room_38 ?_
        refine v_cE1 G (C_X6_whoReaches (by first | assumption | omega | exact oneB_in (by assumption) | exact wallB_in (by assumption) | exact oneB_m1 (by assumption) | decide)) (by decide) md_X6_whoReaches in_X6_whoReaches (rv_X6 rfl) ml_X6_179 (Nat.le_of_ble_eq_true rfl) dX6_room_39 (fun f => ?_)
        exact v_iret G hQ dX6_room_42 (vFar.of (by simp only [h_4, cr0, h_14, h_22, bI, h_4, cr0, h_14, h_22, if_true, if_false, Bool.false_eq_true, reduceIte] <;> try rfl) rfl)
      · refine v_aload_3_0 G dX6_room_25 ?_
        refine v_getR G vc_6 lk_X6_7 (fs_X6_0) dX6_room_26 ?_
        refine v_bipush (v := nI 44) G dX6_room_29 (by decide) ?_
        refine v_iload_3_1 G dX6_room_31 ?_
        refine v_iaddN G dX6_room_32 ?_
        refine m_ialdN G (by decide) (as_X6_0) (by first | assumption | omega | exact oneB_in (by assumption) | exact wallB_in (by assumption) | exact oneB_m1 (by assumption) | decide) (by decide) dX6_room_33 ?_
        refine v_goto (tgt := 42) G dX6_room_34 rfl ?_
        exact v_iret G hQ dX6_room_42 (vFar.of (by simp only [h_4, cr0, h_14, h_22, bI, h_4, cr0, h_14, h_22, if_true, if_false, Bool.false_eq_true, reduceIte] <;> try rfl) rfl)
    · refine v_iconst (v := (-1)) G dX6_room_17 (by decide) ?_
      refine v_goto (tgt := 42) G dX6_room_18 rfl ?_
      exact v_iret G hQ dX6_room_42 (vFar.of (by simp only [h_4, cr0, h_14, bI, h_4, cr0, h_14, if_true, if_false, Bool.false_eq_true, reduceIte] <;> try rfl) rfl)
set_option maxHeartbeats 4000000 in
theorem C_X6_act {σ : vW} {f : Nat → Int32} {K : Nat} {a k : Int32} (hK : σ 76 52 = nI K) (hK6 : K ≤ 6) : Ctr mX6_act 1 [.ref 75, .int a, .int k] (vrow σ 81 f) (vDet (some (.int (if inZ a K = true then (if inZ k 2 = true then σ 76 (53 + 6 * k.toNatClampNeg + a.toNatClampNeg) else -1) else -1))) (vrow σ 81 f)) := by
  refine Ctr.intro (by decide) (fun α => Nat.le_of_ble_eq_true rfl) (fun x G hQ => ?_)
  have G : vG x RX6 cX6_act 3 (some .int) 1 := G
  show V x 0 [some (.ref 75), some (.int a), some (.int k)] [] (vrow σ 81 f)
  refine v_iload_3_1 G dX6_act_0 ?_
  refine v_i2l G dX6_act_1 ?_
  refine v_lconst (v := lN 0) G dX6_act_2 (by decide) ?_
  refine v_aload_3_0 G dX6_act_3 ?_
  refine v_getR G vc_6 lk_X6_7 (fs_X6_0) dX6_act_4 ?_
  refine v_bipush (v := nI 52) G dX6_act_7 (by decide) ?_
  refine m_ialdN G (by decide) (as_X6_0) (by first | assumption | omega | exact oneB_in (by assumption) | exact wallB_in (by assumption) | exact oneB_m1 (by assumption) | decide) (by decide) dX6_act_9 ?_
  rw [hK]
  refine v_iconst (v := nI 1) G dX6_act_10 (by decide) ?_
  refine v_isub G dX6_act_11 ?_
  refine v_i2l G dX6_act_12 ?_
  refine v_cS3 G (C_inK _ (inK_1 (by omega))) (by decide) md_X6_in st_X6_in ml_X6_49 (Nat.le_of_ble_eq_true rfl) dX6_act_13 ?_
  refine v_ifB_eq (tgt := 46) G dX6_act_16 rfl (fun h_16 => ?_) (fun h_16 => ?_)
  · refine v_iconst (v := (-1)) G dX6_act_46 (by decide) ?_
    exact v_iret G hQ dX6_act_47 (vDet.of (by simp only [h_16, bI, h_16, if_true, if_false, Bool.false_eq_true, reduceIte] <;> try rfl) rfl)
  · obtain ⟨i0, hi0, rfl⟩ := inZ_ex h_16 (by omega)
    have ci0 : (nI i0).toNatClampNeg = i0 := nI_clamp (by omega)
    refine v_iload_3_2 G dX6_act_19 ?_
    refine v_i2l G dX6_act_20 ?_
    refine v_lconst (v := lN 0) G dX6_act_21 (by decide) ?_
    refine v_lconst (v := lN 1) G dX6_act_22 (by decide) ?_
    refine v_cS3 G (C_inK 2 (by decide)) (by decide) md_X6_in st_X6_in ml_X6_49 (Nat.le_of_ble_eq_true rfl) dX6_act_23 ?_
    refine v_ifB_eq (tgt := 46) G dX6_act_26 rfl (fun h_26 => ?_) (fun h_26 => ?_)
    · refine v_iconst (v := (-1)) G dX6_act_46 (by decide) ?_
      exact v_iret G hQ dX6_act_47 (vDet.of (by simp only [h_16, ci0, h_26, bI, h_16, ci0, h_26, if_true, if_false, Bool.false_eq_true, reduceIte] <;> try rfl) rfl)
    · obtain ⟨k0, hk0, rfl⟩ := inZ_ex h_26 (by omega)
      have ck0 : (nI k0).toNatClampNeg = k0 := nI_clamp (by omega)
      refine v_aload_3_0 G dX6_act_29 ?_
      refine v_getR G vc_6 lk_X6_7 (fs_X6_0) dX6_act_30 ?_
      refine v_bipush (v := nI 53) G dX6_act_33 (by decide) ?_
      refine v_bipush (v := nI 6) G dX6_act_35 (by decide) ?_
      refine v_iload_3_2 G dX6_act_37 ?_
      refine v_imulN G dX6_act_38 ?_
      refine v_iaddN G dX6_act_39 ?_
      refine v_iload_3_1 G dX6_act_40 ?_
      refine v_iaddN G dX6_act_41 ?_
      refine m_ialdN G (by decide) (as_X6_0) (by first | assumption | omega | exact oneB_in (by assumption) | exact wallB_in (by assumption) | exact oneB_m1 (by assumption) | decide) (by decide) dX6_act_42 ?_
      refine v_goto (tgt := 47) G dX6_act_43 rfl ?_
      exact v_iret G hQ dX6_act_47 (vDet.of (by simp only [h_16, ci0, h_26, ck0, bI, h_16, ci0, h_26, ck0, if_true, if_false, Bool.false_eq_true, reduceIte] <;> try rfl) rfl)
set_option maxHeartbeats 4000000 in
theorem C_X6_puts {σ : vW} {f : Nat → Int32} {b : Bool} {i v : Int32} (hi : b = true → vp_in i 325) : Ctr mX6_puts 0 [.ref 75, .int (bI b), .int i, .int v] (vrow σ 81 f) (vDet (some (.int (if b = true then σ 76 i.toNatClampNeg else -1))) (vrow (if b = true then vset σ 76 i.toNatClampNeg v else σ) 81 f)) := by
  refine Ctr.intro (by decide) (fun α => Nat.le_of_ble_eq_true rfl) (fun x G hQ => ?_)
  have G : vG x RX6 cX6_puts 5 (some .int) 0 := G
  show V x 0 [some (.ref 75), some (.int (bI b)), some (.int i), some (.int v), none] [] (vrow σ 81 f)
  refine v_iload_5_1 G dX6_puts_0 ?_
  refine v_ifB_ne (tgt := 6) G dX6_puts_1 rfl (fun h_1 => ?_) (fun h_1 => ?_)
  · refine v_aload_5_0 G dX6_puts_6 ?_
    refine v_getR G vc_6 lk_X6_7 (fs_X6_0) dX6_puts_7 ?_
    refine v_iload_5_2 G dX6_puts_10 ?_
    refine m_iald G (by decide) (as_X6_0) (hi h_1) dX6_puts_11 ?_
    refine v_istore_5_4 G dX6_puts_12 rfl ?_
    refine v_aload_5_0 G dX6_puts_14 ?_
    refine v_getR G vc_6 lk_X6_7 (fs_X6_0) dX6_puts_15 ?_
    refine v_iload_5_2 G dX6_puts_18 ?_
    refine v_iload_5_3 G dX6_puts_19 ?_
    refine m_iast G (by decide) (as_X6_0) (hi h_1) dX6_puts_20 ?_
    refine v_iload_5_4 G dX6_puts_21 ?_
    exact v_iret G hQ dX6_puts_23 (vDet.of (by simp only [h_1, bI, h_1, if_true, if_false, Bool.false_eq_true, reduceIte, ite_self] <;> try rfl) (by simp only [h_1, h_1, if_true, if_false, Bool.false_eq_true, reduceIte, ite_self] <;> try rfl))
  · refine v_iconst (v := (-1)) G dX6_puts_4 (by decide) ?_
    exact v_iret G hQ dX6_puts_5 (vDet.of (by simp only [h_1, bI, h_1, if_true, if_false, Bool.false_eq_true, reduceIte, ite_self] <;> try rfl) (by simp only [h_1, h_1, if_true, if_false, Bool.false_eq_true, reduceIte, ite_self] <;> try rfl))
theorem C_X6_putsT {σ : vW} {f : Nat → Int32} {i : Nat} {v : Int32} (hi : i < 325) : Ctr mX6_puts 0 [.ref 75, .int (nI 1), .int (nI i), .int v] (vrow σ 81 f) (vDet (some (.int (σ 76 i))) (vrow (vset σ 76 i v) 81 f)) := by
  have h := C_X6_puts (σ := σ) (f := f) (b := true) (i := nI i) (v := v) (fun _ => vp_in_nI hi (by decide))
  rw [nI_clamp (by omega)] at h
  exact h
theorem C_X6_putsF {σ : vW} {f : Nat → Int32} {i v : Int32} : Ctr mX6_puts 0 [.ref 75, .int (nI 0), .int i, .int v] (vrow σ 81 f) (vDet (some (.int (-1))) (vrow σ 81 f)) := C_X6_puts (σ := σ) (f := f) (b := false) (i := i) (v := v) (fun h => absurd h (by decide))
def mAltB (n : Nat) (a k v : Int32) : Bool := if inZ a n = true then (if inZ k 3 = true then (if k = 0 then inZ v 4 else if k = nI 1 then inZ v 4 else inZ v 8) else false) else false
set_option maxHeartbeats 4000000 in
theorem C_X6_alter {σ : vW} {f : Nat → Int32} {n : Nat} {a k v : Int32} (hn : σ 75 1 = nI n) (hn5 : n ≤ 5) : Ctr mX6_alter 2 [.ref 75, .int a, .int k, .int v] (vrow σ 81 f) (vDet (some (.int (if mAltB n a k v = true then σ 76 (5 * k.toNatClampNeg + a.toNatClampNeg) else -1))) (vrow (if mAltB n a k v = true then vset σ 76 (5 * k.toNatClampNeg + a.toNatClampNeg) v else σ) 81 f)) := by
  refine Ctr.intro (by decide) (fun α => Nat.le_of_ble_eq_true rfl) (fun x G hQ => ?_)
  have G : vG x RX6 cX6_alter 4 (some .int) 2 := G
  show V x 0 [some (.ref 75), some (.int a), some (.int k), some (.int v)] [] (vrow σ 81 f)
  refine v_aload_4_0 G dX6_alter_0 ?_
  refine v_aload_4_0 G dX6_alter_1 ?_
  refine v_iload_4_1 G dX6_alter_2 ?_
  refine v_cV1 G (C_X6_isOne (by first | assumption | omega | exact oneB_in (by assumption) | exact wallB_in (by assumption) | exact oneB_m1 (by assumption) | decide) (by first | assumption | omega | exact oneB_in (by assumption) | exact wallB_in (by assumption) | exact oneB_m1 (by assumption) | decide)) (by decide) md_X6_isOne in_X6_isOne (rv_X6 rfl) ml_X6_185 (Nat.le_of_ble_eq_true rfl) dX6_alter_3 ?_
  refine v_ifB_eq (tgt := 58) G dX6_alter_6 rfl (fun h_6 => ?_) (fun h_6 => ?_)
  · refine v_iconst (v := nI 0) G dX6_alter_58 (by decide) ?_
    refine v_iconst (v := nI 5) G dX6_alter_59 (by decide) ?_
    refine v_iload_4_2 G dX6_alter_60 ?_
    refine v_imul G dX6_alter_61 ?_
    refine v_iload_4_1 G dX6_alter_62 ?_
    refine v_iadd G dX6_alter_63 ?_
    refine v_iload_4_3 G dX6_alter_64 ?_
    refine v_cV3 G (by first | exact C_X6_putsT (by omega) | exact C_X6_putsF) (by decide) md_X6_puts in_X6_puts (rv_X6 rfl) ml_X6_202 (Nat.le_of_ble_eq_true rfl) dX6_alter_65 ?_
    exact v_iret G hQ dX6_alter_68 (vDet.of (by first | (simp only [mAltB, bI, h_6, if_pos h_25, if_true, if_false, Bool.false_eq_true, reduceIte, ite_self] <;> first | done | rfl) | (simp only [mAltB, bI, h_6, if_neg h_25, if_pos h_36, if_true, if_false, Bool.false_eq_true, reduceIte, ite_self] <;> first | done | rfl) | (simp only [mAltB, bI, h_6, if_neg h_25, if_neg h_36, if_true, if_false, Bool.false_eq_true, reduceIte, ite_self] <;> first | done | rfl) | (simp only [mAltB, bI, h_6, if_true, if_false, Bool.false_eq_true, reduceIte, ite_self] <;> first | done | rfl)) (by first | (simp only [mAltB, bI, h_6, if_pos h_25, if_true, if_false, Bool.false_eq_true, reduceIte, ite_self] <;> first | done | rfl) | (simp only [mAltB, bI, h_6, if_neg h_25, if_pos h_36, if_true, if_false, Bool.false_eq_true, reduceIte, ite_self] <;> first | done | rfl) | (simp only [mAltB, bI, h_6, if_neg h_25, if_neg h_36, if_true, if_false, Bool.false_eq_true, reduceIte, ite_self] <;> first | done | rfl) | (simp only [mAltB, bI, h_6, if_true, if_false, Bool.false_eq_true, reduceIte, ite_self] <;> first | done | rfl)))
  · obtain ⟨p0, hp0, rfl⟩ := inZ_ex h_6 (by omega)
    have cp0 : (nI p0).toNatClampNeg = p0 := nI_clamp (by omega)
    refine v_iload_4_2 G dX6_alter_9 ?_
    refine v_i2l G dX6_alter_10 ?_
    refine v_lconst (v := lN 0) G dX6_alter_11 (by decide) ?_
    refine v_ldc2 G ct_X6_200 dX6_alter_12 ?_
    refine v_cS3 G (C_inK 3 (by decide)) (by decide) md_X6_in st_X6_in ml_X6_49 (Nat.le_of_ble_eq_true rfl) dX6_alter_15 ?_
    refine v_ifB_eq (tgt := 58) G dX6_alter_18 rfl (fun h_18 => ?_) (fun h_18 => ?_)
    · refine v_iconst (v := nI 0) G dX6_alter_58 (by decide) ?_
      refine v_iconst (v := nI 5) G dX6_alter_59 (by decide) ?_
      refine v_iload_4_2 G dX6_alter_60 ?_
      refine v_imul G dX6_alter_61 ?_
      refine v_iload_4_1 G dX6_alter_62 ?_
      refine v_iadd G dX6_alter_63 ?_
      refine v_iload_4_3 G dX6_alter_64 ?_
      refine v_cV3 G (by first | exact C_X6_putsT (by omega) | exact C_X6_putsF) (by decide) md_X6_puts in_X6_puts (rv_X6 rfl) ml_X6_202 (Nat.le_of_ble_eq_true rfl) dX6_alter_65 ?_
      exact v_iret G hQ dX6_alter_68 (vDet.of (by first | (simp only [mAltB, bI, h_6, cp0, h_18, if_pos h_25, if_true, if_false, Bool.false_eq_true, reduceIte, ite_self] <;> first | done | rfl) | (simp only [mAltB, bI, h_6, cp0, h_18, if_neg h_25, if_pos h_36, if_true, if_false, Bool.false_eq_true, reduceIte, ite_self] <;> first | done | rfl) | (simp only [mAltB, bI, h_6, cp0, h_18, if_neg h_25, if_neg h_36, if_true, if_false, Bool.false_eq_true, reduceIte, ite_self] <;> first | done | rfl) | (simp only [mAltB, bI, h_6, cp0, h_18, if_true, if_false, Bool.false_eq_true, reduceIte, ite_self] <;> first | done | rfl)) (by first | (simp only [mAltB, bI, h_6, cp0, h_18, if_pos h_25, if_true, if_false, Bool.false_eq_true, reduceIte, ite_self] <;> first | done | rfl) | (simp only [mAltB, bI, h_6, cp0, h_18, if_neg h_25, if_pos h_36, if_true, if_false, Bool.false_eq_true, reduceIte, ite_self] <;> first | done | rfl) | (simp only [mAltB, bI, h_6, cp0, h_18, if_neg h_25, if_neg h_36, if_true, if_false, Bool.false_eq_true, reduceIte, ite_self] <;> first | done | rfl) | (simp only [mAltB, bI, h_6, cp0, h_18, if_true, if_false, Bool.false_eq_true, reduceIte, ite_self] <;> first | done | rfl)))
    · obtain ⟨k0, hk0, rfl⟩ := inZ_ex h_18 (by omega)
      have ck0 : (nI k0).toNatClampNeg = k0 := nI_clamp (by omega)
      refine v_iload_4_3 G dX6_alter_21 ?_
      refine v_i2l G dX6_alter_22 ?_
      refine v_lconst (v := lN 0) G dX6_alter_23 (by decide) ?_
      refine v_iload_4_2 G dX6_alter_24 ?_
      refine v_if_ne (tgt := 34) G dX6_alter_25 rfl (fun h_25 => ?_) (fun h_25 => ?_)
      · refine v_iload_4_2 G dX6_alter_34 ?_
        refine v_iconst (v := nI 1) G dX6_alter_35 (by decide) ?_
        refine v_icmp_ne (tgt := 45) G dX6_alter_36 rfl (fun h_36 => ?_) (fun h_36 => ?_)
        · refine v_ldc2 G ct_X6_150 dX6_alter_45 ?_
          refine v_cS3 G (by first | exact C_inK 4 (by decide) | exact C_inK 8 (by decide)) (by decide) md_X6_in st_X6_in ml_X6_49 (Nat.le_of_ble_eq_true rfl) dX6_alter_48 ?_
          refine v_ifB_eq (tgt := 58) G dX6_alter_51 rfl (fun h_51 => ?_) (fun h_51 => ?_)
          · refine v_iconst (v := nI 0) G dX6_alter_58 (by decide) ?_
            refine v_iconst (v := nI 5) G dX6_alter_59 (by decide) ?_
            refine v_iload_4_2 G dX6_alter_60 ?_
            refine v_imulN G dX6_alter_61 ?_
            refine v_iload_4_1 G dX6_alter_62 ?_
            refine v_iaddN G dX6_alter_63 ?_
            refine v_iload_4_3 G dX6_alter_64 ?_
            refine v_cV3 G (by first | exact C_X6_putsT (by omega) | exact C_X6_putsF) (by decide) md_X6_puts in_X6_puts (rv_X6 rfl) ml_X6_202 (Nat.le_of_ble_eq_true rfl) dX6_alter_65 ?_
            exact v_iret G hQ dX6_alter_68 (vDet.of (by first | (simp only [mAltB, bI, h_6, cp0, h_18, ck0, h_51, if_pos h_25, if_true, if_false, Bool.false_eq_true, reduceIte, ite_self] <;> first | done | rfl) | (simp only [mAltB, bI, h_6, cp0, h_18, ck0, h_51, if_neg h_25, if_pos h_36, if_true, if_false, Bool.false_eq_true, reduceIte, ite_self] <;> first | done | rfl) | (simp only [mAltB, bI, h_6, cp0, h_18, ck0, h_51, if_neg h_25, if_neg h_36, if_true, if_false, Bool.false_eq_true, reduceIte, ite_self] <;> first | done | rfl) | (simp only [mAltB, bI, h_6, cp0, h_18, ck0, h_51, if_true, if_false, Bool.false_eq_true, reduceIte, ite_self] <;> first | done | rfl)) (by first | (simp only [mAltB, bI, h_6, cp0, h_18, ck0, h_51, if_pos h_25, if_true, if_false, Bool.false_eq_true, reduceIte, ite_self] <;> first | done | rfl) | (simp only [mAltB, bI, h_6, cp0, h_18, ck0, h_51, if_neg h_25, if_pos h_36, if_true, if_false, Bool.false_eq_true, reduceIte, ite_self] <;> first | done | rfl) | (simp only [mAltB, bI, h_6, cp0, h_18, ck0, h_51, if_neg h_25, if_neg h_36, if_true, if_false, Bool.false_eq_true, reduceIte, ite_self] <;> first | done | rfl) | (simp only [mAltB, bI, h_6, cp0, h_18, ck0, h_51, if_true, if_false, Bool.false_eq_true, reduceIte, ite_self] <;> first | done | rfl)))
          · refine v_iconst (v := nI 1) G dX6_alter_54 (by decide) ?_
            refine v_goto (tgt := 59) G dX6_alter_55 rfl ?_
            refine v_iconst (v := nI 5) G dX6_alter_59 (by decide) ?_
            refine v_iload_4_2 G dX6_alter_60 ?_
            refine v_imulN G dX6_alter_61 ?_
            refine v_iload_4_1 G dX6_alter_62 ?_
            refine v_iaddN G dX6_alter_63 ?_
            refine v_iload_4_3 G dX6_alter_64 ?_
            refine v_cV3 G (by first | exact C_X6_putsT (by omega) | exact C_X6_putsF) (by decide) md_X6_puts in_X6_puts (rv_X6 rfl) ml_X6_202 (Nat.le_of_ble_eq_true rfl) dX6_alter_65 ?_
            exact v_iret G hQ dX6_alter_68 (vDet.of (by first | (simp only [mAltB, bI, h_6, cp0, h_18, ck0, h_51, if_pos h_25, if_true, if_false, Bool.false_eq_true, reduceIte, ite_self] <;> first | done | rfl) | (simp only [mAltB, bI, h_6, cp0, h_18, ck0, h_51, if_neg h_25, if_pos h_36, if_true, if_false, Bool.false_eq_true, reduceIte, ite_self] <;> first | done | rfl) | (simp only [mAltB, bI, h_6, cp0, h_18, ck0, h_51, if_neg h_25, if_neg h_36, if_true, if_false, Bool.false_eq_true, reduceIte, ite_self] <;> first | done | rfl) | (simp only [mAltB, bI, h_6, cp0, h_18, ck0, h_51, if_true, if_false, Bool.false_eq_true, reduceIte, ite_self] <;> first | done | rfl)) (by first | (simp only [mAltB, bI, h_6, cp0, h_18, ck0, h_51, if_pos h_25, if_true, if_false, Bool.false_eq_true, reduceIte, ite_self] <;> first | done | rfl) | (simp only [mAltB, bI, h_6, cp0, h_18, ck0, h_51, if_neg h_25, if_pos h_36, if_true, if_false, Bool.false_eq_true, reduceIte, ite_self] <;> first | done | rfl) | (simp only [mAltB, bI, h_6, cp0, h_18, ck0, h_51, if_neg h_25, if_neg h_36, if_true, if_false, Bool.false_eq_true, reduceIte, ite_self] <;> first | done | rfl) | (simp only [mAltB, bI, h_6, cp0, h_18, ck0, h_51, if_true, if_false, Bool.false_eq_true, reduceIte, ite_self] <;> first | done | rfl)))
        · refine v_ldc2 G ct_X6_195 dX6_alter_39 ?_
          refine v_goto (tgt := 48) G dX6_alter_42 rfl ?_
          refine v_cS3 G (by first | exact C_inK 4 (by decide) | exact C_inK 8 (by decide)) (by decide) md_X6_in st_X6_in ml_X6_49 (Nat.le_of_ble_eq_true rfl) dX6_alter_48 ?_
          refine v_ifB_eq (tgt := 58) G dX6_alter_51 rfl (fun h_51 => ?_) (fun h_51 => ?_)
          · refine v_iconst (v := nI 0) G dX6_alter_58 (by decide) ?_
            refine v_iconst (v := nI 5) G dX6_alter_59 (by decide) ?_
            refine v_iload_4_2 G dX6_alter_60 ?_
            refine v_imulN G dX6_alter_61 ?_
            refine v_iload_4_1 G dX6_alter_62 ?_
            refine v_iaddN G dX6_alter_63 ?_
            refine v_iload_4_3 G dX6_alter_64 ?_
            refine v_cV3 G (by first | exact C_X6_putsT (by omega) | exact C_X6_putsF) (by decide) md_X6_puts in_X6_puts (rv_X6 rfl) ml_X6_202 (Nat.le_of_ble_eq_true rfl) dX6_alter_65 ?_
            exact v_iret G hQ dX6_alter_68 (vDet.of (by first | (simp only [mAltB, bI, h_6, cp0, h_18, ck0, h_51, if_pos h_25, if_true, if_false, Bool.false_eq_true, reduceIte, ite_self] <;> first | done | rfl) | (simp only [mAltB, bI, h_6, cp0, h_18, ck0, h_51, if_neg h_25, if_pos h_36, if_true, if_false, Bool.false_eq_true, reduceIte, ite_self] <;> first | done | rfl) | (simp only [mAltB, bI, h_6, cp0, h_18, ck0, h_51, if_neg h_25, if_neg h_36, if_true, if_false, Bool.false_eq_true, reduceIte, ite_self] <;> first | done | rfl) | (simp only [mAltB, bI, h_6, cp0, h_18, ck0, h_51, if_true, if_false, Bool.false_eq_true, reduceIte, ite_self] <;> first | done | rfl)) (by first | (simp only [mAltB, bI, h_6, cp0, h_18, ck0, h_51, if_pos h_25, if_true, if_false, Bool.false_eq_true, reduceIte, ite_self] <;> first | done | rfl) | (simp only [mAltB, bI, h_6, cp0, h_18, ck0, h_51, if_neg h_25, if_pos h_36, if_true, if_false, Bool.false_eq_true, reduceIte, ite_self] <;> first | done | rfl) | (simp only [mAltB, bI, h_6, cp0, h_18, ck0, h_51, if_neg h_25, if_neg h_36, if_true, if_false, Bool.false_eq_true, reduceIte, ite_self] <;> first | done | rfl) | (simp only [mAltB, bI, h_6, cp0, h_18, ck0, h_51, if_true, if_false, Bool.false_eq_true, reduceIte, ite_self] <;> first | done | rfl)))
          · refine v_iconst (v := nI 1) G dX6_alter_54 (by decide) ?_
            refine v_goto (tgt := 59) G dX6_alter_55 rfl ?_
            refine v_iconst (v := nI 5) G dX6_alter_59 (by decide) ?_
            refine v_iload_4_2 G dX6_alter_60 ?_
            refine v_imulN G dX6_alter_61 ?_
            refine v_iload_4_1 G dX6_alter_62 ?_
            refine v_iaddN G dX6_alter_63 ?_
            refine v_iload_4_3 G dX6_alter_64 ?_
            refine v_cV3 G (by first | exact C_X6_putsT (by omega) | exact C_X6_putsF) (by decide) md_X6_puts in_X6_puts (rv_X6 rfl) ml_X6_202 (Nat.le_of_ble_eq_true rfl) dX6_alter_65 ?_
            exact v_iret G hQ dX6_alter_68 (vDet.of (by first | (simp only [mAltB, bI, h_6, cp0, h_18, ck0, h_51, if_pos h_25, if_true, if_false, Bool.false_eq_true, reduceIte, ite_self] <;> first | done | rfl) | (simp only [mAltB, bI, h_6, cp0, h_18, ck0, h_51, if_neg h_25, if_pos h_36, if_true, if_false, Bool.false_eq_true, reduceIte, ite_self] <;> first | done | rfl) | (simp only [mAltB, bI, h_6, cp0, h_18, ck0, h_51, if_neg h_25, if_neg h_36, if_true, if_false, Bool.false_eq_true, reduceIte, ite_self] <;> first | done | rfl) | (simp only [mAltB, bI, h_6, cp0, h_18, ck0, h_51, if_true, if_false, Bool.false_eq_true, reduceIte, ite_self] <;> first | done | rfl)) (by first | (simp only [mAltB, bI, h_6, cp0, h_18, ck0, h_51, if_pos h_25, if_true, if_false, Bool.false_eq_true, reduceIte, ite_self] <;> first | done | rfl) | (simp only [mAltB, bI, h_6, cp0, h_18, ck0, h_51, if_neg h_25, if_pos h_36, if_true, if_false, Bool.false_eq_true, reduceIte, ite_self] <;> first | done | rfl) | (simp only [mAltB, bI, h_6, cp0, h_18, ck0, h_51, if_neg h_25, if_neg h_36, if_true, if_false, Bool.false_eq_true, reduceIte, ite_self] <;> first | done | rfl) | (simp only [mAltB, bI, h_6, cp0, h_18, ck0, h_51, if_true, if_false, Bool.false_eq_true, reduceIte, ite_self] <;> first | done | rfl)))
      · refine v_ldc2 G ct_X6_195 dX6_alter_28 ?_
        refine v_goto (tgt := 48) G dX6_alter_31 rfl ?_
        refine v_cS3 G (by first | exact C_inK 4 (by decide) | exact C_inK 8 (by decide)) (by decide) md_X6_in st_X6_in ml_X6_49 (Nat.le_of_ble_eq_true rfl) dX6_alter_48 ?_
        refine v_ifB_eq (tgt := 58) G dX6_alter_51 rfl (fun h_51 => ?_) (fun h_51 => ?_)
        · refine v_iconst (v := nI 0) G dX6_alter_58 (by decide) ?_
          refine v_iconst (v := nI 5) G dX6_alter_59 (by decide) ?_
          refine v_iload_4_2 G dX6_alter_60 ?_
          refine v_imulN G dX6_alter_61 ?_
          refine v_iload_4_1 G dX6_alter_62 ?_
          refine v_iaddN G dX6_alter_63 ?_
          refine v_iload_4_3 G dX6_alter_64 ?_
          refine v_cV3 G (by first | exact C_X6_putsT (by omega) | exact C_X6_putsF) (by decide) md_X6_puts in_X6_puts (rv_X6 rfl) ml_X6_202 (Nat.le_of_ble_eq_true rfl) dX6_alter_65 ?_
          exact v_iret G hQ dX6_alter_68 (vDet.of (by first | (simp only [mAltB, bI, h_6, cp0, h_18, ck0, h_51, if_pos h_25, if_true, if_false, Bool.false_eq_true, reduceIte, ite_self] <;> first | done | rfl) | (simp only [mAltB, bI, h_6, cp0, h_18, ck0, h_51, if_neg h_25, if_pos h_36, if_true, if_false, Bool.false_eq_true, reduceIte, ite_self] <;> first | done | rfl) | (simp only [mAltB, bI, h_6, cp0, h_18, ck0, h_51, if_neg h_25, if_neg h_36, if_true, if_false, Bool.false_eq_true, reduceIte, ite_self] <;> first | done | rfl) | (simp only [mAltB, bI, h_6, cp0, h_18, ck0, h_51, if_true, if_false, Bool.false_eq_true, reduceIte, ite_self] <;> first | done | rfl)) (by first | (simp only [mAltB, bI, h_6, cp0, h_18, ck0, h_51, if_pos h_25, if_true, if_false, Bool.false_eq_true, reduceIte, ite_self] <;> first | done | rfl) | (simp only [mAltB, bI, h_6, cp0, h_18, ck0, h_51, if_neg h_25, if_pos h_36, if_true, if_false, Bool.false_eq_true, reduceIte, ite_self] <;> first | done | rfl) | (simp only [mAltB, bI, h_6, cp0, h_18, ck0, h_51, if_neg h_25, if_neg h_36, if_true, if_false, Bool.false_eq_true, reduceIte, ite_self] <;> first | done | rfl) | (simp only [mAltB, bI, h_6, cp0, h_18, ck0, h_51, if_true, if_false, Bool.false_eq_true, reduceIte, ite_self] <;> first | done | rfl)))
        · refine v_iconst (v := nI 1) G dX6_alter_54 (by decide) ?_
          refine v_goto (tgt := 59) G dX6_alter_55 rfl ?_
          refine v_iconst (v := nI 5) G dX6_alter_59 (by decide) ?_
          refine v_iload_4_2 G dX6_alter_60 ?_
          refine v_imulN G dX6_alter_61 ?_
          refine v_iload_4_1 G dX6_alter_62 ?_
          refine v_iaddN G dX6_alter_63 ?_
          refine v_iload_4_3 G dX6_alter_64 ?_
          refine v_cV3 G (by first | exact C_X6_putsT (by omega) | exact C_X6_putsF) (by decide) md_X6_puts in_X6_puts (rv_X6 rfl) ml_X6_202 (Nat.le_of_ble_eq_true rfl) dX6_alter_65 ?_
          exact v_iret G hQ dX6_alter_68 (vDet.of (by first | (simp only [mAltB, bI, h_6, cp0, h_18, ck0, h_51, if_pos h_25, if_true, if_false, Bool.false_eq_true, reduceIte, ite_self] <;> first | done | rfl) | (simp only [mAltB, bI, h_6, cp0, h_18, ck0, h_51, if_neg h_25, if_pos h_36, if_true, if_false, Bool.false_eq_true, reduceIte, ite_self] <;> first | done | rfl) | (simp only [mAltB, bI, h_6, cp0, h_18, ck0, h_51, if_neg h_25, if_neg h_36, if_true, if_false, Bool.false_eq_true, reduceIte, ite_self] <;> first | done | rfl) | (simp only [mAltB, bI, h_6, cp0, h_18, ck0, h_51, if_true, if_false, Bool.false_eq_true, reduceIte, ite_self] <;> first | done | rfl)) (by first | (simp only [mAltB, bI, h_6, cp0, h_18, ck0, h_51, if_pos h_25, if_true, if_false, Bool.false_eq_true, reduceIte, ite_self] <;> first | done | rfl) | (simp only [mAltB, bI, h_6, cp0, h_18, ck0, h_51, if_neg h_25, if_pos h_36, if_true, if_false, Bool.false_eq_true, reduceIte, ite_self] <;> first | done | rfl) | (simp only [mAltB, bI, h_6, cp0, h_18, ck0, h_51, if_neg h_25, if_neg h_36, if_true, if_false, Bool.false_eq_true, reduceIte, ite_self] <;> first | done | rfl) | (simp only [mAltB, bI, h_6, cp0, h_18, ck0, h_51, if_true, if_false, Bool.false_eq_true, reduceIte, ite_self] <;> first | done | rfl)))
set_option maxHeartbeats 4000000 in
theorem C_X6_price {σ : vW} {f : Nat → Int32} {a v : Int32} : Ctr mX6_price 2 [.ref 75, .int a, .int v] (vrow σ 81 f) (vDet (some (.int (if inZ a 8 = true then (if inZ v 100 = true then σ 76 (44 + a.toNatClampNeg) else -1) else -1))) (vrow (if inZ a 8 = true then (if inZ v 100 = true then vset σ 76 (44 + a.toNatClampNeg) v else σ) else σ) 81 f)) := by
  refine Ctr.intro (by decide) (fun α => Nat.le_of_ble_eq_true rfl) (fun x G hQ => ?_)
  have G : vG x RX6 cX6_price 3 (some .int) 2 := G
  show V x 0 [some (.ref 75), some (.int a), some (.int v)] [] (vrow σ 81 f)
  refine v_aload_3_0 G dX6_price_0 ?_
  refine v_iload_3_1 G dX6_price_1 ?_
  refine v_cS1 G (C_X6_isRoom) (by decide) md_X6_isRoom st_X6_isRoom ml_X6_197 (Nat.le_of_ble_eq_true rfl) dX6_price_2 ?_
  refine v_ifB_eq (tgt := 24) G dX6_price_5 rfl (fun h_5 => ?_) (fun h_5 => ?_)
  · refine v_iconst (v := nI 0) G dX6_price_24 (by decide) ?_
    refine v_bipush (v := nI 44) G dX6_price_25 (by decide) ?_
    refine v_iload_3_1 G dX6_price_27 ?_
    refine v_iadd G dX6_price_28 ?_
    refine v_iload_3_2 G dX6_price_29 ?_
    refine v_cV3 G (by first | exact C_X6_putsT (by omega) | exact C_X6_putsF) (by decide) md_X6_puts in_X6_puts (rv_X6 rfl) ml_X6_202 (Nat.le_of_ble_eq_true rfl) dX6_price_30 ?_
    exact v_iret G hQ dX6_price_33 (vDet.of (by simp only [h_5, bI, h_5, if_true, if_false, Bool.false_eq_true, reduceIte, ite_self] <;> try rfl) (by simp only [h_5, h_5, if_true, if_false, Bool.false_eq_true, reduceIte, ite_self] <;> try rfl))
  · obtain ⟨r0, hr0, rfl⟩ := inZ_ex h_5 (by omega)
    have cr0 : (nI r0).toNatClampNeg = r0 := nI_clamp (by omega)
    refine v_iload_3_2 G dX6_price_8 ?_
    refine v_i2l G dX6_price_9 ?_
    refine v_lconst (v := lN 0) G dX6_price_10 (by decide) ?_
    refine v_ldc2 G ct_X6_206 dX6_price_11 ?_
    refine v_cS3 G (C_inK 100 (by decide)) (by decide) md_X6_in st_X6_in ml_X6_49 (Nat.le_of_ble_eq_true rfl) dX6_price_14 ?_
    refine v_ifB_eq (tgt := 24) G dX6_price_17 rfl (fun h_17 => ?_) (fun h_17 => ?_)
    · refine v_iconst (v := nI 0) G dX6_price_24 (by decide) ?_
      refine v_bipush (v := nI 44) G dX6_price_25 (by decide) ?_
      refine v_iload_3_1 G dX6_price_27 ?_
      refine v_iaddN G dX6_price_28 ?_
      refine v_iload_3_2 G dX6_price_29 ?_
      refine v_cV3 G (by first | exact C_X6_putsT (by omega) | exact C_X6_putsF) (by decide) md_X6_puts in_X6_puts (rv_X6 rfl) ml_X6_202 (Nat.le_of_ble_eq_true rfl) dX6_price_30 ?_
      exact v_iret G hQ dX6_price_33 (vDet.of (by simp only [h_5, cr0, h_17, bI, h_5, cr0, h_17, if_true, if_false, Bool.false_eq_true, reduceIte, ite_self] <;> try rfl) (by simp only [h_5, cr0, h_17, h_5, cr0, h_17, if_true, if_false, Bool.false_eq_true, reduceIte, ite_self] <;> try rfl))
    · refine v_iconst (v := nI 1) G dX6_price_20 (by decide) ?_
      refine v_goto (tgt := 25) G dX6_price_21 rfl ?_
      refine v_bipush (v := nI 44) G dX6_price_25 (by decide) ?_
      refine v_iload_3_1 G dX6_price_27 ?_
      refine v_iaddN G dX6_price_28 ?_
      refine v_iload_3_2 G dX6_price_29 ?_
      refine v_cV3 G (by first | exact C_X6_putsT (by omega) | exact C_X6_putsF) (by decide) md_X6_puts in_X6_puts (rv_X6 rfl) ml_X6_202 (Nat.le_of_ble_eq_true rfl) dX6_price_30 ?_
      exact v_iret G hQ dX6_price_33 (vDet.of (by simp only [h_5, cr0, h_17, bI, h_5, cr0, h_17, if_true, if_false, Bool.false_eq_true, reduceIte, ite_self] <;> try rfl) (by simp only [h_5, cr0, h_17, h_5, cr0, h_17, if_true, if_false, Bool.false_eq_true, reduceIte, ite_self] <;> try rfl))
def mBldW (σ : vW) (m : Nat) (a b : Int32) : vW := vset (vset (vset σ 76 (26 + m) a) 76 (35 + m) b) 76 25 (nI (m + 1))
def mBldR (m : Nat) (a b : Int32) : Int32 := if inZ a 8 = true then (if inZ b 8 = true then (if a = b then -1 else if nI m = nI 9 then -3 else nI (m + 1)) else -1) else -1
def mBldV (σ : vW) (m : Nat) (a b : Int32) : vW := if inZ a 8 = true then (if inZ b 8 = true then (if a = b then σ else if nI m = nI 9 then σ else mBldW σ m a b) else σ) else σ
set_option maxHeartbeats 4000000 in
theorem C_X6_build {σ : vW} {f : Nat → Int32} {m : Nat} {a b : Int32} (hm : σ 76 25 = nI m) (hm9 : m ≤ 9) : Ctr mX6_build 2 [.ref 75, .int a, .int b] (vrow σ 81 f) (vDet (some (.int (mBldR m a b))) (vrow (mBldV σ m a b) 81 f)) := by
  have h65 : (vset (vset σ 76 (26 + m) a) 76 (35 + m) b) 76 25 = nI m := by rw [vset_oth (by omega), vset_oth (by omega), hm]
  refine Ctr.intro (by decide) (fun α => Nat.le_of_ble_eq_true rfl) (fun x G hQ => ?_)
  have G : vG x RX6 cX6_build 4 (some .int) 2 := G
  show V x 0 [some (.ref 75), some (.int a), some (.int b), none] [] (vrow σ 81 f)
  refine v_iload_4_1 G dX6_build_0 ?_
  refine v_cS1 G (C_X6_isRoom) (by decide) md_X6_isRoom st_X6_isRoom ml_X6_197 (Nat.le_of_ble_eq_true rfl) dX6_build_1 ?_
  refine v_ifB_eq (tgt := 19) G dX6_build_4 rfl (fun h_4 => ?_) (fun h_4 => ?_)
  · refine v_iconst (v := (-1)) G dX6_build_19 (by decide) ?_
    exact v_iret G hQ dX6_build_20 (vDet.of (by simp only [mBldR, bI, h_4, if_true, if_false, Bool.false_eq_true, reduceIte, ite_self] <;> try rfl) (by simp only [mBldV, mBldW, h_4, if_true, if_false, Bool.false_eq_true, reduceIte, ite_self] <;> try rfl))
  · refine v_iload_4_2 G dX6_build_7 ?_
    refine v_cS1 G (C_X6_isRoom) (by decide) md_X6_isRoom st_X6_isRoom ml_X6_197 (Nat.le_of_ble_eq_true rfl) dX6_build_8 ?_
    refine v_ifB_eq (tgt := 19) G dX6_build_11 rfl (fun h_11 => ?_) (fun h_11 => ?_)
    · refine v_iconst (v := (-1)) G dX6_build_19 (by decide) ?_
      exact v_iret G hQ dX6_build_20 (vDet.of (by simp only [mBldR, bI, h_4, h_11, if_true, if_false, Bool.false_eq_true, reduceIte, ite_self] <;> try rfl) (by simp only [mBldV, mBldW, h_4, h_11, if_true, if_false, Bool.false_eq_true, reduceIte, ite_self] <;> try rfl))
    · refine v_iload_4_1 G dX6_build_14 ?_
      refine v_iload_4_2 G dX6_build_15 ?_
      refine v_icmp_ne (tgt := 21) G dX6_build_16 rfl (fun h_16 => ?_) (fun h_16 => ?_)
      · refine v_aload_4_0 G dX6_build_21 ?_
        refine v_getR G vc_6 lk_X6_7 (fs_X6_0) dX6_build_22 ?_
        refine v_bipush (v := nI 25) G dX6_build_25 (by decide) ?_
        refine m_ialdN G (by decide) (as_X6_0) (by first | assumption | omega | exact oneB_in (by assumption) | exact wallB_in (by assumption) | exact oneB_m1 (by assumption) | decide) (by decide) dX6_build_27 ?_
        rw [hm]
        refine v_istore_4_3 G dX6_build_28 rfl ?_
        refine v_iload_4_3 G dX6_build_29 ?_
        refine v_bipush (v := nI 9) G dX6_build_30 (by decide) ?_
        refine v_icmp_ne (tgt := 38) G dX6_build_32 rfl (fun h_32 => ?_) (fun h_32 => ?_)
        · refine v_aload_4_0 G dX6_build_38 ?_
          refine v_getR G vc_6 lk_X6_7 (fs_X6_0) dX6_build_39 ?_
          refine v_bipush (v := nI 26) G dX6_build_42 (by decide) ?_
          refine v_iload_4_3 G dX6_build_44 ?_
          refine v_iaddN G dX6_build_45 ?_
          refine v_iload_4_1 G dX6_build_46 ?_
          refine m_iastN G (by decide) (as_X6_0) (by first | assumption | omega | exact oneB_in (by assumption) | exact wallB_in (by assumption) | exact oneB_m1 (by assumption) | decide) (by decide) dX6_build_47 ?_
          refine v_aload_4_0 G dX6_build_48 ?_
          refine v_getR G vc_6 lk_X6_7 (fs_X6_0) dX6_build_49 ?_
          refine v_bipush (v := nI 35) G dX6_build_52 (by decide) ?_
          refine v_iload_4_3 G dX6_build_54 ?_
          refine v_iaddN G dX6_build_55 ?_
          refine v_iload_4_2 G dX6_build_56 ?_
          refine m_iastN G (by decide) (as_X6_0) (by first | assumption | omega | exact oneB_in (by assumption) | exact wallB_in (by assumption) | exact oneB_m1 (by assumption) | decide) (by decide) dX6_build_57 ?_
          refine v_aload_4_0 G dX6_build_58 ?_
          refine v_getR G vc_6 lk_X6_7 (fs_X6_0) dX6_build_59 ?_
          refine v_bipush (v := nI 25) G dX6_build_62 (by decide) ?_
          refine v_dup2 G dX6_build_64 rfl rfl ?_
          refine m_ialdN G (by decide) (as_X6_0) (by first | assumption | omega | exact oneB_in (by assumption) | exact wallB_in (by assumption) | exact oneB_m1 (by assumption) | decide) (by decide) dX6_build_65 ?_
          rw [h65]
          refine v_iconst (v := nI 1) G dX6_build_66 (by decide) ?_
          refine v_iaddN G dX6_build_67 ?_
          refine m_iastN G (by decide) (as_X6_0) (by first | assumption | omega | exact oneB_in (by assumption) | exact wallB_in (by assumption) | exact oneB_m1 (by assumption) | decide) (by decide) dX6_build_68 ?_
          refine v_aload_4_0 G dX6_build_69 ?_
          refine v_getR G vc_6 lk_X6_7 (fs_X6_0) dX6_build_70 ?_
          refine v_bipush (v := nI 25) G dX6_build_73 (by decide) ?_
          refine m_ialdN G (by decide) (as_X6_0) (by first | assumption | omega | exact oneB_in (by assumption) | exact wallB_in (by assumption) | exact oneB_m1 (by assumption) | decide) (by decide) dX6_build_75 ?_
          rw [vset_at]
          exact v_iret G hQ dX6_build_76 (vDet.of (by simp only [mBldR, bI, h_4, h_11, h_16, h_32, if_true, if_false, Bool.false_eq_true, reduceIte, ite_self] <;> try rfl) (by simp only [mBldV, mBldW, h_4, h_11, h_16, h_32, if_true, if_false, Bool.false_eq_true, reduceIte, ite_self] <;> try rfl))
        · refine v_bipush (v := (-3)) G dX6_build_35 (by decide) ?_
          exact v_iret G hQ dX6_build_37 (vDet.of (by simp only [mBldR, bI, h_4, h_11, h_16, h_32, if_true, if_false, Bool.false_eq_true, reduceIte, ite_self] <;> try rfl) (by simp only [mBldV, mBldW, h_4, h_11, h_16, h_32, if_true, if_false, Bool.false_eq_true, reduceIte, ite_self] <;> try rfl))
      · refine v_iconst (v := (-1)) G dX6_build_19 (by decide) ?_
        exact v_iret G hQ dX6_build_20 (vDet.of (by simp only [mBldR, bI, h_4, h_11, h_16, if_true, if_false, Bool.false_eq_true, reduceIte, ite_self] <;> try rfl) (by simp only [mBldV, mBldW, h_4, h_11, h_16, if_true, if_false, Bool.false_eq_true, reduceIte, ite_self] <;> try rfl))
def mPlnW (σ : vW) (K : Nat) (a b : Int32) : vW := vset (vset (vset σ 76 (53 + K) a) 76 (59 + K) b) 76 52 (nI (K + 1))
def mPlnR (n m K : Nat) (a b : Int32) : Int32 := if inZ a n = true then (if inZ b m = true then (if nI K = nI 6 then -3 else nI (K + 1)) else -1) else -1
def mPlnV (σ : vW) (n m K : Nat) (a b : Int32) : vW := if inZ a n = true then (if inZ b m = true then (if nI K = nI 6 then σ else mPlnW σ K a b) else σ) else σ
set_option maxHeartbeats 4000000 in
theorem C_X6_plan {σ : vW} {f : Nat → Int32} {n m K : Nat} {a b : Int32} (hn : σ 75 1 = nI n) (hn5 : n ≤ 5) (hm : σ 76 25 = nI m) (hm9 : m ≤ 9) (hK : σ 76 52 = nI K) (hK6 : K ≤ 6) : Ctr mX6_plan 2 [.ref 75, .int a, .int b] (vrow σ 81 f) (vDet (some (.int (mPlnR n m K a b))) (vrow (mPlnV σ n m K a b) 81 f)) := by
  have h61 : (vset σ 76 (53 + K) a) 76 52 = nI K := by rw [vset_oth (by omega), hK]
  have h72 : (vset (vset σ 76 (53 + K) a) 76 (59 + K) b) 76 52 = nI K := by rw [vset_oth (by omega), h61]
  refine Ctr.intro (by decide) (fun α => Nat.le_of_ble_eq_true rfl) (fun x G hQ => ?_)
  have G : vG x RX6 cX6_plan 3 (some .int) 2 := G
  show V x 0 [some (.ref 75), some (.int a), some (.int b)] [] (vrow σ 81 f)
  refine v_aload_3_0 G dX6_plan_0 ?_
  refine v_iload_3_1 G dX6_plan_1 ?_
  refine v_cV1 G (C_X6_isOne (by first | assumption | omega | exact oneB_in (by assumption) | exact wallB_in (by assumption) | exact oneB_m1 (by assumption) | decide) (by first | assumption | omega | exact oneB_in (by assumption) | exact wallB_in (by assumption) | exact oneB_m1 (by assumption) | decide)) (by decide) md_X6_isOne in_X6_isOne (rv_X6 rfl) ml_X6_185 (Nat.le_of_ble_eq_true rfl) dX6_plan_2 ?_
  refine v_ifB_eq (tgt := 16) G dX6_plan_5 rfl (fun h_5 => ?_) (fun h_5 => ?_)
  · refine v_iconst (v := (-1)) G dX6_plan_16 (by decide) ?_
    exact v_iret G hQ dX6_plan_17 (vDet.of (by simp only [mPlnR, bI, h_5, if_true, if_false, Bool.false_eq_true, reduceIte, ite_self] <;> try rfl) (by simp only [mPlnV, mPlnW, h_5, if_true, if_false, Bool.false_eq_true, reduceIte, ite_self] <;> try rfl))
  · refine v_aload_3_0 G dX6_plan_8 ?_
    refine v_iload_3_2 G dX6_plan_9 ?_
    refine v_cV1 G (C_X6_isWall (by first | assumption | omega | exact oneB_in (by assumption) | exact wallB_in (by assumption) | exact oneB_m1 (by assumption) | decide) (by first | assumption | omega | exact oneB_in (by assumption) | exact wallB_in (by assumption) | exact oneB_m1 (by assumption) | decide)) (by decide) md_X6_isWall in_X6_isWall (rv_X6 rfl) ml_X6_192 (Nat.le_of_ble_eq_true rfl) dX6_plan_10 ?_
    refine v_ifB_ne (tgt := 18) G dX6_plan_13 rfl (fun h_13 => ?_) (fun h_13 => ?_)
    · refine v_aload_3_0 G dX6_plan_18 ?_
      refine v_getR G vc_6 lk_X6_7 (fs_X6_0) dX6_plan_19 ?_
      refine v_bipush (v := nI 52) G dX6_plan_22 (by decide) ?_
      refine m_ialdN G (by decide) (as_X6_0) (by first | assumption | omega | exact oneB_in (by assumption) | exact wallB_in (by assumption) | exact oneB_m1 (by assumption) | decide) (by decide) dX6_plan_24 ?_
      rw [hK]
      refine v_bipush (v := nI 6) G dX6_plan_25 (by decide) ?_
      refine v_icmp_ne (tgt := 33) G dX6_plan_27 rfl (fun h_27 => ?_) (fun h_27 => ?_)
      · refine v_aload_3_0 G dX6_plan_33 ?_
        refine v_getR G vc_6 lk_X6_7 (fs_X6_0) dX6_plan_34 ?_
        refine v_bipush (v := nI 53) G dX6_plan_37 (by decide) ?_
        refine v_aload_3_0 G dX6_plan_39 ?_
        refine v_getR G vc_6 lk_X6_7 (fs_X6_0) dX6_plan_40 ?_
        refine v_bipush (v := nI 52) G dX6_plan_43 (by decide) ?_
        refine m_ialdN G (by decide) (as_X6_0) (by first | assumption | omega | exact oneB_in (by assumption) | exact wallB_in (by assumption) | exact oneB_m1 (by assumption) | decide) (by decide) dX6_plan_45 ?_
        rw [hK]
        refine v_iaddN G dX6_plan_46 ?_
        refine v_iload_3_1 G dX6_plan_47 ?_
        refine m_iastN G (by decide) (as_X6_0) (by first | assumption | omega | exact oneB_in (by assumption) | exact wallB_in (by assumption) | exact oneB_m1 (by assumption) | decide) (by decide) dX6_plan_48 ?_
        refine v_aload_3_0 G dX6_plan_49 ?_
        refine v_getR G vc_6 lk_X6_7 (fs_X6_0) dX6_plan_50 ?_
        refine v_bipush (v := nI 59) G dX6_plan_53 (by decide) ?_
        refine v_aload_3_0 G dX6_plan_55 ?_
        refine v_getR G vc_6 lk_X6_7 (fs_X6_0) dX6_plan_56 ?_
        refine v_bipush (v := nI 52) G dX6_plan_59 (by decide) ?_
        refine m_ialdN G (by decide) (as_X6_0) (by first | assumption | omega | exact oneB_in (by assumption) | exact wallB_in (by assumption) | exact oneB_m1 (by assumption) | decide) (by decide) dX6_plan_61 ?_
        rw [h61]
        refine v_iaddN G dX6_plan_62 ?_
        refine v_iload_3_2 G dX6_plan_63 ?_
        refine m_iastN G (by decide) (as_X6_0) (by first | assumption | omega | exact oneB_in (by assumption) | exact wallB_in (by assumption) | exact oneB_m1 (by assumption) | decide) (by decide) dX6_plan_64 ?_
        refine v_aload_3_0 G dX6_plan_65 ?_
        refine v_getR G vc_6 lk_X6_7 (fs_X6_0) dX6_plan_66 ?_
        refine v_bipush (v := nI 52) G dX6_plan_69 (by decide) ?_
        refine v_dup2 G dX6_plan_71 rfl rfl ?_
        refine m_ialdN G (by decide) (as_X6_0) (by first | assumption | omega | exact oneB_in (by assumption) | exact wallB_in (by assumption) | exact oneB_m1 (by assumption) | decide) (by decide) dX6_plan_72 ?_
        rw [h72]
        refine v_iconst (v := nI 1) G dX6_plan_73 (by decide) ?_
        refine v_iaddN G dX6_plan_74 ?_
        refine m_iastN G (by decide) (as_X6_0) (by first | assumption | omega | exact oneB_in (by assumption) | exact wallB_in (by assumption) | exact oneB_m1 (by assumption) | decide) (by decide) dX6_plan_75 ?_
        refine v_aload_3_0 G dX6_plan_76 ?_
        refine v_getR G vc_6 lk_X6_7 (fs_X6_0) dX6_plan_77 ?_
        refine v_bipush (v := nI 52) G dX6_plan_80 (by decide) ?_
        refine m_ialdN G (by decide) (as_X6_0) (by first | assumption | omega | exact oneB_in (by assumption) | exact wallB_in (by assumption) | exact oneB_m1 (by assumption) | decide) (by decide) dX6_plan_82 ?_
        rw [vset_at]
        exact v_iret G hQ dX6_plan_83 (vDet.of (by simp only [mPlnR, bI, h_5, h_13, h_27, if_true, if_false, Bool.false_eq_true, reduceIte, ite_self] <;> try rfl) (by simp only [mPlnV, mPlnW, h_5, h_13, h_27, if_true, if_false, Bool.false_eq_true, reduceIte, ite_self] <;> try rfl))
      · refine v_bipush (v := (-3)) G dX6_plan_30 (by decide) ?_
        exact v_iret G hQ dX6_plan_32 (vDet.of (by simp only [mPlnR, bI, h_5, h_13, h_27, if_true, if_false, Bool.false_eq_true, reduceIte, ite_self] <;> try rfl) (by simp only [mPlnV, mPlnW, h_5, h_13, h_27, if_true, if_false, Bool.false_eq_true, reduceIte, ite_self] <;> try rfl))
    · refine v_iconst (v := (-1)) G dX6_plan_16 (by decide) ?_
      exact v_iret G hQ dX6_plan_17 (vDet.of (by simp only [mPlnR, bI, h_5, h_13, if_true, if_false, Bool.false_eq_true, reduceIte, ite_self] <;> try rfl) (by simp only [mPlnV, mPlnW, h_5, h_13, if_true, if_false, Bool.false_eq_true, reduceIte, ite_self] <;> try rfl))
set_option maxHeartbeats 4000000 in
theorem C_X6_cut {σ : vW} {f : Nat → Int32} {K : Nat} {a : Int32} (hK : σ 76 52 = nI K) (hK6 : K ≤ 6) : Ctr mX6_cut 1 [.ref 75, .int a] (vrow σ 81 f) (vDet (some (.int (if inZ a (K + 1) = true then nI K else -1))) (vrow (if inZ a (K + 1) = true then vset σ 76 52 a else σ) 81 f)) := by
  have h : (nI 52).toNatClampNeg = 52 := by decide
  refine Ctr.intro (by decide) (fun α => Nat.le_of_ble_eq_true rfl) (fun x G hQ => ?_)
  have G : vG x RX6 cX6_cut 2 (some .int) 1 := G
  show V x 0 [some (.ref 75), some (.int a)] [] (vrow σ 81 f)
  refine v_aload_2_0 G dX6_cut_0 ?_
  refine v_iload_2_1 G dX6_cut_1 ?_
  refine v_i2l G dX6_cut_2 ?_
  refine v_lconst (v := lN 0) G dX6_cut_3 (by decide) ?_
  refine v_aload_2_0 G dX6_cut_4 ?_
  refine v_getR G vc_6 lk_X6_7 (fs_X6_0) dX6_cut_5 ?_
  refine v_bipush (v := nI 52) G dX6_cut_8 (by decide) ?_
  refine m_ialdN G (by decide) (as_X6_0) (by first | assumption | omega | exact oneB_in (by assumption) | exact wallB_in (by assumption) | exact oneB_m1 (by assumption) | decide) (by decide) dX6_cut_10 ?_
  rw [hK]
  refine v_i2l G dX6_cut_11 ?_
  refine v_cS3 G (C_inK _ (inK_0 (by omega))) (by decide) md_X6_in st_X6_in ml_X6_49 (Nat.le_of_ble_eq_true rfl) dX6_cut_12 ?_
  refine v_bipush (v := nI 52) G dX6_cut_15 (by decide) ?_
  refine v_iload_2_1 G dX6_cut_17 ?_
  refine v_cV3 G (C_X6_puts (fun _ => vp_in_nI (show 52 < 325 by decide) (by decide))) (by decide) md_X6_puts in_X6_puts (rv_X6 rfl) ml_X6_202 (Nat.le_of_ble_eq_true rfl) dX6_cut_18 ?_
  exact v_iret G hQ dX6_cut_21 (vDet.of (by rw [h, hK]) (by rw [h]))
/-- worlds by which doors were hung and filled -/
theorem mHgW_75 {σ : vW} {n g p : Nat} {w : Int32} : (mHgW σ n g p w) 75 = σ 75 := by
  unfold mHgW
  split
  · exact vset_ne (by decide)
  · rfl
theorem pOK_hg {σ : vW} {n m g g' p : Nat} {w : Int32} (h : pOK σ n m g) (hp : p < 5) (hg : g' = g ∨ g + 65 ≤ g' ∨ g' + 65 ≤ g) : pOK (mHgW σ n g' p w) n m g := by
  unfold mHgW
  split
  · exact pOK_set h (by omega) (by omega)
  · exact h
theorem pOK_fl {σ : vW} {n m g g' : Nat} {w : Int32} (h : pOK σ n m g) (hg : g' = g ∨ g + 65 ≤ g' ∨ g' + 65 ≤ g) : pOK (mFlW σ n g' w) n m g := by
  have hn5 := h.1.2.1
  rcases mDoor_cases (σ 76) n g' w with e | ⟨p, hp, e⟩
  · rw [mFlW, if_pos e]
    exact h
  · rw [mFlW, if_neg (show ¬ mDoor (σ 76) n g' w = -4 by rw [e]; exact nI_nm4 (by omega)), e, nI_clamp (by omega)]
    exact pOK_set (pOK_set h (by omega) (by omega)) (by omega) (by omega)
def mHangsR (σ : vW) (n m p : Nat) (w : Int32) : Int32 := if mCan (σ 76) n 0 p w = true then mReachQ ((mHgW σ n 0 p w) 76) n (σ 75 20) 0 m p else -2
set_option maxHeartbeats 4000000 in
theorem C_X6_hangs {σ : vW} {f : Nat → Int32} {n m : Nat} {a w : Int32} (hp : pOK σ n m 0) : Ctr mX6_hangs 4 [.ref 75, .int a, .int w] (vrow σ 81 f) (vFar (some (.int (if inZ a n = true then (if inZ w m = true then mHangsR σ n m a.toNatClampNeg w else -1) else -1))) (if inZ a n = true then (if inZ w m = true then mHgW σ n 0 a.toNatClampNeg w else σ) else σ)) := by
  have hn := hp.1.1
  have hn5 := hp.1.2.1
  have hm : σ 76 25 = nI m := hp.2.1.1
  have hm9 := hp.2.1.2.1
  refine Ctr.intro (by decide) (fun α => Nat.le_of_ble_eq_true rfl) (fun x G hQ => ?_)
  have G : vG x RX6 cX6_hangs 3 (some .int) 4 := G
  show V x 0 [some (.ref 75), some (.int a), some (.int w)] [] (vrow σ 81 f)
  refine v_aload_3_0 G dX6_hangs_0 ?_
  refine v_iload_3_1 G dX6_hangs_1 ?_
  refine v_cV1 G (C_X6_isOne (by first | assumption | omega | exact oneB_in (by assumption) | exact wallB_in (by assumption) | exact oneB_m1 (by assumption) | decide) (by first | assumption | omega | exact oneB_in (by assumption) | exact wallB_in (by assumption) | exact oneB_m1 (by assumption) | decide)) (by decide) md_X6_isOne in_X6_isOne (rv_X6 rfl) ml_X6_185 (Nat.le_of_ble_eq_true rfl) dX6_hangs_2 ?_
  refine v_ifB_eq (tgt := 16) G dX6_hangs_5 rfl (fun h_5 => ?_) (fun h_5 => ?_)
  · refine v_iconst (v := (-1)) G dX6_hangs_16 (by decide) ?_
    exact v_iret G hQ dX6_hangs_17 (vFar.of (by simp only [mHangsR, mHgW_75, bI, h_5, if_true, if_false, Bool.false_eq_true, reduceIte, ite_self] <;> try rfl) (by simp only [h_5, h_5, if_true, if_false, Bool.false_eq_true, reduceIte, ite_self] <;> try rfl))
  · obtain ⟨p0, hp0, rfl⟩ := inZ_ex h_5 (by omega)
    have cp0 : (nI p0).toNatClampNeg = p0 := nI_clamp (by omega)
    refine v_aload_3_0 G dX6_hangs_8 ?_
    refine v_iload_3_2 G dX6_hangs_9 ?_
    refine v_cV1 G (C_X6_isWall (by first | assumption | omega | exact oneB_in (by assumption) | exact wallB_in (by assumption) | exact oneB_m1 (by assumption) | decide) (by first | assumption | omega | exact oneB_in (by assumption) | exact wallB_in (by assumption) | exact oneB_m1 (by assumption) | decide)) (by decide) md_X6_isWall in_X6_isWall (rv_X6 rfl) ml_X6_192 (Nat.le_of_ble_eq_true rfl) dX6_hangs_10 ?_
    refine v_ifB_ne (tgt := 18) G dX6_hangs_13 rfl (fun h_13 => ?_) (fun h_13 => ?_)
    · refine v_aload_3_0 G dX6_hangs_18 ?_
      refine v_iconst (v := nI 0) G dX6_hangs_19 (by decide) ?_
      refine v_iload_3_1 G dX6_hangs_20 ?_
      refine v_iload_3_2 G dX6_hangs_21 ?_
      refine v_cV3 G (C_X6_hangsOn (g := 0) hn hn5 (by omega) (by omega)) (by decide) md_X6_hangsOn in_X6_hangsOn (rv_X6 rfl) ml_X6_208 (Nat.le_of_ble_eq_true rfl) dX6_hangs_22 ?_
      refine v_ifB_eq (tgt := 37) G dX6_hangs_25 rfl (fun h_25 => ?_) (fun h_25 => ?_)
      · refine v_bipush (v := (-2)) G dX6_hangs_37 (by decide) ?_
        exact v_iret G hQ dX6_hangs_39 (vFar.of (by simp only [mHangsR, mHgW_75, bI, h_5, cp0, h_13, h_25, if_true, if_false, Bool.false_eq_true, reduceIte, ite_self] <;> try rfl) (by simp only [h_5, cp0, h_13, h_25, h_5, cp0, h_13, h_25, if_true, if_false, Bool.false_eq_true, reduceIte, ite_self] <;> try rfl))
      · refine v_aload_3_0 G dX6_hangs_28 ?_
        refine v_iconst (v := nI 0) G dX6_hangs_29 (by decide) ?_
        refine v_iload_3_1 G dX6_hangs_30 ?_
        refine v_cX2 G (C_X6_reachesOn (g := 0) (pOK_hg hp (by omega) (Or.inl rfl)) (by omega)) (by decide) md_X6_reachesOn in_X6_reachesOn (rv_X6 rfl) ml_X6_169 (Nat.le_of_ble_eq_true rfl) dX6_hangs_31 (fun f hf => ?_)
        refine v_goto (tgt := 39) G dX6_hangs_34 rfl ?_
        exact v_iret G hQ dX6_hangs_39 (vFar.of (by simp only [mHangsR, mHgW_75, bI, h_5, cp0, h_13, h_25, if_true, if_false, Bool.false_eq_true, reduceIte, ite_self] <;> try rfl) (by simp only [h_5, cp0, h_13, h_25, h_5, cp0, h_13, h_25, if_true, if_false, Bool.false_eq_true, reduceIte, ite_self] <;> try rfl))
    · refine v_iconst (v := (-1)) G dX6_hangs_16 (by decide) ?_
      exact v_iret G hQ dX6_hangs_17 (vFar.of (by simp only [mHangsR, mHgW_75, bI, h_5, cp0, h_13, if_true, if_false, Bool.false_eq_true, reduceIte, ite_self] <;> try rfl) (by simp only [h_5, cp0, h_13, h_5, cp0, h_13, if_true, if_false, Bool.false_eq_true, reduceIte, ite_self] <;> try rfl))
set_option maxHeartbeats 4000000 in
theorem C_X6_hang {σ : vW} {f : Nat → Int32} {n m : Nat} {a w : Int32} (hp : pOK σ n m 0) : Ctr mX6_hang 5 [.ref 75, .int a, .int w] (vrow σ 81 f) (vFar (some (.int (if inZ a n = true then (if inZ w m = true then mHangsR σ n m a.toNatClampNeg w else -1) else -1))) (if inZ a n = true then (if inZ w m = true then mHgW σ n 0 a.toNatClampNeg w else σ) else σ)) := by
  refine Ctr.intro (by decide) (fun α => Nat.le_of_ble_eq_true rfl) (fun x G hQ => ?_)
  have G : vG x RX6 cX6_hang 3 (some .int) 5 := G
  show V x 0 [some (.ref 75), some (.int a), some (.int w)] [] (vrow σ 81 f)
  refine v_aload_3_0 G dX6_hang_0 ?_
  refine v_iload_3_1 G dX6_hang_1 ?_
  refine v_iload_3_2 G dX6_hang_2 ?_
  refine v_cE2 G (C_X6_hangs (by first | assumption | omega | exact oneB_in (by assumption) | exact wallB_in (by assumption) | exact oneB_m1 (by assumption) | decide)) (by decide) md_X6_hangs in_X6_hangs (rv_X6 rfl) ml_X6_211 (Nat.le_of_ble_eq_true rfl) dX6_hang_3 (fun f => ?_)
  exact v_iret G hQ dX6_hang_6 vFar.mk
set_option maxHeartbeats 4000000 in
theorem C_X6_steps {σ : vW} {f : Nat → Int32} {n m : Nat} {a r : Int32} (hp : pOK σ n m 0) : Ctr mX6_steps 5 [.ref 75, .int a, .int r] (vrow σ 81 f) (vFar (some (.int (if inZ a n = true then (if inZ r 8 = true then mFarQ (σ 76) n (σ 75 20) 0 m a.toNatClampNeg r.toNatClampNeg else -1) else -1))) σ) := by
  have hn := hp.1.1
  have hn5 := hp.1.2.1
  refine Ctr.intro (by decide) (fun α => Nat.le_of_ble_eq_true rfl) (fun x G hQ => ?_)
  have G : vG x RX6 cX6_steps 3 (some .int) 5 := G
  show V x 0 [some (.ref 75), some (.int a), some (.int r)] [] (vrow σ 81 f)
  refine v_aload_3_0 G dX6_steps_0 ?_
  refine v_iload_3_1 G dX6_steps_1 ?_
  refine v_cV1 G (C_X6_isOne (by first | assumption | omega | exact oneB_in (by assumption) | exact wallB_in (by assumption) | exact oneB_m1 (by assumption) | decide) (by first | assumption | omega | exact oneB_in (by assumption) | exact wallB_in (by assumption) | exact oneB_m1 (by assumption) | decide)) (by decide) md_X6_isOne in_X6_isOne (rv_X6 rfl) ml_X6_185 (Nat.le_of_ble_eq_true rfl) dX6_steps_2 ?_
  refine v_ifB_eq (tgt := 25) G dX6_steps_5 rfl (fun h_5 => ?_) (fun h_5 => ?_)
  · refine v_iconst (v := (-1)) G dX6_steps_25 (by decide) ?_
    exact v_iret G hQ dX6_steps_26 (vFar.of (by simp only [h_5, bI, h_5, if_true, if_false, Bool.false_eq_true, reduceIte] <;> try rfl) rfl)
  · obtain ⟨p0, hp0, rfl⟩ := inZ_ex h_5 (by omega)
    have cp0 : (nI p0).toNatClampNeg = p0 := nI_clamp (by omega)
    refine v_iload_3_2 G dX6_steps_8 ?_
    refine v_cS1 G (C_X6_isRoom) (by decide) md_X6_isRoom st_X6_isRoom ml_X6_197 (Nat.le_of_ble_eq_true rfl) dX6_steps_9 ?_
    refine v_ifB_eq (tgt := 25) G dX6_steps_12 rfl (fun h_12 => ?_) (fun h_12 => ?_)
    · refine v_iconst (v := (-1)) G dX6_steps_25 (by decide) ?_
      exact v_iret G hQ dX6_steps_26 (vFar.of (by simp only [h_5, cp0, h_12, bI, h_5, cp0, h_12, if_true, if_false, Bool.false_eq_true, reduceIte] <;> try rfl) rfl)
    · obtain ⟨r0, hr0, rfl⟩ := inZ_ex h_12 (by omega)
      have cr0 : (nI r0).toNatClampNeg = r0 := nI_clamp (by omega)
      refine v_aload_3_0 G dX6_steps_15 ?_
      refine v_iconst (v := nI 0) G dX6_steps_16 (by decide) ?_
      refine v_iload_3_1 G dX6_steps_17 ?_
      refine v_iload_3_2 G dX6_steps_18 ?_
      refine v_cE3 G (C_X6_stepsOn (g := 0) hp (by omega) (by omega)) (by decide) md_X6_stepsOn in_X6_stepsOn (rv_X6 rfl) ml_X6_217 (Nat.le_of_ble_eq_true rfl) dX6_steps_19 (fun f => ?_)
      refine v_goto (tgt := 26) G dX6_steps_22 rfl ?_
      exact v_iret G hQ dX6_steps_26 (vFar.of (by simp only [h_5, cp0, h_12, cr0, bI, h_5, cp0, h_12, cr0, if_true, if_false, Bool.false_eq_true, reduceIte] <;> try rfl) rfl)
set_option maxHeartbeats 4000000 in
theorem C_X6_meet {σ : vW} {f : Nat → Int32} {n m : Nat} {a b : Int32} (hp : pOK σ n m 0) : Ctr mX6_meet 4 [.ref 75, .int a, .int b] (vrow σ 81 f) (vFar (some (.int (if inZ a n = true then (if inZ b n = true then (if a = b then -1 else mReachQ (σ 76) n (σ 75 20) 0 m a.toNatClampNeg &&& mReachQ (σ 76) n (σ 75 20) 0 m b.toNatClampNeg) else -1) else -1))) σ) := by
  have hn := hp.1.1
  have hn5 := hp.1.2.1
  refine Ctr.intro (by decide) (fun α => Nat.le_of_ble_eq_true rfl) (fun x G hQ => ?_)
  have G : vG x RX6 cX6_meet 3 (some .int) 4 := G
  show V x 0 [some (.ref 75), some (.int a), some (.int b)] [] (vrow σ 81 f)
  refine v_aload_3_0 G dX6_meet_0 ?_
  refine v_iload_3_1 G dX6_meet_1 ?_
  refine v_cV1 G (C_X6_isOne (by first | assumption | omega | exact oneB_in (by assumption) | exact wallB_in (by assumption) | exact oneB_m1 (by assumption) | decide) (by first | assumption | omega | exact oneB_in (by assumption) | exact wallB_in (by assumption) | exact oneB_m1 (by assumption) | decide)) (by decide) md_X6_isOne in_X6_isOne (rv_X6 rfl) ml_X6_185 (Nat.le_of_ble_eq_true rfl) dX6_meet_2 ?_
  refine v_ifB_eq (tgt := 37) G dX6_meet_5 rfl (fun h_5 => ?_) (fun h_5 => ?_)
  · refine v_iconst (v := (-1)) G dX6_meet_37 (by decide) ?_
    exact v_iret G hQ dX6_meet_38 (vFar.of (by simp only [h_5, bI, h_5, if_true, if_false, Bool.false_eq_true, reduceIte] <;> try rfl) rfl)
  · obtain ⟨p0, hp0, rfl⟩ := inZ_ex h_5 (by omega)
    have cp0 : (nI p0).toNatClampNeg = p0 := nI_clamp (by omega)
    refine v_aload_3_0 G dX6_meet_8 ?_
    refine v_iload_3_2 G dX6_meet_9 ?_
    refine v_cV1 G (C_X6_isOne (by first | assumption | omega | exact oneB_in (by assumption) | exact wallB_in (by assumption) | exact oneB_m1 (by assumption) | decide) (by first | assumption | omega | exact oneB_in (by assumption) | exact wallB_in (by assumption) | exact oneB_m1 (by assumption) | decide)) (by decide) md_X6_isOne in_X6_isOne (rv_X6 rfl) ml_X6_185 (Nat.le_of_ble_eq_true rfl) dX6_meet_10 ?_
    refine v_ifB_eq (tgt := 37) G dX6_meet_13 rfl (fun h_13 => ?_) (fun h_13 => ?_)
    · refine v_iconst (v := (-1)) G dX6_meet_37 (by decide) ?_
      exact v_iret G hQ dX6_meet_38 (vFar.of (by simp only [h_5, cp0, h_13, bI, h_5, cp0, h_13, if_true, if_false, Bool.false_eq_true, reduceIte] <;> try rfl) rfl)
    · obtain ⟨q0, hq0, rfl⟩ := inZ_ex h_13 (by omega)
      have cq0 : (nI q0).toNatClampNeg = q0 := nI_clamp (by omega)
      refine v_iload_3_1 G dX6_meet_16 ?_
      refine v_iload_3_2 G dX6_meet_17 ?_
      refine v_icmp_eq (tgt := 37) G dX6_meet_18 rfl (fun h_18 => ?_) (fun h_18 => ?_)
      · refine v_iconst (v := (-1)) G dX6_meet_37 (by decide) ?_
        exact v_iret G hQ dX6_meet_38 (vFar.of (by simp only [h_5, cp0, h_13, cq0, h_18, bI, h_5, cp0, h_13, cq0, h_18, if_true, if_false, Bool.false_eq_true, reduceIte] <;> try rfl) rfl)
      · refine v_aload_3_0 G dX6_meet_21 ?_
        refine v_iconst (v := nI 0) G dX6_meet_22 (by decide) ?_
        refine v_iload_3_1 G dX6_meet_23 ?_
        refine v_cX2 G (C_X6_reachesOn (g := 0) hp (by omega)) (by decide) md_X6_reachesOn in_X6_reachesOn (rv_X6 rfl) ml_X6_169 (Nat.le_of_ble_eq_true rfl) dX6_meet_24 (fun f hf => ?_)
        refine v_aload_3_0 G dX6_meet_27 ?_
        refine v_iconst (v := nI 0) G dX6_meet_28 (by decide) ?_
        refine v_iload_3_2 G dX6_meet_29 ?_
        refine v_cX2 G (C_X6_reachesOn (g := 0) hp (by omega)) (by decide) md_X6_reachesOn in_X6_reachesOn (rv_X6 rfl) ml_X6_169 (Nat.le_of_ble_eq_true rfl) dX6_meet_30 (fun f hf => ?_)
        refine v_iand G dX6_meet_33 ?_
        refine v_goto (tgt := 38) G dX6_meet_34 rfl ?_
        exact v_iret G hQ dX6_meet_38 (vFar.of (by simp only [h_5, cp0, h_13, cq0, h_18, bI, h_5, cp0, h_13, cq0, h_18, if_true, if_false, Bool.false_eq_true, reduceIte] <;> try rfl) rfl)
