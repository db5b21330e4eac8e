/-! The model: pages: sums, copies, doors hung and filled -/
theorem pOK_n {σ : vW} {n m g : Nat} (h : pOK σ n m g) : σ 75 1 = nI n ∧ n ≤ 5 ∧ g ≤ 260 := h.1
def mAllG (R : Nat → Int32) (n : Nat) (J : Int32) (g m : Nat) : Nat → Int32
  | 0 => nI 0
  | q + 1 => mAllG R n J g m q + bitsR (mReachQ R n J g m q)
set_option maxHeartbeats 4000000 in
theorem C_X6_allOn {σ : vW} {f : Nat → Int32} {n m g : Nat} (hp : pOK σ n m g) : Ctr mX6_allOn 4 [.ref 75, .int (nI g)] (vrow σ 81 f) (vFar (some (.int (mAllG (σ 76) n (σ 75 20) g m n))) σ) := by
  have hn := hp.1.1
  have hn5 := hp.1.2.1
  refine Ctr.intro (by decide) (fun α => Nat.le_of_ble_eq_true rfl) (fun x G hQ => ?_)
  have G : vG x RX6 cX6_allOn 4 (some .int) 4 := G
  show V x 0 [some (.ref 75), some (.int (nI g)), none, none] [] (vrow σ 81 f)
  refine v_iconst (v := nI 0) G dX6_allOn_0 (by decide) ?_
  refine v_istore_4_2 G dX6_allOn_1 rfl ?_
  refine v_iconst (v := nI 0) G dX6_allOn_2 (by decide) ?_
  refine v_istore_4_3 G dX6_allOn_3 rfl ?_
  refine v_forF (pc := 4) (n) (fun k => ([some (.ref 75), some (.int (nI g)), some (.int (mAllG (σ 76) n (σ 75 20) g m k)), some (.int (nI k))], σ)) (fun k hk ih f => ?_) (fun f => ?_) f
  · show V x 4 [some (.ref 75), some (.int (nI g)), some (.int (mAllG (σ 76) n (σ 75 20) g m k)), some (.int (nI k))] [] (vrow (σ) 81 f)
    have ih : ∀ f, V x 4 [some (.ref 75), some (.int (nI g)), some (.int (mAllG (σ 76) n (σ 75 20) g m (k + 1))), some (.int (nI (k + 1)))] [] (vrow (σ) 81 f) := ih
    refine v_iload_4_3 G dX6_allOn_4 ?_
    refine v_aload_4_0 G dX6_allOn_5 ?_
    refine m_getI G (by decide) vc_6 lk_X6_144 fs_X6_1 dX6_allOn_6 ?_
    refine v_icmp_ge (tgt := 30) G dX6_allOn_9 rfl (fun h_9 => absurd h_9 (by rw [hn]; exact nI_ge hk (by omega))) (fun h_9 => ?_)
    refine v_iload_4_2 G dX6_allOn_12 ?_
    refine v_aload_4_0 G dX6_allOn_13 ?_
    refine v_iload_4_1 G dX6_allOn_14 ?_
    refine v_iload_4_3 G dX6_allOn_15 ?_
    refine v_cX2 G (C_X6_reachesOn hp (by omega)) (by decide) md_X6_reachesOn in_X6_reachesOn (rv_X6 rfl) ml_X6_169 (Nat.le_of_ble_eq_true rfl) dX6_allOn_16 (fun f hf => ?_)
    refine v_cS1 G (C_X6_bitsOf) (by decide) md_X6_bitsOf st_X6_bitsOf ml_X6_172 (Nat.le_of_ble_eq_true rfl) dX6_allOn_19 ?_
    refine v_iadd G dX6_allOn_22 ?_
    refine v_istore_4_2 G dX6_allOn_23 rfl ?_
    refine v_iincN_4_3 G dX6_allOn_24 rfl ?_
    refine v_goto (tgt := 4) G dX6_allOn_27 rfl ?_
    exact ih _
  · show V x 4 [some (.ref 75), some (.int (nI g)), some (.int (mAllG (σ 76) n (σ 75 20) g m n)), some (.int (nI n))] [] (vrow (σ) 81 f)
    refine v_iload_4_3 G dX6_allOn_4 ?_
    refine v_aload_4_0 G dX6_allOn_5 ?_
    refine m_getI G (by decide) vc_6 lk_X6_144 fs_X6_1 dX6_allOn_6 ?_
    refine v_icmp_ge (tgt := 30) G dX6_allOn_9 rfl (fun h_9 => ?_) (fun h_9 => absurd (by rw [hn]; exact nI_le (Nat.le_refl _) (by omega)) h_9)
    refine v_iload_4_2 G dX6_allOn_30 ?_
    exact v_iret G hQ dX6_allOn_31 (vFar.of rfl rfl)
def mWhoG (R : Nat → Int32) (n : Nat) (J : Int32) (m : Nat) (r : Int32) : Nat → Int32
  | 0 => nI 0
  | q + 1 => mWhoG R n J m r q ||| (if mReachQ R n J 0 m q >>> (r &&& 31) &&& nI 1 = nI 1 then nI 1 <<< (nI q &&& 31) else nI 0)
set_option maxHeartbeats 4000000 in
theorem C_X6_whoReaches {σ : vW} {f : Nat → Int32} {n m : Nat} {r : Int32} (hp : pOK σ n m 0) : Ctr mX6_whoReaches 4 [.ref 75, .int r] (vrow σ 81 f) (vFar (some (.int (mWhoG (σ 76) n (σ 75 20) m r n))) σ) := by
  have hn := hp.1.1
  have hn5 := hp.1.2.1
  refine Ctr.intro (by decide) (fun α => Nat.le_of_ble_eq_true rfl) (fun x G hQ => ?_)
  have G : vG x RX6 cX6_whoReaches 4 (some .int) 4 := G
  show V x 0 [some (.ref 75), some (.int r), none, none] [] (vrow σ 81 f)
  refine v_iconst (v := nI 0) G dX6_whoReaches_0 (by decide) ?_
  refine v_istore_4_2 G dX6_whoReaches_1 rfl ?_
  refine v_iconst (v := nI 0) G dX6_whoReaches_2 (by decide) ?_
  refine v_istore_4_3 G dX6_whoReaches_3 rfl ?_
  refine v_forF (pc := 4) (n) (fun k => ([some (.ref 75), some (.int r), some (.int (mWhoG (σ 76) n (σ 75 20) m r k)), some (.int (nI k))], σ)) (fun k hk ih f => ?_) (fun f => ?_) f
  · show V x 4 [some (.ref 75), some (.int r), some (.int (mWhoG (σ 76) n (σ 75 20) m r k)), some (.int (nI k))] [] (vrow (σ) 81 f)
    have ih : ∀ f, V x 4 [some (.ref 75), some (.int r), some (.int (mWhoG (σ 76) n (σ 75 20) m r (k + 1))), some (.int (nI (k + 1)))] [] (vrow (σ) 81 f) := ih
    refine v_iload_4_3 G dX6_whoReaches_4 ?_
    refine v_aload_4_0 G dX6_whoReaches_5 ?_
    refine m_getI G (by decide) vc_6 lk_X6_144 fs_X6_1 dX6_whoReaches_6 ?_
    refine v_icmp_ge (tgt := 42) G dX6_whoReaches_9 rfl (fun h_9 => absurd h_9 (by rw [hn]; exact nI_ge hk (by omega))) (fun h_9 => ?_)
    refine v_iload_4_2 G dX6_whoReaches_12 ?_
    refine v_aload_4_0 G dX6_whoReaches_13 ?_
    refine v_iconst (v := nI 0) G dX6_whoReaches_14 (by decide) ?_
    refine v_iload_4_3 G dX6_whoReaches_15 ?_
    refine v_cX2 G (C_X6_reachesOn hp (by omega)) (by decide) md_X6_reachesOn in_X6_reachesOn (rv_X6 rfl) ml_X6_169 (Nat.le_of_ble_eq_true rfl) dX6_whoReaches_16 (fun f hf => ?_)
    refine v_iload_4_1 G dX6_whoReaches_19 ?_
    refine v_ishr G dX6_whoReaches_20 ?_
    refine v_iconst (v := nI 1) G dX6_whoReaches_21 (by decide) ?_
    refine v_iand G dX6_whoReaches_22 ?_
    refine v_iconst (v := nI 1) G dX6_whoReaches_23 (by decide) ?_
    refine v_icmp_ne (tgt := 33) G dX6_whoReaches_24 rfl (fun h_24 => ?_) (fun h_24 => ?_)
    · refine v_iconst (v := nI 0) G dX6_whoReaches_33 (by decide) ?_
      refine v_ior G dX6_whoReaches_34 ?_
      refine v_istore_4_2 G dX6_whoReaches_35 rfl ?_
      refine v_iincN_4_3 G dX6_whoReaches_36 rfl ?_
      refine v_goto (tgt := 4) G dX6_whoReaches_39 rfl ?_
      simp only [mWhoG, h_9, h_24, if_true, if_false, Bool.false_eq_true, reduceIte, Bool.and_true, Bool.true_and, Bool.false_and, Bool.and_false] at ih
      exact ih _
    · refine v_iconst (v := nI 1) G dX6_whoReaches_27 (by decide) ?_
      refine v_iload_4_3 G dX6_whoReaches_28 ?_
      refine v_ishl G dX6_whoReaches_29 ?_
      refine v_goto (tgt := 34) G dX6_whoReaches_30 rfl ?_
      refine v_ior G dX6_whoReaches_34 ?_
      refine v_istore_4_2 G dX6_whoReaches_35 rfl ?_
      refine v_iincN_4_3 G dX6_whoReaches_36 rfl ?_
      refine v_goto (tgt := 4) G dX6_whoReaches_39 rfl ?_
      simp only [mWhoG, h_9, h_24, if_true, if_false, Bool.false_eq_true, reduceIte, Bool.and_true, Bool.true_and, Bool.false_and, Bool.and_false] at ih
      exact ih _
  · show V x 4 [some (.ref 75), some (.int r), some (.int (mWhoG (σ 76) n (σ 75 20) m r n)), some (.int (nI n))] [] (vrow (σ) 81 f)
    refine v_iload_4_3 G dX6_whoReaches_4 ?_
    refine v_aload_4_0 G dX6_whoReaches_5 ?_
    refine m_getI G (by decide) vc_6 lk_X6_144 fs_X6_1 dX6_whoReaches_6 ?_
    refine v_icmp_ge (tgt := 42) G dX6_whoReaches_9 rfl (fun h_9 => ?_) (fun h_9 => absurd (by rw [hn]; exact nI_le (Nat.le_refl _) (by omega)) h_9)
    refine v_iload_4_2 G dX6_whoReaches_42 ?_
    exact v_iret G hQ dX6_whoReaches_43 (vFar.of rfl rfl)
def mHungG (R : Nat → Int32) (g : Nat) : Nat → Int32
  | 0 => nI 0
  | p + 1 => mHungG R g p + (if R (g + 15 + p) ≤ 0 then nI 0 else nI 1)
set_option maxHeartbeats 4000000 in
theorem C_X6_hungOn {σ : vW} {f : Nat → Int32} {n g : Nat} (hn : σ 75 1 = nI n) (hn5 : n ≤ 5) (hg : g ≤ 260) : Ctr mX6_hungOn 0 [.ref 75, .int (nI g)] (vrow σ 81 f) (vDet (some (.int (mHungG (σ 76) g n))) (vrow σ 81 f)) := by
  refine Ctr.intro (by decide) (fun α => Nat.le_of_ble_eq_true rfl) (fun x G hQ => ?_)
  have G : vG x RX6 cX6_hungOn 4 (some .int) 0 := G
  show V x 0 [some (.ref 75), some (.int (nI g)), none, none] [] (vrow σ 81 f)
  refine v_iconst (v := nI 0) G dX6_hungOn_0 (by decide) ?_
  refine v_istore_4_2 G dX6_hungOn_1 rfl ?_
  refine v_iconst (v := nI 0) G dX6_hungOn_2 (by decide) ?_
  refine v_istore_4_3 G dX6_hungOn_3 rfl ?_
  refine v_for (pc := 4) (n) (fun k => ([some (.ref 75), some (.int (nI g)), some (.int (mHungG (σ 76) g k)), some (.int (nI k))], (vrow (σ) 81 f))) (fun k hk ih => ?_) ?_
  · show V x 4 [some (.ref 75), some (.int (nI g)), some (.int (mHungG (σ 76) g k)), some (.int (nI k))] [] (vrow (σ) 81 f)
    have ih : V x 4 [some (.ref 75), some (.int (nI g)), some (.int (mHungG (σ 76) g (k + 1))), some (.int (nI (k + 1)))] [] (vrow (σ) 81 f) := ih
    refine v_iload_4_3 G dX6_hungOn_4 ?_
    refine v_aload_4_0 G dX6_hungOn_5 ?_
    refine m_getI G (by decide) vc_6 lk_X6_144 fs_X6_1 dX6_hungOn_6 ?_
    refine v_icmp_ge (tgt := 40) G dX6_hungOn_9 rfl (fun h_9 => absurd h_9 (by rw [hn]; exact nI_ge hk (by omega))) (fun h_9 => ?_)
    refine v_iload_4_2 G dX6_hungOn_12 ?_
    refine v_aload_4_0 G dX6_hungOn_13 ?_
    refine v_getR G vc_6 lk_X6_7 (fs_X6_0) dX6_hungOn_14 ?_
    refine v_iload_4_1 G dX6_hungOn_17 ?_
    refine v_bipush (v := nI 15) G dX6_hungOn_18 (by decide) ?_
    refine v_iaddN G dX6_hungOn_20 ?_
    refine v_iload_4_3 G dX6_hungOn_21 ?_
    refine v_iaddN G dX6_hungOn_22 ?_
    refine m_ialdN G (by decide) (as_X6_0) (by first | assumption | omega | exact oneB_in (by assumption) | exact wallB_in (by assumption) | exact oneB_m1 (by assumption) | decide) (by decide) dX6_hungOn_23 ?_
    refine v_if_le (tgt := 31) G dX6_hungOn_24 rfl (fun h_24 => ?_) (fun h_24 => ?_)
    · refine v_iconst (v := nI 0) G dX6_hungOn_31 (by decide) ?_
      refine v_iadd G dX6_hungOn_32 ?_
      refine v_istore_4_2 G dX6_hungOn_33 rfl ?_
      refine v_iincN_4_3 G dX6_hungOn_34 rfl ?_
      refine v_goto (tgt := 4) G dX6_hungOn_37 rfl ?_
      simp only [mHungG, h_9, h_24, if_true, if_false, Bool.false_eq_true, reduceIte, Bool.and_true, Bool.true_and, Bool.false_and, Bool.and_false] at ih
      exact ih
    · refine v_iconst (v := nI 1) G dX6_hungOn_27 (by decide) ?_
      refine v_goto (tgt := 32) G dX6_hungOn_28 rfl ?_
      refine v_iadd G dX6_hungOn_32 ?_
      refine v_istore_4_2 G dX6_hungOn_33 rfl ?_
      refine v_iincN_4_3 G dX6_hungOn_34 rfl ?_
      refine v_goto (tgt := 4) G dX6_hungOn_37 rfl ?_
      simp only [mHungG, h_9, h_24, if_true, if_false, Bool.false_eq_true, reduceIte, Bool.and_true, Bool.true_and, Bool.false_and, Bool.and_false] at ih
      exact ih
  · show V x 4 [some (.ref 75), some (.int (nI g)), some (.int (mHungG (σ 76) g n)), some (.int (nI n))] [] (vrow (σ) 81 f)
    refine v_iload_4_3 G dX6_hungOn_4 ?_
    refine v_aload_4_0 G dX6_hungOn_5 ?_
    refine m_getI G (by decide) vc_6 lk_X6_144 fs_X6_1 dX6_hungOn_6 ?_
    refine v_icmp_ge (tgt := 40) G dX6_hungOn_9 rfl (fun h_9 => ?_) (fun h_9 => absurd (by rw [hn]; exact nI_le (Nat.le_refl _) (by omega)) h_9)
    refine v_iload_4_2 G dX6_hungOn_40 ?_
    exact v_iret G hQ dX6_hungOn_41 vDet.mk
def mFree (R : Nat → Int32) (g p : Nat) : Bool := if R (g + 15 + p) = 0 then (if R (g + 20 + p) = 0 then true else false) else false
set_option maxHeartbeats 4000000 in
theorem C_X6_isFreeOn {σ : vW} {f : Nat → Int32} {g p : Nat} (hg : g ≤ 260) (hp5 : p < 5) : Ctr mX6_isFreeOn 0 [.ref 75, .int (nI g), .int (nI p)] (vrow σ 81 f) (vDet (some (.int (bI (mFree (σ 76) g p)))) (vrow σ 81 f)) := by
  refine Ctr.intro (by decide) (fun α => Nat.le_of_ble_eq_true rfl) (fun x G hQ => ?_)
  have G : vG x RX6 cX6_isFreeOn 3 (some .boolean) 0 := G
  show V x 0 [some (.ref 75), some (.int (nI g)), some (.int (nI p))] [] (vrow σ 81 f)
  refine v_aload_3_0 G dX6_isFreeOn_0 ?_
  refine v_getR G vc_6 lk_X6_7 (fs_X6_0) dX6_isFreeOn_1 ?_
  refine v_iload_3_1 G dX6_isFreeOn_4 ?_
  refine v_bipush (v := nI 15) G dX6_isFreeOn_5 (by decide) ?_
  refine v_iaddN G dX6_isFreeOn_7 ?_
  refine v_iload_3_2 G dX6_isFreeOn_8 ?_
  refine v_iaddN G dX6_isFreeOn_9 ?_
  refine m_ialdN G (by decide) (as_X6_0) (by first | assumption | omega | exact oneB_in (by assumption) | exact wallB_in (by assumption) | exact oneB_m1 (by assumption) | decide) (by decide) dX6_isFreeOn_10 ?_
  refine v_if_ne (tgt := 32) G dX6_isFreeOn_11 rfl (fun h_11 => ?_) (fun h_11 => ?_)
  · refine v_iconst (v := nI 0) G dX6_isFreeOn_32 (by decide) ?_
    exact v_zret G hQ dX6_isFreeOn_33 (by first | exact Or.inl rfl | exact Or.inr rfl | exact bI_01 _ | assumption) (vDet.of (by simp only [mFree, bI, h_11, if_true, if_false, Bool.false_eq_true, reduceIte] <;> try rfl) rfl)
  · refine v_aload_3_0 G dX6_isFreeOn_14 ?_
    refine v_getR G vc_6 lk_X6_7 (fs_X6_0) dX6_isFreeOn_15 ?_
    refine v_iload_3_1 G dX6_isFreeOn_18 ?_
    refine v_bipush (v := nI 20) G dX6_isFreeOn_19 (by decide) ?_
    refine v_iaddN G dX6_isFreeOn_21 ?_
    refine v_iload_3_2 G dX6_isFreeOn_22 ?_
    refine v_iaddN G dX6_isFreeOn_23 ?_
    refine m_ialdN G (by decide) (as_X6_0) (by first | assumption | omega | exact oneB_in (by assumption) | exact wallB_in (by assumption) | exact oneB_m1 (by assumption) | decide) (by decide) dX6_isFreeOn_24 ?_
    refine v_if_ne (tgt := 32) G dX6_isFreeOn_25 rfl (fun h_25 => ?_) (fun h_25 => ?_)
    · refine v_iconst (v := nI 0) G dX6_isFreeOn_32 (by decide) ?_
      exact v_zret G hQ dX6_isFreeOn_33 (by first | exact Or.inl rfl | exact Or.inr rfl | exact bI_01 _ | assumption) (vDet.of (by simp only [mFree, bI, h_11, h_25, if_true, if_false, Bool.false_eq_true, reduceIte] <;> try rfl) rfl)
    · refine v_iconst (v := nI 1) G dX6_isFreeOn_28 (by decide) ?_
      refine v_goto (tgt := 33) G dX6_isFreeOn_29 rfl ?_
      exact v_zret G hQ dX6_isFreeOn_33 (by first | exact Or.inl rfl | exact Or.inr rfl | exact bI_01 _ | assumption) (vDet.of (by simp only [mFree, bI, h_11, h_25, if_true, if_false, Bool.false_eq_true, reduceIte] <;> try rfl) rfl)
/-- a page copied, k cells of it -/
def cpP (R : Nat → Int32) (a b k : Nat) : Nat → Int32 := fun i => if b ≤ i ∧ i < b + k then R (a + (i - b)) else R i
theorem cpP_0 (R : Nat → Int32) (a b : Nat) : cpP R a b 0 = R := by
  funext i
  simp only [cpP]
  rw [if_neg (by omega)]
theorem cpP_src {R : Nat → Int32} {a b k : Nat} (hab : a + 65 ≤ b ∨ b + 65 ≤ a) (hk : k < 65) : cpP R a b k (a + k) = R (a + k) := by
  unfold cpP
  rw [if_neg (by omega)]
theorem cpP_s {R : Nat → Int32} {a b k : Nat} : upd (cpP R a b k) (b + k) (R (a + k)) = cpP R a b (k + 1) := by
  funext i
  by_cases h : i = b + k
  · subst h
    simp only [upd, if_true, cpP]
    rw [if_pos (by omega), show b + k - b = k by omega]
  · simp only [upd, if_neg h, cpP]
    by_cases h2 : b ≤ i ∧ i < b + k
    · rw [if_pos h2, if_pos (by omega)]
    · rw [if_neg h2, if_neg (by omega)]
def cpW (σ : vW) (a b : Nat) : vW := vrow σ 76 (cpP (σ 76) a b 65)
set_option maxHeartbeats 4000000 in
theorem C_X6_copies {σ : vW} {f : Nat → Int32} {a b : Nat} (ha : a ≤ 260) (hb : b ≤ 260) (hab : a + 65 ≤ b ∨ b + 65 ≤ a) : Ctr mX6_copies 0 [.ref 75, .int (nI a), .int (nI b)] (vrow σ 81 f) (vDet none (vrow (cpW σ a b) 81 f)) := by
  refine Ctr.intro (by decide) (fun α => Nat.le_of_ble_eq_true rfl) (fun x G hQ => ?_)
  have G : vG x RX6 cX6_copies 4 none 0 := G
  show V x 0 [some (.ref 75), some (.int (nI a)), some (.int (nI b)), none] [] (vrow σ 81 f)
  refine v_iconst (v := nI 0) G dX6_copies_0 (by decide) ?_
  refine v_istore_4_3 G dX6_copies_1 rfl ?_
  rw [show vrow σ 81 f = vrow (vrow σ 76 (cpP (σ 76) a b 0)) 81 f by rw [cpP_0, vrow_same]]
  have hst : ∀ k, vset (vrow σ 76 (cpP (σ 76) a b k)) 76 (b + k) (σ 76 (a + k)) = vrow σ 76 (cpP (σ 76) a b (k + 1)) := fun k => by rw [vset_row, vrow_row, vrow_at, cpP_s]
  refine v_for (pc := 2) (65) (fun k => ([some (.ref 75), some (.int (nI a)), some (.int (nI b)), some (.int (nI k))], (vrow (vrow σ 76 (cpP (σ 76) a b k)) 81 f))) (fun k hk ih => ?_) ?_
  · show V x 2 [some (.ref 75), some (.int (nI a)), some (.int (nI b)), some (.int (nI k))] [] (vrow (vrow σ 76 (cpP (σ 76) a b k)) 81 f)
    have ih : V x 2 [some (.ref 75), some (.int (nI a)), some (.int (nI b)), some (.int (nI (k + 1)))] [] (vrow (vrow σ 76 (cpP (σ 76) a b (k + 1))) 81 f) := ih
    refine v_iload_4_3 G dX6_copies_2 ?_
    refine v_bipush (v := nI 65) G dX6_copies_3 (by decide) ?_
    refine v_icmp_ge (tgt := 30) G dX6_copies_5 rfl (fun h_5 => absurd h_5 (by exact nI_ge hk (by omega))) (fun h_5 => ?_)
    refine v_aload_4_0 G dX6_copies_8 ?_
    refine v_getR G vc_6 lk_X6_7 (fs_X6_0) dX6_copies_9 ?_
    refine v_iload_4_2 G dX6_copies_12 ?_
    refine v_iload_4_3 G dX6_copies_13 ?_
    refine v_iaddN G dX6_copies_14 ?_
    refine v_aload_4_0 G dX6_copies_15 ?_
    refine v_getR G vc_6 lk_X6_7 (fs_X6_0) dX6_copies_16 ?_
    refine v_iload_4_1 G dX6_copies_19 ?_
    refine v_iload_4_3 G dX6_copies_20 ?_
    refine v_iaddN G dX6_copies_21 ?_
    refine m_ialdN G (by decide) (as_X6_0) (by first | assumption | omega | exact oneB_in (by assumption) | exact wallB_in (by assumption) | exact oneB_m1 (by assumption) | decide) (by decide) dX6_copies_22 ?_
    rw [vrow_at, cpP_src hab hk]
    refine m_iastN G (by decide) (as_X6_0) (by first | assumption | omega | exact oneB_in (by assumption) | exact wallB_in (by assumption) | exact oneB_m1 (by assumption) | decide) (by decide) dX6_copies_23 ?_
    refine v_iincN_4_3 G dX6_copies_24 rfl ?_
    refine v_goto (tgt := 2) G dX6_copies_27 rfl ?_
    rw [hst]
    exact ih
  · show V x 2 [some (.ref 75), some (.int (nI a)), some (.int (nI b)), some (.int (nI 65))] [] (vrow (vrow σ 76 (cpP (σ 76) a b 65)) 81 f)
    refine v_iload_4_3 G dX6_copies_2 ?_
    refine v_bipush (v := nI 65) G dX6_copies_3 (by decide) ?_
    refine v_icmp_ge (tgt := 30) G dX6_copies_5 rfl (fun h_5 => ?_) (fun h_5 => absurd (by exact nI_le (Nat.le_refl _) (by omega)) h_5)
    exact v_vret G hQ dX6_copies_30 vDet.mk
/-- what a page keeps of its town when cells of doors are set -/
theorem pOK_set {σ : vW} {n m g i : Nat} {v : Int32} (h : pOK σ n m g) (hi : ¬ (g + 10 ≤ i ∧ i < g + 15)) (hj : ¬ (g + 25 ≤ i ∧ i < g + 44)) : pOK (vset σ 76 i v) n m g := by
  have e : ∀ j, j ≠ i → (vset σ 76 i v) 76 j = σ 76 j := fun j hj => by simp [vset, hj]
  refine ⟨by rw [vset_ne (by decide)]; exact h.1, ⟨by rw [e _ (by omega)]; exact h.2.1.1, h.2.1.2.1, fun w hw => ?_⟩, fun q hq => ?_⟩
  · have hm := h.2.1.2.1
    obtain ⟨a, b, ha, hb, ea, eb⟩ := h.2.1.2.2 w hw
    exact ⟨a, b, ha, hb, by rw [e _ (by omega)]; exact ea, by rw [e _ (by omega)]; exact eb⟩
  · obtain ⟨r, hr, er⟩ := h.2.2 q hq
    exact ⟨r, hr, by rw [e _ (by omega)]; exact er⟩
theorem pOK_fld {σ : vW} {n m g k : Nat} {v : Int32} (h : pOK σ n m g) (hk : k ≠ 1) : pOK (vset σ 75 k v) n m g := by
  have e : (vset σ 75 k v) 75 1 = σ 75 1 := by simp [vset, Ne.symm hk]
  have e2 : (vset σ 75 k v) 76 = σ 76 := vset_ne (by decide)
  refine ⟨by rw [e]; exact h.1, by rw [e2]; exact h.2.1, by rw [e2]; exact h.2.2⟩
theorem pOK_oth {σ : vW} {n m g r i : Nat} {v : Int32} (h : pOK σ n m g) (h1 : r ≠ 75) (h2 : r ≠ 76) : pOK (vset σ r i v) n m g := by
  have e : (vset σ r i v) 75 = σ 75 := vset_ne (Ne.symm h1)
  have e2 : (vset σ r i v) 76 = σ 76 := vset_ne (Ne.symm h2)
  refine ⟨by rw [e]; exact h.1, by rw [e2]; exact h.2.1, by rw [e2]; exact h.2.2⟩
theorem cpW_75 {σ : vW} {a b : Nat} : (cpW σ a b) 75 = σ 75 := vrow_ne (by decide)
theorem cpW_to {σ : vW} {a b i : Nat} (hi : i < 65) : (cpW σ a b) 76 (b + i) = σ 76 (a + i) := by
  rw [cpW, vrow_at, cpP, if_pos (by omega), show b + i - b = i by omega]
theorem cpW_off {σ : vW} {a b i : Nat} (hi : ¬ (b ≤ i ∧ i < b + 65)) : (cpW σ a b) 76 i = σ 76 i := by
  rw [cpW, vrow_at, cpP, if_neg hi]
theorem cpW_ne {σ : vW} {a b r : Nat} (h : r ≠ 76) : (cpW σ a b) r = σ r := vrow_ne h
theorem pOK_to {σ : vW} {n m a b : Nat} (h : pOK σ n m a) (hb : b ≤ 260) : pOK (cpW σ a b) n m b := by
  have e : ∀ i, i < 65 → (cpW σ a b) 76 (b + i) = σ 76 (a + i) := fun i hi => cpW_to hi
  refine ⟨⟨by rw [cpW_75]; exact h.1.1, h.1.2.1, hb⟩, ⟨by rw [e _ (by omega)]; exact h.2.1.1, h.2.1.2.1, fun w hw => ?_⟩, fun q hq => ?_⟩
  · have hm := h.2.1.2.1
    obtain ⟨x, y, hx, hy, ex, ey⟩ := h.2.1.2.2 w hw
    exact ⟨x, y, hx, hy, by rw [Nat.add_assoc, e _ (by omega), ← Nat.add_assoc]; exact ex, by rw [Nat.add_assoc, e _ (by omega), ← Nat.add_assoc]; exact ey⟩
  · obtain ⟨r, hr, er⟩ := h.2.2 q hq
    exact ⟨r, hr, by rw [Nat.add_assoc, e _ (by omega), ← Nat.add_assoc]; exact er⟩
theorem pOK_off {σ : vW} {n m g a b : Nat} (h : pOK σ n m g) (hb : g + 65 ≤ b ∨ b + 65 ≤ g) : pOK (cpW σ a b) n m g := by
  have e : ∀ i, g ≤ i → i < g + 65 → (cpW σ a b) 76 i = σ 76 i := fun i h1 h2 => cpW_off (by omega)
  refine ⟨by rw [cpW_75]; exact h.1, ⟨by rw [e _ (by omega) (by omega)]; exact h.2.1.1, h.2.1.2.1, fun w hw => ?_⟩, fun q hq => ?_⟩
  · have hm := h.2.1.2.1
    obtain ⟨x, y, hx, hy, ex, ey⟩ := h.2.1.2.2 w hw
    exact ⟨x, y, hx, hy, by rw [e _ (by omega) (by omega)]; exact ex, by rw [e _ (by omega) (by omega)]; exact ey⟩
  · obtain ⟨r, hr, er⟩ := h.2.2 q hq
    exact ⟨r, hr, by rw [e _ (by omega) (by omega)]; exact er⟩
/-- a door hung on a page, a wall filled -/
def mCan (R : Nat → Int32) (n g p : Nat) (w : Int32) : Bool := if mFree R g p = true then (if mDoor R n g w = -4 then true else false) else false
def mHgW (σ : vW) (n g p : Nat) (w : Int32) : vW := if mCan (σ 76) n g p w = true then vset σ 76 (g + 15 + p) (w + nI 1) else σ
set_option maxHeartbeats 4000000 in
theorem C_X6_hangsOn {σ : vW} {f : Nat → Int32} {n g p : Nat} {w : Int32} (hn : σ 75 1 = nI n) (hn5 : n ≤ 5) (hg : g ≤ 260) (hp5 : p < 5) : Ctr mX6_hangsOn 1 [.ref 75, .int (nI g), .int (nI p), .int w] (vrow σ 81 f) (vDet (some (.int (bI (mCan (σ 76) n g p w)))) (vrow (mHgW σ n g p w) 81 f)) := by
  refine Ctr.intro (by decide) (fun α => Nat.le_of_ble_eq_true rfl) (fun x G hQ => ?_)
  have G : vG x RX6 cX6_hangsOn 5 (some .boolean) 1 := G
  show V x 0 [some (.ref 75), some (.int (nI g)), some (.int (nI p)), some (.int w), none] [] (vrow σ 81 f)
  refine v_aload_5_0 G dX6_hangsOn_0 ?_
  refine v_iload_5_1 G dX6_hangsOn_1 ?_
  refine v_iload_5_2 G dX6_hangsOn_2 ?_
  refine v_cV2 G (C_X6_isFreeOn (by first | assumption | omega | exact oneB_in (by assumption) | exact wallB_in (by assumption) | exact oneB_m1 (by assumption) | decide) (by first | assumption | omega | exact oneB_in (by assumption) | exact wallB_in (by assumption) | exact oneB_m1 (by assumption) | decide)) (by decide) md_X6_isFreeOn in_X6_isFreeOn (rv_X6 rfl) ml_X6_175 (Nat.le_of_ble_eq_true rfl) dX6_hangsOn_3 ?_
  refine v_ifB_eq (tgt := 24) G dX6_hangsOn_6 rfl (fun h_6 => ?_) (fun h_6 => ?_)
  · refine v_iconst (v := nI 0) G dX6_hangsOn_24 (by decide) ?_
    refine v_istore_5_4 G dX6_hangsOn_25 rfl ?_
    refine v_iload_5_4 G dX6_hangsOn_27 ?_
    refine v_if_eq (tgt := 46) G dX6_hangsOn_29 rfl (fun h_29 => ?_) (fun h_29 => absurd (by decide) h_29)
    refine v_iload_5_4 G dX6_hangsOn_46 ?_
    exact v_zret G hQ dX6_hangsOn_48 (by first | exact Or.inl rfl | exact Or.inr rfl | exact bI_01 _ | assumption) (vDet.of (by simp only [mCan, bI, h_6, h_29, if_true, if_false, Bool.false_eq_true, reduceIte, ite_self] <;> try rfl) (by simp only [mHgW, mCan, h_6, h_29, if_true, if_false, Bool.false_eq_true, reduceIte, ite_self] <;> try rfl))
  · refine v_aload_5_0 G dX6_hangsOn_9 ?_
    refine v_iload_5_1 G dX6_hangsOn_10 ?_
    refine v_iload_5_3 G dX6_hangsOn_11 ?_
    refine v_cV2 G (C_X6_doorOn (by first | assumption | omega | exact oneB_in (by assumption) | exact wallB_in (by assumption) | exact oneB_m1 (by assumption) | decide) (by first | assumption | omega | exact oneB_in (by assumption) | exact wallB_in (by assumption) | exact oneB_m1 (by assumption) | decide) (by first | assumption | omega | exact oneB_in (by assumption) | exact wallB_in (by assumption) | exact oneB_m1 (by assumption) | decide)) (by decide) md_X6_doorOn in_X6_doorOn (rv_X6 rfl) ml_X6_152 (Nat.le_of_ble_eq_true rfl) dX6_hangsOn_12 ?_
    refine v_bipush (v := (-4)) G dX6_hangsOn_15 (by decide) ?_
    refine v_icmp_ne (tgt := 24) G dX6_hangsOn_17 rfl (fun h_17 => ?_) (fun h_17 => ?_)
    · refine v_iconst (v := nI 0) G dX6_hangsOn_24 (by decide) ?_
      refine v_istore_5_4 G dX6_hangsOn_25 rfl ?_
      refine v_iload_5_4 G dX6_hangsOn_27 ?_
      refine v_if_eq (tgt := 46) G dX6_hangsOn_29 rfl (fun h_29 => ?_) (fun h_29 => absurd (by decide) h_29)
      refine v_iload_5_4 G dX6_hangsOn_46 ?_
      exact v_zret G hQ dX6_hangsOn_48 (by first | exact Or.inl rfl | exact Or.inr rfl | exact bI_01 _ | assumption) (vDet.of (by simp only [mCan, bI, h_6, h_17, h_29, if_true, if_false, Bool.false_eq_true, reduceIte, ite_self] <;> try rfl) (by simp only [mHgW, mCan, h_6, h_17, h_29, if_true, if_false, Bool.false_eq_true, reduceIte, ite_self] <;> try rfl))
    · refine v_iconst (v := nI 1) G dX6_hangsOn_20 (by decide) ?_
      refine v_goto (tgt := 25) G dX6_hangsOn_21 rfl ?_
      refine v_istore_5_4 G dX6_hangsOn_25 rfl ?_
      refine v_iload_5_4 G dX6_hangsOn_27 ?_
      refine v_if_eq (tgt := 46) G dX6_hangsOn_29 rfl (fun h_29 => absurd h_29 (by decide)) (fun h_29 => ?_)
      refine v_aload_5_0 G dX6_hangsOn_32 ?_
      refine v_getR G vc_6 lk_X6_7 (fs_X6_0) dX6_hangsOn_33 ?_
      refine v_iload_5_1 G dX6_hangsOn_36 ?_
      refine v_bipush (v := nI 15) G dX6_hangsOn_37 (by decide) ?_
      refine v_iaddN G dX6_hangsOn_39 ?_
      refine v_iload_5_2 G dX6_hangsOn_40 ?_
      refine v_iaddN G dX6_hangsOn_41 ?_
      refine v_iload_5_3 G dX6_hangsOn_42 ?_
      refine v_iconst (v := nI 1) G dX6_hangsOn_43 (by decide) ?_
      refine v_iadd G dX6_hangsOn_44 ?_
      refine m_iastN G (by decide) (as_X6_0) (by first | assumption | omega | exact oneB_in (by assumption) | exact wallB_in (by assumption) | exact oneB_m1 (by assumption) | decide) (by decide) dX6_hangsOn_45 ?_
      refine v_iload_5_4 G dX6_hangsOn_46 ?_
      exact v_zret G hQ dX6_hangsOn_48 (by first | exact Or.inl rfl | exact Or.inr rfl | exact bI_01 _ | assumption) (vDet.of (by simp only [mCan, bI, h_6, h_17, h_29, if_true, if_false, Bool.false_eq_true, reduceIte, ite_self] <;> try rfl) (by simp only [mHgW, mCan, h_6, h_17, h_29, if_true, if_false, Bool.false_eq_true, reduceIte, ite_self] <;> try rfl))
def mFlW (σ : vW) (n g : Nat) (w : Int32) : vW := if mDoor (σ 76) n g w = -4 then σ else vset (vset σ 76 (g + 15 + (mDoor (σ 76) n g w).toNatClampNeg) (nI 0)) 76 (g + 20 + (mDoor (σ 76) n g w).toNatClampNeg) (nI 1)
set_option maxHeartbeats 4000000 in
theorem C_X6_fillsOn {σ : vW} {f : Nat → Int32} {n g : Nat} {w : Int32} (hn : σ 75 1 = nI n) (hn5 : n ≤ 5) (hg : g ≤ 260) : Ctr mX6_fillsOn 1 [.ref 75, .int (nI g), .int w] (vrow σ 81 f) (vDet (some (.int (mDoor (σ 76) n g w))) (vrow (mFlW σ n g w) 81 f)) := by
  refine Ctr.intro (by decide) (fun α => Nat.le_of_ble_eq_true rfl) (fun x G hQ => ?_)
  have G : vG x RX6 cX6_fillsOn 4 (some .int) 1 := G
  show V x 0 [some (.ref 75), some (.int (nI g)), some (.int w), none] [] (vrow σ 81 f)
  rcases mDoor_cases (σ 76) n g w with e | ⟨p, hp, e⟩
  · rw [mFlW, if_pos e, e] at hQ
    refine v_aload_4_0 G dX6_fillsOn_0 ?_
    refine v_iload_4_1 G dX6_fillsOn_1 ?_
    refine v_iload_4_2 G dX6_fillsOn_2 ?_
    refine v_cV2 G (C_X6_doorOn (by first | assumption | omega | exact oneB_in (by assumption) | exact wallB_in (by assumption) | exact oneB_m1 (by assumption) | decide) (by first | assumption | omega | exact oneB_in (by assumption) | exact wallB_in (by assumption) | exact oneB_m1 (by assumption) | decide) (by first | assumption | omega | exact oneB_in (by assumption) | exact wallB_in (by assumption) | exact oneB_m1 (by assumption) | decide)) (by decide) md_X6_doorOn in_X6_doorOn (rv_X6 rfl) ml_X6_152 (Nat.le_of_ble_eq_true rfl) dX6_fillsOn_3 ?_
    rw [e]
    refine v_istore_4_3 G dX6_fillsOn_6 rfl ?_
    refine v_iload_4_3 G dX6_fillsOn_7 ?_
    refine v_bipush (v := (-4)) G dX6_fillsOn_8 (by decide) ?_
    refine v_icmp_eq (tgt := 37) G dX6_fillsOn_10 rfl (fun h_10 => ?_) (fun h_10 => absurd rfl h_10)
    refine v_iload_4_3 G dX6_fillsOn_37 ?_
    exact v_iret G hQ dX6_fillsOn_38 vDet.mk
  · have hc : (nI p).toNatClampNeg = p := nI_clamp (by omega)
    rw [mFlW, if_neg (show ¬ mDoor (σ 76) n g w = -4 by rw [e]; exact nI_nm4 (by omega)), e, hc] at hQ
    refine v_aload_4_0 G dX6_fillsOn_0 ?_
    refine v_iload_4_1 G dX6_fillsOn_1 ?_
    refine v_iload_4_2 G dX6_fillsOn_2 ?_
    refine v_cV2 G (C_X6_doorOn (by first | assumption | omega | exact oneB_in (by assumption) | exact wallB_in (by assumption) | exact oneB_m1 (by assumption) | decide) (by first | assumption | omega | exact oneB_in (by assumption) | exact wallB_in (by assumption) | exact oneB_m1 (by assumption) | decide) (by first | assumption | omega | exact oneB_in (by assumption) | exact wallB_in (by assumption) | exact oneB_m1 (by assumption) | decide)) (by decide) md_X6_doorOn in_X6_doorOn (rv_X6 rfl) ml_X6_152 (Nat.le_of_ble_eq_true rfl) dX6_fillsOn_3 ?_
    rw [e]
    refine v_istore_4_3 G dX6_fillsOn_6 rfl ?_
    refine v_iload_4_3 G dX6_fillsOn_7 ?_
    refine v_bipush (v := (-4)) G dX6_fillsOn_8 (by decide) ?_
    refine v_icmp_eq (tgt := 37) G dX6_fillsOn_10 rfl (fun h_10 => absurd h_10 (nI_nm4 (by omega))) (fun h_10 => ?_)
    refine v_aload_4_0 G dX6_fillsOn_13 ?_
    refine v_getR G vc_6 lk_X6_7 (fs_X6_0) dX6_fillsOn_14 ?_
    refine v_iload_4_1 G dX6_fillsOn_17 ?_
    refine v_bipush (v := nI 15) G dX6_fillsOn_18 (by decide) ?_
    refine v_iaddN G dX6_fillsOn_20 ?_
    refine v_iload_4_3 G dX6_fillsOn_21 ?_
    refine v_iaddN G dX6_fillsOn_22 ?_
    refine v_iconst (v := nI 0) G dX6_fillsOn_23 (by decide) ?_
    refine m_iastN G (by decide) (as_X6_0) (by first | assumption | omega | exact oneB_in (by assumption) | exact wallB_in (by assumption) | exact oneB_m1 (by assumption) | decide) (by decide) dX6_fillsOn_24 ?_
    refine v_aload_4_0 G dX6_fillsOn_25 ?_
    refine v_getR G vc_6 lk_X6_7 (fs_X6_0) dX6_fillsOn_26 ?_
    refine v_iload_4_1 G dX6_fillsOn_29 ?_
    refine v_bipush (v := nI 20) G dX6_fillsOn_30 (by decide) ?_
    refine v_iaddN G dX6_fillsOn_32 ?_
    refine v_iload_4_3 G dX6_fillsOn_33 ?_
    refine v_iaddN G dX6_fillsOn_34 ?_
    refine v_iconst (v := nI 1) G dX6_fillsOn_35 (by decide) ?_
    refine m_iastN G (by decide) (as_X6_0) (by first | assumption | omega | exact oneB_in (by assumption) | exact wallB_in (by assumption) | exact oneB_m1 (by assumption) | decide) (by decide) dX6_fillsOn_36 ?_
    refine v_iload_4_3 G dX6_fillsOn_37 ?_
    exact v_iret G hQ dX6_fillsOn_38 vDet.mk
set_option maxHeartbeats 4000000 in
theorem C_X6_fill {σ : vW} {f : Nat → Int32} {n m : Nat} {w : Int32} (hn : σ 75 1 = nI n) (hn5 : n ≤ 5) (hm : σ 76 25 = nI m) (hm9 : m ≤ 9) : Ctr mX6_fill 2 [.ref 75, .int w] (vrow σ 81 f) (vDet (some (.int (if inZ w m = true then (if mDoor (σ 76) n 0 w = -4 then -2 else mDoor (σ 76) n 0 w) else -1))) (vrow (if inZ w m = true then mFlW σ n 0 w else σ) 81 f)) := by
  refine Ctr.intro (by decide) (fun α => Nat.le_of_ble_eq_true rfl) (fun x G hQ => ?_)
  have G : vG x RX6 cX6_fill 3 (some .int) 2 := G
  show V x 0 [some (.ref 75), some (.int w), none] [] (vrow σ 81 f)
  refine v_aload_3_0 G dX6_fill_0 ?_
  refine v_iload_3_1 G dX6_fill_1 ?_
  refine v_cV1 G (C_X6_isWall (by first | assumption | omega | exact oneB_in (by assumption) | exact wallB_in (by assumption) | exact oneB_m1 (by assumption) | decide) (by first | assumption | omega | exact oneB_in (by assumption) | exact wallB_in (by assumption) | exact oneB_m1 (by assumption) | decide)) (by decide) md_X6_isWall in_X6_isWall (rv_X6 rfl) ml_X6_192 (Nat.le_of_ble_eq_true rfl) dX6_fill_2 ?_
  refine v_ifB_ne (tgt := 10) G dX6_fill_5 rfl (fun h_5 => ?_) (fun h_5 => ?_)
  · refine v_aload_3_0 G dX6_fill_10 ?_
    refine v_iconst (v := nI 0) G dX6_fill_11 (by decide) ?_
    refine v_iload_3_1 G dX6_fill_12 ?_
    refine v_cV2 G (C_X6_fillsOn (g := 0) hn hn5 (by omega)) (by decide) md_X6_fillsOn in_X6_fillsOn (rv_X6 rfl) ml_X6_214 (Nat.le_of_ble_eq_true rfl) dX6_fill_13 ?_
    refine v_istore_3_2 G dX6_fill_16 rfl ?_
    refine v_iload_3_2 G dX6_fill_17 ?_
    refine v_bipush (v := (-4)) G dX6_fill_18 (by decide) ?_
    refine v_icmp_ne (tgt := 28) G dX6_fill_20 rfl (fun h_20 => ?_) (fun h_20 => ?_)
    · refine v_iload_3_2 G dX6_fill_28 ?_
      exact v_iret G hQ dX6_fill_29 (vDet.of (by simp only [h_5, h_20, bI, h_5, h_20, if_true, if_false, Bool.false_eq_true, reduceIte, ite_self] <;> try rfl) (by simp only [h_5, h_20, h_5, h_20, if_true, if_false, Bool.false_eq_true, reduceIte, ite_self] <;> try rfl))
    · refine v_bipush (v := (-2)) G dX6_fill_23 (by decide) ?_
      refine v_goto (tgt := 29) G dX6_fill_25 rfl ?_
      exact v_iret G hQ dX6_fill_29 (vDet.of (by simp only [h_5, h_20, bI, h_5, h_20, if_true, if_false, Bool.false_eq_true, reduceIte, ite_self] <;> try rfl) (by simp only [h_5, h_20, h_5, h_20, if_true, if_false, Bool.false_eq_true, reduceIte, ite_self] <;> try rfl))
  · refine v_iconst (v := (-1)) G dX6_fill_8 (by decide) ?_
    exact v_iret G hQ dX6_fill_9 (vDet.of (by simp only [h_5, bI, h_5, if_true, if_false, Bool.false_eq_true, reduceIte, ite_self] <;> try rfl) (by simp only [h_5, h_5, if_true, if_false, Bool.false_eq_true, reduceIte, ite_self] <;> try rfl))
