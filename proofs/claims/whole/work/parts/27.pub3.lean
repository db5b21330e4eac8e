/-! DoorTown's public calls: what is best, by the plan -/
theorem cpy5_ne {σ : vW} {a b n c : Nat} (h : c ≠ b) : (cpy5 σ a b n) c = σ c := vrow_ne h
theorem cpy5_at {σ : vW} {a b n : Nat} : (cpy5 σ a b n) b = va_cpy (σ a) (σ b) 0 0 n := vrow_at _ _ _
theorem va_cpy0 {f g : Nat → Int32} {n k : Nat} (h : k < n) : va_cpy f g 0 0 n k = f k := by
  simp only [va_cpy]
  rw [if_pos (by omega)]
  congr 1
  omega
theorem becW_ne {σ : vW} {t o b : Nat} (h : b < t ∨ t + 10 < b) : (becW σ t o) b = σ b := by
  unfold becW
  rw [cpy5_ne (by omega), cpy5_ne (by omega), cpy5_ne (by omega), cpy5_ne (by omega), cpy5_ne (by omega), cpy5_ne (by omega), cpy5_ne (by omega), cpy5_ne (by omega), cpy5_ne (by omega), cpy5_ne (by omega), vset_ne (by omega), vset_ne (by omega), vset_ne (by omega)]
theorem becW_t {σ : vW} {t o : Nat} : (becW σ t o) t = (vset (vset (vset σ t 10 (σ o 10)) t 11 (σ o 11)) t 12 (σ o 12)) t := by
  unfold becW
  rw [cpy5_ne (by omega), cpy5_ne (by omega), cpy5_ne (by omega), cpy5_ne (by omega), cpy5_ne (by omega), cpy5_ne (by omega), cpy5_ne (by omega), cpy5_ne (by omega), cpy5_ne (by omega), cpy5_ne (by omega)]
theorem becW_10 {σ : vW} {t o : Nat} : (becW σ t o) t 10 = σ o 10 := by rw [becW_t]; simp [vset]
theorem becW_11 {σ : vW} {t o : Nat} : (becW σ t o) t 11 = σ o 11 := by rw [becW_t]; simp [vset]
theorem becW_12 {σ : vW} {t o : Nat} : (becW σ t o) t 12 = σ o 12 := by rw [becW_t]; simp [vset]
theorem takeW_ne {σ : vW} {t b : Nat} {w th : Int32} (h1 : b ≠ t + 4) (h2 : b ≠ t + 7) : (takeW σ t w th) b = σ b := by
  unfold takeW
  split
  · rw [vset_ne h1, vset_ne h2]
  · rfl
theorem mv1_ne {σ : vW} {t b : Nat} {p : Int32} (h1 : b ≠ t + 4) (h2 : b ≠ t + 7) : (mv1 σ t p) b = σ b := by rw [mv1, vset_ne h1, takeW_ne h1 h2]
theorem mvW_ne {σ : vW} {t b : Nat} {p w : Int32} (h1 : b ≠ t + 4) (h2 : b ≠ t + 7) : (mvW σ t p w) b = σ b := by
  unfold mvW
  split
  · split
    · rw [hangW_ne h1 h2, mv1_ne h1 h2]
    · exact mv1_ne h1 h2
  · rfl
theorem drW_ne {σ : vW} {t b n m : Nat} {g : Int32} (h1 : b ≠ t + 4) (h2 : b ≠ t + 7) : (drW σ t n m g) b = σ b := by
  unfold drW
  split
  · exact hangW_ne h1 h2
  · exact takeW_ne h1 h2
def firstMs (b : Int32) (n : Nat) : Int32 := if fstP (fun i => !bitB b (nI i)) n 0 < n then nI (fstP (fun i => !bitB b (nI i)) n 0) else -4
set_option maxHeartbeats 4000000 in
theorem C_X5_firstMissing {σ : vW} {b : Int32} {n : Nat} (hn : n < 1000) : Ctr mX5_firstMissing 1 [.int b, .int (nI n)] σ (vDet (some (.int (firstMs b n))) σ) := by
  refine Ctr.intro (by decide) (fun α => Nat.le_of_ble_eq_true rfl) (fun x G hQ => ?_)
  have G : vG x RX5 cX5_firstMissing 3 (some .int) 1 := G
  show V x 0 [some (.int b), some (.int (nI n)), none] [] σ
  refine v_iconst (v := nI 0) G dX5_firstMissing_0 (by decide) ?_
  refine v_istore_3_2 G dX5_firstMissing_1 rfl ?_
  refine v_forP (pc := 2) (n) (fun k => fstP (fun i => !bitB b (nI i)) n 0 = fstP (fun i => !bitB b (nI i)) (n - k) k) (fun k => ([some (.int b), some (.int (nI n)), some (.int (nI k))], σ)) rfl (fun k hk hp ih => ?_) (fun hp => ?_)
  · show V x 2 [some (.int b), some (.int (nI n)), some (.int (nI k))] [] σ
    have ih : (fstP (fun i => !bitB b (nI i)) n 0 = fstP (fun i => !bitB b (nI i)) (n - (k + 1)) (k + 1)) → V x 2 [some (.int b), some (.int (nI n)), some (.int (nI (k + 1)))] [] σ := ih
    have hp : fstP (fun i => !bitB b (nI i)) n 0 = fstP (fun i => !bitB b (nI i)) (n - k) k := hp
    rw [show n - k = (n - (k + 1)) + 1 by omega, fstP] at hp
    refine v_iload_3_2 G dX5_firstMissing_2 ?_
    refine v_iload_3_1 G dX5_firstMissing_3 ?_
    refine v_icmp_ge (tgt := 23) G dX5_firstMissing_4 rfl (fun h_4 => absurd h_4 (by exact nI_ge hk (by omega))) (fun h_4 => ?_)
    refine v_iload_3_0 G dX5_firstMissing_7 ?_
    refine v_iload_3_2 G dX5_firstMissing_8 ?_
    refine v_cS2 G (C_X5_hasBit) (by decide) md_X5_hasBit st_X5_hasBit ml_X5_292 (Nat.le_of_ble_eq_true rfl) dX5_firstMissing_9 ?_
    refine v_ifB_ne (tgt := 17) G dX5_firstMissing_12 rfl (fun h_12 => ?_) (fun h_12 => ?_)
    · refine v_iincN_3_2 G dX5_firstMissing_17 rfl ?_
      refine v_goto (tgt := 2) G dX5_firstMissing_20 rfl ?_
      refine ih ?_
      rw [hp, if_neg]
      rw [h_12]
      decide
    · refine v_iload_3_2 G dX5_firstMissing_15 ?_
      exact v_iret G hQ dX5_firstMissing_16 (vDet.of (by first | rw [firstMs, hp, if_pos (show (!bitB b (nI k)) = true by rw [h_12]; rfl), if_pos hk] | rw [firstMs, hp, Nat.sub_self, fstP, if_neg (Nat.lt_irrefl n)]) rfl)
  · show V x 2 [some (.int b), some (.int (nI n)), some (.int (nI n))] [] σ
    have hp : fstP (fun i => !bitB b (nI i)) n 0 = fstP (fun i => !bitB b (nI i)) (n - n) n := hp
    refine v_iload_3_2 G dX5_firstMissing_2 ?_
    refine v_iload_3_1 G dX5_firstMissing_3 ?_
    refine v_icmp_ge (tgt := 23) G dX5_firstMissing_4 rfl (fun h_4 => ?_) (fun h_4 => absurd (by exact nI_le (Nat.le_refl _) (by omega)) h_4)
    refine v_bipush (v := (-4)) G dX5_firstMissing_23 (by decide) ?_
    exact v_iret G hQ dX5_firstMissing_25 (vDet.of (by first | rw [firstMs, hp, if_pos (show (!bitB b (nI k)) = true by rw [h_12]; rfl), if_pos hk] | rw [firstMs, hp, Nat.sub_self, fstP, if_neg (Nat.lt_irrefl n)]) rfl)
def runsR (σ : vW) (n m K : Nat) (w : Int32) : Int32 := if upToB w (nI 3) = true then (if w = nI 0 then nI (bcN (fpC (becW σ 32 21) 32 (-4) K)) else if w = nI 1 then firstMs (fpC (becW σ 32 21) 32 (-4) K) K else if w = nI 2 then allTo (fpW (becW σ 32 21) 32 (-4) K) 32 m n else nI (bcN (hungTo (fpW (becW σ 32 21) 32 (-4) K) 32 m))) else -1
def trialP (σ : vW) (K : Nat) (lo : Int32) : vW := fpW (becW σ 32 21) 32 lo K
theorem trialP_s {σ : vW} {K k : Nat} {lo : Int32} : (trialP σ K lo) 32 k = (becW σ 32 21) 32 k := by rw [trialP, fpW_ne (by decide) (by decide)]
theorem trialP_ne {σ : vW} {K b : Nat} {lo : Int32} (h : b < 32 ∨ 42 < b) : (trialP σ K lo) b = σ b := by rw [trialP, fpW_ne (by omega) (by omega), becW_ne (by omega)]
set_option maxHeartbeats 4000000 in
theorem C_X5_runs {σ : vW} {n m K : Nat} {w : Int32} (hn : σ 21 10 = nI n) (hn5 : n ≤ 5) (hm : σ 21 11 = nI m) (hm9 : m ≤ 9) (hK : σ 21 12 = nI K) (hK6 : K ≤ 6) : Ctr mX5_runs 5 [.ref 0, .int w] σ (vDet (some (.int (runsR σ n m K w))) (if upToB w (nI 3) = true then trialP σ K (-4) else σ)) := by
  have hT := TB21
  have hR := TB32
  have hK' : (becW σ 32 21) 32 12 = nI K := by rw [becW_12]; exact hK
  have hn' : (trialP σ K (-4)) 32 10 = nI n := by rw [trialP_s, becW_10]; exact hn
  have hm' : (trialP σ K (-4)) 32 11 = nI m := by rw [trialP_s, becW_11]; exact hm
  have ht : (trialP σ K (-4)) 21 12 = nI K := by rw [trialP_ne (by decide)]; exact hK
  refine Ctr.intro (by decide) (fun α => Nat.le_of_ble_eq_true rfl) (fun x G hQ => ?_)
  have G : vG x RX5 cX5_runs 3 (some .int) 5 := G
  show V x 0 [some (.ref 0), some (.int w), none] [] σ
  refine v_iload_3_1 G dX5_runs_0 ?_
  refine v_iconst (v := nI 3) G dX5_runs_1 (by decide) ?_
  refine v_cS2 G (C_X5_isUpTo) (by decide) md_X5_isUpTo st_X5_isUpTo ml_X5_52 (Nat.le_of_ble_eq_true rfl) dX5_runs_2 ?_
  refine v_ifB_ne (tgt := 10) G dX5_runs_5 rfl (fun h_5 => ?_) (fun h_5 => ?_)
  · refine v_aload_3_0 G dX5_runs_10 ?_
    refine v_getR G vc_5 lk_X5_23 (fs_X5_2) dX5_runs_11 ?_
    refine v_aload_3_0 G dX5_runs_14 ?_
    refine v_getR G vc_5 lk_X5_19 (fs_X5_1) dX5_runs_15 ?_
    refine v_cV1v G (C_X4_become hR hT (by decide)) (by decide) md_X4_become in_X4_become (rv_X4 (by first | assumption | exact imgP_TB | exact shP_SB) rfl) ml_X5_85 (Nat.le_of_ble_eq_true rfl) dX5_runs_18 ?_
    refine v_aload_3_0 G dX5_runs_21 ?_
    refine v_getR G vc_5 lk_X5_23 (fs_X5_2) dX5_runs_22 ?_
    refine v_bipush (v := (-4)) G dX5_runs_25 (by decide) ?_
    refine v_cV1 G (C_X4_followPlan hR hK' hK6) (by decide) md_X4_followPlan in_X4_followPlan (rv_X4 (by first | assumption | exact imgP_TB | exact shP_SB) rfl) ml_X5_201 (Nat.le_of_ble_eq_true rfl) dX5_runs_27 ?_
    rw [show fpW (becW σ 32 21) 32 (-4) K = trialP σ K (-4) from rfl]
    refine v_istore_3_2 G dX5_runs_30 rfl ?_
    refine v_iload_3_1 G dX5_runs_31 ?_
    refine v_tabC (i := 0) (tgt := 60) G dX5_runs_32 rfl rfl (by decide) (by decide) (fun h_32_0 => ?_) (fun h_32_0 => ?_)
    · refine v_iload_3_2 G dX5_runs_60 ?_
      refine v_cS1 G (C_bitCount) (by decide) md_J6_bitCount_0f7a4 st_J6_bitCount_0f7a4 ml_X5_105 (Nat.le_of_ble_eq_true rfl) dX5_runs_61 ?_
      exact v_iret G hQ dX5_runs_64 (vDet.of (by simp only [runsR, trialP, bI, h_5, h_32_0, if_true, if_false, Bool.false_eq_true, reduceIte, ite_self] <;> try rfl) (by simp only [trialP, h_5, h_32_0, if_true, if_false, Bool.false_eq_true, reduceIte, ite_self] <;> try rfl))
    refine v_tabC (i := 1) (tgt := 65) G dX5_runs_32 rfl rfl (by decide) (by decide) (fun h_32_1 => ?_) (fun h_32_1 => ?_)
    · refine v_iload_3_2 G dX5_runs_65 ?_
      refine v_aload_3_0 G dX5_runs_66 ?_
      refine v_getR G vc_5 lk_X5_19 (fs_X5_1) dX5_runs_67 ?_
      refine v_getI G vc_4 lk_X5_111 (fs_X4_12 (by first | assumption | exact imgP_TB)) dX5_runs_70 ?_
      rw [ht]
      refine v_cS2 G (C_X5_firstMissing (by omega)) (by decide) md_X5_firstMissing st_X5_firstMissing ml_X5_204 (Nat.le_of_ble_eq_true rfl) dX5_runs_73 ?_
      exact v_iret G hQ dX5_runs_76 (vDet.of (by simp only [runsR, trialP, bI, h_5, h_32_0, h_32_1, if_true, if_false, Bool.false_eq_true, reduceIte, ite_self] <;> try rfl) (by simp only [trialP, h_5, h_32_0, h_32_1, if_true, if_false, Bool.false_eq_true, reduceIte, ite_self] <;> try rfl))
    refine v_tabC (i := 2) (tgt := 77) G dX5_runs_32 rfl rfl (by decide) (by decide) (fun h_32_2 => ?_) (fun h_32_2 => ?_)
    · refine v_aload_3_0 G dX5_runs_77 ?_
      refine v_getR G vc_5 lk_X5_23 (fs_X5_2) dX5_runs_78 ?_
      refine v_cV0 G (C_X4_reachedByAll hR hn' hn5 hm' hm9) (by decide) md_X4_reachedByAll in_X4_reachedByAll (rv_X4 (by first | assumption | exact imgP_TB | exact shP_SB) rfl) ml_X5_207 (Nat.le_of_ble_eq_true rfl) dX5_runs_81 ?_
      exact v_iret G hQ dX5_runs_84 (vDet.of (by simp only [runsR, trialP, bI, h_5, h_32_0, h_32_1, h_32_2, if_true, if_false, Bool.false_eq_true, reduceIte, ite_self] <;> try rfl) (by simp only [trialP, h_5, h_32_0, h_32_1, h_32_2, if_true, if_false, Bool.false_eq_true, reduceIte, ite_self] <;> try rfl))
    refine v_tabE (n := 3) (tgt := 85) G dX5_runs_32 (fun i hi => by rcases (show i = 0 ∨ i = 1 ∨ i = 2 by omega) with rfl | rfl | rfl <;> assumption) rfl rfl (by decide) ?_
    refine v_aload_3_0 G dX5_runs_85 ?_
    refine v_getR G vc_5 lk_X5_23 (fs_X5_2) dX5_runs_86 ?_
    refine v_cV0 G (C_X4_hungWalls hR hm' hm9) (by decide) md_X4_hungWalls in_X4_hungWalls (rv_X4 (by first | assumption | exact imgP_TB | exact shP_SB) rfl) ml_X5_101 (Nat.le_of_ble_eq_true rfl) dX5_runs_89 ?_
    refine v_cS1 G (C_bitCount) (by decide) md_J6_bitCount_0f7a4 st_J6_bitCount_0f7a4 ml_X5_105 (Nat.le_of_ble_eq_true rfl) dX5_runs_92 ?_
    exact v_iret G hQ dX5_runs_95 (vDet.of (by simp only [runsR, trialP, bI, h_5, h_32_0, h_32_1, h_32_2, if_true, if_false, Bool.false_eq_true, reduceIte, ite_self] <;> try rfl) (by simp only [trialP, h_5, h_32_0, h_32_1, h_32_2, if_true, if_false, Bool.false_eq_true, reduceIte, ite_self] <;> try rfl))
  · refine v_iconst (v := (-1)) G dX5_runs_8 (by decide) ?_
    exact v_iret G hQ dX5_runs_9 (vDet.of (by simp only [runsR, trialP, bI, h_5, if_true, if_false, Bool.false_eq_true, reduceIte, ite_self] <;> try rfl) (by simp only [trialP, h_5, if_true, if_false, Bool.false_eq_true, reduceIte, ite_self] <;> try rfl))
def aheadR (σ : vW) (m K : Nat) (p : Int32) : Int32 := if oneB (σ 21 10) p = true then reachW (trialP σ K (-4)) 32 m p.toNatClampNeg else -1
set_option maxHeartbeats 4000000 in
theorem C_X5_ahead {σ : vW} {n m K : Nat} {p : Int32} (hn : σ 21 10 = nI n) (hn5 : n ≤ 5) (hm : σ 21 11 = nI m) (hm9 : m ≤ 9) (hK : σ 21 12 = nI K) (hK6 : K ≤ 6) : Ctr mX5_ahead 4 [.ref 0, .int p] σ (vDet (some (.int (aheadR σ m K p))) (if oneB (σ 21 10) p = true then trialP σ K (-4) else σ)) := by
  have hT := TB21
  have hR := TB32
  have hK' : (becW σ 32 21) 32 12 = nI K := by rw [becW_12]; exact hK
  have hm' : (trialP σ K (-4)) 32 11 = nI m := by rw [trialP_s, becW_11]; exact hm
  refine Ctr.intro (by decide) (fun α => Nat.le_of_ble_eq_true rfl) (fun x G hQ => ?_)
  have G : vG x RX5 cX5_ahead 2 (some .int) 4 := G
  show V x 0 [some (.ref 0), some (.int p)] [] σ
  refine v_aload_2_0 G dX5_ahead_0 ?_
  refine v_getR G vc_5 lk_X5_19 (fs_X5_1) dX5_ahead_1 ?_
  refine v_iload_2_1 G dX5_ahead_4 ?_
  refine v_cV1 G (C_X4_isOne (by first | assumption | omega | exact oneB_in (by assumption) | exact wallB_in (by assumption) | exact oneB_m1 (by assumption) | decide)) (by decide) md_X4_isOne in_X4_isOne (rv_X4 (by first | assumption | exact imgP_TB | exact shP_SB) rfl) ml_X5_120 (Nat.le_of_ble_eq_true rfl) dX5_ahead_5 ?_
  refine v_ifB_ne (tgt := 13) G dX5_ahead_8 rfl (fun h_8 => ?_) (fun h_8 => ?_)
  · obtain ⟨k, hk, rfl⟩ := oneB_ex hn hn5 h_8
    have ck : (nI k).toNatClampNeg = k := nI_clamp (by omega)
    refine v_aload_2_0 G dX5_ahead_13 ?_
    refine v_getR G vc_5 lk_X5_23 (fs_X5_2) dX5_ahead_14 ?_
    refine v_aload_2_0 G dX5_ahead_17 ?_
    refine v_getR G vc_5 lk_X5_19 (fs_X5_1) dX5_ahead_18 ?_
    refine v_cV1v G (C_X4_become hR hT (by decide)) (by decide) md_X4_become in_X4_become (rv_X4 (by first | assumption | exact imgP_TB | exact shP_SB) rfl) ml_X5_85 (Nat.le_of_ble_eq_true rfl) dX5_ahead_21 ?_
    refine v_aload_2_0 G dX5_ahead_24 ?_
    refine v_getR G vc_5 lk_X5_23 (fs_X5_2) dX5_ahead_25 ?_
    refine v_bipush (v := (-4)) G dX5_ahead_28 (by decide) ?_
    refine v_cV1 G (C_X4_followPlan hR hK' hK6) (by decide) md_X4_followPlan in_X4_followPlan (rv_X4 (by first | assumption | exact imgP_TB | exact shP_SB) rfl) ml_X5_201 (Nat.le_of_ble_eq_true rfl) dX5_ahead_30 ?_
    rw [show fpW (becW σ 32 21) 32 (-4) K = trialP σ K (-4) from rfl]
    refine v_pop G dX5_ahead_33 rfl ?_
    refine v_aload_2_0 G dX5_ahead_34 ?_
    refine v_getR G vc_5 lk_X5_23 (fs_X5_2) dX5_ahead_35 ?_
    refine v_iload_2_1 G dX5_ahead_38 ?_
    refine v_cV1 G (C_X4_reached hR (by omega) hm' hm9) (by decide) md_X4_reached in_X4_reached (rv_X4 (by first | assumption | exact imgP_TB | exact shP_SB) rfl) ml_X5_135 (Nat.le_of_ble_eq_true rfl) dX5_ahead_39 ?_
    exact v_iret G hQ dX5_ahead_42 (vDet.of (by simp only [aheadR, bI, h_8, ck, if_true, if_false, Bool.false_eq_true, reduceIte, ite_self] <;> try rfl) (by simp only [trialP, h_8, ck, if_true, if_false, Bool.false_eq_true, reduceIte, ite_self] <;> try rfl))
  · refine v_iconst (v := (-1)) G dX5_ahead_11 (by decide) ?_
    exact v_iret G hQ dX5_ahead_12 (vDet.of (by simp only [aheadR, bI, h_8, if_true, if_false, Bool.false_eq_true, reduceIte, ite_self] <;> try rfl) (by simp only [trialP, h_8, if_true, if_false, Bool.false_eq_true, reduceIte, ite_self] <;> try rfl))
/-- the least of f 0 .. f (k - 1) that is 0 or more, below v0; where -/
def frV (f : Nat → Int32) (v0 : Int32) : Nat → Int32
  | 0 => v0
  | k + 1 => if f k < 0 then frV f v0 k else if frV f v0 k ≤ f k then frV f v0 k else f k
def frA (f : Nat → Int32) (enc : Nat → Nat) (a0 v0 : Int32) : Nat → Int32
  | 0 => a0
  | k + 1 => if f k < 0 then frA f enc a0 v0 k else if frV f v0 k ≤ f k then frA f enc a0 v0 k else nI (enc k)
def askd (a v w : Int32) : Int32 := if a = -4 then a else if w = 0 then a else v
def pr1Ok (σ : vW) (p r w : Int32) : Bool := if oneB (σ 21 10) p = true then (if roomB r = true then (if upToB w (nI 1) = true then true else false) else false) else false
def bestR (σ : vW) (m : Nat) (p r w : Int32) : Int32 := if pr1Ok σ p r w = true then (if σ (21 + 4) p.toNatClampNeg = -1 then askd (frA (fun k => distIf σ 21 m (nI p.toNatClampNeg) (nI k) p.toNatClampNeg r) (fun k => k) (-4) (nI 8) m) (frV (fun k => distIf σ 21 m (nI p.toNatClampNeg) (nI k) p.toNatClampNeg r) (nI 8) m) w else -2) else -1
set_option maxHeartbeats 4000000 in
theorem C_X5_best {σ : vW} {n m : Nat} {p r w : Int32} (hn : σ 21 10 = nI n) (hn5 : n ≤ 5) (hm : σ 21 11 = nI m) (hm9 : m ≤ 9) : Ctr mX5_best 5 [.ref 0, .int p, .int r, .int w] σ (vDet (some (.int (bestR σ m p r w))) σ) := by
  have hT := TB21
  refine Ctr.intro (by decide) (fun α => Nat.le_of_ble_eq_true rfl) (fun x G hQ => ?_)
  have G : vG x RX5 cX5_best 8 (some .int) 5 := G
  show V x 0 [some (.ref 0), some (.int p), some (.int r), some (.int w), none, none, none, none] [] σ
  refine v_aload_8_0 G dX5_best_0 ?_
  refine v_getR G vc_5 lk_X5_19 (fs_X5_1) dX5_best_1 ?_
  refine v_iload_8_1 G dX5_best_4 ?_
  refine v_cV1 G (C_X4_isOne (by first | assumption | omega | exact oneB_in (by assumption) | exact wallB_in (by assumption) | exact oneB_m1 (by assumption) | decide)) (by decide) md_X4_isOne in_X4_isOne (rv_X4 (by first | assumption | exact imgP_TB | exact shP_SB) rfl) ml_X5_120 (Nat.le_of_ble_eq_true rfl) dX5_best_5 ?_
  refine v_ifB_eq (tgt := 26) G dX5_best_8 rfl (fun h_8 => ?_) (fun h_8 => ?_)
  · refine v_iconst (v := (-1)) G dX5_best_26 (by decide) ?_
    exact v_iret G hQ dX5_best_27 (vDet.of (by simp only [bestR, pr1Ok, bI, h_8, if_true, if_false, Bool.false_eq_true, reduceIte] <;> try rfl) rfl)
  · obtain ⟨k0, hk0, rfl⟩ := oneB_ex hn hn5 h_8
    have ck0 : (nI k0).toNatClampNeg = k0 := nI_clamp (by omega)
    refine v_iload_8_2 G dX5_best_11 ?_
    refine v_cS1 G (C_X5_isRoom) (by decide) md_X5_isRoom st_X5_isRoom ml_X5_160 (Nat.le_of_ble_eq_true rfl) dX5_best_12 ?_
    refine v_ifB_eq (tgt := 26) G dX5_best_15 rfl (fun h_15 => ?_) (fun h_15 => ?_)
    · refine v_iconst (v := (-1)) G dX5_best_26 (by decide) ?_
      exact v_iret G hQ dX5_best_27 (vDet.of (by simp only [bestR, pr1Ok, bI, h_8, ck0, h_15, if_true, if_false, Bool.false_eq_true, reduceIte] <;> try rfl) rfl)
    · refine v_iload_8_3 G dX5_best_18 ?_
      refine v_iconst (v := nI 1) G dX5_best_19 (by decide) ?_
      refine v_cS2 G (C_X5_isUpTo) (by decide) md_X5_isUpTo st_X5_isUpTo ml_X5_52 (Nat.le_of_ble_eq_true rfl) dX5_best_20 ?_
      refine v_ifB_ne (tgt := 28) G dX5_best_23 rfl (fun h_23 => ?_) (fun h_23 => ?_)
      · refine v_aload_8_0 G dX5_best_28 ?_
        refine v_getR G vc_5 lk_X5_19 (fs_X5_1) dX5_best_29 ?_
        refine v_getR G vc_4 lk_X5_132 (fs_X4_3 (by first | assumption | exact imgP_TB)) dX5_best_32 ?_
        refine v_iload_8_1 G dX5_best_35 ?_
        refine v_ialdN G (as_X4_3 (by first | assumption | exact imgP_TB)) (by first | assumption | omega | exact oneB_in (by assumption) | exact wallB_in (by assumption) | exact oneB_m1 (by assumption) | decide) (by first | decide | omega) dX5_best_36 ?_
        refine v_iconst (v := (-1)) G dX5_best_37 (by decide) ?_
        refine v_icmp_eq (tgt := 44) G dX5_best_38 rfl (fun h_38 => ?_) (fun h_38 => ?_)
        · refine v_bipush (v := (-4)) G dX5_best_44 (by decide) ?_
          refine v_istore_8_4 G dX5_best_46 rfl ?_
          refine v_bipush (v := nI 8) G dX5_best_48 (by decide) ?_
          refine v_istore_8_5 G dX5_best_50 rfl ?_
          refine v_iconst (v := nI 0) G dX5_best_52 (by decide) ?_
          refine v_istore_8_6 G dX5_best_53 rfl ?_
          refine v_for (pc := 55) (m) (fun k => ([some (.ref 0), some (.int (nI k0)), some (.int r), some (.int w), some (.int (frA (fun k => distIf σ 21 m (nI k0) (nI k) k0 r) (fun k => k) (-4) (nI 8) k)), some (.int (frV (fun k => distIf σ 21 m (nI k0) (nI k) k0 r) (nI 8) k)), some (.int (nI k)), none], σ)) (fun k hk ih => ?_) ?_
          · show V x 55 [some (.ref 0), some (.int (nI k0)), some (.int r), some (.int w), some (.int (frA (fun k => distIf σ 21 m (nI k0) (nI k) k0 r) (fun k => k) (-4) (nI 8) k)), some (.int (frV (fun k => distIf σ 21 m (nI k0) (nI k) k0 r) (nI 8) k)), some (.int (nI k)), none] [] σ
            have ih : V x 55 [some (.ref 0), some (.int (nI k0)), some (.int r), some (.int w), some (.int (frA (fun k => distIf σ 21 m (nI k0) (nI k) k0 r) (fun k => k) (-4) (nI 8) (k + 1))), some (.int (frV (fun k => distIf σ 21 m (nI k0) (nI k) k0 r) (nI 8) (k + 1))), some (.int (nI (k + 1))), none] [] σ := ih
            refine v_iload_8_6 G dX5_best_55 ?_
            refine v_aload_8_0 G dX5_best_57 ?_
            refine v_getR G vc_5 lk_X5_19 (fs_X5_1) dX5_best_58 ?_
            refine v_getI G vc_4 lk_X5_98 (fs_X4_11 (by first | assumption | exact imgP_TB)) dX5_best_61 ?_
            refine v_icmp_ge (tgt := 107) G dX5_best_64 rfl (fun h_64 => absurd h_64 (by rw [hm]; exact nI_ge hk (by omega))) (fun h_64 => ?_)
            refine v_aload_8_0 G dX5_best_67 ?_
            refine v_getR G vc_5 lk_X5_19 (fs_X5_1) dX5_best_68 ?_
            refine v_iload_8_1 G dX5_best_71 ?_
            refine v_iload_8_6 G dX5_best_72 ?_
            refine v_iload_8_1 G dX5_best_74 ?_
            refine v_iload_8_2 G dX5_best_75 ?_
            refine v_cV4 G (C_X4_distanceIfHung (by first | assumption | omega | exact oneB_in (by assumption) | exact wallB_in (by assumption) | exact oneB_m1 (by assumption) | decide) (by first | assumption | omega | exact oneB_in (by assumption) | exact wallB_in (by assumption) | exact oneB_m1 (by assumption) | decide) (by first | assumption | omega | exact oneB_in (by assumption) | exact wallB_in (by assumption) | exact oneB_m1 (by assumption) | decide) (by first | assumption | omega | exact oneB_in (by assumption) | exact wallB_in (by assumption) | exact oneB_m1 (by assumption) | decide)) (by decide) md_X4_distanceIfHung in_X4_distanceIfHung (rv_X4 (by first | assumption | exact imgP_TB | exact shP_SB) rfl) ml_X5_210 (Nat.le_of_ble_eq_true rfl) dX5_best_76 ?_
            refine v_istore_8_7 G dX5_best_79 rfl ?_
            refine v_iload_8_7 G dX5_best_81 ?_
            refine v_if_lt (tgt := 101) G dX5_best_83 rfl (fun h_83 => ?_) (fun h_83 => ?_)
            · refine v_iincN_8_6 G dX5_best_101 rfl ?_
              refine v_goto (tgt := 55) G dX5_best_104 rfl ?_
              simp only [frA, frV, h_64, h_83, if_true, if_false, Bool.false_eq_true, reduceIte] at ih
              exact V.drop (by simp only [vsubP, and_self]) ih
            · refine v_iload_8_7 G dX5_best_86 ?_
              refine v_iload_8_5 G dX5_best_88 ?_
              refine v_icmp_ge (tgt := 101) G dX5_best_90 rfl (fun h_90 => ?_) (fun h_90 => ?_)
              · refine v_iincN_8_6 G dX5_best_101 rfl ?_
                refine v_goto (tgt := 55) G dX5_best_104 rfl ?_
                simp only [frA, frV, h_64, h_83, h_90, if_true, if_false, Bool.false_eq_true, reduceIte] at ih
                exact V.drop (by simp only [vsubP, and_self]) ih
              · refine v_iload_8_6 G dX5_best_93 ?_
                refine v_istore_8_4 G dX5_best_95 rfl ?_
                refine v_iload_8_7 G dX5_best_97 ?_
                refine v_istore_8_5 G dX5_best_99 rfl ?_
                refine v_iincN_8_6 G dX5_best_101 rfl ?_
                refine v_goto (tgt := 55) G dX5_best_104 rfl ?_
                simp only [frA, frV, h_64, h_83, h_90, if_true, if_false, Bool.false_eq_true, reduceIte] at ih
                exact V.drop (by simp only [vsubP, and_self]) ih
          · show V x 55 [some (.ref 0), some (.int (nI k0)), some (.int r), some (.int w), some (.int (frA (fun k => distIf σ 21 m (nI k0) (nI k) k0 r) (fun k => k) (-4) (nI 8) m)), some (.int (frV (fun k => distIf σ 21 m (nI k0) (nI k) k0 r) (nI 8) m)), some (.int (nI m)), none] [] σ
            refine v_iload_8_6 G dX5_best_55 ?_
            refine v_aload_8_0 G dX5_best_57 ?_
            refine v_getR G vc_5 lk_X5_19 (fs_X5_1) dX5_best_58 ?_
            refine v_getI G vc_4 lk_X5_98 (fs_X4_11 (by first | assumption | exact imgP_TB)) dX5_best_61 ?_
            refine v_icmp_ge (tgt := 107) G dX5_best_64 rfl (fun h_64 => ?_) (fun h_64 => absurd (by rw [hm]; exact nI_le (Nat.le_refl _) (by omega)) h_64)
            refine v_iload_8_4 G dX5_best_107 ?_
            refine v_bipush (v := (-4)) G dX5_best_109 (by decide) ?_
            refine v_icmp_eq (tgt := 118) G dX5_best_111 rfl (fun h_111 => ?_) (fun h_111 => ?_)
            · refine v_iload_8_4 G dX5_best_118 ?_
              refine v_goto (tgt := 125) G dX5_best_120 rfl ?_
              exact v_iret G hQ dX5_best_125 (vDet.of (by simp only [bestR, pr1Ok, askd, h_8, ck0, h_15, h_23, h_38, bI, h_64, h_111, if_true, if_false, Bool.false_eq_true, reduceIte] <;> try rfl) rfl)
            · refine v_iload_8_3 G dX5_best_114 ?_
              refine v_if_ne (tgt := 123) G dX5_best_115 rfl (fun h_115 => ?_) (fun h_115 => ?_)
              · refine v_iload_8_5 G dX5_best_123 ?_
                exact v_iret G hQ dX5_best_125 (vDet.of (by simp only [bestR, pr1Ok, askd, h_8, ck0, h_15, h_23, h_38, bI, h_64, h_111, h_115, if_true, if_false, Bool.false_eq_true, reduceIte] <;> try rfl) rfl)
              · refine v_iload_8_4 G dX5_best_118 ?_
                refine v_goto (tgt := 125) G dX5_best_120 rfl ?_
                exact v_iret G hQ dX5_best_125 (vDet.of (by simp only [bestR, pr1Ok, askd, h_8, ck0, h_15, h_23, h_38, bI, h_64, h_111, h_115, if_true, if_false, Bool.false_eq_true, reduceIte] <;> try rfl) rfl)
        · refine v_bipush (v := (-2)) G dX5_best_41 (by decide) ?_
          exact v_iret G hQ dX5_best_43 (vDet.of (by simp only [bestR, pr1Ok, bI, h_8, ck0, h_15, h_23, h_38, if_true, if_false, Bool.false_eq_true, reduceIte] <;> try rfl) rfl)
      · refine v_iconst (v := (-1)) G dX5_best_26 (by decide) ?_
        exact v_iret G hQ dX5_best_27 (vDet.of (by simp only [bestR, pr1Ok, bI, h_8, ck0, h_15, h_23, if_true, if_false, Bool.false_eq_true, reduceIte] <;> try rfl) rfl)
def frF (σ : vW) (m p : Nat) (r : Int32) (q k : Nat) : Int32 := if nI q = nI p then -4 else distIf σ 21 m (nI q) (nI k) p r
def foV (σ : vW) (m p : Nat) (r : Int32) : Nat → Int32
  | 0 => nI 8
  | q + 1 => frV (frF σ m p r q) (foV σ m p r q) m
def foA (σ : vW) (m p : Nat) (r : Int32) : Nat → Int32
  | 0 => -4
  | q + 1 => frA (frF σ m p r q) (fun k => 10 * q + k) (foA σ m p r q) (foV σ m p r q) m
def friendR (σ : vW) (n m : Nat) (p r w : Int32) : Int32 := if pr1Ok σ p r w = true then askd (foA σ m p.toNatClampNeg r n) (foV σ m p.toNatClampNeg r n) w else -1
set_option maxHeartbeats 4000000 in
theorem C_X5_friend {σ : vW} {n m : Nat} {p r w : Int32} (hn : σ 21 10 = nI n) (hn5 : n ≤ 5) (hm : σ 21 11 = nI m) (hm9 : m ≤ 9) : Ctr mX5_friend 5 [.ref 0, .int p, .int r, .int w] σ (vDet (some (.int (friendR σ n m p r w))) σ) := by
  have hT := TB21
  refine Ctr.intro (by decide) (fun α => Nat.le_of_ble_eq_true rfl) (fun x G hQ => ?_)
  have G : vG x RX5 cX5_friend 9 (some .int) 5 := G
  show V x 0 [some (.ref 0), some (.int p), some (.int r), some (.int w), none, none, none, none, none] [] σ
  refine v_aload_9_0 G dX5_friend_0 ?_
  refine v_getR G vc_5 lk_X5_19 (fs_X5_1) dX5_friend_1 ?_
  refine v_iload_9_1 G dX5_friend_4 ?_
  refine v_cV1 G (C_X4_isOne (by first | assumption | omega | exact oneB_in (by assumption) | exact wallB_in (by assumption) | exact oneB_m1 (by assumption) | decide)) (by decide) md_X4_isOne in_X4_isOne (rv_X4 (by first | assumption | exact imgP_TB | exact shP_SB) rfl) ml_X5_120 (Nat.le_of_ble_eq_true rfl) dX5_friend_5 ?_
  refine v_ifB_eq (tgt := 26) G dX5_friend_8 rfl (fun h_8 => ?_) (fun h_8 => ?_)
  · refine v_iconst (v := (-1)) G dX5_friend_26 (by decide) ?_
    exact v_iret G hQ dX5_friend_27 (vDet.of (by simp only [friendR, pr1Ok, bI, h_8, if_true, if_false, Bool.false_eq_true, reduceIte] <;> try rfl) rfl)
  · obtain ⟨k0, hk0, rfl⟩ := oneB_ex hn hn5 h_8
    have ck0 : (nI k0).toNatClampNeg = k0 := nI_clamp (by omega)
    refine v_iload_9_2 G dX5_friend_11 ?_
    refine v_cS1 G (C_X5_isRoom) (by decide) md_X5_isRoom st_X5_isRoom ml_X5_160 (Nat.le_of_ble_eq_true rfl) dX5_friend_12 ?_
    refine v_ifB_eq (tgt := 26) G dX5_friend_15 rfl (fun h_15 => ?_) (fun h_15 => ?_)
    · refine v_iconst (v := (-1)) G dX5_friend_26 (by decide) ?_
      exact v_iret G hQ dX5_friend_27 (vDet.of (by simp only [friendR, pr1Ok, bI, h_8, ck0, h_15, if_true, if_false, Bool.false_eq_true, reduceIte] <;> try rfl) rfl)
    · refine v_iload_9_3 G dX5_friend_18 ?_
      refine v_iconst (v := nI 1) G dX5_friend_19 (by decide) ?_
      refine v_cS2 G (C_X5_isUpTo) (by decide) md_X5_isUpTo st_X5_isUpTo ml_X5_52 (Nat.le_of_ble_eq_true rfl) dX5_friend_20 ?_
      refine v_ifB_ne (tgt := 28) G dX5_friend_23 rfl (fun h_23 => ?_) (fun h_23 => ?_)
      · refine v_bipush (v := (-4)) G dX5_friend_28 (by decide) ?_
        refine v_istore_9_4 G dX5_friend_30 rfl ?_
        refine v_bipush (v := nI 8) G dX5_friend_32 (by decide) ?_
        refine v_istore_9_5 G dX5_friend_34 rfl ?_
        refine v_iconst (v := nI 0) G dX5_friend_36 (by decide) ?_
        refine v_istore_9_6 G dX5_friend_37 rfl ?_
        refine v_for (pc := 39) (n) (fun q => ([some (.ref 0), some (.int (nI k0)), some (.int r), some (.int w), some (.int (foA σ m k0 r q)), some (.int (foV σ m k0 r q)), some (.int (nI q)), none, none], σ)) (fun q hq ihq => ?_) ?_
        · show V x 39 [some (.ref 0), some (.int (nI k0)), some (.int r), some (.int w), some (.int (foA σ m k0 r q)), some (.int (foV σ m k0 r q)), some (.int (nI q)), none, none] [] σ
          have ihq : V x 39 [some (.ref 0), some (.int (nI k0)), some (.int r), some (.int w), some (.int (foA σ m k0 r (q + 1))), some (.int (foV σ m k0 r (q + 1))), some (.int (nI (q + 1))), none, none] [] σ := ihq
          refine v_iload_9_6 G dX5_friend_39 ?_
          refine v_aload_9_0 G dX5_friend_41 ?_
          refine v_getR G vc_5 lk_X5_19 (fs_X5_1) dX5_friend_42 ?_
          refine v_getI G vc_4 lk_X5_95 (fs_X4_10 (by first | assumption | exact imgP_TB)) dX5_friend_45 ?_
          refine v_icmp_ge (tgt := 130) G dX5_friend_48 rfl (fun h_48 => absurd h_48 (by rw [hn]; exact nI_ge hq (by omega))) (fun h_48 => ?_)
          refine v_iconst (v := nI 0) G dX5_friend_51 (by decide) ?_
          refine v_istore_9_7 G dX5_friend_52 rfl ?_
          refine v_for (pc := 54) (m) (fun k => ([some (.ref 0), some (.int (nI k0)), some (.int r), some (.int w), some (.int (frA (frF σ m k0 r q) (fun k => 10 * q + k) (foA σ m k0 r q) (foV σ m k0 r q) k)), some (.int (frV (frF σ m k0 r q) (foV σ m k0 r q) k)), some (.int (nI q)), some (.int (nI k)), none], σ)) (fun k hk ih => ?_) ?_
          · show V x 54 [some (.ref 0), some (.int (nI k0)), some (.int r), some (.int w), some (.int (frA (frF σ m k0 r q) (fun k => 10 * q + k) (foA σ m k0 r q) (foV σ m k0 r q) k)), some (.int (frV (frF σ m k0 r q) (foV σ m k0 r q) k)), some (.int (nI q)), some (.int (nI k)), none] [] σ
            have ih : V x 54 [some (.ref 0), some (.int (nI k0)), some (.int r), some (.int w), some (.int (frA (frF σ m k0 r q) (fun k => 10 * q + k) (foA σ m k0 r q) (foV σ m k0 r q) (k + 1))), some (.int (frV (frF σ m k0 r q) (foV σ m k0 r q) (k + 1))), some (.int (nI q)), some (.int (nI (k + 1))), none] [] σ := ih
            refine v_iload_9_7 G dX5_friend_54 ?_
            refine v_aload_9_0 G dX5_friend_56 ?_
            refine v_getR G vc_5 lk_X5_19 (fs_X5_1) dX5_friend_57 ?_
            refine v_getI G vc_4 lk_X5_98 (fs_X4_11 (by first | assumption | exact imgP_TB)) dX5_friend_60 ?_
            refine v_icmp_ge (tgt := 124) G dX5_friend_63 rfl (fun h_63 => absurd h_63 (by rw [hm]; exact nI_ge hk (by omega))) (fun h_63 => ?_)
            refine v_iload_9_6 G dX5_friend_66 ?_
            refine v_iload_9_1 G dX5_friend_68 ?_
            refine v_icmp_ne (tgt := 77) G dX5_friend_69 rfl (fun h_69 => ?_) (fun h_69 => ?_)
            · refine v_aload_9_0 G dX5_friend_77 ?_
              refine v_getR G vc_5 lk_X5_19 (fs_X5_1) dX5_friend_78 ?_
              refine v_iload_9_6 G dX5_friend_81 ?_
              refine v_iload_9_7 G dX5_friend_83 ?_
              refine v_iload_9_1 G dX5_friend_85 ?_
              refine v_iload_9_2 G dX5_friend_86 ?_
              refine v_cV4 G (C_X4_distanceIfHung (by first | assumption | omega | exact oneB_in (by assumption) | exact wallB_in (by assumption) | exact oneB_m1 (by assumption) | decide) (by first | assumption | omega | exact oneB_in (by assumption) | exact wallB_in (by assumption) | exact oneB_m1 (by assumption) | decide) (by first | assumption | omega | exact oneB_in (by assumption) | exact wallB_in (by assumption) | exact oneB_m1 (by assumption) | decide) (by first | assumption | omega | exact oneB_in (by assumption) | exact wallB_in (by assumption) | exact oneB_m1 (by assumption) | decide)) (by decide) md_X4_distanceIfHung in_X4_distanceIfHung (rv_X4 (by first | assumption | exact imgP_TB | exact shP_SB) rfl) ml_X5_210 (Nat.le_of_ble_eq_true rfl) dX5_friend_87 ?_
              refine v_istore_9_8 G dX5_friend_90 rfl ?_
              refine v_iload_9_8 G dX5_friend_92 ?_
              refine v_if_lt (tgt := 118) G dX5_friend_94 rfl (fun h_94 => ?_) (fun h_94 => ?_)
              · refine v_iincN_9_7 G dX5_friend_118 rfl ?_
                refine v_goto (tgt := 54) G dX5_friend_121 rfl ?_
                simp only [frA, frV, frF, h_63, h_69, h_94, if_true, if_false, Bool.false_eq_true, reduceIte] at ih ⊢
                exact V.drop (by simp only [vsubP, and_self]) ih
              · refine v_iload_9_8 G dX5_friend_97 ?_
                refine v_iload_9_5 G dX5_friend_99 ?_
                refine v_icmp_ge (tgt := 118) G dX5_friend_101 rfl (fun h_101 => ?_) (fun h_101 => ?_)
                · refine v_iincN_9_7 G dX5_friend_118 rfl ?_
                  refine v_goto (tgt := 54) G dX5_friend_121 rfl ?_
                  simp only [frA, frV, frF, h_63, h_69, h_94, h_101, if_true, if_false, Bool.false_eq_true, reduceIte] at ih ⊢
                  exact V.drop (by simp only [vsubP, and_self]) ih
                · refine v_bipush (v := nI 10) G dX5_friend_104 (by decide) ?_
                  refine v_iload_9_6 G dX5_friend_106 ?_
                  refine v_imulN G dX5_friend_108 ?_
                  refine v_iload_9_7 G dX5_friend_109 ?_
                  refine v_iaddN G dX5_friend_111 ?_
                  refine v_istore_9_4 G dX5_friend_112 rfl ?_
                  refine v_iload_9_8 G dX5_friend_114 ?_
                  refine v_istore_9_5 G dX5_friend_116 rfl ?_
                  refine v_iincN_9_7 G dX5_friend_118 rfl ?_
                  refine v_goto (tgt := 54) G dX5_friend_121 rfl ?_
                  simp only [frA, frV, frF, h_63, h_69, h_94, h_101, if_true, if_false, Bool.false_eq_true, reduceIte] at ih ⊢
                  exact V.drop (by simp only [vsubP, and_self]) ih
            · refine v_bipush (v := (-4)) G dX5_friend_72 (by decide) ?_
              refine v_goto (tgt := 90) G dX5_friend_74 rfl ?_
              refine v_istore_9_8 G dX5_friend_90 rfl ?_
              refine v_iload_9_8 G dX5_friend_92 ?_
              refine v_if_lt (tgt := 118) G dX5_friend_94 rfl (fun h_94 => ?_) (fun h_94 => ?_)
              · refine v_iincN_9_7 G dX5_friend_118 rfl ?_
                refine v_goto (tgt := 54) G dX5_friend_121 rfl ?_
                simp only [frA, frV, frF, h_63, h_69, h_94, if_true, if_false, Bool.false_eq_true, reduceIte] at ih ⊢
                exact V.drop (by simp only [vsubP, and_self]) ih
              · refine v_iload_9_8 G dX5_friend_97 ?_
                refine v_iload_9_5 G dX5_friend_99 ?_
                refine v_icmp_ge (tgt := 118) G dX5_friend_101 rfl (fun h_101 => ?_) (fun h_101 => ?_)
                · refine v_iincN_9_7 G dX5_friend_118 rfl ?_
                  refine v_goto (tgt := 54) G dX5_friend_121 rfl ?_
                  simp only [frA, frV, frF, h_63, h_69, h_94, h_101, if_true, if_false, Bool.false_eq_true, reduceIte] at ih ⊢
                  exact V.drop (by simp only [vsubP, and_self]) ih
                · refine v_bipush (v := nI 10) G dX5_friend_104 (by decide) ?_
                  refine v_iload_9_6 G dX5_friend_106 ?_
                  refine v_imulN G dX5_friend_108 ?_
                  refine v_iload_9_7 G dX5_friend_109 ?_
                  refine v_iaddN G dX5_friend_111 ?_
                  refine v_istore_9_4 G dX5_friend_112 rfl ?_
                  refine v_iload_9_8 G dX5_friend_114 ?_
                  refine v_istore_9_5 G dX5_friend_116 rfl ?_
                  refine v_iincN_9_7 G dX5_friend_118 rfl ?_
                  refine v_goto (tgt := 54) G dX5_friend_121 rfl ?_
                  simp only [frA, frV, frF, h_63, h_69, h_94, h_101, if_true, if_false, Bool.false_eq_true, reduceIte] at ih ⊢
                  exact V.drop (by simp only [vsubP, and_self]) ih
          · show V x 54 [some (.ref 0), some (.int (nI k0)), some (.int r), some (.int w), some (.int (frA (frF σ m k0 r q) (fun k => 10 * q + k) (foA σ m k0 r q) (foV σ m k0 r q) m)), some (.int (frV (frF σ m k0 r q) (foV σ m k0 r q) m)), some (.int (nI q)), some (.int (nI m)), none] [] σ
            refine v_iload_9_7 G dX5_friend_54 ?_
            refine v_aload_9_0 G dX5_friend_56 ?_
            refine v_getR G vc_5 lk_X5_19 (fs_X5_1) dX5_friend_57 ?_
            refine v_getI G vc_4 lk_X5_98 (fs_X4_11 (by first | assumption | exact imgP_TB)) dX5_friend_60 ?_
            refine v_icmp_ge (tgt := 124) G dX5_friend_63 rfl (fun h_63 => ?_) (fun h_63 => absurd (by rw [hm]; exact nI_le (Nat.le_refl _) (by omega)) h_63)
            refine v_iincN_9_6 G dX5_friend_124 rfl ?_
            refine v_goto (tgt := 39) G dX5_friend_127 rfl ?_
            exact V.drop (by simp only [vsubP, foA, foV, and_self]) ihq
        · show V x 39 [some (.ref 0), some (.int (nI k0)), some (.int r), some (.int w), some (.int (foA σ m k0 r n)), some (.int (foV σ m k0 r n)), some (.int (nI n)), none, none] [] σ
          refine v_iload_9_6 G dX5_friend_39 ?_
          refine v_aload_9_0 G dX5_friend_41 ?_
          refine v_getR G vc_5 lk_X5_19 (fs_X5_1) dX5_friend_42 ?_
          refine v_getI G vc_4 lk_X5_95 (fs_X4_10 (by first | assumption | exact imgP_TB)) dX5_friend_45 ?_
          refine v_icmp_ge (tgt := 130) G dX5_friend_48 rfl (fun h_48 => ?_) (fun h_48 => absurd (by rw [hn]; exact nI_le (Nat.le_refl _) (by omega)) h_48)
          refine v_iload_9_4 G dX5_friend_130 ?_
          refine v_bipush (v := (-4)) G dX5_friend_132 (by decide) ?_
          refine v_icmp_eq (tgt := 141) G dX5_friend_134 rfl (fun h_134 => ?_) (fun h_134 => ?_)
          · refine v_iload_9_4 G dX5_friend_141 ?_
            refine v_goto (tgt := 148) G dX5_friend_143 rfl ?_
            exact v_iret G hQ dX5_friend_148 (vDet.of (by simp only [friendR, pr1Ok, askd, h_8, ck0, h_15, h_23, bI, h_48, h_134, if_true, if_false, Bool.false_eq_true, reduceIte] <;> try rfl) rfl)
          · refine v_iload_9_3 G dX5_friend_137 ?_
            refine v_if_ne (tgt := 146) G dX5_friend_138 rfl (fun h_138 => ?_) (fun h_138 => ?_)
            · refine v_iload_9_5 G dX5_friend_146 ?_
              exact v_iret G hQ dX5_friend_148 (vDet.of (by simp only [friendR, pr1Ok, askd, h_8, ck0, h_15, h_23, bI, h_48, h_134, h_138, if_true, if_false, Bool.false_eq_true, reduceIte] <;> try rfl) rfl)
            · refine v_iload_9_4 G dX5_friend_141 ?_
              refine v_goto (tgt := 148) G dX5_friend_143 rfl ?_
              exact v_iret G hQ dX5_friend_148 (vDet.of (by simp only [friendR, pr1Ok, askd, h_8, ck0, h_15, h_23, bI, h_48, h_134, h_138, if_true, if_false, Bool.false_eq_true, reduceIte] <;> try rfl) rfl)
      · refine v_iconst (v := (-1)) G dX5_friend_26 (by decide) ?_
        exact v_iret G hQ dX5_friend_27 (vDet.of (by simp only [friendR, pr1Ok, bI, h_8, ck0, h_15, h_23, if_true, if_false, Bool.false_eq_true, reduceIte] <;> try rfl) rfl)
