/-! DoorTown's public calls: sheets -/
def shP (k : Nat) : Nat := if k = 0 then 67 else if k = 1 then 69 else if k = 2 then 71 else 73
theorem shP_SB {k : Nat} : SB (shP k) := by
  unfold shP
  split
  · simp [SB]
  · split
    · simp [SB]
    · split <;> simp [SB]
theorem shP_rf {k : Nat} (h : k ≤ 3) : vR65 k = some (shP k) := by
  rcases (show k = 0 ∨ k = 1 ∨ k = 2 ∨ k = 3 by omega) with rfl | rfl | rfl | rfl <;> rfl
def sheetR (k l n : Int32) : Int32 := if upToB k (nI 3) = true then (if upToB l (nI 2) = true then (if n ≤ nI 40 then (if 0 ≤ n then nI 1 else -14) else -1) else -1) else -1
def sheetW (σ : vW) (k l n : Int32) : vW := if upToB k (nI 3) = true then (if upToB l (nI 2) = true then (if n ≤ nI 40 then (if 0 ≤ n then renewW σ (shP k.toNatClampNeg) l n else σ) else σ) else σ) else σ
set_option maxHeartbeats 4000000 in
theorem C_X5_sheet {σ : vW} {k l n : Int32} : Ctr mX5_sheet 2 [.ref 0, .int k, .int l, .int n] σ (vDet (some (.int (sheetR k l n))) (sheetW σ k l n)) := by
  refine Ctr.intro (by decide) (fun α => Nat.le_of_ble_eq_true rfl) (fun x G hQ => ?_)
  have G : vG x RX5 cX5_sheet 4 (some .int) 2 := G
  show V x 0 [some (.ref 0), some (.int k), some (.int l), some (.int n)] [] σ
  refine v_iload_4_1 G dX5_sheet_0 ?_
  refine v_iconst (v := nI 3) G dX5_sheet_1 (by decide) ?_
  refine v_cS2 G (C_X5_isUpTo) (by decide) md_X5_isUpTo st_X5_isUpTo ml_X5_52 (Nat.le_of_ble_eq_true rfl) dX5_sheet_2 ?_
  refine v_ifB_eq (tgt := 22) G dX5_sheet_5 rfl (fun h_5 => ?_) (fun h_5 => ?_)
  · refine v_iconst (v := (-1)) G dX5_sheet_22 (by decide) ?_
    exact v_iret G hQ dX5_sheet_23 (vDet.of (by simp only [sheetR, bI, h_5, if_true, if_false, Bool.false_eq_true, reduceIte, ite_self] <;> try rfl) (by simp only [sheetW, h_5, if_true, if_false, Bool.false_eq_true, reduceIte, ite_self] <;> try rfl))
  · obtain ⟨j, hj, rfl⟩ := upToB_ex (by decide) h_5
    have cj : (nI j).toNatClampNeg = j := nI_clamp (by omega)
    refine v_iload_4_2 G dX5_sheet_8 ?_
    refine v_iconst (v := nI 2) G dX5_sheet_9 (by decide) ?_
    refine v_cS2 G (C_X5_isUpTo) (by decide) md_X5_isUpTo st_X5_isUpTo ml_X5_52 (Nat.le_of_ble_eq_true rfl) dX5_sheet_10 ?_
    refine v_ifB_eq (tgt := 22) G dX5_sheet_13 rfl (fun h_13 => ?_) (fun h_13 => ?_)
    · refine v_iconst (v := (-1)) G dX5_sheet_22 (by decide) ?_
      exact v_iret G hQ dX5_sheet_23 (vDet.of (by simp only [sheetR, bI, h_5, cj, h_13, if_true, if_false, Bool.false_eq_true, reduceIte, ite_self] <;> try rfl) (by simp only [sheetW, h_5, cj, h_13, if_true, if_false, Bool.false_eq_true, reduceIte, ite_self] <;> try rfl))
    · refine v_iload_4_3 G dX5_sheet_16 ?_
      refine v_bipush (v := nI 40) G dX5_sheet_17 (by decide) ?_
      refine v_icmp_le (tgt := 24) G dX5_sheet_19 rfl (fun h_19 => ?_) (fun h_19 => ?_)
      · refine v_iload_4_3 G dX5_sheet_24 ?_
        refine v_if_ge (tgt := 31) G dX5_sheet_25 rfl (fun h_25 => ?_) (fun h_25 => ?_)
        · refine v_aload_4_0 G dX5_sheet_31 ?_
          refine v_getR G vc_5 lk_X5_43 (fs_X5_6) dX5_sheet_32 ?_
          refine v_iload_4_1 G dX5_sheet_35 ?_
          refine v_aaldN G qs_X5_6 (by first | assumption | omega | exact shP_rf hj) (by first | decide | omega) (by first | assumption | omega | exact shP_rf hj) dX5_sheet_36 ?_
          refine v_iload_4_2 G dX5_sheet_37 ?_
          refine v_iload_4_3 G dX5_sheet_38 ?_
          refine v_cV2v G (C_X1_renew shP_SB) (by decide) md_X1_renew in_X1_renew (rv_X1 (by first | assumption | exact imgP_TB | exact shP_SB) rfl) ml_X5_265 (Nat.le_of_ble_eq_true rfl) dX5_sheet_39 ?_
          refine v_iconst (v := nI 1) G dX5_sheet_42 (by decide) ?_
          exact v_iret G hQ dX5_sheet_43 (vDet.of (by simp only [sheetR, bI, h_5, cj, h_13, h_19, h_25, if_true, if_false, Bool.false_eq_true, reduceIte, ite_self] <;> try rfl) (by simp only [sheetW, h_5, cj, h_13, h_19, h_25, if_true, if_false, Bool.false_eq_true, reduceIte, ite_self] <;> try rfl))
        · refine v_bipush (v := (-14)) G dX5_sheet_28 (by decide) ?_
          exact v_iret G hQ dX5_sheet_30 (vDet.of (by simp only [sheetR, bI, h_5, cj, h_13, h_19, h_25, if_true, if_false, Bool.false_eq_true, reduceIte, ite_self] <;> try rfl) (by simp only [sheetW, h_5, cj, h_13, h_19, h_25, if_true, if_false, Bool.false_eq_true, reduceIte, ite_self] <;> try rfl))
      · refine v_iconst (v := (-1)) G dX5_sheet_22 (by decide) ?_
        exact v_iret G hQ dX5_sheet_23 (vDet.of (by simp only [sheetR, bI, h_5, cj, h_13, h_19, if_true, if_false, Bool.false_eq_true, reduceIte, ite_self] <;> try rfl) (by simp only [sheetW, h_5, cj, h_13, h_19, if_true, if_false, Bool.false_eq_true, reduceIte, ite_self] <;> try rfl))
theorem cm_lt {x y : Int64} (h : lg_cmp x y < 0) : x.toInt < y.toInt := by
  unfold lg_cmp at h
  split at h
  · exact absurd h (by decide)
  · split at h
    · exact absurd h (by decide)
    · rename_i h1 h2
      rw [gt_iff_lt, Int64.lt_iff_toInt_lt] at h1
      have h3 : ¬ x.toInt = y.toInt := fun e => h2 (Int64.toInt_inj.mp e)
      omega
theorem cm_nlt {x y : Int64} (h : ¬ lg_cmp x y < 0) : y.toInt ≤ x.toInt := by
  unfold lg_cmp at h
  split at h
  · rename_i h1
    rw [gt_iff_lt, Int64.lt_iff_toInt_lt] at h1
    omega
  · split at h
    · rename_i h1
      rw [h1]
      exact Int.le_refl _
    · exact absurd (by decide) h
theorem fltA_0 {σ : vW} {b : Nat} {l : Int32} {c : Int64} (h : fltA σ b l c = 0) : 0 ≤ c.toInt ∧ c.toInt < 40 := by
  unfold fltA at h
  split at h
  · split at h
    · split at h
      · exact absurd h (by decide)
      · split at h
        · exact absurd h (by decide)
        · split at h
          · rename_i h1 h2 h3
            have e1 := cm_nlt h1
            have e2 := cm_lt h3
            rw [show (lN 0).toInt = 0 by decide] at e1
            rw [show (40 : Int64).toInt = 40 by decide] at e2
            exact ⟨e1, e2⟩
          · exact absurd h (by decide)
    · exact absurd h (by decide)
  · exact absurd h (by decide)
theorem fltA_in {σ : vW} {b : Nat} {l i : Int32} (h : fltA σ b l i.toInt64 = 0) : vp_in i 40 := by
  have h1 := fltA_0 h
  rw [Int32.toInt_toInt64] at h1
  rw [vp_in_iff]
  exact h1
def narR (v l : Int32) : Int32 := if l = nI 0 then v.toInt8.toInt32 else if l = nI 1 then v.toInt16.toInt32 else v
set_option maxHeartbeats 4000000 in
theorem C_X5_narrowed {σ : vW} {v l : Int32} : Ctr mX5_narrowed 0 [.int v, .int l] σ (vDet (some (.int (narR v l))) σ) := by
  refine Ctr.intro (by decide) (fun α => Nat.le_of_ble_eq_true rfl) (fun x G hQ => ?_)
  have G : vG x RX5 cX5_narrowed 2 (some .int) 0 := G
  show V x 0 [some (.int v), some (.int l)] [] σ
  refine v_iload_2_1 G dX5_narrowed_0 ?_
  refine v_look2 (t0 := 28) (t1 := 31) (td := 34) G dX5_narrowed_1 rfl rfl rfl (fun h_1_0 => ?_) (fun h_1_1 => ?_) (fun h_1_0 h_1_1 => ?_)
  · refine v_iload_2_0 G dX5_narrowed_28 ?_
    refine v_i2b G dX5_narrowed_29 ?_
    exact v_iret G hQ dX5_narrowed_30 (vDet.of (by simp only [narR, bI, h_1_0, if_true, if_false, Bool.false_eq_true, reduceIte] <;> try rfl) rfl)
  · refine v_iload_2_0 G dX5_narrowed_31 ?_
    refine v_i2s G dX5_narrowed_32 ?_
    exact v_iret G hQ dX5_narrowed_33 (vDet.of (by simp only [narR, bI, h_1_1, if_true, if_false, Bool.false_eq_true, reduceIte] <;> try rfl) rfl)
  · refine v_iload_2_0 G dX5_narrowed_34 ?_
    exact v_iret G hQ dX5_narrowed_35 (vDet.of (by simp only [narR, bI, h_1_0, h_1_1, if_true, if_false, Bool.false_eq_true, reduceIte] <;> try rfl) rfl)
def layA (σ : vW) (k : Nat) (i : Int32) : Int32 := fltA σ (shP k) (σ (shP k) 1) i.toInt64
def layR (σ : vW) (k i : Int32) : Int32 := if upToB k (nI 3) = true then (if layA σ k.toNatClampNeg i = 0 then nI 1 else -10 - layA σ k.toNatClampNeg i) else -1
def layW (σ : vW) (k i v : Int32) : vW := if upToB k (nI 3) = true then (if layA σ k.toNatClampNeg i = 0 then vset σ (shP k.toNatClampNeg + 1) i.toNatClampNeg (narR v (σ (shP k.toNatClampNeg) 1)) else σ) else σ
set_option maxHeartbeats 4000000 in
theorem C_X5_lay {σ : vW} {k i v : Int32} : Ctr mX5_lay 1 [.ref 0, .int k, .int i, .int v] σ (vDet (some (.int (layR σ k i))) (layW σ k i v)) := by
  refine Ctr.intro (by decide) (fun α => Nat.le_of_ble_eq_true rfl) (fun x G hQ => ?_)
  have G : vG x RX5 cX5_lay 6 (some .int) 1 := G
  show V x 0 [some (.ref 0), some (.int k), some (.int i), some (.int v), none, none] [] σ
  refine v_iload_6_1 G dX5_lay_0 ?_
  refine v_iconst (v := nI 3) G dX5_lay_1 (by decide) ?_
  refine v_cS2 G (C_X5_isUpTo) (by decide) md_X5_isUpTo st_X5_isUpTo ml_X5_52 (Nat.le_of_ble_eq_true rfl) dX5_lay_2 ?_
  refine v_ifB_ne (tgt := 10) G dX5_lay_5 rfl (fun h_5 => ?_) (fun h_5 => ?_)
  · obtain ⟨j, hj, rfl⟩ := upToB_ex (by decide) h_5
    have cj : (nI j).toNatClampNeg = j := nI_clamp (by omega)
    refine v_aload_6_0 G dX5_lay_10 ?_
    refine v_getR G vc_5 lk_X5_43 (fs_X5_6) dX5_lay_11 ?_
    refine v_iload_6_1 G dX5_lay_14 ?_
    refine v_aaldN G qs_X5_6 (by first | assumption | omega | exact shP_rf hj | exact fltA_in h_34) (by first | decide | omega) (by first | assumption | omega | exact shP_rf hj | exact fltA_in h_34) dX5_lay_15 ?_
    refine v_astore_6_4 G dX5_lay_16 rfl ?_
    refine v_aload_6_4 G dX5_lay_18 ?_
    refine v_aload_6_4 G dX5_lay_20 ?_
    refine v_getI G vc_1 lk_X5_269 (fs_X1_1 (by first | assumption | exact shP_SB)) dX5_lay_22 ?_
    refine v_iload_6_2 G dX5_lay_25 ?_
    refine v_i2l G dX5_lay_26 ?_
    refine v_cV2 G (C_X1_faultAt shP_SB) (by decide) md_X1_faultAt in_X1_faultAt (rv_X1 (by first | assumption | exact imgP_TB | exact shP_SB) rfl) ml_X5_272 (Nat.le_of_ble_eq_true rfl) dX5_lay_27 ?_
    refine v_istore_6_5 G dX5_lay_30 rfl ?_
    refine v_iload_6_5 G dX5_lay_32 ?_
    refine v_if_eq (tgt := 43) G dX5_lay_34 rfl (fun h_34 => ?_) (fun h_34 => ?_)
    · refine v_aload_6_4 G dX5_lay_43 ?_
      refine v_getR G vc_1 lk_X5_276 (fs_X1_0 (by first | assumption | exact shP_SB)) dX5_lay_45 ?_
      refine v_iload_6_2 G dX5_lay_48 ?_
      refine v_iload_6_3 G dX5_lay_49 ?_
      refine v_aload_6_4 G dX5_lay_50 ?_
      refine v_getI G vc_1 lk_X5_269 (fs_X1_1 (by first | assumption | exact shP_SB)) dX5_lay_52 ?_
      refine v_cS2 G (C_X5_narrowed) (by decide) md_X5_narrowed st_X5_narrowed ml_X5_279 (Nat.le_of_ble_eq_true rfl) dX5_lay_55 ?_
      refine v_iast G (as_X1_0 (by first | assumption | exact shP_SB)) (by first | assumption | omega | exact shP_rf hj | exact fltA_in h_34) dX5_lay_58 ?_
      refine v_iconst (v := nI 1) G dX5_lay_59 (by decide) ?_
      exact v_iret G hQ dX5_lay_60 (vDet.of (by simp only [layR, layA, bI, h_5, cj, h_34, if_true, if_false, Bool.false_eq_true, reduceIte, ite_self] <;> try rfl) (by simp only [layW, layA, h_5, cj, h_34, if_true, if_false, Bool.false_eq_true, reduceIte, ite_self] <;> try rfl))
    · refine v_bipush (v := (-10)) G dX5_lay_37 (by decide) ?_
      refine v_iload_6_5 G dX5_lay_39 ?_
      refine v_isub G dX5_lay_41 ?_
      exact v_iret G hQ dX5_lay_42 (vDet.of (by simp only [layR, layA, bI, h_5, cj, h_34, if_true, if_false, Bool.false_eq_true, reduceIte, ite_self] <;> try rfl) (by simp only [layW, layA, h_5, cj, h_34, if_true, if_false, Bool.false_eq_true, reduceIte, ite_self] <;> try rfl))
  · refine v_iconst (v := (-1)) G dX5_lay_8 (by decide) ?_
    exact v_iret G hQ dX5_lay_9 (vDet.of (by simp only [layR, layA, bI, h_5, if_true, if_false, Bool.false_eq_true, reduceIte, ite_self] <;> try rfl) (by simp only [layW, layA, h_5, if_true, if_false, Bool.false_eq_true, reduceIte, ite_self] <;> try rfl))
/-- the pairs read of a sheet -/
def rdE (s : vW) (v : Int32) : vW := vset (becW s 21 32) 0 9 v
def rdP (s : vW) (b : Nat) (f : Int32) (i : Nat) : Int32 := s (b + 1) (f + nI (2 * i)).toNatClampNeg
def rdQ (s : vW) (b : Nat) (f : Int32) (i : Nat) : Int32 := s (b + 1) (f + nI (2 * i) + nI 1).toNatClampNeg
def rdG (b : Nat) (l f : Int32) : Nat → Nat → vW → Int32 × vW
  | 0, i, s => (nI i, rdE s (nI 0))
  | m + 1, i, s => if fltB s b l f (nI i) = 0 then (if canB s 32 (rdP s b f i) (rdQ s b f i) = true then rdG b l f m (i + 1) (hangW s 32 (rdP s b f i) (rdQ s b f i)) else (-20 - nI i, s)) else (nI i, rdE s (fltB s b l f (nI i)))
theorem rdG_s (b : Nat) (l f : Int32) (m i : Nat) (s : vW) : rdG b l f (m + 1) i s = if fltB s b l f (nI i) = 0 then (if canB s 32 (rdP s b f i) (rdQ s b f i) = true then rdG b l f m (i + 1) (hangW s 32 (rdP s b f i) (rdQ s b f i)) else (-20 - nI i, s)) else (nI i, rdE s (fltB s b l f (nI i))) := rfl
def rdWs (σ : vW) (b : Nat) (f : Int32) : Nat → vW
  | 0 => becW σ 32 21
  | i + 1 => hangW (rdWs σ b f i) 32 (rdP (rdWs σ b f i) b f i) (rdQ (rdWs σ b f i) b f i)
theorem l2i (i : Nat) (hi : i < 100) : (2 : Int64) * (nI i).toInt64 = lN (2 * i) := by
  rw [nI_l (by omega), show (2 : Int64) = lN 2 from rfl, lN_mul]
theorem first_toInt {f : Int32} {i : Nat} (hi : i < 100) : (f.toInt64 + 2 * (nI i).toInt64).toInt = f.toInt + (2 * i : Nat) := by
  rw [l2i i hi, fb_addL, Int32.toInt_toInt64, lN_toInt (by omega)]
  · have h := fb_rng f
    rw [Int32.toInt_toInt64, lN_toInt (by omega)]
    omega
  · have h := fb_rng f
    rw [Int32.toInt_toInt64, lN_toInt (by omega)]
    omega
theorem fltB_0 {σ : vW} {b : Nat} {l f i : Int32} (h : fltB σ b l f i = 0) : fltA σ b l (f.toInt64 + 2 * i.toInt64) = 0 ∧ fltA σ b l (f.toInt64 + 2 * i.toInt64 + lN 1) = 0 := by
  unfold fltB at h
  split at h
  · rename_i h1
    exact ⟨h1, h⟩
  · rename_i h1
    exact absurd h h1
theorem fltB_in {σ : vW} {b i : Nat} {l f : Int32} (hi : i < 100) (h : fltB σ b l f (nI i) = 0) : vp_in (f + nI (2 * i)) 40 ∧ vp_in (f + nI (2 * i) + nI 1) 40 := by
  obtain ⟨h1, h2⟩ := fltB_0 h
  have e1 := fltA_0 h1
  have e2 := fltA_0 h2
  have ef := first_toInt (f := f) hi
  rw [ef] at e1
  have e3 : (f.toInt64 + 2 * (nI i).toInt64 + lN 1).toInt = f.toInt + (2 * i : Nat) + 1 := by
    rw [fb_addL, ef, show (lN 1).toInt = 1 by decide]
    · rw [ef, show (lN 1).toInt = 1 by decide]; omega
    · rw [ef, show (lN 1).toInt = 1 by decide]; omega
  rw [e3] at e2
  have e4 : (f + nI (2 * i)).toInt = f.toInt + (2 * i : Nat) := by
    rw [fb_addI, nI_toInt (by omega)]
    · rw [nI_toInt (by omega)]; omega
    · rw [nI_toInt (by omega)]; omega
  have e5 : (f + nI (2 * i) + nI 1).toInt = f.toInt + (2 * i : Nat) + 1 := by
    rw [fb_addI, e4, nI_toInt (by decide)]
    · rfl
    · rw [e4, nI_toInt (by decide)]; omega
    · rw [e4, nI_toInt (by decide)]; omega
  rw [vp_in_iff, vp_in_iff, e4, e5]
  omega
def readOk (k l n : Int32) : Bool := if upToB k (nI 3) = true then (if upToB l (nI 2) = true then (if upToB n (nI 20) = true then true else false) else false) else false
def readR (σ : vW) (k l f n : Int32) : Int32 := if readOk k l n = true then (rdG (shP k.toNatClampNeg) l f n.toNatClampNeg 0 (becW σ 32 21)).1 else -1
def readW (σ : vW) (k l f n : Int32) : vW := if readOk k l n = true then (rdG (shP k.toNatClampNeg) l f n.toNatClampNeg 0 (becW σ 32 21)).2 else σ
set_option maxHeartbeats 4000000 in
theorem C_X5_read {σ : vW} {k l f n : Int32} : Ctr mX5_read 3 [.ref 0, .int k, .int l, .int f, .int n] σ (vDet (some (.int (readR σ k l f n))) (readW σ k l f n)) := by
  have hT := TB21
  have hR := TB32
  refine Ctr.intro (by decide) (fun α => Nat.le_of_ble_eq_true rfl) (fun x G hQ => ?_)
  have G : vG x RX5 cX5_read 10 (some .int) 3 := G
  show V x 0 [some (.ref 0), some (.int k), some (.int l), some (.int f), some (.int n), none, none, none, none, none] [] σ
  by_cases hg : readOk k l n = true
  · have hq : ∀ (v : Int32) (s : vW), (rdG (shP k.toNatClampNeg) l f n.toNatClampNeg 0 (becW σ 32 21)) = (v, s) → vDet (some (.int (readR σ k l f n))) (readW σ k l f n) (some (.int v)) s := fun v s e => vDet.of (by rw [readR, if_pos hg, e]) (by rw [readW, if_pos hg, e])
    generalize hG : rdG (shP k.toNatClampNeg) l f n.toNatClampNeg 0 (becW σ 32 21) = res at hq
    refine v_iload_10_1 G dX5_read_0 ?_
    refine v_iconst (v := nI 3) G dX5_read_1 (by decide) ?_
    refine v_cS2 G (C_X5_isUpTo) (by decide) md_X5_isUpTo st_X5_isUpTo ml_X5_52 (Nat.le_of_ble_eq_true rfl) dX5_read_2 ?_
    refine v_ifB_eq (tgt := 26) G dX5_read_5 rfl (fun h_5 => ?_) (fun h_5 => ?_)
    · refine v_iconst (v := (-1)) G dX5_read_26 (by decide) ?_
      exact v_iret G hQ dX5_read_27 (absurd hg (by simp only [readOk, h_5, if_true, if_false, Bool.false_eq_true, reduceIte, not_false_eq_true]))
    · obtain ⟨j, hj, rfl⟩ := upToB_ex (by decide) h_5
      have cj : (nI j).toNatClampNeg = j := nI_clamp (by omega)
      refine v_iload_10_2 G dX5_read_8 ?_
      refine v_iconst (v := nI 2) G dX5_read_9 (by decide) ?_
      refine v_cS2 G (C_X5_isUpTo) (by decide) md_X5_isUpTo st_X5_isUpTo ml_X5_52 (Nat.le_of_ble_eq_true rfl) dX5_read_10 ?_
      refine v_ifB_eq (tgt := 26) G dX5_read_13 rfl (fun h_13 => ?_) (fun h_13 => ?_)
      · refine v_iconst (v := (-1)) G dX5_read_26 (by decide) ?_
        exact v_iret G hQ dX5_read_27 (absurd hg (by simp only [readOk, h_5, cj, h_13, if_true, if_false, Bool.false_eq_true, reduceIte, not_false_eq_true]))
      · refine v_iload_10_4 G dX5_read_16 ?_
        refine v_bipush (v := nI 20) G dX5_read_18 (by decide) ?_
        refine v_cS2 G (C_X5_isUpTo) (by decide) md_X5_isUpTo st_X5_isUpTo ml_X5_52 (Nat.le_of_ble_eq_true rfl) dX5_read_20 ?_
        refine v_ifB_ne (tgt := 28) G dX5_read_23 rfl (fun h_23 => ?_) (fun h_23 => ?_)
        · obtain ⟨c, hc, rfl⟩ := upToB_ex (by decide) h_23
          have cc : (nI c).toNatClampNeg = c := nI_clamp (by omega)
          refine v_aload_10_0 G dX5_read_28 ?_
          refine v_getR G vc_5 lk_X5_43 (fs_X5_6) dX5_read_29 ?_
          refine v_iload_10_1 G dX5_read_32 ?_
          refine v_aaldN G qs_X5_6 (by first | assumption | omega | exact shP_rf hj) (by first | decide | omega) (by first | assumption | omega | exact shP_rf hj) dX5_read_33 ?_
          refine v_astore_10_5 G dX5_read_34 rfl ?_
          refine v_aload_10_0 G dX5_read_36 ?_
          refine v_getR G vc_5 lk_X5_23 (fs_X5_2) dX5_read_37 ?_
          refine v_aload_10_0 G dX5_read_40 ?_
          refine v_getR G vc_5 lk_X5_19 (fs_X5_1) dX5_read_41 ?_
          refine v_cV1v G (C_X4_become hR hT (by decide)) (by decide) md_X4_become in_X4_become (rv_X4 (by first | assumption | exact imgP_TB | exact shP_SB) rfl) ml_X5_85 (Nat.le_of_ble_eq_true rfl) dX5_read_44 ?_
          refine v_iconst (v := nI 0) G dX5_read_47 (by decide) ?_
          refine v_istore_10_6 G dX5_read_48 rfl ?_
          refine v_iconst (v := nI 0) G dX5_read_50 (by decide) ?_
          refine v_istore_10_7 G dX5_read_51 rfl ?_
          refine v_iconst (v := nI 0) G dX5_read_53 (by decide) ?_
          refine v_istore_10_8 G dX5_read_54 rfl ?_
          rw [cj, cc] at hG
          have keyE : ∀ (s : vW) (v : Int32) (i : Nat), res = (nI i, rdE s v) → V x 135 [some (.ref 0), some (.int (nI j)), some (.int l), some (.int f), some (.int (nI c)), some (.ref (shP j)), some (.int (v)), some (.int (nI i)), none, none] [] s := by
            intro s v i e
            refine v_aload_10_0 G dX5_read_135 ?_
            refine v_getR G vc_5 lk_X5_19 (fs_X5_1) dX5_read_136 ?_
            refine v_aload_10_0 G dX5_read_139 ?_
            refine v_getR G vc_5 lk_X5_23 (fs_X5_2) dX5_read_140 ?_
            refine v_cV1v G (C_X4_become hT hR (by decide)) (by decide) md_X4_become in_X4_become (rv_X4 (by first | assumption | exact imgP_TB | exact shP_SB) rfl) ml_X5_85 (Nat.le_of_ble_eq_true rfl) dX5_read_143 ?_
            refine v_aload_10_0 G dX5_read_146 ?_
            refine v_iload_10_6 G dX5_read_147 ?_
            refine v_putI G vc_5 vt_5 lk_X5_285 (fs_X5_9) (ft_X5_9 _) dX5_read_149 ?_
            refine v_iload_10_7 G dX5_read_152 ?_
            exact v_iret G hQ dX5_read_154 (hq _ _ e)
          have keyH : ∀ (s : vW) (v : Int32) (i i2 : Nat), ¬ v = 0 → res = (nI i, rdE s v) → V x 56 [some (.ref 0), some (.int (nI j)), some (.int l), some (.int f), some (.int (nI c)), some (.ref (shP j)), some (.int (v)), some (.int (nI i)), some (.int (nI i2)), none] [] s := by
            intro s v i i2 hv e
            refine v_iload_10_8 G dX5_read_56 ?_
            refine v_iload_10_4 G dX5_read_58 ?_
            refine v_icmp_ge (tgt := 135) G dX5_read_60 rfl (fun g_60 => ?_) (fun g_60 => ?_)
            · exact V.drop (by simp only [vsubP, and_self]) (keyE s v i e)
            · refine v_iload_10_6 G dX5_read_63 ?_
              refine v_if_ne (tgt := 135) G dX5_read_65 rfl (fun g_65 => ?_) (fun g_65 => absurd g_65 hv)
              exact V.drop (by simp only [vsubP, and_self]) (keyE s v i e)
          refine v_forP (pc := 56) (c) (fun i => res = rdG (shP j) l f (c - i) i (rdWs σ (shP j) f i)) (fun i => ([some (.ref 0), some (.int (nI j)), some (.int l), some (.int f), some (.int (nI c)), some (.ref (shP j)), some (.int (nI 0)), some (.int (nI i)), some (.int (nI i)), none], (rdWs σ (shP j) f i))) hG.symm (fun i hi hp ih => ?_) (fun hp => ?_)
          · show V x 56 [some (.ref 0), some (.int (nI j)), some (.int l), some (.int f), some (.int (nI c)), some (.ref (shP j)), some (.int (nI 0)), some (.int (nI i)), some (.int (nI i)), none] [] (rdWs σ (shP j) f i)
            have ih : (res = rdG (shP j) l f (c - (i + 1)) (i + 1) (rdWs σ (shP j) f (i + 1))) → V x 56 [some (.ref 0), some (.int (nI j)), some (.int l), some (.int f), some (.int (nI c)), some (.ref (shP j)), some (.int (nI 0)), some (.int (nI (i + 1))), some (.int (nI (i + 1))), none] [] (rdWs σ (shP j) f (i + 1)) := ih
            have hp : res = rdG (shP j) l f (c - i) i (rdWs σ (shP j) f i) := hp
            rw [show c - i = (c - (i + 1)) + 1 by omega, rdG_s] at hp
            refine v_iload_10_8 G dX5_read_56 ?_
            refine v_iload_10_4 G dX5_read_58 ?_
            refine v_icmp_ge (tgt := 135) G dX5_read_60 rfl (fun h_60 => absurd h_60 (by exact nI_ge hi (by omega))) (fun h_60 => ?_)
            refine v_iload_10_6 G dX5_read_63 ?_
            refine v_if_ne (tgt := 135) G dX5_read_65 rfl (fun h_65 => absurd h_65 (by decide)) (fun h_65 => ?_)
            refine v_aload_10_5 G dX5_read_68 ?_
            refine v_iload_10_2 G dX5_read_70 ?_
            refine v_iload_10_3 G dX5_read_71 ?_
            refine v_iload_10_8 G dX5_read_72 ?_
            refine v_cV3 G (C_X1_faultAtTwo shP_SB) (by decide) md_X1_faultAtTwo in_X1_faultAtTwo (rv_X1 (by first | assumption | exact imgP_TB | exact shP_SB) rfl) ml_X5_282 (Nat.le_of_ble_eq_true rfl) dX5_read_74 ?_
            refine v_istore_10_6 G dX5_read_77 rfl ?_
            refine v_iload_10_6 G dX5_read_79 ?_
            refine v_if_ne (tgt := 129) G dX5_read_81 rfl (fun h_81 => ?_) (fun h_81 => ?_)
            · refine v_iincN_10_8 G dX5_read_129 rfl ?_
              refine v_goto (tgt := 56) G dX5_read_132 rfl ?_
              first
                | (rw [if_pos h_117, h_81]; exact V.drop (by simp only [vsubP, nI_0, and_self]) (ih (by rw [hp, if_pos h_81]; simp only [rdP, rdQ, h_117, if_true]; rfl)))
                | exact V.drop (by simp only [vsubP, and_self]) (keyH _ _ i (i + 1) h_81 (by rw [hp, if_neg h_81]))
            · refine v_iload_10_3 G dX5_read_84 ?_
              refine v_iconst (v := nI 2) G dX5_read_85 (by decide) ?_
              refine v_iload_10_8 G dX5_read_86 ?_
              refine v_imulN G dX5_read_88 ?_
              refine v_iadd G dX5_read_89 ?_
              refine v_istore_10_9 G dX5_read_90 rfl ?_
              refine v_aload_10_0 G dX5_read_92 ?_
              refine v_getR G vc_5 lk_X5_23 (fs_X5_2) dX5_read_93 ?_
              refine v_aload_10_5 G dX5_read_96 ?_
              refine v_getR G vc_1 lk_X5_276 (fs_X1_0 (by first | assumption | exact shP_SB)) dX5_read_98 ?_
              refine v_iload_10_9 G dX5_read_101 ?_
              refine v_iald G (as_X1_0 (by first | assumption | exact shP_SB)) (by first | assumption | omega | exact (fltB_in (by omega) h_81).1 | exact (fltB_in (by omega) h_81).2) dX5_read_103 ?_
              refine v_aload_10_5 G dX5_read_104 ?_
              refine v_getR G vc_1 lk_X5_276 (fs_X1_0 (by first | assumption | exact shP_SB)) dX5_read_106 ?_
              refine v_iload_10_9 G dX5_read_109 ?_
              refine v_iconst (v := nI 1) G dX5_read_111 (by decide) ?_
              refine v_iadd G dX5_read_112 ?_
              refine v_iald G (as_X1_0 (by first | assumption | exact shP_SB)) (by first | assumption | omega | exact (fltB_in (by omega) h_81).1 | exact (fltB_in (by omega) h_81).2) dX5_read_113 ?_
              refine v_cV2 G (C_X4_hangDoor hR) (by decide) md_X4_hangDoor in_X4_hangDoor (rv_X4 (by first | assumption | exact imgP_TB | exact shP_SB) rfl) ml_X5_185 (Nat.le_of_ble_eq_true rfl) dX5_read_114 ?_
              skip
              refine v_ifB_ne (tgt := 126) G dX5_read_117 rfl (fun h_117 => ?_) (fun h_117 => ?_)
              · refine v_iincN_10_7 G dX5_read_126 rfl ?_
                refine v_iincN_10_8 G dX5_read_129 rfl ?_
                refine v_goto (tgt := 56) G dX5_read_132 rfl ?_
                first
                  | (rw [if_pos h_117, h_81]; exact V.drop (by simp only [vsubP, nI_0, and_self]) (ih (by rw [hp, if_pos h_81]; simp only [rdP, rdQ, h_117, if_true]; rfl)))
                  | exact V.drop (by simp only [vsubP, and_self]) (keyH _ _ i (i + 1) h_81 (by rw [hp, if_neg h_81]))
              · refine v_bipush (v := (-20)) G dX5_read_120 (by decide) ?_
                refine v_iload_10_8 G dX5_read_122 ?_
                refine v_isub G dX5_read_124 ?_
                exact v_iret G hQ dX5_read_125 (hq _ _ (by rw [hp, if_pos h_81]; simp only [rdP, rdQ, h_117, if_false, Bool.false_eq_true]))
          · show V x 56 [some (.ref 0), some (.int (nI j)), some (.int l), some (.int f), some (.int (nI c)), some (.ref (shP j)), some (.int (nI 0)), some (.int (nI c)), some (.int (nI c)), none] [] (rdWs σ (shP j) f c)
            have hp : res = rdG (shP j) l f (c - c) c (rdWs σ (shP j) f c) := hp
            refine v_iload_10_8 G dX5_read_56 ?_
            refine v_iload_10_4 G dX5_read_58 ?_
            refine v_icmp_ge (tgt := 135) G dX5_read_60 rfl (fun h_60 => ?_) (fun h_60 => absurd (by exact nI_le (Nat.le_refl _) (by omega)) h_60)
            exact V.drop (by simp only [vsubP, and_self]) (keyE _ (nI 0) c (by rw [hp, Nat.sub_self]; rfl))
        · refine v_iconst (v := (-1)) G dX5_read_26 (by decide) ?_
          exact v_iret G hQ dX5_read_27 (absurd hg (by simp only [readOk, h_5, cj, h_13, h_23, if_true, if_false, Bool.false_eq_true, reduceIte, not_false_eq_true]))
  · refine v_iload_10_1 G dX5_read_0 ?_
    refine v_iconst (v := nI 3) G dX5_read_1 (by decide) ?_
    refine v_cS2 G (C_X5_isUpTo) (by decide) md_X5_isUpTo st_X5_isUpTo ml_X5_52 (Nat.le_of_ble_eq_true rfl) dX5_read_2 ?_
    refine v_ifB_eq (tgt := 26) G dX5_read_5 rfl (fun h_5 => ?_) (fun h_5 => ?_)
    · refine v_iconst (v := (-1)) G dX5_read_26 (by decide) ?_
      exact v_iret G hQ dX5_read_27 (vDet.of (by rw [readR, if_neg hg]) (by rw [readW, if_neg hg]))
    · refine v_iload_10_2 G dX5_read_8 ?_
      refine v_iconst (v := nI 2) G dX5_read_9 (by decide) ?_
      refine v_cS2 G (C_X5_isUpTo) (by decide) md_X5_isUpTo st_X5_isUpTo ml_X5_52 (Nat.le_of_ble_eq_true rfl) dX5_read_10 ?_
      refine v_ifB_eq (tgt := 26) G dX5_read_13 rfl (fun h_13 => ?_) (fun h_13 => ?_)
      · refine v_iconst (v := (-1)) G dX5_read_26 (by decide) ?_
        exact v_iret G hQ dX5_read_27 (vDet.of (by rw [readR, if_neg hg]) (by rw [readW, if_neg hg]))
      · refine v_iload_10_4 G dX5_read_16 ?_
        refine v_bipush (v := nI 20) G dX5_read_18 (by decide) ?_
        refine v_cS2 G (C_X5_isUpTo) (by decide) md_X5_isUpTo st_X5_isUpTo ml_X5_52 (Nat.le_of_ble_eq_true rfl) dX5_read_20 ?_
        refine v_ifB_ne (tgt := 28) G dX5_read_23 rfl (fun h_23 => ?_) (fun h_23 => ?_)
        · exact absurd (by simp only [readOk, h_5, h_13, h_23, if_true, if_false, Bool.false_eq_true, reduceIte]) hg
        · refine v_iconst (v := (-1)) G dX5_read_26 (by decide) ?_
          exact v_iret G hQ dX5_read_27 (vDet.of (by rw [readR, if_neg hg]) (by rw [readW, if_neg hg]))
