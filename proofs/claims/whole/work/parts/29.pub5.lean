/-! DoorTown's public calls: which door it was, by a seed, images, sheets -/
def kndB (σ : vW) (m s p : Nat) : Nat → Int32
  | 0 => nI 0
  | k + 1 => if holdB (kdW σ p (k + 1)) 32 m s = true then kndB σ m s p k ||| nI 1 <<< (nI k &&& 31) else kndB σ m s p k
def kindsR (σ : vW) (m s : Nat) (p : Int32) : Int32 := if oneB (σ 21 10) p = true then kndB σ m s p.toNatClampNeg 4 else -1
set_option maxHeartbeats 4000000 in
theorem C_X5_kinds {σ : vW} {n m s : Nat} {p : Int32} (hn : σ 21 10 = nI n) (hn5 : n ≤ 5) (hm : σ 21 11 = nI m) (hm9 : m ≤ 9) (hs : σ 4 3 = nI s) (hs6 : s ≤ 6) (hw : ∀ i, i < s → ∃ p, p < 5 ∧ σ 5 i = nI p) : Ctr mX5_kinds 5 [.ref 0, .int p] σ (vDet (some (.int (kindsR σ m s p))) (if oneB (σ 21 10) p = true then kdW σ p.toNatClampNeg 4 else σ)) := by
  have hT := TB21
  have hR := TB32
  have hm' : ∀ p k, (kdW σ p k) 32 11 = nI m := fun p k => by rw [kdW_ne (by decide), becW_11]; exact hm
  have hs' : ∀ p k, (kdW σ p k) 4 3 = nI s := fun p k => by rw [kdW_ne (by decide), becW_ne (by decide)]; exact hs
  have hw' : ∀ p k, ∀ i, i < s → ∃ q, q < 5 ∧ (kdW σ p k) 5 i = nI q := fun p k => by rw [kdW_ne (by decide), becW_ne (by decide)]; exact hw
  refine Ctr.intro (by decide) (fun α => Nat.le_of_ble_eq_true rfl) (fun x G hQ => ?_)
  have G : vG x RX5 cX5_kinds 4 (some .int) 5 := G
  show V x 0 [some (.ref 0), some (.int p), none, none] [] σ
  refine v_aload_4_0 G dX5_kinds_0 ?_
  refine v_getR G vc_5 lk_X5_19 (fs_X5_1) dX5_kinds_1 ?_
  refine v_iload_4_1 G dX5_kinds_4 ?_
  refine v_cV1 G (C_X4_isOne (by first | assumption | omega | exact oneB_in (by assumption) | exact wallB_in (by assumption) | exact oneB_m1 (by assumption) | decide)) (by decide) md_X4_isOne in_X4_isOne (rv_X4 (by first | assumption | exact imgP_TB | exact shP_SB) rfl) ml_X5_120 (Nat.le_of_ble_eq_true rfl) dX5_kinds_5 ?_
  refine v_ifB_ne (tgt := 13) G dX5_kinds_8 rfl (fun h_8 => ?_) (fun h_8 => ?_)
  · obtain ⟨k0, hk0, rfl⟩ := oneB_ex hn hn5 h_8
    have ck0 : (nI k0).toNatClampNeg = k0 := nI_clamp (by omega)
    refine v_aload_4_0 G dX5_kinds_13 ?_
    refine v_getR G vc_5 lk_X5_23 (fs_X5_2) dX5_kinds_14 ?_
    refine v_aload_4_0 G dX5_kinds_17 ?_
    refine v_getR G vc_5 lk_X5_19 (fs_X5_1) dX5_kinds_18 ?_
    refine v_cV1v G (C_X4_become hR hT (by decide)) (by decide) md_X4_become in_X4_become (rv_X4 (by first | assumption | exact imgP_TB | exact shP_SB) rfl) ml_X5_85 (Nat.le_of_ble_eq_true rfl) dX5_kinds_21 ?_
    refine v_iconst (v := nI 0) G dX5_kinds_24 (by decide) ?_
    refine v_istore_4_2 G dX5_kinds_25 rfl ?_
    refine v_iconst (v := nI 0) G dX5_kinds_26 (by decide) ?_
    refine v_istore_4_3 G dX5_kinds_27 rfl ?_
    refine v_for (pc := 28) (4) (fun k => ([some (.ref 0), some (.int (nI k0)), some (.int (kndB σ m s k0 k)), some (.int (nI k))], (kdW σ k0 k))) (fun k hk ih => ?_) ?_
    · show V x 28 [some (.ref 0), some (.int (nI k0)), some (.int (kndB σ m s k0 k)), some (.int (nI k))] [] (kdW σ k0 k)
      have ih : V x 28 [some (.ref 0), some (.int (nI k0)), some (.int (kndB σ m s k0 (k + 1))), some (.int (nI (k + 1)))] [] (kdW σ k0 (k + 1)) := ih
      refine v_iload_4_3 G dX5_kinds_28 ?_
      refine v_iconst (v := nI 4) G dX5_kinds_29 (by decide) ?_
      refine v_icmp_ge (tgt := 69) G dX5_kinds_30 rfl (fun h_30 => absurd h_30 (by exact nI_ge hk (by omega))) (fun h_30 => ?_)
      refine v_aload_4_0 G dX5_kinds_33 ?_
      refine v_getR G vc_5 lk_X5_23 (fs_X5_2) dX5_kinds_34 ?_
      refine v_getR G vc_4 lk_X5_123 (fs_X4_0 (by first | assumption | exact imgP_TB)) dX5_kinds_37 ?_
      refine v_iload_4_1 G dX5_kinds_40 ?_
      refine v_iload_4_3 G dX5_kinds_41 ?_
      refine v_iastN G (as_X4_0 (by first | assumption | exact imgP_TB)) (by first | assumption | omega | exact oneB_in (by assumption) | exact wallB_in (by assumption) | exact oneB_m1 (by assumption) | decide) (by first | decide | omega) dX5_kinds_42 ?_
      rw [show vset (kdW σ k0 k) (32 + 1) k0 (nI k) = kdW σ k0 (k + 1) from rfl]
      refine v_aload_4_0 G dX5_kinds_43 ?_
      refine v_getR G vc_5 lk_X5_29 (fs_X5_3) dX5_kinds_44 ?_
      refine v_aload_4_0 G dX5_kinds_47 ?_
      refine v_getR G vc_5 lk_X5_23 (fs_X5_2) dX5_kinds_48 ?_
      refine v_cV1 G (C_X2_allHoldIn hR (hm' _ _) hm9 (hs' _ _) hs6 (hw' _ _)) (by decide) md_X2_allHoldIn in_X2_allHoldIn (rv_X2 rfl) ml_X5_244 (Nat.le_of_ble_eq_true rfl) dX5_kinds_51 ?_
      refine v_ifB_eq (tgt := 63) G dX5_kinds_54 rfl (fun h_54 => ?_) (fun h_54 => ?_)
      · refine v_iincN_4_3 G dX5_kinds_63 rfl ?_
        refine v_goto (tgt := 28) G dX5_kinds_66 rfl ?_
        simp only [kndB, h_30, h_54, if_true, if_false, Bool.false_eq_true, reduceIte, Bool.and_true, Bool.true_and, Bool.false_and, Bool.and_false] at ih
        exact ih
      · refine v_iload_4_2 G dX5_kinds_57 ?_
        refine v_iconst (v := nI 1) G dX5_kinds_58 (by decide) ?_
        refine v_iload_4_3 G dX5_kinds_59 ?_
        refine v_ishl G dX5_kinds_60 ?_
        refine v_ior G dX5_kinds_61 ?_
        refine v_istore_4_2 G dX5_kinds_62 rfl ?_
        refine v_iincN_4_3 G dX5_kinds_63 rfl ?_
        refine v_goto (tgt := 28) G dX5_kinds_66 rfl ?_
        simp only [kndB, h_30, h_54, if_true, if_false, Bool.false_eq_true, reduceIte, Bool.and_true, Bool.true_and, Bool.false_and, Bool.and_false] at ih
        exact ih
    · show V x 28 [some (.ref 0), some (.int (nI k0)), some (.int (kndB σ m s k0 4)), some (.int (nI 4))] [] (kdW σ k0 4)
      refine v_iload_4_3 G dX5_kinds_28 ?_
      refine v_iconst (v := nI 4) G dX5_kinds_29 (by decide) ?_
      refine v_icmp_ge (tgt := 69) G dX5_kinds_30 rfl (fun h_30 => ?_) (fun h_30 => absurd (by exact nI_le (Nat.le_refl _) (by omega)) h_30)
      refine v_iload_4_2 G dX5_kinds_69 ?_
      exact v_iret G hQ dX5_kinds_70 (vDet.of (by simp only [kindsR, h_8, ck0, bI, h_30, if_true, if_false, Bool.false_eq_true, reduceIte, ite_self] <;> try rfl) (by simp only [h_8, ck0, h_30, if_true, if_false, Bool.false_eq_true, reduceIte, ite_self] <;> try rfl))
  · refine v_iconst (v := (-1)) G dX5_kinds_11 (by decide) ?_
    exact v_iret G hQ dX5_kinds_12 (vDet.of (by simp only [kindsR, bI, h_8, if_true, if_false, Bool.false_eq_true, reduceIte, ite_self] <;> try rfl) (by simp only [h_8, h_8, if_true, if_false, Bool.false_eq_true, reduceIte, ite_self] <;> try rfl))
/-- the worlds of walls(): the door moved through them -/
def mvs (σ : vW) (p : Nat) : Nat → vW
  | 0 => becW σ 32 21
  | k + 1 => mvW (mvs σ p k) 32 (nI p) (nI k)
theorem mvs_ne {σ : vW} {p b : Nat} (h1 : b ≠ 36) (h2 : b ≠ 39) : ∀ k, (mvs σ p k) b = (becW σ 32 21) b
  | 0 => rfl
  | k + 1 => by rw [mvs, mvW_ne h1 h2, mvs_ne h1 h2 k]
def wsB (σ : vW) (m s p : Nat) : Nat → Int32
  | 0 => nI 0
  | k + 1 => if mvB (mvs σ p k) 32 (nI p) (nI k) = true then (if holdB (mvs σ p (k + 1)) 32 m s = true then wsB σ m s p k ||| nI 1 <<< (nI k &&& 31) else wsB σ m s p k) else wsB σ m s p k
set_option maxHeartbeats 4000000 in
theorem C_X5_wallsAsSeen {σ : vW} {n m s p : Nat} (hp : p < 5) (hm : σ 21 11 = nI m) (hm9 : m ≤ 9) (hs : σ 4 3 = nI s) (hs6 : s ≤ 6) (hw : ∀ i, i < s → ∃ p, p < 5 ∧ σ 5 i = nI p) : Ctr mX5_wallsAsSeen 5 [.ref 0, .int (nI p)] σ (vDet (some (.int (wsB σ m s p m))) (mvs σ p m)) := by
  have hT := TB21
  have hR := TB32
  have hm' : ∀ k, (mvs σ p k) 32 11 = nI m := fun k => by rw [mvs_ne (by decide) (by decide), becW_11]; exact hm
  have hmt : ∀ k, (mvs σ p k) 21 11 = nI m := fun k => by rw [mvs_ne (by decide) (by decide), becW_ne (by decide)]; exact hm
  have hs' : ∀ k, (mvs σ p k) 4 3 = nI s := fun k => by rw [mvs_ne (by decide) (by decide), becW_ne (by decide)]; exact hs
  have hw' : ∀ k, ∀ i, i < s → ∃ q, q < 5 ∧ (mvs σ p k) 5 i = nI q := fun k => by rw [mvs_ne (by decide) (by decide), becW_ne (by decide)]; exact hw
  refine Ctr.intro (by decide) (fun α => Nat.le_of_ble_eq_true rfl) (fun x G hQ => ?_)
  have G : vG x RX5 cX5_wallsAsSeen 4 (some .int) 5 := G
  show V x 0 [some (.ref 0), some (.int (nI p)), none, none] [] σ
  refine v_aload_4_0 G dX5_wallsAsSeen_0 ?_
  refine v_getR G vc_5 lk_X5_23 (fs_X5_2) dX5_wallsAsSeen_1 ?_
  refine v_aload_4_0 G dX5_wallsAsSeen_4 ?_
  refine v_getR G vc_5 lk_X5_19 (fs_X5_1) dX5_wallsAsSeen_5 ?_
  refine v_cV1v G (C_X4_become hR hT (by decide)) (by decide) md_X4_become in_X4_become (rv_X4 (by first | assumption | exact imgP_TB | exact shP_SB) rfl) ml_X5_85 (Nat.le_of_ble_eq_true rfl) dX5_wallsAsSeen_8 ?_
  refine v_iconst (v := nI 0) G dX5_wallsAsSeen_11 (by decide) ?_
  refine v_istore_4_2 G dX5_wallsAsSeen_12 rfl ?_
  refine v_iconst (v := nI 0) G dX5_wallsAsSeen_13 (by decide) ?_
  refine v_istore_4_3 G dX5_wallsAsSeen_14 rfl ?_
  refine v_for (pc := 15) (m) (fun k => ([some (.ref 0), some (.int (nI p)), some (.int (wsB σ m s p k)), some (.int (nI k))], (mvs σ p k))) (fun k hk ih => ?_) ?_
  · show V x 15 [some (.ref 0), some (.int (nI p)), some (.int (wsB σ m s p k)), some (.int (nI k))] [] (mvs σ p k)
    have ih : V x 15 [some (.ref 0), some (.int (nI p)), some (.int (wsB σ m s p (k + 1))), some (.int (nI (k + 1)))] [] (mvs σ p (k + 1)) := ih
    refine v_iload_4_3 G dX5_wallsAsSeen_15 ?_
    refine v_aload_4_0 G dX5_wallsAsSeen_16 ?_
    refine v_getR G vc_5 lk_X5_19 (fs_X5_1) dX5_wallsAsSeen_17 ?_
    refine v_getI G vc_4 lk_X5_98 (fs_X4_11 (by first | assumption | exact imgP_TB)) dX5_wallsAsSeen_20 ?_
    refine v_icmp_ge (tgt := 64) G dX5_wallsAsSeen_23 rfl (fun h_23 => absurd h_23 (by rw [hmt]; exact nI_ge hk (by omega))) (fun h_23 => ?_)
    refine v_aload_4_0 G dX5_wallsAsSeen_26 ?_
    refine v_getR G vc_5 lk_X5_23 (fs_X5_2) dX5_wallsAsSeen_27 ?_
    refine v_iload_4_1 G dX5_wallsAsSeen_30 ?_
    refine v_iload_4_3 G dX5_wallsAsSeen_31 ?_
    refine v_cV2 G (C_X4_moveDoor (by first | assumption | omega | exact oneB_in (by assumption) | exact wallB_in (by assumption) | exact oneB_m1 (by assumption) | decide)) (by decide) md_X4_moveDoor in_X4_moveDoor (rv_X4 (by first | assumption | exact imgP_TB | exact shP_SB) rfl) ml_X5_295 (Nat.le_of_ble_eq_true rfl) dX5_wallsAsSeen_32 ?_
    rw [show mvW (mvs σ p k) 32 (nI p) (nI k) = mvs σ p (k + 1) from rfl]
    refine v_ifB_eq (tgt := 58) G dX5_wallsAsSeen_35 rfl (fun h_35 => ?_) (fun h_35 => ?_)
    · refine v_iincN_4_3 G dX5_wallsAsSeen_58 rfl ?_
      refine v_goto (tgt := 15) G dX5_wallsAsSeen_61 rfl ?_
      simp only [wsB, h_23, h_35, if_true, if_false, Bool.false_eq_true, reduceIte, Bool.and_true, Bool.true_and, Bool.false_and, Bool.and_false] at ih
      exact ih
    · refine v_aload_4_0 G dX5_wallsAsSeen_38 ?_
      refine v_getR G vc_5 lk_X5_29 (fs_X5_3) dX5_wallsAsSeen_39 ?_
      refine v_aload_4_0 G dX5_wallsAsSeen_42 ?_
      refine v_getR G vc_5 lk_X5_23 (fs_X5_2) dX5_wallsAsSeen_43 ?_
      refine v_cV1 G (C_X2_allHoldIn hR (hm' (k + 1)) hm9 (hs' (k + 1)) hs6 (hw' (k + 1))) (by decide) md_X2_allHoldIn in_X2_allHoldIn (rv_X2 rfl) ml_X5_244 (Nat.le_of_ble_eq_true rfl) dX5_wallsAsSeen_46 ?_
      refine v_ifB_eq (tgt := 58) G dX5_wallsAsSeen_49 rfl (fun h_49 => ?_) (fun h_49 => ?_)
      · refine v_iincN_4_3 G dX5_wallsAsSeen_58 rfl ?_
        refine v_goto (tgt := 15) G dX5_wallsAsSeen_61 rfl ?_
        simp only [wsB, h_23, h_35, h_49, if_true, if_false, Bool.false_eq_true, reduceIte, Bool.and_true, Bool.true_and, Bool.false_and, Bool.and_false] at ih
        exact ih
      · refine v_iload_4_2 G dX5_wallsAsSeen_52 ?_
        refine v_iconst (v := nI 1) G dX5_wallsAsSeen_53 (by decide) ?_
        refine v_iload_4_3 G dX5_wallsAsSeen_54 ?_
        refine v_ishl G dX5_wallsAsSeen_55 ?_
        refine v_ior G dX5_wallsAsSeen_56 ?_
        refine v_istore_4_2 G dX5_wallsAsSeen_57 rfl ?_
        refine v_iincN_4_3 G dX5_wallsAsSeen_58 rfl ?_
        refine v_goto (tgt := 15) G dX5_wallsAsSeen_61 rfl ?_
        simp only [wsB, h_23, h_35, h_49, if_true, if_false, Bool.false_eq_true, reduceIte, Bool.and_true, Bool.true_and, Bool.false_and, Bool.and_false] at ih
        exact ih
  · show V x 15 [some (.ref 0), some (.int (nI p)), some (.int (wsB σ m s p m)), some (.int (nI m))] [] (mvs σ p m)
    refine v_iload_4_3 G dX5_wallsAsSeen_15 ?_
    refine v_aload_4_0 G dX5_wallsAsSeen_16 ?_
    refine v_getR G vc_5 lk_X5_19 (fs_X5_1) dX5_wallsAsSeen_17 ?_
    refine v_getI G vc_4 lk_X5_98 (fs_X4_11 (by first | assumption | exact imgP_TB)) dX5_wallsAsSeen_20 ?_
    refine v_icmp_ge (tgt := 64) G dX5_wallsAsSeen_23 rfl (fun h_23 => ?_) (fun h_23 => absurd (by rw [hmt]; exact nI_le (Nat.le_refl _) (by omega)) h_23)
    refine v_iload_4_2 G dX5_wallsAsSeen_64 ?_
    exact v_iret G hQ dX5_wallsAsSeen_65 vDet.mk
def wallsR (σ : vW) (m s : Nat) (p : Int32) : Int32 := if oneB (σ 21 10) p = true then wsB σ m s p.toNatClampNeg m else -1
set_option maxHeartbeats 4000000 in
theorem C_X5_walls {σ : vW} {n m s : Nat} {p : Int32} (hn : σ 21 10 = nI n) (hn5 : n ≤ 5) (hm : σ 21 11 = nI m) (hm9 : m ≤ 9) (hs : σ 4 3 = nI s) (hs6 : s ≤ 6) (hw : ∀ i, i < s → ∃ p, p < 5 ∧ σ 5 i = nI p) : Ctr mX5_walls 6 [.ref 0, .int p] σ (vDet (some (.int (wallsR σ m s p))) (if oneB (σ 21 10) p = true then mvs σ p.toNatClampNeg m else σ)) := by
  have hT := TB21
  refine Ctr.intro (by decide) (fun α => Nat.le_of_ble_eq_true rfl) (fun x G hQ => ?_)
  have G : vG x RX5 cX5_walls 2 (some .int) 6 := G
  show V x 0 [some (.ref 0), some (.int p)] [] σ
  refine v_aload_2_0 G dX5_walls_0 ?_
  refine v_getR G vc_5 lk_X5_19 (fs_X5_1) dX5_walls_1 ?_
  refine v_iload_2_1 G dX5_walls_4 ?_
  refine v_cV1 G (C_X4_isOne (by first | assumption | omega | exact oneB_in (by assumption) | exact wallB_in (by assumption) | exact oneB_m1 (by assumption) | decide)) (by decide) md_X4_isOne in_X4_isOne (rv_X4 (by first | assumption | exact imgP_TB | exact shP_SB) rfl) ml_X5_120 (Nat.le_of_ble_eq_true rfl) dX5_walls_5 ?_
  refine v_ifB_eq (tgt := 19) G dX5_walls_8 rfl (fun h_8 => ?_) (fun h_8 => ?_)
  · refine v_iconst (v := (-1)) G dX5_walls_19 (by decide) ?_
    exact v_iret G hQ dX5_walls_20 (vDet.of (by simp only [wallsR, bI, h_8, if_true, if_false, Bool.false_eq_true, reduceIte, ite_self] <;> try rfl) (by simp only [h_8, h_8, if_true, if_false, Bool.false_eq_true, reduceIte, ite_self] <;> try rfl))
  · obtain ⟨k0, hk0, rfl⟩ := oneB_ex hn hn5 h_8
    have ck0 : (nI k0).toNatClampNeg = k0 := nI_clamp (by omega)
    refine v_aload_2_0 G dX5_walls_11 ?_
    refine v_iload_2_1 G dX5_walls_12 ?_
    refine v_cV1 G (C_X5_wallsAsSeen (n := n) (by omega) hm hm9 hs hs6 hw) (by decide) md_X5_wallsAsSeen in_X5_wallsAsSeen (rv_X5 rfl) ml_X5_248 (Nat.le_of_ble_eq_true rfl) dX5_walls_13 ?_
    refine v_goto (tgt := 20) G dX5_walls_16 rfl ?_
    exact v_iret G hQ dX5_walls_20 (vDet.of (by simp only [wallsR, bI, h_8, ck0, if_true, if_false, Bool.false_eq_true, reduceIte, ite_self] <;> try rfl) (by simp only [h_8, ck0, h_8, ck0, if_true, if_false, Bool.false_eq_true, reduceIte, ite_self] <;> try rfl))
/-- how many of the walls let one reach each room -/
def riW (σ : vW) (rooms : Int32) : Nat → vW
  | 0 => σ
  | r + 1 => vset (riW σ rooms r) 66 r ((riW σ rooms r) 66 r + (ushr rooms (nI r) &&& nI 1))
def crM (σ : vW) (p : Nat) (walls : Int32) (k : Nat) : vW := if bitB walls (nI k) = true then mvW σ 32 (nI p) (nI k) else σ
def crR (σ : vW) (m p q : Nat) (walls : Int32) (k : Nat) : Int32 := if bitB walls (nI k) = true then (if mvB σ 32 (nI p) (nI k) = true then reachW (crM σ p walls k) 32 m q else nI 0) else nI 0
def crW (σ : vW) (m p q : Nat) (walls : Int32) : Nat → vW
  | 0 => vrow (becW σ 32 21) 66 (fillR ((becW σ 32 21) 66) (nI 0) 8)
  | k + 1 => riW (crM (crW σ m p q walls k) p walls k) (crR (crW σ m p q walls k) m p q walls k) 8
theorem riW_ne {σ : vW} {rooms : Int32} {b : Nat} (h : b ≠ 66) : ∀ r, (riW σ rooms r) b = σ b
  | 0 => rfl
  | r + 1 => by rw [riW, vset_ne h, riW_ne h r]
theorem crM_ne {σ : vW} {p b k : Nat} {walls : Int32} (h1 : b ≠ 36) (h2 : b ≠ 39) : (crM σ p walls k) b = σ b := by
  unfold crM
  split
  · exact mvW_ne h1 h2
  · rfl
theorem crW_ne {σ : vW} {m p q b : Nat} {walls : Int32} (h1 : b ≠ 36) (h2 : b ≠ 39) (h3 : b ≠ 66) : ∀ k, (crW σ m p q walls k) b = (becW σ 32 21) b
  | 0 => vrow_ne h3
  | k + 1 => by rw [crW, riW_ne h3, crM_ne h1 h2, crW_ne h1 h2 h3 k]
set_option maxHeartbeats 4000000 in
theorem C_X5_countReaching {σ : vW} {m p q : Nat} {walls : Int32} (hp5 : p < 5) (hq : q < 5) (hm : σ 21 11 = nI m) (hm9 : m ≤ 9) : Ctr mX5_countReaching 4 [.ref 0, .int (nI p), .int walls, .int (nI q)] σ (vDet none (crW σ m p q walls m)) := by
  have hT := TB21
  have hR := TB32
  have a7 : vAs 66 0 8 := as_X5_7
  have hmt : ∀ k, (crW σ m p q walls k) 21 11 = nI m := fun k => by rw [crW_ne (by decide) (by decide) (by decide), becW_ne (by decide)]; exact hm
  have hmr : ∀ k, (crW σ m p q walls k) 32 11 = nI m := fun k => by rw [crW_ne (by decide) (by decide) (by decide), becW_11]; exact hm
  refine Ctr.intro (by decide) (fun α => Nat.le_of_ble_eq_true rfl) (fun x G hQ => ?_)
  have G : vG x RX5 cX5_countReaching 7 none 4 := G
  show V x 0 [some (.ref 0), some (.int (nI p)), some (.int walls), some (.int (nI q)), none, none, none] [] σ
  refine v_aload_7_0 G dX5_countReaching_0 ?_
  refine v_getR G vc_5 lk_X5_23 (fs_X5_2) dX5_countReaching_1 ?_
  refine v_aload_7_0 G dX5_countReaching_4 ?_
  refine v_getR G vc_5 lk_X5_19 (fs_X5_1) dX5_countReaching_5 ?_
  refine v_cV1v G (C_X4_become hR hT (by decide)) (by decide) md_X4_become in_X4_become (rv_X4 (by first | assumption | exact imgP_TB | exact shP_SB) rfl) ml_X5_85 (Nat.le_of_ble_eq_true rfl) dX5_countReaching_8 ?_
  refine v_aload_7_0 G dX5_countReaching_11 ?_
  refine v_getR G vc_5 lk_X5_48 (fs_X5_7) dX5_countReaching_12 ?_
  refine v_iconst (v := nI 0) G dX5_countReaching_15 (by decide) ?_
  refine v_cS2v G (C_fill a7 (by decide)) (by decide) md_J7_fill_53178 st_J7_fill_53178 ml_X5_298 (Nat.le_of_ble_eq_true rfl) dX5_countReaching_16 ?_
  refine v_iconst (v := nI 0) G dX5_countReaching_19 (by decide) ?_
  refine v_istore_7_4 G dX5_countReaching_20 rfl ?_
  refine v_for (pc := 22) m (fun k => ([some (.ref 0), some (.int (nI p)), some (.int walls), some (.int (nI q)), some (.int (nI k)), none, none], crW σ m p q walls k)) (fun k hk ih => ?_) ?_
  · show V x 22 [some (.ref 0), some (.int (nI p)), some (.int walls), some (.int (nI q)), some (.int (nI k)), none, none] [] (crW σ m p q walls k)
    have ih : V x 22 [some (.ref 0), some (.int (nI p)), some (.int walls), some (.int (nI q)), some (.int (nI (k + 1))), none, none] [] (riW (crM (crW σ m p q walls k) p walls k) (crR (crW σ m p q walls k) m p q walls k) 8) := ih
    have hmk := hmt k
    have hrk := hmr k
    generalize crW σ m p q walls k = s at ih hmk hrk ⊢
    have hmm : ∀ w, (mvW s 32 (nI p) w) 32 11 = nI m := fun w => by rw [mvW_ne (by decide) (by decide)]; exact hrk
    have key : ∀ (s1 : vW) (rooms : Int32), V x 22 [some (.ref 0), some (.int (nI p)), some (.int walls), some (.int (nI q)), some (.int (nI (k + 1))), none, none] [] (riW s1 rooms 8) → V x 73 [some (.ref 0), some (.int (nI p)), some (.int walls), some (.int (nI q)), some (.int (nI k)), some (.int rooms), some (.int (nI 0))] [] s1 := by
      intro s1 rooms ih2
      refine v_for (pc := 73) (8) (fun r => ([some (.ref 0), some (.int (nI p)), some (.int walls), some (.int (nI q)), some (.int (nI k)), some (.int rooms), some (.int (nI r))], (riW s1 rooms r))) (fun r hr ihr => ?_) ?_
      · show V x 73 [some (.ref 0), some (.int (nI p)), some (.int walls), some (.int (nI q)), some (.int (nI k)), some (.int rooms), some (.int (nI r))] [] (riW s1 rooms r)
        have ihr : V x 73 [some (.ref 0), some (.int (nI p)), some (.int walls), some (.int (nI q)), some (.int (nI k)), some (.int rooms), some (.int (nI (r + 1)))] [] (riW s1 rooms (r + 1)) := ihr
        refine v_iload_7_6 G dX5_countReaching_73 ?_
        refine v_bipush (v := nI 8) G dX5_countReaching_75 (by decide) ?_
        refine v_icmp_ge (tgt := 103) G dX5_countReaching_77 rfl (fun h_77 => absurd h_77 (by exact nI_ge hr (by omega))) (fun h_77 => ?_)
        refine v_aload_7_0 G dX5_countReaching_80 ?_
        refine v_getR G vc_5 lk_X5_48 (fs_X5_7) dX5_countReaching_81 ?_
        refine v_iload_7_6 G dX5_countReaching_84 ?_
        refine v_dup2 G dX5_countReaching_86 rfl rfl ?_
        refine v_ialdN G (as_X5_7) (by first | assumption | omega | exact oneB_in (by assumption) | exact wallB_in (by assumption) | exact oneB_m1 (by assumption) | decide) (by first | decide | omega) dX5_countReaching_87 ?_
        refine v_iload_7_5 G dX5_countReaching_88 ?_
        refine v_iload_7_6 G dX5_countReaching_90 ?_
        refine v_iushr G dX5_countReaching_92 ?_
        refine v_iconst (v := nI 1) G dX5_countReaching_93 (by decide) ?_
        refine v_iand G dX5_countReaching_94 ?_
        refine v_iadd G dX5_countReaching_95 ?_
        refine v_iastN G (as_X5_7) (by first | assumption | omega | exact oneB_in (by assumption) | exact wallB_in (by assumption) | exact oneB_m1 (by assumption) | decide) (by first | decide | omega) dX5_countReaching_96 ?_
        refine v_iincN_7_6 G dX5_countReaching_97 rfl ?_
        refine v_goto (tgt := 73) G dX5_countReaching_100 rfl ?_
        exact ihr
      · show V x 73 [some (.ref 0), some (.int (nI p)), some (.int walls), some (.int (nI q)), some (.int (nI k)), some (.int rooms), some (.int (nI 8))] [] (riW s1 rooms 8)
        refine v_iload_7_6 G dX5_countReaching_73 ?_
        refine v_bipush (v := nI 8) G dX5_countReaching_75 (by decide) ?_
        refine v_icmp_ge (tgt := 103) G dX5_countReaching_77 rfl (fun h_77 => ?_) (fun h_77 => absurd (by exact nI_le (Nat.le_refl _) (by omega)) h_77)
        refine v_iincN_7_4 G dX5_countReaching_103 rfl ?_
        refine v_goto (tgt := 22) G dX5_countReaching_106 rfl ?_
        exact V.drop (by simp only [vsubP, and_self]) ih2
    refine v_iload_7_4 G dX5_countReaching_22 ?_
    refine v_aload_7_0 G dX5_countReaching_24 ?_
    refine v_getR G vc_5 lk_X5_19 (fs_X5_1) dX5_countReaching_25 ?_
    refine v_getI G vc_4 lk_X5_98 (fs_X4_11 (by first | assumption | exact imgP_TB)) dX5_countReaching_28 ?_
    refine v_icmp_ge (tgt := 109) G dX5_countReaching_31 rfl (fun h_31 => absurd h_31 (by rw [hmk]; exact nI_ge hk (by omega))) (fun h_31 => ?_)
    refine v_iload_7_2 G dX5_countReaching_34 ?_
    refine v_iload_7_4 G dX5_countReaching_35 ?_
    refine v_cS2 G (C_X5_hasBit) (by decide) md_X5_hasBit st_X5_hasBit ml_X5_292 (Nat.le_of_ble_eq_true rfl) dX5_countReaching_37 ?_
    refine v_ifB_eq (tgt := 67) G dX5_countReaching_40 rfl (fun h_40 => ?_) (fun h_40 => ?_)
    · refine v_iconst (v := nI 0) G dX5_countReaching_67 (by decide) ?_
      refine v_istore_7_5 G dX5_countReaching_68 rfl ?_
      refine v_iconst (v := nI 0) G dX5_countReaching_70 (by decide) ?_
      refine v_istore_7_6 G dX5_countReaching_71 rfl ?_
      refine key _ _ ?_
      simp only [crM, crR, h_31, h_40, if_true, if_false, Bool.false_eq_true, reduceIte] at ih
      exact ih
    · refine v_aload_7_0 G dX5_countReaching_43 ?_
      refine v_getR G vc_5 lk_X5_23 (fs_X5_2) dX5_countReaching_44 ?_
      refine v_iload_7_1 G dX5_countReaching_47 ?_
      refine v_iload_7_4 G dX5_countReaching_48 ?_
      refine v_cV2 G (C_X4_moveDoor (by first | assumption | omega | exact oneB_in (by assumption) | exact wallB_in (by assumption) | exact oneB_m1 (by assumption) | decide)) (by decide) md_X4_moveDoor in_X4_moveDoor (rv_X4 (by first | assumption | exact imgP_TB | exact shP_SB) rfl) ml_X5_295 (Nat.le_of_ble_eq_true rfl) dX5_countReaching_50 ?_
      refine v_ifB_eq (tgt := 67) G dX5_countReaching_53 rfl (fun h_53 => ?_) (fun h_53 => ?_)
      · refine v_iconst (v := nI 0) G dX5_countReaching_67 (by decide) ?_
        refine v_istore_7_5 G dX5_countReaching_68 rfl ?_
        refine v_iconst (v := nI 0) G dX5_countReaching_70 (by decide) ?_
        refine v_istore_7_6 G dX5_countReaching_71 rfl ?_
        refine key _ _ ?_
        simp only [crM, crR, h_31, h_40, h_53, if_true, if_false, Bool.false_eq_true, reduceIte] at ih
        exact ih
      · refine v_aload_7_0 G dX5_countReaching_56 ?_
        refine v_getR G vc_5 lk_X5_23 (fs_X5_2) dX5_countReaching_57 ?_
        refine v_iload_7_3 G dX5_countReaching_60 ?_
        refine v_cV1 G (C_X4_reached hR (by omega) (hmm _) hm9) (by decide) md_X4_reached in_X4_reached (rv_X4 (by first | assumption | exact imgP_TB | exact shP_SB) rfl) ml_X5_135 (Nat.le_of_ble_eq_true rfl) dX5_countReaching_61 ?_
        refine v_goto (tgt := 68) G dX5_countReaching_64 rfl ?_
        refine v_istore_7_5 G dX5_countReaching_68 rfl ?_
        refine v_iconst (v := nI 0) G dX5_countReaching_70 (by decide) ?_
        refine v_istore_7_6 G dX5_countReaching_71 rfl ?_
        refine key _ _ ?_
        simp only [crM, crR, h_31, h_40, h_53, if_true, if_false, Bool.false_eq_true, reduceIte] at ih
        exact ih
  · show V x 22 [some (.ref 0), some (.int (nI p)), some (.int walls), some (.int (nI q)), some (.int (nI m)), none, none] [] (crW σ m p q walls m)
    refine v_iload_7_4 G dX5_countReaching_22 ?_
    refine v_aload_7_0 G dX5_countReaching_24 ?_
    refine v_getR G vc_5 lk_X5_19 (fs_X5_1) dX5_countReaching_25 ?_
    refine v_getI G vc_4 lk_X5_98 (fs_X4_11 (by first | assumption | exact imgP_TB)) dX5_countReaching_28 ?_
    refine v_icmp_ge (tgt := 109) G dX5_countReaching_31 rfl (fun h_31 => ?_) (fun h_31 => absurd (by rw [hmt]; exact nI_le (Nat.le_refl _) (by omega)) h_31)
    exact v_vret G hQ dX5_countReaching_109 vDet.mk
