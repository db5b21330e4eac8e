/-! DoorTown's public calls: gain, shut, leave, kindly, dear, odds -/
/-- the most of f 0 .. f (k - 1), above v0; where -/
def mxV (f : Nat → Int32) (v0 : Int32) : Nat → Int32
  | 0 => v0
  | k + 1 => if f k ≤ mxV f v0 k then mxV f v0 k else f k
def mxA (f : Nat → Int32) (v0 : Int32) : Nat → Int32
  | 0 => -4
  | k + 1 => if f k ≤ mxV f v0 k then mxA f v0 k else nI k
def p1Ok (σ : vW) (p w : Int32) : Bool := if oneB (σ 21 10) p = true then (if upToB w (nI 1) = true then true else false) else false
def g0 (σ : vW) (m p : Nat) : Int32 := gainW σ 21 p (reachW σ 21 m p)
def gainR (σ : vW) (m : Nat) (p w : Int32) : Int32 := if p1Ok σ p w = true then (if σ (21 + 4) p.toNatClampNeg = -1 then askd (mxA (fun k => gainIf σ 21 m p.toNatClampNeg (nI k)) (g0 σ m p.toNatClampNeg) m) (mxV (fun k => gainIf σ 21 m p.toNatClampNeg (nI k)) (g0 σ m p.toNatClampNeg) m) w else -2) else -1
set_option maxHeartbeats 4000000 in
theorem C_X5_gain {σ : vW} {n m : Nat} {p w : Int32} (hn : σ 21 10 = nI n) (hn5 : n ≤ 5) (hm : σ 21 11 = nI m) (hm9 : m ≤ 9) : Ctr mX5_gain 5 [.ref 0, .int p, .int w] σ (vDet (some (.int (gainR σ m p w))) σ) := by
  have hT := TB21
  refine Ctr.intro (by decide) (fun α => Nat.le_of_ble_eq_true rfl) (fun x G hQ => ?_)
  have G : vG x RX5 cX5_gain 7 (some .int) 5 := G
  show V x 0 [some (.ref 0), some (.int p), some (.int w), none, none, none, none] [] σ
  refine v_aload_7_0 G dX5_gain_0 ?_
  refine v_getR G vc_5 lk_X5_19 (fs_X5_1) dX5_gain_1 ?_
  refine v_iload_7_1 G dX5_gain_4 ?_
  refine v_cV1 G (C_X4_isOne (by first | assumption | omega | exact oneB_in (by assumption) | exact wallB_in (by assumption) | exact oneB_m1 (by assumption) | decide)) (by decide) md_X4_isOne in_X4_isOne (rv_X4 (by first | assumption | exact imgP_TB | exact shP_SB) rfl) ml_X5_120 (Nat.le_of_ble_eq_true rfl) dX5_gain_5 ?_
  refine v_ifB_eq (tgt := 19) G dX5_gain_8 rfl (fun h_8 => ?_) (fun h_8 => ?_)
  · refine v_iconst (v := (-1)) G dX5_gain_19 (by decide) ?_
    exact v_iret G hQ dX5_gain_20 (vDet.of (by simp only [gainR, p1Ok, bI, h_8, if_true, if_false, Bool.false_eq_true, reduceIte] <;> try rfl) rfl)
  · obtain ⟨k0, hk0, rfl⟩ := oneB_ex hn hn5 h_8
    have ck0 : (nI k0).toNatClampNeg = k0 := nI_clamp (by omega)
    refine v_iload_7_2 G dX5_gain_11 ?_
    refine v_iconst (v := nI 1) G dX5_gain_12 (by decide) ?_
    refine v_cS2 G (C_X5_isUpTo) (by decide) md_X5_isUpTo st_X5_isUpTo ml_X5_52 (Nat.le_of_ble_eq_true rfl) dX5_gain_13 ?_
    refine v_ifB_ne (tgt := 21) G dX5_gain_16 rfl (fun h_16 => ?_) (fun h_16 => ?_)
    · refine v_aload_7_0 G dX5_gain_21 ?_
      refine v_getR G vc_5 lk_X5_19 (fs_X5_1) dX5_gain_22 ?_
      refine v_getR G vc_4 lk_X5_132 (fs_X4_3 (by first | assumption | exact imgP_TB)) dX5_gain_25 ?_
      refine v_iload_7_1 G dX5_gain_28 ?_
      refine v_ialdN G (as_X4_3 (by first | assumption | exact imgP_TB)) (by first | assumption | omega | exact oneB_in (by assumption) | exact wallB_in (by assumption) | exact oneB_m1 (by assumption) | decide) (by first | decide | omega) dX5_gain_29 ?_
      refine v_iconst (v := (-1)) G dX5_gain_30 (by decide) ?_
      refine v_icmp_eq (tgt := 37) G dX5_gain_31 rfl (fun h_31 => ?_) (fun h_31 => ?_)
      · refine v_bipush (v := (-4)) G dX5_gain_37 (by decide) ?_
        refine v_istore_7_3 G dX5_gain_39 rfl ?_
        refine v_aload_7_0 G dX5_gain_40 ?_
        refine v_getR G vc_5 lk_X5_19 (fs_X5_1) dX5_gain_41 ?_
        refine v_iload_7_1 G dX5_gain_44 ?_
        refine v_aload_7_0 G dX5_gain_45 ?_
        refine v_getR G vc_5 lk_X5_19 (fs_X5_1) dX5_gain_46 ?_
        refine v_iload_7_1 G dX5_gain_49 ?_
        refine v_cV1 G (C_X4_reached (by first | assumption | omega | exact oneB_in (by assumption) | exact wallB_in (by assumption) | exact oneB_m1 (by assumption) | decide) (by first | assumption | omega | exact oneB_in (by assumption) | exact wallB_in (by assumption) | exact oneB_m1 (by assumption) | decide) (by first | assumption | omega | exact oneB_in (by assumption) | exact wallB_in (by assumption) | exact oneB_m1 (by assumption) | decide) (by first | assumption | omega | exact oneB_in (by assumption) | exact wallB_in (by assumption) | exact oneB_m1 (by assumption) | decide)) (by decide) md_X4_reached in_X4_reached (rv_X4 (by first | assumption | exact imgP_TB | exact shP_SB) rfl) ml_X5_135 (Nat.le_of_ble_eq_true rfl) dX5_gain_50 ?_
        refine v_cV2 G (C_X4_gainOf (by first | assumption | omega | exact oneB_in (by assumption) | exact wallB_in (by assumption) | exact oneB_m1 (by assumption) | decide) (by first | assumption | omega | exact oneB_in (by assumption) | exact wallB_in (by assumption) | exact oneB_m1 (by assumption) | decide)) (by decide) md_X4_gainOf in_X4_gainOf (rv_X4 (by first | assumption | exact imgP_TB | exact shP_SB) rfl) ml_X5_138 (Nat.le_of_ble_eq_true rfl) dX5_gain_53 ?_
        refine v_istore_7_4 G dX5_gain_56 rfl ?_
        refine v_iconst (v := nI 0) G dX5_gain_58 (by decide) ?_
        refine v_istore_7_5 G dX5_gain_59 rfl ?_
        refine v_for (pc := 61) (m) (fun k => ([some (.ref 0), some (.int (nI k0)), some (.int w), some (.int (mxA (fun k => gainIf σ 21 m k0 (nI k)) (g0 σ m k0) k)), some (.int (mxV (fun k => gainIf σ 21 m k0 (nI k)) (g0 σ m k0) k)), some (.int (nI k)), none], σ)) (fun k hk ih => ?_) ?_
        · show V x 61 [some (.ref 0), some (.int (nI k0)), some (.int w), some (.int (mxA (fun k => gainIf σ 21 m k0 (nI k)) (g0 σ m k0) k)), some (.int (mxV (fun k => gainIf σ 21 m k0 (nI k)) (g0 σ m k0) k)), some (.int (nI k)), none] [] σ
          have ih : V x 61 [some (.ref 0), some (.int (nI k0)), some (.int w), some (.int (mxA (fun k => gainIf σ 21 m k0 (nI k)) (g0 σ m k0) (k + 1))), some (.int (mxV (fun k => gainIf σ 21 m k0 (nI k)) (g0 σ m k0) (k + 1))), some (.int (nI (k + 1))), none] [] σ := ih
          refine v_iload_7_5 G dX5_gain_61 ?_
          refine v_aload_7_0 G dX5_gain_63 ?_
          refine v_getR G vc_5 lk_X5_19 (fs_X5_1) dX5_gain_64 ?_
          refine v_getI G vc_4 lk_X5_98 (fs_X4_11 (by first | assumption | exact imgP_TB)) dX5_gain_67 ?_
          refine v_icmp_ge (tgt := 105) G dX5_gain_70 rfl (fun h_70 => absurd h_70 (by rw [hm]; exact nI_ge hk (by omega))) (fun h_70 => ?_)
          refine v_aload_7_0 G dX5_gain_73 ?_
          refine v_getR G vc_5 lk_X5_19 (fs_X5_1) dX5_gain_74 ?_
          refine v_iload_7_1 G dX5_gain_77 ?_
          refine v_iload_7_5 G dX5_gain_78 ?_
          refine v_cV2 G (C_X4_gainIfHung (by first | assumption | omega | exact oneB_in (by assumption) | exact wallB_in (by assumption) | exact oneB_m1 (by assumption) | decide) (by first | assumption | omega | exact oneB_in (by assumption) | exact wallB_in (by assumption) | exact oneB_m1 (by assumption) | decide) (by first | assumption | omega | exact oneB_in (by assumption) | exact wallB_in (by assumption) | exact oneB_m1 (by assumption) | decide) (by first | assumption | omega | exact oneB_in (by assumption) | exact wallB_in (by assumption) | exact oneB_m1 (by assumption) | decide)) (by decide) md_X4_gainIfHung in_X4_gainIfHung (rv_X4 (by first | assumption | exact imgP_TB | exact shP_SB) rfl) ml_X5_214 (Nat.le_of_ble_eq_true rfl) dX5_gain_80 ?_
          refine v_istore_7_6 G dX5_gain_83 rfl ?_
          refine v_iload_7_6 G dX5_gain_85 ?_
          refine v_iload_7_4 G dX5_gain_87 ?_
          refine v_icmp_le (tgt := 99) G dX5_gain_89 rfl (fun h_89 => ?_) (fun h_89 => ?_)
          · refine v_iincN_7_5 G dX5_gain_99 rfl ?_
            refine v_goto (tgt := 61) G dX5_gain_102 rfl ?_
            simp only [mxA, mxV, h_70, h_89, if_true, if_false, Bool.false_eq_true, reduceIte] at ih
            exact V.drop (by simp only [vsubP, and_self]) ih
          · refine v_iload_7_5 G dX5_gain_92 ?_
            refine v_istore_7_3 G dX5_gain_94 rfl ?_
            refine v_iload_7_6 G dX5_gain_95 ?_
            refine v_istore_7_4 G dX5_gain_97 rfl ?_
            refine v_iincN_7_5 G dX5_gain_99 rfl ?_
            refine v_goto (tgt := 61) G dX5_gain_102 rfl ?_
            simp only [mxA, mxV, h_70, h_89, if_true, if_false, Bool.false_eq_true, reduceIte] at ih
            exact V.drop (by simp only [vsubP, and_self]) ih
        · show V x 61 [some (.ref 0), some (.int (nI k0)), some (.int w), some (.int (mxA (fun k => gainIf σ 21 m k0 (nI k)) (g0 σ m k0) m)), some (.int (mxV (fun k => gainIf σ 21 m k0 (nI k)) (g0 σ m k0) m)), some (.int (nI m)), none] [] σ
          refine v_iload_7_5 G dX5_gain_61 ?_
          refine v_aload_7_0 G dX5_gain_63 ?_
          refine v_getR G vc_5 lk_X5_19 (fs_X5_1) dX5_gain_64 ?_
          refine v_getI G vc_4 lk_X5_98 (fs_X4_11 (by first | assumption | exact imgP_TB)) dX5_gain_67 ?_
          refine v_icmp_ge (tgt := 105) G dX5_gain_70 rfl (fun h_70 => ?_) (fun h_70 => absurd (by rw [hm]; exact nI_le (Nat.le_refl _) (by omega)) h_70)
          refine v_iload_7_3 G dX5_gain_105 ?_
          refine v_bipush (v := (-4)) G dX5_gain_106 (by decide) ?_
          refine v_icmp_eq (tgt := 115) G dX5_gain_108 rfl (fun h_108 => ?_) (fun h_108 => ?_)
          · refine v_iload_7_3 G dX5_gain_115 ?_
            refine v_goto (tgt := 121) G dX5_gain_116 rfl ?_
            exact v_iret G hQ dX5_gain_121 (vDet.of (by simp only [gainR, p1Ok, askd, h_8, ck0, h_16, h_31, bI, h_70, h_108, if_true, if_false, Bool.false_eq_true, reduceIte] <;> try rfl) rfl)
          · refine v_iload_7_2 G dX5_gain_111 ?_
            refine v_if_ne (tgt := 119) G dX5_gain_112 rfl (fun h_112 => ?_) (fun h_112 => ?_)
            · refine v_iload_7_4 G dX5_gain_119 ?_
              exact v_iret G hQ dX5_gain_121 (vDet.of (by simp only [gainR, p1Ok, askd, h_8, ck0, h_16, h_31, bI, h_70, h_108, h_112, if_true, if_false, Bool.false_eq_true, reduceIte] <;> try rfl) rfl)
            · refine v_iload_7_3 G dX5_gain_115 ?_
              refine v_goto (tgt := 121) G dX5_gain_116 rfl ?_
              exact v_iret G hQ dX5_gain_121 (vDet.of (by simp only [gainR, p1Ok, askd, h_8, ck0, h_16, h_31, bI, h_70, h_108, h_112, if_true, if_false, Bool.false_eq_true, reduceIte] <;> try rfl) rfl)
      · refine v_bipush (v := (-2)) G dX5_gain_34 (by decide) ?_
        exact v_iret G hQ dX5_gain_36 (vDet.of (by simp only [gainR, p1Ok, bI, h_8, ck0, h_16, h_31, if_true, if_false, Bool.false_eq_true, reduceIte] <;> try rfl) rfl)
    · refine v_iconst (v := (-1)) G dX5_gain_19 (by decide) ?_
      exact v_iret G hQ dX5_gain_20 (vDet.of (by simp only [gainR, p1Ok, bI, h_8, ck0, h_16, if_true, if_false, Bool.false_eq_true, reduceIte] <;> try rfl) rfl)
theorem upTo01 : upToB 0 (nI 1) = true := by decide
def shutR (σ : vW) (m : Nat) (p r w : Int32) : Int32 := if pr1Ok σ p r w = true then (if r = σ (21 + 3) p.toNatClampNeg then -2 else if w = 0 then nI (bcN (shutW σ 21 m p.toNatClampNeg r)) else shutW σ 21 m p.toNatClampNeg r) else -1
set_option maxHeartbeats 4000000 in
theorem C_X5_shut {σ : vW} {n m : Nat} {p r w : Int32} (hn : σ 21 10 = nI n) (hn5 : n ≤ 5) (hm : σ 21 11 = nI m) (hm9 : m ≤ 9) : Ctr mX5_shut 4 [.ref 0, .int p, .int r, .int w] σ (vDet (some (.int (shutR σ m p r w))) σ) := by
  have hT := TB21
  refine Ctr.intro (by decide) (fun α => Nat.le_of_ble_eq_true rfl) (fun x G hQ => ?_)
  have G : vG x RX5 cX5_shut 5 (some .int) 4 := G
  show V x 0 [some (.ref 0), some (.int p), some (.int r), some (.int w), none] [] σ
  refine v_aload_5_0 G dX5_shut_0 ?_
  refine v_getR G vc_5 lk_X5_19 (fs_X5_1) dX5_shut_1 ?_
  refine v_iload_5_1 G dX5_shut_4 ?_
  refine v_cV1 G (C_X4_isOne (by first | assumption | omega | exact oneB_in (by assumption) | exact wallB_in (by assumption) | exact oneB_m1 (by assumption) | decide)) (by decide) md_X4_isOne in_X4_isOne (rv_X4 (by first | assumption | exact imgP_TB | exact shP_SB) rfl) ml_X5_120 (Nat.le_of_ble_eq_true rfl) dX5_shut_5 ?_
  refine v_ifB_eq (tgt := 26) G dX5_shut_8 rfl (fun h_8 => ?_) (fun h_8 => ?_)
  · refine v_iconst (v := (-1)) G dX5_shut_26 (by decide) ?_
    exact v_iret G hQ dX5_shut_27 (vDet.of (by first | (have e : pr1Ok σ (nI k0) r w = true := by { simp only [pr1Ok, h_8, h_15, h_23, if_true] }; rw [shutR, ck0, if_pos e, if_pos h_38]; done) | (simp only [shutR, pr1Ok, h_8, upTo01, if_true, if_false, Bool.false_eq_true, reduceIte]; done)) rfl)
  · obtain ⟨k0, hk0, rfl⟩ := oneB_ex hn hn5 h_8
    have ck0 : (nI k0).toNatClampNeg = k0 := nI_clamp (by omega)
    refine v_iload_5_2 G dX5_shut_11 ?_
    refine v_cS1 G (C_X5_isRoom) (by decide) md_X5_isRoom st_X5_isRoom ml_X5_160 (Nat.le_of_ble_eq_true rfl) dX5_shut_12 ?_
    refine v_ifB_eq (tgt := 26) G dX5_shut_15 rfl (fun h_15 => ?_) (fun h_15 => ?_)
    · refine v_iconst (v := (-1)) G dX5_shut_26 (by decide) ?_
      exact v_iret G hQ dX5_shut_27 (vDet.of (by first | (have e : pr1Ok σ (nI k0) r w = true := by { simp only [pr1Ok, h_8, h_15, h_23, if_true] }; rw [shutR, ck0, if_pos e, if_pos h_38]; done) | (simp only [shutR, pr1Ok, h_8, ck0, h_15, upTo01, if_true, if_false, Bool.false_eq_true, reduceIte]; done)) rfl)
    · refine v_iload_5_3 G dX5_shut_18 ?_
      refine v_iconst (v := nI 1) G dX5_shut_19 (by decide) ?_
      refine v_cS2 G (C_X5_isUpTo) (by decide) md_X5_isUpTo st_X5_isUpTo ml_X5_52 (Nat.le_of_ble_eq_true rfl) dX5_shut_20 ?_
      refine v_ifB_ne (tgt := 28) G dX5_shut_23 rfl (fun h_23 => ?_) (fun h_23 => ?_)
      · refine v_iload_5_2 G dX5_shut_28 ?_
        refine v_aload_5_0 G dX5_shut_29 ?_
        refine v_getR G vc_5 lk_X5_19 (fs_X5_1) dX5_shut_30 ?_
        refine v_getR G vc_4 lk_X5_129 (fs_X4_2 (by first | assumption | exact imgP_TB)) dX5_shut_33 ?_
        refine v_iload_5_1 G dX5_shut_36 ?_
        refine v_ialdN G (as_X4_2 (by first | assumption | exact imgP_TB)) (by first | assumption | omega | exact oneB_in (by assumption) | exact wallB_in (by assumption) | exact oneB_m1 (by assumption) | decide) (by first | decide | omega) dX5_shut_37 ?_
        refine v_icmp_ne (tgt := 44) G dX5_shut_38 rfl (fun h_38 => ?_) (fun h_38 => ?_)
        · refine v_aload_5_0 G dX5_shut_44 ?_
          refine v_getR G vc_5 lk_X5_19 (fs_X5_1) dX5_shut_45 ?_
          refine v_iload_5_1 G dX5_shut_48 ?_
          refine v_iload_5_2 G dX5_shut_49 ?_
          refine v_cV2 G (C_X4_leastShutting (by first | assumption | omega | exact oneB_in (by assumption) | exact wallB_in (by assumption) | exact oneB_m1 (by assumption) | decide) (by first | assumption | omega | exact oneB_in (by assumption) | exact wallB_in (by assumption) | exact oneB_m1 (by assumption) | decide) (by first | assumption | omega | exact oneB_in (by assumption) | exact wallB_in (by assumption) | exact oneB_m1 (by assumption) | decide) (by first | assumption | omega | exact oneB_in (by assumption) | exact wallB_in (by assumption) | exact oneB_m1 (by assumption) | decide)) (by decide) md_X4_leastShutting in_X4_leastShutting (rv_X4 (by first | assumption | exact imgP_TB | exact shP_SB) rfl) ml_X5_217 (Nat.le_of_ble_eq_true rfl) dX5_shut_50 ?_
          refine v_istore_5_4 G dX5_shut_53 rfl ?_
          refine v_iload_5_3 G dX5_shut_55 ?_
          refine v_if_ne (tgt := 67) G dX5_shut_56 rfl (fun h_56 => ?_) (fun h_56 => ?_)
          · refine v_iload_5_4 G dX5_shut_67 ?_
            exact v_iret G hQ dX5_shut_69 (vDet.of (by first | (have e : pr1Ok σ (nI k0) r w = true := by { simp only [pr1Ok, h_8, h_15, h_23, if_true] }; rw [shutR, ck0, if_pos e, if_pos h_38]; done) | (simp only [shutR, pr1Ok, h_8, ck0, h_15, h_23, h_38, h_56, upTo01, if_true, if_false, Bool.false_eq_true, reduceIte]; done)) rfl)
          · refine v_iload_5_4 G dX5_shut_59 ?_
            refine v_cS1 G (C_bitCount) (by decide) md_J6_bitCount_0f7a4 st_J6_bitCount_0f7a4 ml_X5_105 (Nat.le_of_ble_eq_true rfl) dX5_shut_61 ?_
            refine v_goto (tgt := 69) G dX5_shut_64 rfl ?_
            exact v_iret G hQ dX5_shut_69 (vDet.of (by first | (have e : pr1Ok σ (nI k0) r w = true := by { simp only [pr1Ok, h_8, h_15, h_23, if_true] }; rw [shutR, ck0, if_pos e, if_pos h_38]; done) | (simp only [shutR, pr1Ok, h_8, ck0, h_15, h_23, h_38, h_56, upTo01, if_true, if_false, Bool.false_eq_true, reduceIte]; done)) rfl)
        · refine v_bipush (v := (-2)) G dX5_shut_41 (by decide) ?_
          exact v_iret G hQ dX5_shut_43 (vDet.of (by first | (have e : pr1Ok σ (nI k0) r w = true := by { simp only [pr1Ok, h_8, h_15, h_23, if_true] }; rw [shutR, ck0, if_pos e, if_pos h_38]; done) | (simp only [shutR, pr1Ok, h_8, ck0, h_15, h_23, h_38, upTo01, if_true, if_false, Bool.false_eq_true, reduceIte]; done)) rfl)
      · refine v_iconst (v := (-1)) G dX5_shut_26 (by decide) ?_
        exact v_iret G hQ dX5_shut_27 (vDet.of (by first | (have e : pr1Ok σ (nI k0) r w = true := by { simp only [pr1Ok, h_8, h_15, h_23, if_true] }; rw [shutR, ck0, if_pos e, if_pos h_38]; done) | (simp only [shutR, pr1Ok, h_8, ck0, h_15, h_23, upTo01, if_true, if_false, Bool.false_eq_true, reduceIte]; done)) rfl)
def rbpV (σ : vW) (n m K : Nat) (lo : Int32) : Int32 := allTo (trialP σ K lo) 32 m n
set_option maxHeartbeats 4000000 in
theorem C_X5_reachedByPlan {σ : vW} {n m K : Nat} {lo : Int32} (hn : σ 21 10 = nI n) (hn5 : n ≤ 5) (hm : σ 21 11 = nI m) (hm9 : m ≤ 9) (hK : σ 21 12 = nI K) (hK6 : K ≤ 6) : Ctr mX5_reachedByPlan 5 [.ref 0, .int lo] σ (vDet (some (.int (rbpV σ n m K lo))) (trialP σ K lo)) := by
  have hT := TB21
  have hR := TB32
  have hK' : (becW σ 32 21) 32 12 = nI K := by rw [becW_12]; exact hK
  have hn' : (trialP σ K lo) 32 10 = nI n := by rw [trialP_s, becW_10]; exact hn
  have hm' : (trialP σ K lo) 32 11 = nI m := by rw [trialP_s, becW_11]; exact hm
  refine Ctr.intro (by decide) (fun α => Nat.le_of_ble_eq_true rfl) (fun x G hQ => ?_)
  have G : vG x RX5 cX5_reachedByPlan 2 (some .int) 5 := G
  show V x 0 [some (.ref 0), some (.int lo)] [] σ
  refine v_aload_2_0 G dX5_reachedByPlan_0 ?_
  refine v_getR G vc_5 lk_X5_23 (fs_X5_2) dX5_reachedByPlan_1 ?_
  refine v_aload_2_0 G dX5_reachedByPlan_4 ?_
  refine v_getR G vc_5 lk_X5_19 (fs_X5_1) dX5_reachedByPlan_5 ?_
  refine v_cV1v G (C_X4_become hR hT (by decide)) (by decide) md_X4_become in_X4_become (rv_X4 (by first | assumption | exact imgP_TB | exact shP_SB) rfl) ml_X5_85 (Nat.le_of_ble_eq_true rfl) dX5_reachedByPlan_8 ?_
  refine v_aload_2_0 G dX5_reachedByPlan_11 ?_
  refine v_getR G vc_5 lk_X5_23 (fs_X5_2) dX5_reachedByPlan_12 ?_
  refine v_iload_2_1 G dX5_reachedByPlan_15 ?_
  refine v_cV1 G (C_X4_followPlan hR hK' hK6) (by decide) md_X4_followPlan in_X4_followPlan (rv_X4 (by first | assumption | exact imgP_TB | exact shP_SB) rfl) ml_X5_201 (Nat.le_of_ble_eq_true rfl) dX5_reachedByPlan_16 ?_
  rw [show fpW (becW σ 32 21) 32 lo K = trialP σ K lo from rfl]
  refine v_pop G dX5_reachedByPlan_19 rfl ?_
  refine v_aload_2_0 G dX5_reachedByPlan_20 ?_
  refine v_getR G vc_5 lk_X5_23 (fs_X5_2) dX5_reachedByPlan_21 ?_
  refine v_cV0 G (C_X4_reachedByAll hR hn' hn5 hm' hm9) (by decide) md_X4_reachedByAll in_X4_reachedByAll (rv_X4 (by first | assumption | exact imgP_TB | exact shP_SB) rfl) ml_X5_207 (Nat.le_of_ble_eq_true rfl) dX5_reachedByPlan_24 ?_
  exact v_iret G hQ dX5_reachedByPlan_27 vDet.mk
/-- the worlds of leave(): the trial town of each round -/
def lvW (σ : vW) (K : Nat) : Nat → vW
  | 0 => trialP σ K (-4)
  | k + 1 => trialP (lvW σ K k) K (nI k)
theorem lvW_ne {σ : vW} {K b : Nat} (h : b < 32 ∨ 42 < b) : ∀ k, (lvW σ K k) b = σ b
  | 0 => trialP_ne h
  | k + 1 => by rw [lvW, trialP_ne h, lvW_ne h k]
def lvF (σ : vW) (n m K k : Nat) : Int32 := rbpV (lvW σ K k) n m K (nI k)
def leaveR (σ : vW) (n m K : Nat) (w : Int32) : Int32 := if upToB w (nI 1) = true then askd (mxA (lvF σ n m K) (rbpV σ n m K (-4)) K) (mxV (lvF σ n m K) (rbpV σ n m K (-4)) K) w else -1
set_option maxHeartbeats 4000000 in
theorem C_X5_leave {σ : vW} {n m K : Nat} {w : Int32} (hn : σ 21 10 = nI n) (hn5 : n ≤ 5) (hm : σ 21 11 = nI m) (hm9 : m ≤ 9) (hK : σ 21 12 = nI K) (hK6 : K ≤ 6) : Ctr mX5_leave 6 [.ref 0, .int w] σ (vDet (some (.int (leaveR σ n m K w))) (if upToB w (nI 1) = true then lvW σ K K else σ)) := by
  have hT := TB21
  have hn' : ∀ k, (lvW σ K k) 21 10 = nI n := fun k => by rw [lvW_ne (by decide)]; exact hn
  have hm' : ∀ k, (lvW σ K k) 21 11 = nI m := fun k => by rw [lvW_ne (by decide)]; exact hm
  have hK' : ∀ k, (lvW σ K k) 21 12 = nI K := fun k => by rw [lvW_ne (by decide)]; exact hK
  refine Ctr.intro (by decide) (fun α => Nat.le_of_ble_eq_true rfl) (fun x G hQ => ?_)
  have G : vG x RX5 cX5_leave 6 (some .int) 6 := G
  show V x 0 [some (.ref 0), some (.int w), none, none, none, none] [] σ
  refine v_iload_6_1 G dX5_leave_0 ?_
  refine v_iconst (v := nI 1) G dX5_leave_1 (by decide) ?_
  refine v_cS2 G (C_X5_isUpTo) (by decide) md_X5_isUpTo st_X5_isUpTo ml_X5_52 (Nat.le_of_ble_eq_true rfl) dX5_leave_2 ?_
  refine v_ifB_ne (tgt := 10) G dX5_leave_5 rfl (fun h_5 => ?_) (fun h_5 => ?_)
  · refine v_bipush (v := (-4)) G dX5_leave_10 (by decide) ?_
    refine v_istore_6_2 G dX5_leave_12 rfl ?_
    refine v_aload_6_0 G dX5_leave_13 ?_
    refine v_bipush (v := (-4)) G dX5_leave_14 (by decide) ?_
    refine v_cV1 G (C_X5_reachedByPlan (by first | assumption | omega | exact oneB_in (by assumption) | exact wallB_in (by assumption) | exact oneB_m1 (by assumption) | decide) (by first | assumption | omega | exact oneB_in (by assumption) | exact wallB_in (by assumption) | exact oneB_m1 (by assumption) | decide) (by first | assumption | omega | exact oneB_in (by assumption) | exact wallB_in (by assumption) | exact oneB_m1 (by assumption) | decide) (by first | assumption | omega | exact oneB_in (by assumption) | exact wallB_in (by assumption) | exact oneB_m1 (by assumption) | decide) (by first | assumption | omega | exact oneB_in (by assumption) | exact wallB_in (by assumption) | exact oneB_m1 (by assumption) | decide) (by first | assumption | omega | exact oneB_in (by assumption) | exact wallB_in (by assumption) | exact oneB_m1 (by assumption) | decide)) (by decide) md_X5_reachedByPlan in_X5_reachedByPlan (rv_X5 rfl) ml_X5_220 (Nat.le_of_ble_eq_true rfl) dX5_leave_16 ?_
    refine v_istore_6_3 G dX5_leave_19 rfl ?_
    refine v_iconst (v := nI 0) G dX5_leave_20 (by decide) ?_
    refine v_istore_6_4 G dX5_leave_21 rfl ?_
    refine v_for (pc := 23) (K) (fun k => ([some (.ref 0), some (.int w), some (.int (mxA (lvF σ n m K) (rbpV σ n m K (-4)) k)), some (.int (mxV (lvF σ n m K) (rbpV σ n m K (-4)) k)), some (.int (nI k)), none], (lvW σ K k))) (fun k hk ih => ?_) ?_
    · show V x 23 [some (.ref 0), some (.int w), some (.int (mxA (lvF σ n m K) (rbpV σ n m K (-4)) k)), some (.int (mxV (lvF σ n m K) (rbpV σ n m K (-4)) k)), some (.int (nI k)), none] [] (lvW σ K k)
      have ih : V x 23 [some (.ref 0), some (.int w), some (.int (mxA (lvF σ n m K) (rbpV σ n m K (-4)) (k + 1))), some (.int (mxV (lvF σ n m K) (rbpV σ n m K (-4)) (k + 1))), some (.int (nI (k + 1))), none] [] (lvW σ K (k + 1)) := ih
      refine v_iload_6_4 G dX5_leave_23 ?_
      refine v_aload_6_0 G dX5_leave_25 ?_
      refine v_getR G vc_5 lk_X5_19 (fs_X5_1) dX5_leave_26 ?_
      refine v_getI G vc_4 lk_X5_111 (fs_X4_12 (by first | assumption | exact imgP_TB)) dX5_leave_29 ?_
      refine v_icmp_ge (tgt := 61) G dX5_leave_32 rfl (fun h_32 => absurd h_32 (by rw [hK']; exact nI_ge hk (by omega))) (fun h_32 => ?_)
      refine v_aload_6_0 G dX5_leave_35 ?_
      refine v_iload_6_4 G dX5_leave_36 ?_
      refine v_cV1 G (C_X5_reachedByPlan (hn' _) hn5 (hm' _) hm9 (hK' _) hK6) (by decide) md_X5_reachedByPlan in_X5_reachedByPlan (rv_X5 rfl) ml_X5_220 (Nat.le_of_ble_eq_true rfl) dX5_leave_38 ?_
      refine v_istore_6_5 G dX5_leave_41 rfl ?_
      refine v_iload_6_5 G dX5_leave_43 ?_
      refine v_iload_6_3 G dX5_leave_45 ?_
      refine v_icmp_le (tgt := 55) G dX5_leave_46 rfl (fun h_46 => ?_) (fun h_46 => ?_)
      · refine v_iincN_6_4 G dX5_leave_55 rfl ?_
        refine v_goto (tgt := 23) G dX5_leave_58 rfl ?_
        simp only [mxA, mxV, lvF, h_32, h_46, if_true, if_false, Bool.false_eq_true, reduceIte] at ih
        exact V.drop (by simp only [vsubP, and_self]) ih
      · refine v_iload_6_4 G dX5_leave_49 ?_
        refine v_istore_6_2 G dX5_leave_51 rfl ?_
        refine v_iload_6_5 G dX5_leave_52 ?_
        refine v_istore_6_3 G dX5_leave_54 rfl ?_
        refine v_iincN_6_4 G dX5_leave_55 rfl ?_
        refine v_goto (tgt := 23) G dX5_leave_58 rfl ?_
        simp only [mxA, mxV, lvF, h_32, h_46, if_true, if_false, Bool.false_eq_true, reduceIte] at ih
        exact V.drop (by simp only [vsubP, and_self]) ih
    · show V x 23 [some (.ref 0), some (.int w), some (.int (mxA (lvF σ n m K) (rbpV σ n m K (-4)) K)), some (.int (mxV (lvF σ n m K) (rbpV σ n m K (-4)) K)), some (.int (nI K)), none] [] (lvW σ K K)
      refine v_iload_6_4 G dX5_leave_23 ?_
      refine v_aload_6_0 G dX5_leave_25 ?_
      refine v_getR G vc_5 lk_X5_19 (fs_X5_1) dX5_leave_26 ?_
      refine v_getI G vc_4 lk_X5_111 (fs_X4_12 (by first | assumption | exact imgP_TB)) dX5_leave_29 ?_
      refine v_icmp_ge (tgt := 61) G dX5_leave_32 rfl (fun h_32 => ?_) (fun h_32 => absurd (by rw [hK']; exact nI_le (Nat.le_refl _) (by omega)) h_32)
      refine v_iload_6_2 G dX5_leave_61 ?_
      refine v_bipush (v := (-4)) G dX5_leave_62 (by decide) ?_
      refine v_icmp_eq (tgt := 71) G dX5_leave_64 rfl (fun h_64 => ?_) (fun h_64 => ?_)
      · refine v_iload_6_2 G dX5_leave_71 ?_
        refine v_goto (tgt := 76) G dX5_leave_72 rfl ?_
        exact v_iret G hQ dX5_leave_76 (vDet.of (by simp only [leaveR, askd, h_5, bI, h_32, h_64, if_true, if_false, Bool.false_eq_true, reduceIte, ite_self] <;> try rfl) (by simp only [h_5, h_32, h_64, if_true, if_false, Bool.false_eq_true, reduceIte, ite_self] <;> try rfl))
      · refine v_iload_6_1 G dX5_leave_67 ?_
        refine v_if_ne (tgt := 75) G dX5_leave_68 rfl (fun h_68 => ?_) (fun h_68 => ?_)
        · refine v_iload_6_3 G dX5_leave_75 ?_
          exact v_iret G hQ dX5_leave_76 (vDet.of (by simp only [leaveR, askd, h_5, bI, h_32, h_64, h_68, if_true, if_false, Bool.false_eq_true, reduceIte, ite_self] <;> try rfl) (by simp only [h_5, h_32, h_64, h_68, if_true, if_false, Bool.false_eq_true, reduceIte, ite_self] <;> try rfl))
        · refine v_iload_6_2 G dX5_leave_71 ?_
          refine v_goto (tgt := 76) G dX5_leave_72 rfl ?_
          exact v_iret G hQ dX5_leave_76 (vDet.of (by simp only [leaveR, askd, h_5, bI, h_32, h_64, h_68, if_true, if_false, Bool.false_eq_true, reduceIte, ite_self] <;> try rfl) (by simp only [h_5, h_32, h_64, h_68, if_true, if_false, Bool.false_eq_true, reduceIte, ite_self] <;> try rfl))
  · refine v_iconst (v := (-1)) G dX5_leave_8 (by decide) ?_
    exact v_iret G hQ dX5_leave_9 (vDet.of (by simp only [leaveR, h_5, if_false, Bool.false_eq_true]) (by simp only [h_5, if_false, Bool.false_eq_true]))
def kdW (σ : vW) (p : Nat) : Nat → vW
  | 0 => becW σ 32 21
  | k + 1 => vset (kdW σ p k) (32 + 1) p (nI k)
theorem kdW_ne {σ : vW} {p b : Nat} (h : b ≠ 33) : ∀ k, (kdW σ p k) b = (becW σ 32 21) b
  | 0 => rfl
  | k + 1 => by rw [kdW, vset_ne h, kdW_ne h k]
def kdF (σ : vW) (n m p k : Nat) : Int32 := allTo (kdW σ p (k + 1)) 32 m n
def kindlyR (σ : vW) (n m : Nat) (p w : Int32) : Int32 := if p1Ok σ p w = true then (if w = 0 then mxA (kdF σ n m p.toNatClampNeg) (-1) 4 else mxV (kdF σ n m p.toNatClampNeg) (-1) 4) else -1
set_option maxHeartbeats 4000000 in
theorem C_X5_kindly {σ : vW} {n m : Nat} {p w : Int32} (hn : σ 21 10 = nI n) (hn5 : n ≤ 5) (hm : σ 21 11 = nI m) (hm9 : m ≤ 9) : Ctr mX5_kindly 5 [.ref 0, .int p, .int w] σ (vDet (some (.int (kindlyR σ n m p w))) (if p1Ok σ p w = true then kdW σ p.toNatClampNeg 4 else σ)) := by
  have hT := TB21
  have hR := TB32
  have hn' : ∀ p k, (kdW σ p k) 32 10 = nI n := fun p k => by rw [kdW_ne (by decide), becW_10]; exact hn
  have hm' : ∀ p k, (kdW σ p k) 32 11 = nI m := fun p k => by rw [kdW_ne (by decide), becW_11]; exact hm
  refine Ctr.intro (by decide) (fun α => Nat.le_of_ble_eq_true rfl) (fun x G hQ => ?_)
  have G : vG x RX5 cX5_kindly 7 (some .int) 5 := G
  show V x 0 [some (.ref 0), some (.int p), some (.int w), none, none, none, none] [] σ
  refine v_aload_7_0 G dX5_kindly_0 ?_
  refine v_getR G vc_5 lk_X5_19 (fs_X5_1) dX5_kindly_1 ?_
  refine v_iload_7_1 G dX5_kindly_4 ?_
  refine v_cV1 G (C_X4_isOne (by first | assumption | omega | exact oneB_in (by assumption) | exact wallB_in (by assumption) | exact oneB_m1 (by assumption) | decide)) (by decide) md_X4_isOne in_X4_isOne (rv_X4 (by first | assumption | exact imgP_TB | exact shP_SB) rfl) ml_X5_120 (Nat.le_of_ble_eq_true rfl) dX5_kindly_5 ?_
  refine v_ifB_eq (tgt := 19) G dX5_kindly_8 rfl (fun h_8 => ?_) (fun h_8 => ?_)
  · refine v_iconst (v := (-1)) G dX5_kindly_19 (by decide) ?_
    exact v_iret G hQ dX5_kindly_20 (vDet.of (by simp only [kindlyR, p1Ok, bI, h_8, if_true, if_false, Bool.false_eq_true, reduceIte, ite_self] <;> try rfl) (by simp only [p1Ok, h_8, if_true, if_false, Bool.false_eq_true, reduceIte, ite_self] <;> try rfl))
  · obtain ⟨k0, hk0, rfl⟩ := oneB_ex hn hn5 h_8
    have ck0 : (nI k0).toNatClampNeg = k0 := nI_clamp (by omega)
    refine v_iload_7_2 G dX5_kindly_11 ?_
    refine v_iconst (v := nI 1) G dX5_kindly_12 (by decide) ?_
    refine v_cS2 G (C_X5_isUpTo) (by decide) md_X5_isUpTo st_X5_isUpTo ml_X5_52 (Nat.le_of_ble_eq_true rfl) dX5_kindly_13 ?_
    refine v_ifB_ne (tgt := 21) G dX5_kindly_16 rfl (fun h_16 => ?_) (fun h_16 => ?_)
    · refine v_aload_7_0 G dX5_kindly_21 ?_
      refine v_getR G vc_5 lk_X5_23 (fs_X5_2) dX5_kindly_22 ?_
      refine v_aload_7_0 G dX5_kindly_25 ?_
      refine v_getR G vc_5 lk_X5_19 (fs_X5_1) dX5_kindly_26 ?_
      refine v_cV1v G (C_X4_become hR hT (by decide)) (by decide) md_X4_become in_X4_become (rv_X4 (by first | assumption | exact imgP_TB | exact shP_SB) rfl) ml_X5_85 (Nat.le_of_ble_eq_true rfl) dX5_kindly_29 ?_
      refine v_bipush (v := (-4)) G dX5_kindly_32 (by decide) ?_
      refine v_istore_7_3 G dX5_kindly_34 rfl ?_
      refine v_iconst (v := (-1)) G dX5_kindly_35 (by decide) ?_
      refine v_istore_7_4 G dX5_kindly_36 rfl ?_
      refine v_iconst (v := nI 0) G dX5_kindly_38 (by decide) ?_
      refine v_istore_7_5 G dX5_kindly_39 rfl ?_
      refine v_for (pc := 41) (4) (fun k => ([some (.ref 0), some (.int (nI k0)), some (.int w), some (.int (mxA (kdF σ n m k0) (-1) k)), some (.int (mxV (kdF σ n m k0) (-1) k)), some (.int (nI k)), none], (kdW σ k0 k))) (fun k hk ih => ?_) ?_
      · show V x 41 [some (.ref 0), some (.int (nI k0)), some (.int w), some (.int (mxA (kdF σ n m k0) (-1) k)), some (.int (mxV (kdF σ n m k0) (-1) k)), some (.int (nI k)), none] [] (kdW σ k0 k)
        have ih : V x 41 [some (.ref 0), some (.int (nI k0)), some (.int w), some (.int (mxA (kdF σ n m k0) (-1) (k + 1))), some (.int (mxV (kdF σ n m k0) (-1) (k + 1))), some (.int (nI (k + 1))), none] [] (kdW σ k0 (k + 1)) := ih
        refine v_iload_7_5 G dX5_kindly_41 ?_
        refine v_iconst (v := nI 4) G dX5_kindly_43 (by decide) ?_
        refine v_icmp_ge (tgt := 87) G dX5_kindly_44 rfl (fun h_44 => absurd h_44 (by exact nI_ge hk (by omega))) (fun h_44 => ?_)
        refine v_aload_7_0 G dX5_kindly_47 ?_
        refine v_getR G vc_5 lk_X5_23 (fs_X5_2) dX5_kindly_48 ?_
        refine v_getR G vc_4 lk_X5_123 (fs_X4_0 (by first | assumption | exact imgP_TB)) dX5_kindly_51 ?_
        refine v_iload_7_1 G dX5_kindly_54 ?_
        refine v_iload_7_5 G dX5_kindly_55 ?_
        refine v_iastN G (as_X4_0 (by first | assumption | exact imgP_TB)) (by first | assumption | omega | exact oneB_in (by assumption) | exact wallB_in (by assumption) | exact oneB_m1 (by assumption) | decide) (by first | decide | omega) dX5_kindly_57 ?_
        rw [show vset (kdW σ k0 k) (32 + 1) k0 (nI k) = kdW σ k0 (k + 1) from rfl]
        refine v_aload_7_0 G dX5_kindly_58 ?_
        refine v_getR G vc_5 lk_X5_23 (fs_X5_2) dX5_kindly_59 ?_
        refine v_cV0 G (C_X4_reachedByAll hR (hn' _ _) hn5 (hm' _ _) hm9) (by decide) md_X4_reachedByAll in_X4_reachedByAll (rv_X4 (by first | assumption | exact imgP_TB | exact shP_SB) rfl) ml_X5_207 (Nat.le_of_ble_eq_true rfl) dX5_kindly_62 ?_
        refine v_istore_7_6 G dX5_kindly_65 rfl ?_
        refine v_iload_7_6 G dX5_kindly_67 ?_
        refine v_iload_7_4 G dX5_kindly_69 ?_
        refine v_icmp_le (tgt := 81) G dX5_kindly_71 rfl (fun h_71 => ?_) (fun h_71 => ?_)
        · refine v_iincN_7_5 G dX5_kindly_81 rfl ?_
          refine v_goto (tgt := 41) G dX5_kindly_84 rfl ?_
          simp only [mxA, mxV, kdF, h_44, h_71, if_true, if_false, Bool.false_eq_true, reduceIte] at ih
          exact V.drop (by simp only [vsubP, and_self]) ih
        · refine v_iload_7_5 G dX5_kindly_74 ?_
          refine v_istore_7_3 G dX5_kindly_76 rfl ?_
          refine v_iload_7_6 G dX5_kindly_77 ?_
          refine v_istore_7_4 G dX5_kindly_79 rfl ?_
          refine v_iincN_7_5 G dX5_kindly_81 rfl ?_
          refine v_goto (tgt := 41) G dX5_kindly_84 rfl ?_
          simp only [mxA, mxV, kdF, h_44, h_71, if_true, if_false, Bool.false_eq_true, reduceIte] at ih
          exact V.drop (by simp only [vsubP, and_self]) ih
      · show V x 41 [some (.ref 0), some (.int (nI k0)), some (.int w), some (.int (mxA (kdF σ n m k0) (-1) 4)), some (.int (mxV (kdF σ n m k0) (-1) 4)), some (.int (nI 4)), none] [] (kdW σ k0 4)
        refine v_iload_7_5 G dX5_kindly_41 ?_
        refine v_iconst (v := nI 4) G dX5_kindly_43 (by decide) ?_
        refine v_icmp_ge (tgt := 87) G dX5_kindly_44 rfl (fun h_44 => ?_) (fun h_44 => absurd (by exact nI_le (Nat.le_refl _) (by omega)) h_44)
        refine v_iload_7_2 G dX5_kindly_87 ?_
        refine v_if_ne (tgt := 95) G dX5_kindly_88 rfl (fun h_88 => ?_) (fun h_88 => ?_)
        · refine v_iload_7_4 G dX5_kindly_95 ?_
          exact v_iret G hQ dX5_kindly_97 (vDet.of (by simp only [kindlyR, p1Ok, h_8, ck0, h_16, bI, h_44, h_88, if_true, if_false, Bool.false_eq_true, reduceIte, ite_self] <;> try rfl) (by simp only [p1Ok, h_8, ck0, h_16, h_44, h_88, if_true, if_false, Bool.false_eq_true, reduceIte, ite_self] <;> try rfl))
        · refine v_iload_7_3 G dX5_kindly_91 ?_
          refine v_goto (tgt := 97) G dX5_kindly_92 rfl ?_
          exact v_iret G hQ dX5_kindly_97 (vDet.of (by simp only [kindlyR, p1Ok, h_8, ck0, h_16, bI, h_44, h_88, if_true, if_false, Bool.false_eq_true, reduceIte, ite_self] <;> try rfl) (by simp only [p1Ok, h_8, ck0, h_16, h_44, h_88, if_true, if_false, Bool.false_eq_true, reduceIte, ite_self] <;> try rfl))
    · refine v_iconst (v := (-1)) G dX5_kindly_19 (by decide) ?_
      exact v_iret G hQ dX5_kindly_20 (vDet.of (by simp only [kindlyR, p1Ok, bI, h_8, ck0, h_16, if_true, if_false, Bool.false_eq_true, reduceIte, ite_self] <;> try rfl) (by simp only [p1Ok, h_8, ck0, h_16, if_true, if_false, Bool.false_eq_true, reduceIte, ite_self] <;> try rfl))
def drF (σ : vW) (m p k : Nat) : Int32 := g0 σ m p - gainW σ 21 p (spreadW σ 21 m (passTo σ 21 (nI p) m &&& ((nI 1 <<< (nI k &&& 31)) ^^^ -1)) (σ (21 + 3) p))
def dearR (σ : vW) (m : Nat) (p w : Int32) : Int32 := if p1Ok σ p w = true then askd (mxA (drF σ m p.toNatClampNeg) (nI 0) m) (mxV (drF σ m p.toNatClampNeg) (nI 0) m) w else -1
set_option maxHeartbeats 4000000 in
theorem C_X5_dear {σ : vW} {n m : Nat} {p w : Int32} (hn : σ 21 10 = nI n) (hn5 : n ≤ 5) (hm : σ 21 11 = nI m) (hm9 : m ≤ 9) : Ctr mX5_dear 4 [.ref 0, .int p, .int w] σ (vDet (some (.int (dearR σ m p w))) σ) := by
  have hT := TB21
  refine Ctr.intro (by decide) (fun α => Nat.le_of_ble_eq_true rfl) (fun x G hQ => ?_)
  have G : vG x RX5 cX5_dear 9 (some .int) 4 := G
  show V x 0 [some (.ref 0), some (.int p), some (.int w), none, none, none, none, none, none] [] σ
  refine v_aload_9_0 G dX5_dear_0 ?_
  refine v_getR G vc_5 lk_X5_19 (fs_X5_1) dX5_dear_1 ?_
  refine v_iload_9_1 G dX5_dear_4 ?_
  refine v_cV1 G (C_X4_isOne (by first | assumption | omega | exact oneB_in (by assumption) | exact wallB_in (by assumption) | exact oneB_m1 (by assumption) | decide)) (by decide) md_X4_isOne in_X4_isOne (rv_X4 (by first | assumption | exact imgP_TB | exact shP_SB) rfl) ml_X5_120 (Nat.le_of_ble_eq_true rfl) dX5_dear_5 ?_
  refine v_ifB_eq (tgt := 19) G dX5_dear_8 rfl (fun h_8 => ?_) (fun h_8 => ?_)
  · refine v_iconst (v := (-1)) G dX5_dear_19 (by decide) ?_
    exact v_iret G hQ dX5_dear_20 (vDet.of (by simp only [dearR, p1Ok, bI, h_8, if_true, if_false, Bool.false_eq_true, reduceIte] <;> try rfl) rfl)
  · obtain ⟨k0, hk0, rfl⟩ := oneB_ex hn hn5 h_8
    have ck0 : (nI k0).toNatClampNeg = k0 := nI_clamp (by omega)
    refine v_iload_9_2 G dX5_dear_11 ?_
    refine v_iconst (v := nI 1) G dX5_dear_12 (by decide) ?_
    refine v_cS2 G (C_X5_isUpTo) (by decide) md_X5_isUpTo st_X5_isUpTo ml_X5_52 (Nat.le_of_ble_eq_true rfl) dX5_dear_13 ?_
    refine v_ifB_ne (tgt := 21) G dX5_dear_16 rfl (fun h_16 => ?_) (fun h_16 => ?_)
    · refine v_aload_9_0 G dX5_dear_21 ?_
      refine v_getR G vc_5 lk_X5_19 (fs_X5_1) dX5_dear_22 ?_
      refine v_iload_9_1 G dX5_dear_25 ?_
      refine v_cV1 G (C_X4_passed (by first | assumption | omega | exact oneB_in (by assumption) | exact wallB_in (by assumption) | exact oneB_m1 (by assumption) | decide) (by first | assumption | omega | exact oneB_in (by assumption) | exact wallB_in (by assumption) | exact oneB_m1 (by assumption) | decide) (by first | assumption | omega | exact oneB_in (by assumption) | exact wallB_in (by assumption) | exact oneB_m1 (by assumption) | decide)) (by decide) md_X4_passed in_X4_passed (rv_X4 (by first | assumption | exact imgP_TB | exact shP_SB) rfl) ml_X5_191 (Nat.le_of_ble_eq_true rfl) dX5_dear_26 ?_
      refine v_istore_9_3 G dX5_dear_29 rfl ?_
      refine v_aload_9_0 G dX5_dear_30 ?_
      refine v_getR G vc_5 lk_X5_19 (fs_X5_1) dX5_dear_31 ?_
      refine v_iload_9_1 G dX5_dear_34 ?_
      refine v_aload_9_0 G dX5_dear_35 ?_
      refine v_getR G vc_5 lk_X5_19 (fs_X5_1) dX5_dear_36 ?_
      refine v_iload_9_1 G dX5_dear_39 ?_
      refine v_cV1 G (C_X4_reached (by first | assumption | omega | exact oneB_in (by assumption) | exact wallB_in (by assumption) | exact oneB_m1 (by assumption) | decide) (by first | assumption | omega | exact oneB_in (by assumption) | exact wallB_in (by assumption) | exact oneB_m1 (by assumption) | decide) (by first | assumption | omega | exact oneB_in (by assumption) | exact wallB_in (by assumption) | exact oneB_m1 (by assumption) | decide) (by first | assumption | omega | exact oneB_in (by assumption) | exact wallB_in (by assumption) | exact oneB_m1 (by assumption) | decide)) (by decide) md_X4_reached in_X4_reached (rv_X4 (by first | assumption | exact imgP_TB | exact shP_SB) rfl) ml_X5_135 (Nat.le_of_ble_eq_true rfl) dX5_dear_40 ?_
      refine v_cV2 G (C_X4_gainOf (by first | assumption | omega | exact oneB_in (by assumption) | exact wallB_in (by assumption) | exact oneB_m1 (by assumption) | decide) (by first | assumption | omega | exact oneB_in (by assumption) | exact wallB_in (by assumption) | exact oneB_m1 (by assumption) | decide)) (by decide) md_X4_gainOf in_X4_gainOf (rv_X4 (by first | assumption | exact imgP_TB | exact shP_SB) rfl) ml_X5_138 (Nat.le_of_ble_eq_true rfl) dX5_dear_43 ?_
      refine v_istore_9_4 G dX5_dear_46 rfl ?_
      refine v_bipush (v := (-4)) G dX5_dear_48 (by decide) ?_
      refine v_istore_9_5 G dX5_dear_50 rfl ?_
      refine v_iconst (v := nI 0) G dX5_dear_52 (by decide) ?_
      refine v_istore_9_6 G dX5_dear_53 rfl ?_
      refine v_iconst (v := nI 0) G dX5_dear_55 (by decide) ?_
      refine v_istore_9_7 G dX5_dear_56 rfl ?_
      refine v_for (pc := 58) (m) (fun k => ([some (.ref 0), some (.int (nI k0)), some (.int w), some (.int (passTo σ 21 (nI k0) m)), some (.int (g0 σ m k0)), some (.int (mxA (drF σ m k0) (nI 0) k)), some (.int (mxV (drF σ m k0) (nI 0) k)), some (.int (nI k)), none], σ)) (fun k hk ih => ?_) ?_
      · show V x 58 [some (.ref 0), some (.int (nI k0)), some (.int w), some (.int (passTo σ 21 (nI k0) m)), some (.int (g0 σ m k0)), some (.int (mxA (drF σ m k0) (nI 0) k)), some (.int (mxV (drF σ m k0) (nI 0) k)), some (.int (nI k)), none] [] σ
        have ih : V x 58 [some (.ref 0), some (.int (nI k0)), some (.int w), some (.int (passTo σ 21 (nI k0) m)), some (.int (g0 σ m k0)), some (.int (mxA (drF σ m k0) (nI 0) (k + 1))), some (.int (mxV (drF σ m k0) (nI 0) (k + 1))), some (.int (nI (k + 1))), none] [] σ := ih
        have hdr : drF σ m k0 k = g0 σ m k0 - gainW σ 21 k0 (spreadW σ 21 m (passTo σ 21 (nI k0) m &&& ((nI 1 <<< (nI k &&& 31)) ^^^ -1)) (σ (21 + 3) k0)) := rfl
        refine v_iload_9_7 G dX5_dear_58 ?_
        refine v_aload_9_0 G dX5_dear_60 ?_
        refine v_getR G vc_5 lk_X5_19 (fs_X5_1) dX5_dear_61 ?_
        refine v_getI G vc_4 lk_X5_98 (fs_X4_11 (by first | assumption | exact imgP_TB)) dX5_dear_64 ?_
        refine v_icmp_ge (tgt := 128) G dX5_dear_67 rfl (fun h_67 => absurd h_67 (by rw [hm]; exact nI_ge hk (by omega))) (fun h_67 => ?_)
        refine v_iload_9_4 G dX5_dear_70 ?_
        refine v_aload_9_0 G dX5_dear_72 ?_
        refine v_getR G vc_5 lk_X5_19 (fs_X5_1) dX5_dear_73 ?_
        refine v_iload_9_1 G dX5_dear_76 ?_
        refine v_aload_9_0 G dX5_dear_77 ?_
        refine v_getR G vc_5 lk_X5_19 (fs_X5_1) dX5_dear_78 ?_
        refine v_aload_9_0 G dX5_dear_81 ?_
        refine v_getR G vc_5 lk_X5_19 (fs_X5_1) dX5_dear_82 ?_
        refine v_getR G vc_4 lk_X5_129 (fs_X4_2 (by first | assumption | exact imgP_TB)) dX5_dear_85 ?_
        refine v_iload_9_1 G dX5_dear_88 ?_
        refine v_ialdN G (as_X4_2 (by first | assumption | exact imgP_TB)) (by first | assumption | omega | exact oneB_in (by assumption) | exact wallB_in (by assumption) | exact oneB_m1 (by assumption) | decide) (by first | decide | omega) dX5_dear_89 ?_
        refine v_iload_9_3 G dX5_dear_90 ?_
        refine v_iconst (v := nI 1) G dX5_dear_91 (by decide) ?_
        refine v_iload_9_7 G dX5_dear_92 ?_
        refine v_ishl G dX5_dear_94 ?_
        refine v_iconst (v := (-1)) G dX5_dear_95 (by decide) ?_
        refine v_ixor G dX5_dear_96 ?_
        refine v_iand G dX5_dear_97 ?_
        refine v_cV2 G (C_X4_spread (by first | assumption | omega | exact oneB_in (by assumption) | exact wallB_in (by assumption) | exact oneB_m1 (by assumption) | decide) (by first | assumption | omega | exact oneB_in (by assumption) | exact wallB_in (by assumption) | exact oneB_m1 (by assumption) | decide) (by first | assumption | omega | exact oneB_in (by assumption) | exact wallB_in (by assumption) | exact oneB_m1 (by assumption) | decide)) (by decide) md_X4_spread in_X4_spread (rv_X4 (by first | assumption | exact imgP_TB | exact shP_SB) rfl) ml_X5_223 (Nat.le_of_ble_eq_true rfl) dX5_dear_98 ?_
        refine v_cV2 G (C_X4_gainOf (by first | assumption | omega | exact oneB_in (by assumption) | exact wallB_in (by assumption) | exact oneB_m1 (by assumption) | decide) (by first | assumption | omega | exact oneB_in (by assumption) | exact wallB_in (by assumption) | exact oneB_m1 (by assumption) | decide)) (by decide) md_X4_gainOf in_X4_gainOf (rv_X4 (by first | assumption | exact imgP_TB | exact shP_SB) rfl) ml_X5_138 (Nat.le_of_ble_eq_true rfl) dX5_dear_101 ?_
        refine v_isub G dX5_dear_104 ?_
        refine v_istore_9_8 G dX5_dear_105 rfl ?_
        refine v_iload_9_8 G dX5_dear_107 ?_
        refine v_iload_9_6 G dX5_dear_109 ?_
        refine v_icmp_le (tgt := 122) G dX5_dear_111 rfl (fun h_111 => ?_) (fun h_111 => ?_)
        · refine v_iincN_9_7 G dX5_dear_122 rfl ?_
          refine v_goto (tgt := 58) G dX5_dear_125 rfl ?_
          simp only [mxA, mxV, hdr, h_67, h_111, if_true, if_false, Bool.false_eq_true, reduceIte] at ih
          exact V.drop (by simp only [vsubP, and_self]) ih
        · refine v_iload_9_7 G dX5_dear_114 ?_
          refine v_istore_9_5 G dX5_dear_116 rfl ?_
          refine v_iload_9_8 G dX5_dear_118 ?_
          refine v_istore_9_6 G dX5_dear_120 rfl ?_
          refine v_iincN_9_7 G dX5_dear_122 rfl ?_
          refine v_goto (tgt := 58) G dX5_dear_125 rfl ?_
          simp only [mxA, mxV, hdr, h_67, h_111, if_true, if_false, Bool.false_eq_true, reduceIte] at ih
          exact V.drop (by simp only [vsubP, and_self]) ih
      · show V x 58 [some (.ref 0), some (.int (nI k0)), some (.int w), some (.int (passTo σ 21 (nI k0) m)), some (.int (g0 σ m k0)), some (.int (mxA (drF σ m k0) (nI 0) m)), some (.int (mxV (drF σ m k0) (nI 0) m)), some (.int (nI m)), none] [] σ
        refine v_iload_9_7 G dX5_dear_58 ?_
        refine v_aload_9_0 G dX5_dear_60 ?_
        refine v_getR G vc_5 lk_X5_19 (fs_X5_1) dX5_dear_61 ?_
        refine v_getI G vc_4 lk_X5_98 (fs_X4_11 (by first | assumption | exact imgP_TB)) dX5_dear_64 ?_
        refine v_icmp_ge (tgt := 128) G dX5_dear_67 rfl (fun h_67 => ?_) (fun h_67 => absurd (by rw [hm]; exact nI_le (Nat.le_refl _) (by omega)) h_67)
        refine v_iload_9_5 G dX5_dear_128 ?_
        refine v_bipush (v := (-4)) G dX5_dear_130 (by decide) ?_
        refine v_icmp_eq (tgt := 139) G dX5_dear_132 rfl (fun h_132 => ?_) (fun h_132 => ?_)
        · refine v_iload_9_5 G dX5_dear_139 ?_
          refine v_goto (tgt := 146) G dX5_dear_141 rfl ?_
          exact v_iret G hQ dX5_dear_146 (vDet.of (by simp only [dearR, p1Ok, askd, h_8, ck0, h_16, bI, h_67, h_132, if_true, if_false, Bool.false_eq_true, reduceIte] <;> try rfl) rfl)
        · refine v_iload_9_2 G dX5_dear_135 ?_
          refine v_if_ne (tgt := 144) G dX5_dear_136 rfl (fun h_136 => ?_) (fun h_136 => ?_)
          · refine v_iload_9_6 G dX5_dear_144 ?_
            exact v_iret G hQ dX5_dear_146 (vDet.of (by simp only [dearR, p1Ok, askd, h_8, ck0, h_16, bI, h_67, h_132, h_136, if_true, if_false, Bool.false_eq_true, reduceIte] <;> try rfl) rfl)
          · refine v_iload_9_5 G dX5_dear_139 ?_
            refine v_goto (tgt := 146) G dX5_dear_141 rfl ?_
            exact v_iret G hQ dX5_dear_146 (vDet.of (by simp only [dearR, p1Ok, askd, h_8, ck0, h_16, bI, h_67, h_132, h_136, if_true, if_false, Bool.false_eq_true, reduceIte] <;> try rfl) rfl)
    · refine v_iconst (v := (-1)) G dX5_dear_19 (by decide) ?_
      exact v_iret G hQ dX5_dear_20 (vDet.of (by simp only [dearR, p1Ok, bI, h_8, ck0, h_16, if_true, if_false, Bool.false_eq_true, reduceIte] <;> try rfl) rfl)
/-- Euclid's rounds -/
def gcA : Nat → Int64 → Int64 → Int64
  | 0, a, _ => a
  | n + 1, a, b => if b = 0 then a else gcA n b (a - a / b * b)
theorem gcA_s (n : Nat) (a b : Int64) : gcA (n + 1) a b = if b = 0 then a else gcA n b (a - a / b * b) := rfl
def gcS (a b : Int64) : Nat → Int64 × Int64
  | 0 => (a, b)
  | k + 1 => ((gcS a b k).2, (gcS a b k).1 - (gcS a b k).1 / (gcS a b k).2 * (gcS a b k).2)
theorem lg_cmp_0 {b : Int64} (h : lg_cmp b (lN 0) = 0) : b = 0 := by
  unfold lg_cmp at h
  split at h
  · cases h
  · split at h
    · assumption
    · cases h
theorem lg_cmp_00 : lg_cmp 0 (lN 0) = 0 := by decide
theorem lg_cmp_n0 {b : Int64} (h : ¬ lg_cmp b (lN 0) = 0) : ¬ b = 0 := fun e => h (by rw [e]; exact lg_cmp_00)
def lowR (up dn : Int64) (w : Int32) : Int64 := if gcA 200 dn up = 0 then -1 else if w = 0 then up / gcA 200 dn up else dn / gcA 200 dn up
set_option maxHeartbeats 4000000 in
theorem C_X5_inLowestTerms {σ : vW} {up dn : Int64} {w : Int32} : Ctr mX5_inLowestTerms 0 [.long up, .long dn, .int w] σ (vDet (some (.long (lowR up dn w))) σ) := by
  refine Ctr.intro (by decide) (fun α => Nat.le_of_ble_eq_true rfl) (fun x G hQ => ?_)
  have G : vG x RX5 cX5_inLowestTerms 12 (some .long) 0 := G
  show V x 0 [some (.long up), none, some (.long dn), none, some (.int w), none, none, none, none, none, none, none] [] σ
  have key : ∀ (a b : Int64) (i : Int32) (L : List (Option Value)), gcA 200 dn up = a → vsubP [some (.long up), none, some (.long dn), none, some (.int w), some (.long a), none, none, none, none, none, none] L → V x 45 L [] σ := by
    intro a b i L ha hL
    refine V.drop hL ?_
    refine v_lload_12_5 G dX5_inLowestTerms_45 ?_
    refine v_lconst (v := lN 0) G dX5_inLowestTerms_47 (by decide) ?_
    refine v_lcmp G dX5_inLowestTerms_48 ?_
    refine v_if_ne (tgt := 56) G dX5_inLowestTerms_49 rfl (fun h_49 => ?_) (fun h_49 => ?_)
    · refine v_iload_12_4 G dX5_inLowestTerms_56 ?_
      refine v_if_ne (tgt := 68) G dX5_inLowestTerms_58 rfl (fun h_58 => ?_) (fun h_58 => ?_)
      · refine v_lload_12_2 G dX5_inLowestTerms_68 ?_
        refine v_lload_12_5 G dX5_inLowestTerms_69 ?_
        refine v_ldiv G dX5_inLowestTerms_71 (lg_cmp_n0 h_49) ?_
        exact v_lret G hQ dX5_inLowestTerms_72 (vDet.of (by first | (have e := lg_cmp_0 h_49; subst e; simp only [lowR, ha, if_true]; done) | (simp only [lowR, ha, h_49, h_58, lg_cmp_n0 h_49, if_true, if_false])) rfl)
      · refine v_lload_12_0 G dX5_inLowestTerms_61 ?_
        refine v_lload_12_5 G dX5_inLowestTerms_62 ?_
        refine v_ldiv G dX5_inLowestTerms_64 (lg_cmp_n0 h_49) ?_
        refine v_goto (tgt := 72) G dX5_inLowestTerms_65 rfl ?_
        exact v_lret G hQ dX5_inLowestTerms_72 (vDet.of (by first | (have e := lg_cmp_0 h_49; subst e; simp only [lowR, ha, if_true]; done) | (simp only [lowR, ha, h_49, h_58, lg_cmp_n0 h_49, if_true, if_false])) rfl)
    · refine v_ldc2 G ct_X5_226 dX5_inLowestTerms_52 ?_
      exact v_lret G hQ dX5_inLowestTerms_55 (vDet.of (by first | (have e := lg_cmp_0 h_49; subst e; simp only [lowR, ha, if_true]; done) | (simp only [lowR, ha, h_49, lg_cmp_n0 h_49, if_true, if_false])) rfl)
  refine v_lload_12_2 G dX5_inLowestTerms_0 ?_
  refine v_lstore_12_5 G dX5_inLowestTerms_1 rfl ?_
  refine v_lload_12_0 G dX5_inLowestTerms_3 ?_
  refine v_lstore_12_7 G dX5_inLowestTerms_4 rfl ?_
  refine v_iconst (v := nI 0) G dX5_inLowestTerms_6 (by decide) ?_
  refine v_istore_12_9 G dX5_inLowestTerms_7 rfl ?_
  refine v_forP (pc := 9) (200) (fun k => gcA 200 dn up = gcA (200 - k) (gcS dn up k).1 (gcS dn up k).2) (fun k => ([some (.long up), none, some (.long dn), none, some (.int w), some (.long (gcS dn up k).1), none, some (.long (gcS dn up k).2), none, some (.int (nI k)), none, none], σ)) rfl (fun k hk hp ih => ?_) (fun hp => ?_)
  · show V x 9 [some (.long up), none, some (.long dn), none, some (.int w), some (.long (gcS dn up k).1), none, some (.long (gcS dn up k).2), none, some (.int (nI k)), none, none] [] σ
    have ih : (gcA 200 dn up = gcA (200 - (k + 1)) (gcS dn up (k + 1)).1 (gcS dn up (k + 1)).2) → V x 9 [some (.long up), none, some (.long dn), none, some (.int w), some (.long (gcS dn up (k + 1)).1), none, some (.long (gcS dn up (k + 1)).2), none, some (.int (nI (k + 1))), none, none] [] σ := ih
    have hp : gcA 200 dn up = gcA (200 - k) (gcS dn up k).1 (gcS dn up k).2 := hp
    rw [show 200 - k = (200 - (k + 1)) + 1 by omega, gcA_s (200 - (k + 1))] at hp
    refine v_iload_12_9 G dX5_inLowestTerms_9 ?_
    refine v_sipush (v := nI 200) G dX5_inLowestTerms_11 (by decide) ?_
    refine v_icmp_ge (tgt := 45) G dX5_inLowestTerms_14 rfl (fun h_14 => absurd h_14 (by exact nI_ge hk (by omega))) (fun h_14 => ?_)
    refine v_lload_12_7 G dX5_inLowestTerms_17 ?_
    refine v_lconst (v := lN 0) G dX5_inLowestTerms_19 (by decide) ?_
    refine v_lcmp G dX5_inLowestTerms_20 ?_
    refine v_if_eq (tgt := 45) G dX5_inLowestTerms_21 rfl (fun h_21 => ?_) (fun h_21 => ?_)
    · refine key (gcS dn up k).1 0 0 _ (by rw [hp, if_pos (lg_cmp_0 h_21)]) (by simp only [vsubP, and_self])
    · refine v_lload_12_5 G dX5_inLowestTerms_24 ?_
      refine v_lload_12_7 G dX5_inLowestTerms_26 ?_
      refine v_lrem G dX5_inLowestTerms_28 (lg_cmp_n0 h_21) ?_
      refine v_lstore_12_10 G dX5_inLowestTerms_29 rfl ?_
      refine v_lload_12_7 G dX5_inLowestTerms_31 ?_
      refine v_lstore_12_5 G dX5_inLowestTerms_33 rfl ?_
      refine v_lload_12_10 G dX5_inLowestTerms_35 ?_
      refine v_lstore_12_7 G dX5_inLowestTerms_37 rfl ?_
      refine v_iincN_12_9 G dX5_inLowestTerms_39 rfl ?_
      refine v_goto (tgt := 9) G dX5_inLowestTerms_42 rfl ?_
      refine V.drop (by simp only [vsubP, gcS, and_self]) (ih ?_)
      rw [hp, if_neg (lg_cmp_n0 h_21)]
      rfl
  · show V x 9 [some (.long up), none, some (.long dn), none, some (.int w), some (.long (gcS dn up 200).1), none, some (.long (gcS dn up 200).2), none, some (.int (nI 200)), none, none] [] σ
    have hp : gcA 200 dn up = gcA (200 - 200) (gcS dn up 200).1 (gcS dn up 200).2 := hp
    refine v_iload_12_9 G dX5_inLowestTerms_9 ?_
    refine v_sipush (v := nI 200) G dX5_inLowestTerms_11 (by decide) ?_
    refine v_icmp_ge (tgt := 45) G dX5_inLowestTerms_14 rfl (fun h_14 => ?_) (fun h_14 => absurd (by exact nI_le (Nat.le_refl _) (by omega)) h_14)
    refine key (gcS dn up 200).1 0 0 _ (by rw [hp]; rfl) (by simp only [vsubP, and_self])
def luckOk (σ : vW) (v p r w : Int32) : Bool := if upToB v (nI 10) = true then (if oneB (σ 21 10) p = true then (if roomB r = true then (if upToB w (nI 1) = true then true else false) else false) else false) else false
def jamV (σ : vW) (m p : Nat) (v rm : Int32) : Int64 := jamTo σ 21 m p v rm (hungTo σ 21 m) (passTo σ 21 (nI p) m) 512
def jamD (σ : vW) (m : Nat) : Int64 := powL (nI 10) (bcN (hungTo σ 21 m))
def luckR (σ : vW) (m : Nat) (v p r w : Int32) : Int64 := if luckOk σ v p r w = true then lowR (jamV σ m p.toNatClampNeg v (nI 1 <<< (r &&& 31))) (jamD σ m) w else -1
set_option maxHeartbeats 4000000 in
theorem C_X5_luck {σ : vW} {n m : Nat} {v p r w : Int32} (hn : σ 21 10 = nI n) (hn5 : n ≤ 5) (hm : σ 21 11 = nI m) (hm9 : m ≤ 9) : Ctr mX5_luck 4 [.ref 0, .int v, .int p, .int r, .int w] σ (vDet (some (.long (luckR σ m v p r w))) σ) := by
  have hT := TB21
  refine Ctr.intro (by decide) (fun α => Nat.le_of_ble_eq_true rfl) (fun x G hQ => ?_)
  have G : vG x RX5 cX5_luck 5 (some .long) 4 := G
  show V x 0 [some (.ref 0), some (.int v), some (.int p), some (.int r), some (.int w)] [] σ
  refine v_iload_5_1 G dX5_luck_0 ?_
  refine v_bipush (v := nI 10) G dX5_luck_1 (by decide) ?_
  refine v_cS2 G (C_X5_isUpTo) (by decide) md_X5_isUpTo st_X5_isUpTo ml_X5_52 (Nat.le_of_ble_eq_true rfl) dX5_luck_3 ?_
  refine v_ifB_eq (tgt := 36) G dX5_luck_6 rfl (fun h_6 => ?_) (fun h_6 => ?_)
  · refine v_ldc2 G ct_X5_226 dX5_luck_36 ?_
    exact v_lret G hQ dX5_luck_39 (vDet.of (by simp only [luckR, luckOk, bI, h_6, if_true, if_false, Bool.false_eq_true, reduceIte] <;> try rfl) rfl)
  · refine v_aload_5_0 G dX5_luck_9 ?_
    refine v_getR G vc_5 lk_X5_19 (fs_X5_1) dX5_luck_10 ?_
    refine v_iload_5_2 G dX5_luck_13 ?_
    refine v_cV1 G (C_X4_isOne (by first | assumption | omega | exact oneB_in (by assumption) | exact wallB_in (by assumption) | exact oneB_m1 (by assumption) | decide)) (by decide) md_X4_isOne in_X4_isOne (rv_X4 (by first | assumption | exact imgP_TB | exact shP_SB) rfl) ml_X5_120 (Nat.le_of_ble_eq_true rfl) dX5_luck_14 ?_
    refine v_ifB_eq (tgt := 36) G dX5_luck_17 rfl (fun h_17 => ?_) (fun h_17 => ?_)
    · refine v_ldc2 G ct_X5_226 dX5_luck_36 ?_
      exact v_lret G hQ dX5_luck_39 (vDet.of (by simp only [luckR, luckOk, bI, h_6, h_17, if_true, if_false, Bool.false_eq_true, reduceIte] <;> try rfl) rfl)
    · obtain ⟨k0, hk0, rfl⟩ := oneB_ex hn hn5 h_17
      have ck0 : (nI k0).toNatClampNeg = k0 := nI_clamp (by omega)
      refine v_iload_5_3 G dX5_luck_20 ?_
      refine v_cS1 G (C_X5_isRoom) (by decide) md_X5_isRoom st_X5_isRoom ml_X5_160 (Nat.le_of_ble_eq_true rfl) dX5_luck_21 ?_
      refine v_ifB_eq (tgt := 36) G dX5_luck_24 rfl (fun h_24 => ?_) (fun h_24 => ?_)
      · refine v_ldc2 G ct_X5_226 dX5_luck_36 ?_
        exact v_lret G hQ dX5_luck_39 (vDet.of (by simp only [luckR, luckOk, bI, h_6, h_17, ck0, h_24, if_true, if_false, Bool.false_eq_true, reduceIte] <;> try rfl) rfl)
      · refine v_iload_5_4 G dX5_luck_27 ?_
        refine v_iconst (v := nI 1) G dX5_luck_29 (by decide) ?_
        refine v_cS2 G (C_X5_isUpTo) (by decide) md_X5_isUpTo st_X5_isUpTo ml_X5_52 (Nat.le_of_ble_eq_true rfl) dX5_luck_30 ?_
        refine v_ifB_ne (tgt := 40) G dX5_luck_33 rfl (fun h_33 => ?_) (fun h_33 => ?_)
        · refine v_aload_5_0 G dX5_luck_40 ?_
          refine v_getR G vc_5 lk_X5_19 (fs_X5_1) dX5_luck_41 ?_
          refine v_iload_5_1 G dX5_luck_44 ?_
          refine v_iload_5_2 G dX5_luck_45 ?_
          refine v_iconst (v := nI 1) G dX5_luck_46 (by decide) ?_
          refine v_iload_5_3 G dX5_luck_47 ?_
          refine v_ishl G dX5_luck_48 ?_
          refine v_cV3 G (C_X4_reachedWhenJammed (by first | assumption | omega | exact oneB_in (by assumption) | exact wallB_in (by assumption) | exact oneB_m1 (by assumption) | decide) (by first | assumption | omega | exact oneB_in (by assumption) | exact wallB_in (by assumption) | exact oneB_m1 (by assumption) | decide) (by first | assumption | omega | exact oneB_in (by assumption) | exact wallB_in (by assumption) | exact oneB_m1 (by assumption) | decide) (by first | assumption | omega | exact oneB_in (by assumption) | exact wallB_in (by assumption) | exact oneB_m1 (by assumption) | decide)) (by decide) md_X4_reachedWhenJammed in_X4_reachedWhenJammed (rv_X4 (by first | assumption | exact imgP_TB | exact shP_SB) rfl) ml_X5_228 (Nat.le_of_ble_eq_true rfl) dX5_luck_49 ?_
          refine v_aload_5_0 G dX5_luck_52 ?_
          refine v_getR G vc_5 lk_X5_19 (fs_X5_1) dX5_luck_53 ?_
          refine v_cV0 G (C_X4_jamWeights (by first | assumption | omega | exact oneB_in (by assumption) | exact wallB_in (by assumption) | exact oneB_m1 (by assumption) | decide) (by first | assumption | omega | exact oneB_in (by assumption) | exact wallB_in (by assumption) | exact oneB_m1 (by assumption) | decide) (by first | assumption | omega | exact oneB_in (by assumption) | exact wallB_in (by assumption) | exact oneB_m1 (by assumption) | decide)) (by decide) md_X4_jamWeights in_X4_jamWeights (rv_X4 (by first | assumption | exact imgP_TB | exact shP_SB) rfl) ml_X5_232 (Nat.le_of_ble_eq_true rfl) dX5_luck_56 ?_
          refine v_iload_5_4 G dX5_luck_59 ?_
          refine v_cS3 G (C_X5_inLowestTerms) (by decide) md_X5_inLowestTerms st_X5_inLowestTerms ml_X5_236 (Nat.le_of_ble_eq_true rfl) dX5_luck_61 ?_
          exact v_lret G hQ dX5_luck_64 (vDet.of (by simp only [luckR, luckOk, bI, h_6, h_17, ck0, h_24, h_33, if_true, if_false, Bool.false_eq_true, reduceIte] <;> try rfl) rfl)
        · refine v_ldc2 G ct_X5_226 dX5_luck_36 ?_
          exact v_lret G hQ dX5_luck_39 (vDet.of (by simp only [luckR, luckOk, bI, h_6, h_17, ck0, h_24, h_33, if_true, if_false, Bool.false_eq_true, reduceIte] <;> try rfl) rfl)
def meanOk (σ : vW) (v p w : Int32) : Bool := if upToB v (nI 10) = true then (if oneB (σ 21 10) p = true then (if upToB w (nI 1) = true then true else false) else false) else false
def meanR (σ : vW) (m : Nat) (v p w : Int32) : Int64 := if meanOk σ v p w = true then lowR (jamV σ m p.toNatClampNeg v (nI 255)) (jamD σ m) w else -1
set_option maxHeartbeats 4000000 in
theorem C_X5_mean {σ : vW} {n m : Nat} {v p w : Int32} (hn : σ 21 10 = nI n) (hn5 : n ≤ 5) (hm : σ 21 11 = nI m) (hm9 : m ≤ 9) : Ctr mX5_mean 4 [.ref 0, .int v, .int p, .int w] σ (vDet (some (.long (meanR σ m v p w))) σ) := by
  have hT := TB21
  refine Ctr.intro (by decide) (fun α => Nat.le_of_ble_eq_true rfl) (fun x G hQ => ?_)
  have G : vG x RX5 cX5_mean 4 (some .long) 4 := G
  show V x 0 [some (.ref 0), some (.int v), some (.int p), some (.int w)] [] σ
  refine v_iload_4_1 G dX5_mean_0 ?_
  refine v_bipush (v := nI 10) G dX5_mean_1 (by decide) ?_
  refine v_cS2 G (C_X5_isUpTo) (by decide) md_X5_isUpTo st_X5_isUpTo ml_X5_52 (Nat.le_of_ble_eq_true rfl) dX5_mean_3 ?_
  refine v_ifB_eq (tgt := 28) G dX5_mean_6 rfl (fun h_6 => ?_) (fun h_6 => ?_)
  · refine v_ldc2 G ct_X5_226 dX5_mean_28 ?_
    exact v_lret G hQ dX5_mean_31 (vDet.of (by simp only [meanR, meanOk, bI, h_6, if_true, if_false, Bool.false_eq_true, reduceIte] <;> try rfl) rfl)
  · refine v_aload_4_0 G dX5_mean_9 ?_
    refine v_getR G vc_5 lk_X5_19 (fs_X5_1) dX5_mean_10 ?_
    refine v_iload_4_2 G dX5_mean_13 ?_
    refine v_cV1 G (C_X4_isOne (by first | assumption | omega | exact oneB_in (by assumption) | exact wallB_in (by assumption) | exact oneB_m1 (by assumption) | decide)) (by decide) md_X4_isOne in_X4_isOne (rv_X4 (by first | assumption | exact imgP_TB | exact shP_SB) rfl) ml_X5_120 (Nat.le_of_ble_eq_true rfl) dX5_mean_14 ?_
    refine v_ifB_eq (tgt := 28) G dX5_mean_17 rfl (fun h_17 => ?_) (fun h_17 => ?_)
    · refine v_ldc2 G ct_X5_226 dX5_mean_28 ?_
      exact v_lret G hQ dX5_mean_31 (vDet.of (by simp only [meanR, meanOk, bI, h_6, h_17, if_true, if_false, Bool.false_eq_true, reduceIte] <;> try rfl) rfl)
    · obtain ⟨k0, hk0, rfl⟩ := oneB_ex hn hn5 h_17
      have ck0 : (nI k0).toNatClampNeg = k0 := nI_clamp (by omega)
      refine v_iload_4_3 G dX5_mean_20 ?_
      refine v_iconst (v := nI 1) G dX5_mean_21 (by decide) ?_
      refine v_cS2 G (C_X5_isUpTo) (by decide) md_X5_isUpTo st_X5_isUpTo ml_X5_52 (Nat.le_of_ble_eq_true rfl) dX5_mean_22 ?_
      refine v_ifB_ne (tgt := 32) G dX5_mean_25 rfl (fun h_25 => ?_) (fun h_25 => ?_)
      · refine v_aload_4_0 G dX5_mean_32 ?_
        refine v_getR G vc_5 lk_X5_19 (fs_X5_1) dX5_mean_33 ?_
        refine v_iload_4_1 G dX5_mean_36 ?_
        refine v_iload_4_2 G dX5_mean_37 ?_
        refine v_sipush (v := nI 255) G dX5_mean_38 (by decide) ?_
        refine v_cV3 G (C_X4_reachedWhenJammed (by first | assumption | omega | exact oneB_in (by assumption) | exact wallB_in (by assumption) | exact oneB_m1 (by assumption) | decide) (by first | assumption | omega | exact oneB_in (by assumption) | exact wallB_in (by assumption) | exact oneB_m1 (by assumption) | decide) (by first | assumption | omega | exact oneB_in (by assumption) | exact wallB_in (by assumption) | exact oneB_m1 (by assumption) | decide) (by first | assumption | omega | exact oneB_in (by assumption) | exact wallB_in (by assumption) | exact oneB_m1 (by assumption) | decide)) (by decide) md_X4_reachedWhenJammed in_X4_reachedWhenJammed (rv_X4 (by first | assumption | exact imgP_TB | exact shP_SB) rfl) ml_X5_228 (Nat.le_of_ble_eq_true rfl) dX5_mean_41 ?_
        refine v_aload_4_0 G dX5_mean_44 ?_
        refine v_getR G vc_5 lk_X5_19 (fs_X5_1) dX5_mean_45 ?_
        refine v_cV0 G (C_X4_jamWeights (by first | assumption | omega | exact oneB_in (by assumption) | exact wallB_in (by assumption) | exact oneB_m1 (by assumption) | decide) (by first | assumption | omega | exact oneB_in (by assumption) | exact wallB_in (by assumption) | exact oneB_m1 (by assumption) | decide) (by first | assumption | omega | exact oneB_in (by assumption) | exact wallB_in (by assumption) | exact oneB_m1 (by assumption) | decide)) (by decide) md_X4_jamWeights in_X4_jamWeights (rv_X4 (by first | assumption | exact imgP_TB | exact shP_SB) rfl) ml_X5_232 (Nat.le_of_ble_eq_true rfl) dX5_mean_48 ?_
        refine v_iload_4_3 G dX5_mean_51 ?_
        refine v_cS3 G (C_X5_inLowestTerms) (by decide) md_X5_inLowestTerms st_X5_inLowestTerms ml_X5_236 (Nat.le_of_ble_eq_true rfl) dX5_mean_52 ?_
        exact v_lret G hQ dX5_mean_55 (vDet.of (by simp only [meanR, meanOk, bI, h_6, h_17, ck0, h_25, if_true, if_false, Bool.false_eq_true, reduceIte] <;> try rfl) rfl)
      · refine v_ldc2 G ct_X5_226 dX5_mean_28 ?_
        exact v_lret G hQ dX5_mean_31 (vDet.of (by simp only [meanR, meanOk, bI, h_6, h_17, ck0, h_25, if_true, if_false, Bool.false_eq_true, reduceIte] <;> try rfl) rfl)
