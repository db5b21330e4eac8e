/-! The model's reader: a line -/
theorem stp_12 {σ : vW} (hb : ¬ σ 75 12 ≤ 0) : (stp σ) 75 12 = σ 75 12 := by rw [stp_id hb]
theorem failW_12 {σ : vW} {c : Int32} (hc : ¬ c = 0) : ¬ (failW σ c) 75 12 = 0 := by
  unfold failW
  split
  · rw [vset_oth (by decide), vset_at]
    exact hc
  · assumption
theorem ot3_12 {σ : vW} {mk : Int32} (h : (ot3 σ mk) 75 12 = 0) : σ 75 12 = 0 ∧ (ot3 σ mk) 75 17 = σ 75 17 := by
  unfold ot3 at h ⊢
  split at h
  · rename_i h0
    refine ⟨h0, ?_⟩
    rw [if_pos h0]
    split
    · rfl
    · split
      · exact failW_oth (by decide) (by decide)
      · rfl
  · rename_i h0
    exact absurd h h0
theorem ot2_12 {σ : vW} {lo hi : Int32} (h : (ot2 σ lo hi) 75 12 = 0) : inL (σ 75 17).toInt64 lo.toInt64 hi.toInt64 = true ∧ (ot2 σ lo hi) 75 17 = σ 75 17 := by
  unfold ot2 at h ⊢
  split at h
  · rename_i h0
    rw [if_pos h0]
    split at h
    · rename_i h1
      exact ⟨h1, by rw [if_pos h1]⟩
    · exact absurd h (failW_12 (by decide))
  · rename_i h0
    exact absurd h h0
/-- a number read lies within its bounds -/
theorem otR_ex {σ : vW} {mk : Int32} {k : Nat} (hk : k < 1000) : ∃ j, j ≤ k ∧ otR σ (nI 0) (nI k) mk = nI j := by
  unfold otR
  split
  · rename_i h
    unfold otA at h ⊢
    obtain ⟨h1, e1⟩ := ot3_12 h
    obtain ⟨h2, e2⟩ := ot2_12 h1
    rw [e1, e2]
    have h3 := of_decide_eq_true h2
    rw [Int32.toInt_toInt64, Int32.toInt_toInt64, Int32.toInt_toInt64, nI_toInt (by omega), nI_toInt (by omega)] at h3
    refine ⟨((ot1 σ) 75 17).toInt.toNat, by omega, ?_⟩
    rw [← Int32.toInt_inj, nI_toInt (by omega)]
    omega
  · exact ⟨0, Nat.zero_le k, rfl⟩
def rr1 (σ : vW) : vW := vset (otW σ (nI 0) (nI 7) (σ 75 5)) 75 5 (σ 75 5 ||| nI 1 <<< (otR σ (nI 0) (nI 7) (σ 75 5) &&& 31))
def rrW (σ : vW) : vW := vset (otW (rr1 σ) (nI 0) (nI 99) (nI 0)) 77 (44 + (otR σ (nI 0) (nI 7) (σ 75 5)).toNatClampNeg) (otR (rr1 σ) (nI 0) (nI 99) (nI 0))
theorem rr1_H {σ : vW} (h : tpH σ) : tpH (rr1 σ) := tpH_fld (otW_H h) (by decide)
theorem rrW_H {σ : vW} (h : tpH σ) : tpH (rrW σ) := tpH_row (otW_H (rr1_H h)) (by decide)
def rmoW (σ : vW) (kd : Int32) (k m K : Nat) : vW := if nI 3 < kd then (if kd = nI 4 then rwW σ m else if kd = nI 5 then rrW σ else rpW σ K) else roW σ k kd
theorem rmoW_H {σ : vW} {kd : Int32} {k m K : Nat} (h : tpH σ) : tpH (rmoW σ kd k m K) := by
  unfold rmoW
  split
  · split
    · exact rwW_H h
    · split
      · exact rrW_H h
      · exact rpG_H _ _ _ h
  · exact roW_H h
set_option maxHeartbeats 4000000 in
theorem C_X6_readMore {σ : vW} {f : Nat → Int32} {kd : Int32} {k m K : Nat} (h : tpH σ) (hk : σ 75 3 = nI k) (hk5 : ¬ nI 3 < kd → k < 5) (hm : σ 77 25 = nI m) (hm9 : kd = nI 4 → m < 9) (hK : σ 77 52 = nI K) (hK6 : K ≤ 6) : Ctr mX6_readMore 5 [.ref 75, .int kd] (vrow σ 81 f) (vDet none (vrow (rmoW σ kd k m K) 81 f)) := by
  have g5 : (otW σ (nI 0) (nI 7) (σ 75 5)) 75 5 = σ 75 5 := otW_sc.2 5 (by omega)
  obtain ⟨r0, hr0, er⟩ := otR_ex (σ := σ) (mk := σ 75 5) (k := 7) (by omega)
  have cr : (nI r0).toNatClampNeg = r0 := nI_clamp (by omega)
  have e1 : vset (otW σ (nI 0) (nI 7) (σ 75 5)) 75 5 (σ 75 5 ||| nI 1 <<< (nI r0 &&& 31)) = rr1 σ := by rw [rr1, er]
  refine Ctr.intro (by decide) (fun α => Nat.le_of_ble_eq_true rfl) (fun x G hQ => ?_)
  have G : vG x RX6 cX6_readMore 3 none 5 := G
  show V x 0 [some (.ref 75), some (.int kd), none] [] (vrow σ 81 f)
  refine v_iload_3_1 G dX6_readMore_0 ?_
  refine v_iconst (v := nI 3) G dX6_readMore_1 (by decide) ?_
  refine v_icmp_gt (tgt := 13) G dX6_readMore_2 rfl (fun h_2 => ?_) (fun h_2 => ?_)
  · refine v_iload_3_1 G dX6_readMore_13 ?_
    refine v_iconst (v := nI 4) G dX6_readMore_14 (by decide) ?_
    refine v_icmp_ne (tgt := 25) G dX6_readMore_15 rfl (fun h_15 => ?_) (fun h_15 => ?_)
    · refine v_iload_3_1 G dX6_readMore_25 ?_
      refine v_iconst (v := nI 5) G dX6_readMore_26 (by decide) ?_
      refine v_icmp_ne (tgt := 74) G dX6_readMore_27 rfl (fun h_27 => ?_) (fun h_27 => ?_)
      · refine v_aload_3_0 G dX6_readMore_74 ?_
        refine v_cV0v G (C_X6_readPlan h hK hK6) (by decide) md_X6_readPlan in_X6_readPlan (rv_X6 rfl) ml_X6_122 (Nat.le_of_ble_eq_true rfl) dX6_readMore_75 ?_
        exact v_vret G hQ dX6_readMore_78 (vDet.of rfl (by first | (rw [rmoW, if_pos h_2, if_pos h_15]; done) | (rw [rmoW, if_pos h_2, if_neg h_15, if_pos h_27, rrW, er, cr]; done) | (rw [rmoW, if_pos h_2, if_neg h_15, if_neg h_27]; done) | (rw [rmoW, if_neg h_2]; done)))
      · refine v_aload_3_0 G dX6_readMore_30 ?_
        refine v_iconst (v := nI 0) G dX6_readMore_31 (by decide) ?_
        refine v_bipush (v := nI 7) G dX6_readMore_32 (by decide) ?_
        refine v_aload_3_0 G dX6_readMore_34 ?_
        refine m_getI G (by decide) vc_6 lk_X6_119 fs_X6_5 dX6_readMore_35 ?_
        refine v_cV3 G (C_X6_other h) (by decide) md_X6_other in_X6_other (rv_X6 rfl) ml_X6_94 (Nat.le_of_ble_eq_true rfl) dX6_readMore_38 ?_
        rw [er]
        refine v_istore_3_2 G dX6_readMore_41 rfl ?_
        refine v_aload_3_0 G dX6_readMore_42 ?_
        refine v_dup G dX6_readMore_43 rfl ?_
        refine m_getI G (by decide) vc_6 lk_X6_119 fs_X6_5 dX6_readMore_44 ?_
        rw [g5]
        refine v_iconst (v := nI 1) G dX6_readMore_47 (by decide) ?_
        refine v_iload_3_2 G dX6_readMore_48 ?_
        refine v_ishl G dX6_readMore_49 ?_
        refine v_ior G dX6_readMore_50 ?_
        refine m_putI G (by decide) vc_6 vt_6 lk_X6_119 fs_X6_5 (ft_X6_5 _) dX6_readMore_51 ?_
        rw [e1]
        refine v_aload_3_0 G dX6_readMore_54 ?_
        refine v_getR G vc_6 lk_X6_13 (fs_X6_2) dX6_readMore_55 ?_
        refine v_bipush (v := nI 44) G dX6_readMore_58 (by decide) ?_
        refine v_iload_3_2 G dX6_readMore_60 ?_
        refine v_iaddN G dX6_readMore_61 ?_
        refine v_aload_3_0 G dX6_readMore_62 ?_
        refine v_iconst (v := nI 0) G dX6_readMore_63 (by decide) ?_
        refine v_bipush (v := nI 99) G dX6_readMore_64 (by decide) ?_
        refine v_iconst (v := nI 0) G dX6_readMore_66 (by decide) ?_
        refine v_cV3 G (C_X6_other (rr1_H h)) (by decide) md_X6_other in_X6_other (rv_X6 rfl) ml_X6_94 (Nat.le_of_ble_eq_true rfl) dX6_readMore_67 ?_
        refine m_iastN G (by decide) (as_X6_2) (by first | assumption | omega | exact oneB_in (by assumption) | exact wallB_in (by assumption) | exact oneB_m1 (by assumption) | decide) (by decide) dX6_readMore_70 ?_
        refine v_goto (tgt := 78) G dX6_readMore_71 rfl ?_
        exact v_vret G hQ dX6_readMore_78 (vDet.of rfl (by first | (rw [rmoW, if_pos h_2, if_pos h_15]; done) | (rw [rmoW, if_pos h_2, if_neg h_15, if_pos h_27, rrW, er, cr]; done) | (rw [rmoW, if_pos h_2, if_neg h_15, if_neg h_27]; done) | (rw [rmoW, if_neg h_2]; done)))
    · refine v_aload_3_0 G dX6_readMore_18 ?_
      refine v_cV0v G (C_X6_readWall h hm (hm9 h_15)) (by decide) md_X6_readWall in_X6_readWall (rv_X6 rfl) ml_X6_116 (Nat.le_of_ble_eq_true rfl) dX6_readMore_19 ?_
      refine v_goto (tgt := 78) G dX6_readMore_22 rfl ?_
      exact v_vret G hQ dX6_readMore_78 (vDet.of rfl (by first | (rw [rmoW, if_pos h_2, if_pos h_15]; done) | (rw [rmoW, if_pos h_2, if_neg h_15, if_pos h_27, rrW, er, cr]; done) | (rw [rmoW, if_pos h_2, if_neg h_15, if_neg h_27]; done) | (rw [rmoW, if_neg h_2]; done)))
  · refine v_aload_3_0 G dX6_readMore_5 ?_
    refine v_iload_3_1 G dX6_readMore_6 ?_
    refine v_cV1v G (C_X6_readOne h hk (hk5 h_2)) (by decide) md_X6_readOne in_X6_readOne (rv_X6 rfl) ml_X6_113 (Nat.le_of_ble_eq_true rfl) dX6_readMore_7 ?_
    refine v_goto (tgt := 78) G dX6_readMore_10 rfl ?_
    exact v_vret G hQ dX6_readMore_78 (vDet.of rfl (by first | (rw [rmoW, if_pos h_2, if_pos h_15]; done) | (rw [rmoW, if_pos h_2, if_neg h_15, if_pos h_27, rrW, er, cr]; done) | (rw [rmoW, if_pos h_2, if_neg h_15, if_neg h_27]; done) | (rw [rmoW, if_neg h_2]; done)))
/-- the name that stands here -/
def cutN (i : Nat) : Nat := if i = 0 then 0 else if i = 1 then 3 else if i = 2 then 8 else 4 + 4 * i
def cutOK (σ : vW) : Prop := ∀ i, i < 8 → σ 79 i = nI (cutN i)
theorem cutN_ok : ∀ i, i < 7 → cutN i ≤ cutN (i + 1) ∧ cutN (i + 1) ≤ 32 := by decide
def nmC (σ : vW) (l q e i : Nat) : Nat → Bool
  | 0 => if nI (e - q) = nI (cutN (i + 1) - cutN i) then true else false
  | j + 1 => if nmC σ l q e i j = true then (if mByte σ l (q + j) = σ 80 (cutN i + j) then true else false) else false
theorem nmC_false {σ : vW} {l q e i j : Nat} (h : nmC σ l q e i j = false) : ∀ k, nmC σ l q e i (j + k) = false
  | 0 => h
  | k + 1 => by
    show nmC σ l q e i ((j + k) + 1) = false
    rw [nmC, nmC_false h k, if_neg Bool.false_ne_true]
theorem nmC_len {σ : vW} {l q e i : Nat} (hi : i < 7) (he : e < 1000) : ∀ j, nmC σ l q e i j = true → e - q = cutN (i + 1) - cutN i
  | 0, h => by
    have := cutN_ok i hi
    unfold nmC at h
    split at h
    · exact nI_eqN (by omega) (by omega) (by assumption)
    · exact absurd h Bool.false_ne_true
  | j + 1, h => by
    unfold nmC at h
    split at h
    · exact nmC_len hi he j (by assumption)
    · exact absurd h Bool.false_ne_true
def nmB (σ : vW) (l q e i : Nat) : Bool := nmC σ l q e i (e - q)
def nmR (σ : vW) (l q e : Nat) : Int32 := if σ 75 16 = nI 1 then (if fstP (nmB σ l q e) 7 0 < 7 then nI (fstP (nmB σ l q e) 7 0) else -4) else -4
set_option maxHeartbeats 4000000 in
theorem C_X6_nameHere {σ : vW} {f : Nat → Int32} {l q e : Nat} (hl : σ 75 10 = nI l) (hl6 : l ≤ 160) (hq : σ 75 15 = nI q) (he : σ 75 14 = nI e) (hqe : q ≤ e) (hel : e ≤ l) (hc : cutOK σ) : Ctr mX6_nameHere 1 [.ref 75] (vrow σ 81 f) (vDet (some (.int (nmR σ l q e))) (vrow σ 81 f)) := by
  refine Ctr.intro (by decide) (fun α => Nat.le_of_ble_eq_true rfl) (fun x G hQ => ?_)
  have G : vG x RX6 cX6_nameHere 4 (some .int) 1 := G
  show V x 0 [some (.ref 75), none, none, none] [] (vrow σ 81 f)
  by_cases ht : σ 75 16 = nI 1
  · rw [nmR, if_pos ht] at hQ
    generalize hF : fstP (nmB σ l q e) 7 0 = F0 at hQ
    refine v_iconst (v := nI 0) G dX6_nameHere_0 (by decide) ?_
    refine v_istore_4_1 G dX6_nameHere_1 rfl ?_
    refine v_forP (pc := 2) (7) (fun i => F0 = fstP (nmB σ l q e) (7 - i) i) (fun i => ([some (.ref 75), some (.int (nI i)), none, none], (vrow (σ) 81 f))) hF.symm (fun i hi hpi ihi => ?_) (fun hpi => ?_)
    · show V x 2 [some (.ref 75), some (.int (nI i)), none, none] [] (vrow (σ) 81 f)
      have ihi : (F0 = fstP (nmB σ l q e) (7 - (i + 1)) (i + 1)) → V x 2 [some (.ref 75), some (.int (nI (i + 1))), none, none] [] (vrow (σ) 81 f) := ihi
      have hpi : F0 = fstP (nmB σ l q e) (7 - i) i := hpi
      rw [show 7 - i = (7 - (i + 1)) + 1 by omega, fstP] at hpi
      obtain ⟨c1, c2⟩ := cutN_ok i hi
      have k106 : V x 106 [some (.ref 75), some (.int (nI i)), some (.int (bI (nmB σ l q e i))), none] [] (vrow σ 81 f) := by
        refine v_iload_4_2 G dX6_nameHere_106 ?_
        refine v_ifB_eq (tgt := 112) G dX6_nameHere_107 rfl (fun h_107 => ?_) (fun h_107 => ?_)
        · refine v_iincN_4_1 G dX6_nameHere_112 rfl ?_
          refine v_goto (tgt := 2) G dX6_nameHere_115 rfl ?_
          exact V.drop (by simp only [vsubP, and_self]) (ihi (by rw [hpi, if_neg (by rw [h_107]; exact Bool.false_ne_true)]))
        · refine v_iload_4_1 G dX6_nameHere_110 ?_
          exact v_iret G hQ dX6_nameHere_111 (vDet.of (by rw [hpi, if_pos h_107, if_pos hi]) rfl)
      have k51 : V x 51 [some (.ref 75), some (.int (nI i)), some (.int (bI (nmC σ l q e i 0))), some (.int (nI 0))] [] (vrow σ 81 f) := by
        refine v_for (pc := 51) ((e - q)) (fun j => ([some (.ref 75), some (.int (nI i)), some (.int (bI (nmC σ l q e i j))), some (.int (nI j))], (vrow (σ) 81 f))) (fun j hj ihj => ?_) ?_
        · show V x 51 [some (.ref 75), some (.int (nI i)), some (.int (bI (nmC σ l q e i j))), some (.int (nI j))] [] (vrow (σ) 81 f)
          have ihj : V x 51 [some (.ref 75), some (.int (nI i)), some (.int (bI (nmC σ l q e i (j + 1)))), some (.int (nI (j + 1)))] [] (vrow (σ) 81 f) := ihj
          refine v_iload_4_2 G dX6_nameHere_51 ?_
          refine v_ifB_eq (tgt := 106) G dX6_nameHere_52 rfl (fun h_52 => ?_) (fun h_52 => ?_)
          · have e1 : nmB σ l q e i = nmC σ l q e i j := by
              have e2 := nmC_false h_52 (e - q - j)
              rw [show j + (e - q - j) = e - q by omega] at e2
              rw [nmB, e2, h_52]
            rw [e1] at k106
            exact V.drop (by simp only [vsubP, and_self]) k106
          · refine v_iload_4_3 G dX6_nameHere_55 ?_
            refine v_aload_4_0 G dX6_nameHere_56 ?_
            refine m_getI G (by decide) vc_6 lk_X6_69 fs_X6_14 dX6_nameHere_57 ?_
            rw [he]
            refine v_aload_4_0 G dX6_nameHere_60 ?_
            refine m_getI G (by decide) vc_6 lk_X6_60 fs_X6_15 dX6_nameHere_61 ?_
            rw [hq]
            refine v_isub G dX6_nameHere_64 ?_
            rw [nI_subN hqe]
            refine v_icmp_ge (tgt := 106) G dX6_nameHere_65 rfl (fun h_65 => absurd h_65 (nI_ge hj (by omega))) (fun h_65 => ?_)
            refine v_aload_4_0 G dX6_nameHere_68 ?_
            refine v_aload_4_0 G dX6_nameHere_69 ?_
            refine m_getI G (by decide) vc_6 lk_X6_60 fs_X6_15 dX6_nameHere_70 ?_
            rw [hq]
            refine v_iload_4_3 G dX6_nameHere_73 ?_
            refine v_iaddN G dX6_nameHere_74 ?_
            refine v_cV1 G (C_X6_byteAt hl hl6 (by omega)) (by decide) md_X6_byteAt in_X6_byteAt (rv_X6 rfl) ml_X6_72 (Nat.le_of_ble_eq_true rfl) dX6_nameHere_75 ?_
            refine v_aload_4_0 G dX6_nameHere_78 ?_
            refine v_getR G vc_6 lk_X6_22 (fs_X6_19) dX6_nameHere_79 ?_
            refine v_aload_4_0 G dX6_nameHere_82 ?_
            refine v_getR G vc_6 lk_X6_19 (fs_X6_18) dX6_nameHere_83 ?_
            refine v_iload_4_1 G dX6_nameHere_86 ?_
            refine m_ialdN G (by decide) (as_X6_18) (by have hlen := nmC_len hi (show e < 1000 by omega) j h_52; omega) (by decide) dX6_nameHere_87 ?_
            rw [hc i (by omega)]
            refine v_iload_4_3 G dX6_nameHere_88 ?_
            refine v_iaddN G dX6_nameHere_89 ?_
            refine m_ialdN G (by decide) (as_X6_19) (by have hlen := nmC_len hi (show e < 1000 by omega) j h_52; omega) (by decide) dX6_nameHere_90 ?_
            refine v_icmp_ne (tgt := 98) G dX6_nameHere_91 rfl (fun h_91 => ?_) (fun h_91 => ?_)
            · refine v_iconst (v := nI 0) G dX6_nameHere_98 (by decide) ?_
              refine v_istore_4_2 G dX6_nameHere_99 rfl ?_
              refine v_iincN_4_3 G dX6_nameHere_100 rfl ?_
              refine v_goto (tgt := 51) G dX6_nameHere_103 rfl ?_
              rw [nmC, if_pos h_52] at ihj
              first
                | (rw [if_pos h_91] at ihj; exact ihj)
                | (rw [if_neg h_91] at ihj; exact ihj)
            · refine v_iconst (v := nI 1) G dX6_nameHere_94 (by decide) ?_
              refine v_goto (tgt := 99) G dX6_nameHere_95 rfl ?_
              refine v_istore_4_2 G dX6_nameHere_99 rfl ?_
              refine v_iincN_4_3 G dX6_nameHere_100 rfl ?_
              refine v_goto (tgt := 51) G dX6_nameHere_103 rfl ?_
              rw [nmC, if_pos h_52] at ihj
              first
                | (rw [if_pos h_91] at ihj; exact ihj)
                | (rw [if_neg h_91] at ihj; exact ihj)
        · show V x 51 [some (.ref 75), some (.int (nI i)), some (.int (bI (nmC σ l q e i (e - q)))), some (.int (nI (e - q)))] [] (vrow (σ) 81 f)
          refine v_iload_4_2 G dX6_nameHere_51 ?_
          refine v_ifB_eq (tgt := 106) G dX6_nameHere_52 rfl (fun h_52 => ?_) (fun h_52 => ?_)
          · refine V.drop ?_ k106
            exact ⟨rfl, rfl, rfl, trivial⟩
          · refine v_iload_4_3 G dX6_nameHere_55 ?_
            refine v_aload_4_0 G dX6_nameHere_56 ?_
            refine m_getI G (by decide) vc_6 lk_X6_69 fs_X6_14 dX6_nameHere_57 ?_
            rw [he]
            refine v_aload_4_0 G dX6_nameHere_60 ?_
            refine m_getI G (by decide) vc_6 lk_X6_60 fs_X6_15 dX6_nameHere_61 ?_
            rw [hq]
            refine v_isub G dX6_nameHere_64 ?_
            rw [nI_subN hqe]
            refine v_icmp_ge (tgt := 106) G dX6_nameHere_65 rfl (fun h_65 => ?_) (fun h_65 => absurd (nI_le (Nat.le_refl _) (by omega)) h_65)
            refine V.drop ?_ k106
            exact ⟨rfl, rfl, rfl, trivial⟩
      refine v_iload_4_1 G dX6_nameHere_2 ?_
      refine v_bipush (v := nI 7) G dX6_nameHere_3 (by decide) ?_
      refine v_icmp_ge (tgt := 118) G dX6_nameHere_5 rfl (fun h_5 => absurd h_5 (nI_ge hi (by omega))) (fun h_5 => ?_)
      refine v_aload_4_0 G dX6_nameHere_8 ?_
      refine m_getI G (by decide) vc_6 lk_X6_66 fs_X6_16 dX6_nameHere_9 ?_
      refine v_iconst (v := nI 1) G dX6_nameHere_12 (by decide) ?_
      refine v_icmp_ne (tgt := 118) G dX6_nameHere_13 rfl (fun h_13 => absurd ht h_13) (fun h_13 => ?_)
      refine v_aload_4_0 G dX6_nameHere_16 ?_
      refine m_getI G (by decide) vc_6 lk_X6_69 fs_X6_14 dX6_nameHere_17 ?_
      rw [he]
      refine v_aload_4_0 G dX6_nameHere_20 ?_
      refine m_getI G (by decide) vc_6 lk_X6_60 fs_X6_15 dX6_nameHere_21 ?_
      rw [hq]
      refine v_isub G dX6_nameHere_24 ?_
      rw [nI_subN hqe]
      refine v_aload_4_0 G dX6_nameHere_25 ?_
      refine v_getR G vc_6 lk_X6_19 (fs_X6_18) dX6_nameHere_26 ?_
      refine v_iload_4_1 G dX6_nameHere_29 ?_
      refine v_iconst (v := nI 1) G dX6_nameHere_30 (by decide) ?_
      refine v_iaddN G dX6_nameHere_31 ?_
      refine m_ialdN G (by decide) (as_X6_18) (by first | assumption | omega | exact oneB_in (by assumption) | exact wallB_in (by assumption) | exact oneB_m1 (by assumption) | decide) (by decide) dX6_nameHere_32 ?_
      rw [hc (i + 1) (by omega)]
      refine v_aload_4_0 G dX6_nameHere_33 ?_
      refine v_getR G vc_6 lk_X6_19 (fs_X6_18) dX6_nameHere_34 ?_
      refine v_iload_4_1 G dX6_nameHere_37 ?_
      refine m_ialdN G (by decide) (as_X6_18) (by first | assumption | omega | exact oneB_in (by assumption) | exact wallB_in (by assumption) | exact oneB_m1 (by assumption) | decide) (by decide) dX6_nameHere_38 ?_
      rw [hc i (by omega)]
      refine v_isub G dX6_nameHere_39 ?_
      rw [nI_subN c1]
      refine v_icmp_ne (tgt := 47) G dX6_nameHere_40 rfl (fun h_40 => ?_) (fun h_40 => ?_)
      · refine v_iconst (v := nI 0) G dX6_nameHere_47 (by decide) ?_
        refine v_istore_4_2 G dX6_nameHere_48 rfl ?_
        refine v_iconst (v := nI 0) G dX6_nameHere_49 (by decide) ?_
        refine v_istore_4_3 G dX6_nameHere_50 rfl ?_
        simp only [nmC, h_5, h_13, h_40, if_true, if_false] at k51
        exact k51
      · refine v_iconst (v := nI 1) G dX6_nameHere_43 (by decide) ?_
        refine v_goto (tgt := 48) G dX6_nameHere_44 rfl ?_
        refine v_istore_4_2 G dX6_nameHere_48 rfl ?_
        refine v_iconst (v := nI 0) G dX6_nameHere_49 (by decide) ?_
        refine v_istore_4_3 G dX6_nameHere_50 rfl ?_
        simp only [nmC, h_5, h_13, h_40, if_true, if_false] at k51
        exact k51
    · show V x 2 [some (.ref 75), some (.int (nI 7)), none, none] [] (vrow (σ) 81 f)
      have hpi : F0 = fstP (nmB σ l q e) (7 - 7) 7 := hpi
      refine v_iload_4_1 G dX6_nameHere_2 ?_
      refine v_bipush (v := nI 7) G dX6_nameHere_3 (by decide) ?_
      refine v_icmp_ge (tgt := 118) G dX6_nameHere_5 rfl (fun h_5 => ?_) (fun h_5 => absurd (nI_le (Nat.le_refl _) (by omega)) h_5)
      refine v_bipush (v := (-4)) G dX6_nameHere_118 (by decide) ?_
      exact v_iret G hQ dX6_nameHere_120 (vDet.of (by rw [hpi, Nat.sub_self, fstP, if_neg (Nat.lt_irrefl 7)]) rfl)
  · rw [nmR, if_neg ht] at hQ
    refine v_iconst (v := nI 0) G dX6_nameHere_0 (by decide) ?_
    refine v_istore_4_1 G dX6_nameHere_1 rfl ?_
    refine v_iload_4_1 G dX6_nameHere_2 ?_
    refine v_bipush (v := nI 7) G dX6_nameHere_3 (by decide) ?_
    refine v_icmp_ge (tgt := 118) G dX6_nameHere_5 rfl (fun h_5 => absurd h_5 (nI_ge (by omega) (by omega))) (fun h_5 => ?_)
    refine v_aload_4_0 G dX6_nameHere_8 ?_
    refine m_getI G (by decide) vc_6 lk_X6_66 fs_X6_16 dX6_nameHere_9 ?_
    refine v_iconst (v := nI 1) G dX6_nameHere_12 (by decide) ?_
    refine v_icmp_ne (tgt := 118) G dX6_nameHere_13 rfl (fun h_13 => ?_) (fun h_13 => absurd h_13 ht)
    refine v_bipush (v := (-4)) G dX6_nameHere_118 (by decide) ?_
    exact v_iret G hQ dX6_nameHere_120 vDet.mk
