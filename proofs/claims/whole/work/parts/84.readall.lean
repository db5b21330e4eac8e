/-! The program's reader: all lines; DoorTown.text() -/
theorem nkI_v {k : Nat} (h : k < 4) : nkI (nI k) = k := by
  rcases (show k = 0 ∨ k = 1 ∨ k = 2 ∨ k = 3 by omega) with rfl | rfl | rfl | rfl <;> rfl
def knF (σ : vW) (q e : Nat) : Nat → Nat → Int32
  | 0, _ => -4
  | j + 1, k => if isNmB σ q e k = true then nI k else knF σ q e j (k + 1)
/-- where one stands behind a token -/
def tkH (σ : vW) : Prop := ∃ l q e, l ≤ 160 ∧ q ≤ e ∧ e ≤ l ∧ σ 2 1 = nI l ∧ σ 2 3 = nI q ∧ σ 2 5 = nI e
def isQ (σ : vW) (i : Nat) : Bool := isNmB σ (σ 2 3).toNatClampNeg (σ 2 5).toNatClampNeg i
def kdQ (σ : vW) : Int32 := knF σ (σ 2 3).toNatClampNeg (σ 2 5).toNatClampNeg 4 0
theorem C_isQ {σ : vW} {i : Nat} (h : tkH σ) (hi : i < 7) : Ctr mX3_isName 5 [.ref 2, .ref (100 + i)] σ (vDet (some (.int (bI (isQ σ i)))) σ) := by
  obtain ⟨l, q, e, h1, h2, h3, h4, h5, h6⟩ := h
  rw [isQ, h5, h6, nI_clamp (by omega), nI_clamp (by omega)]
  exact C_X3_isName h4 h1 h5 h6 h2 h3 hi
set_option maxHeartbeats 4000000 in
theorem C_X0_kindNamed {σ : vW} (h : tkH σ) : Ctr mX0_kindNamed 6 [.ref 1] σ (vDet (some (.int (kdQ σ))) σ) := by
  refine Ctr.intro (by decide) (fun α => Nat.le_of_ble_eq_true rfl) (fun x G hQ => ?_)
  have G : vG x RX0 cX0_kindNamed 2 (some .int) 6 := G
  show V x 0 [some (.ref 1), none] [] σ
  generalize hB : kdQ σ = B at hQ
  rw [kdQ] at hB
  refine v_iconst (v := nI 0) G dX0_kindNamed_0 (by decide) ?_
  refine v_istore_2_1 G dX0_kindNamed_1 rfl ?_
  refine v_forP (pc := 2) (4) (fun k => knF σ (σ 2 3).toNatClampNeg (σ 2 5).toNatClampNeg (4 - k) k = B) (fun k => ([some (.ref 1), some (.int (nI k))], σ)) hB (fun k hk hpk ih => ?_) (fun hpk => ?_)
  · show V x 2 [some (.ref 1), some (.int (nI k))] [] σ
    have ih : (knF σ (σ 2 3).toNatClampNeg (σ 2 5).toNatClampNeg (4 - (k + 1)) (k + 1) = B) → V x 2 [some (.ref 1), some (.int (nI (k + 1)))] [] σ := ih
    have hpk : knF σ (σ 2 3).toNatClampNeg (σ 2 5).toNatClampNeg (4 - k) k = B := hpk
    rw [show 4 - k = (4 - (k + 1)) + 1 by omega, knF] at hpk
    refine v_iload_2_1 G dX0_kindNamed_2 ?_
    refine v_iconst (v := nI 4) G dX0_kindNamed_3 (by decide) ?_
    refine v_icmp_ge (tgt := 29) G dX0_kindNamed_4 rfl (fun h_4 => absurd h_4 (by exact nI_ge hk (by omega))) (fun h_4 => ?_)
    refine v_aload_2_0 G dX0_kindNamed_7 ?_
    refine v_getR G vc_0 lk_X0_12 (fs_X0_0) dX0_kindNamed_8 ?_
    refine v_iload_2_1 G dX0_kindNamed_11 ?_
    refine v_cS1 G (C_X0_nameOfKind) (by decide) md_X0_nameOfKind st_X0_nameOfKind ml_X0_91 (Nat.le_of_ble_eq_true rfl) dX0_kindNamed_12 ?_
    rw [nkI_v (by omega)]
    refine v_cV1 G (C_isQ h (by omega)) (by decide) md_X3_isName in_X3_isName (rv_X3 rfl) ml_X0_65 (Nat.le_of_ble_eq_true rfl) dX0_kindNamed_15 ?_
    refine v_ifB_eq (tgt := 23) G dX0_kindNamed_18 rfl (fun h_18 => ?_) (fun h_18 => ?_)
    · refine v_iincN_2_1 G dX0_kindNamed_23 rfl ?_
      refine v_goto (tgt := 2) G dX0_kindNamed_26 rfl ?_
      rw [if_neg (show ¬ isNmB σ (σ 2 3).toNatClampNeg (σ 2 5).toNatClampNeg k = true by rw [show isNmB σ (σ 2 3).toNatClampNeg (σ 2 5).toNatClampNeg k = false from h_18]; exact Bool.false_ne_true)] at hpk
      exact ih hpk
    · refine v_iload_2_1 G dX0_kindNamed_21 ?_
      exact v_iret G hQ dX0_kindNamed_22 (vDet.of (by rw [← hpk]; first | (rw [if_pos (show isNmB σ (σ 2 3).toNatClampNeg (σ 2 5).toNatClampNeg k = true from h_18)]; done) | (rw [Nat.sub_self]; rfl)) rfl)
  · show V x 2 [some (.ref 1), some (.int (nI 4))] [] σ
    have hpk : knF σ (σ 2 3).toNatClampNeg (σ 2 5).toNatClampNeg (4 - 4) 4 = B := hpk
    refine v_iload_2_1 G dX0_kindNamed_2 ?_
    refine v_iconst (v := nI 4) G dX0_kindNamed_3 (by decide) ?_
    refine v_icmp_ge (tgt := 29) G dX0_kindNamed_4 rfl (fun h_4 => ?_) (fun h_4 => absurd (by exact nI_le (Nat.le_refl _) (by omega)) h_4)
    refine v_bipush (v := (-4)) G dX0_kindNamed_29 (by decide) ?_
    exact v_iret G hQ dX0_kindNamed_31 (vDet.of (by rw [← hpk]; first | (rw [if_pos (show isNmB σ (σ 2 3).toNatClampNeg (σ 2 5).toNatClampNeg k = true from h_18)]; done) | (rw [Nat.sub_self]; rfl)) rfl)
def nQ (σ : vW) : Nat := (σ 10 10).toNatClampNeg
def mQ (σ : vW) : Nat := (σ 10 11).toNatClampNeg
def KQ (σ : vW) : Nat := (σ 10 12).toNatClampNeg
def lnP1 (t : vW) : vW := if kdQ t < 0 then (if isQ t 4 = true then wlW t (mQ t) else if isQ t 5 = true then rmW1 t else if isQ t 6 = true then plW t else rfW t (nI 2)) else odW t (nQ t) (kdQ t)
def lnP (t : vW) : vW := vset (lnP1 t) 1 2 ((lnP1 t) 1 2 + nI 1)
def raG : Nat → vW → vW
  | 0, s => s
  | j + 1, s => if ntB s = true then (if (ntW s) 2 2 = nI 4 then ntW s else raG j (lnP (ntW s))) else ntW s
def raE (S : vW) : vW := if S 1 3 = 0 then (if missB S 10 (mQ S) (KQ S) = true then vset (vset S 1 3 (nI 6)) 1 4 (S 2 1) else S) else S
def ra0 (σ : vW) : vW := vset (vset (vset (vset (vset (clrW (vset σ 2 5 (nI 0)) 10) 1 2 (nI 0)) 1 3 (nI 0)) 1 4 (nI 0)) 1 5 (nI 0)) 1 6 (nI 0)
def raW (σ : vW) : vW := raE (raG 161 (ra0 σ))
def rIV (W : vW) : Prop := tkOK W ∧ (∃ n, n ≤ 5 ∧ W 10 10 = nI n) ∧ (∃ m, m ≤ 9 ∧ W 10 11 = nI m) ∧ ∃ K, K ≤ 6 ∧ W 10 12 = nI K
theorem rIV_sc {b σ : vW} (h : rIV σ) (hs : scR b σ) (ht : tkOK b) : rIV b := by
  have e := hs.1 10 (by decide) (by decide)
  exact ⟨ht, by rw [e]; exact h.2.1, by rw [e]; exact h.2.2.1, by rw [e]; exact h.2.2.2⟩
theorem nIle {a b : Nat} (ha : a < 1000) (hb : b < 1000) (h : nI a ≤ nI b) : a ≤ b := by
  rw [le_toInt, nI_toInt (by omega), nI_toInt (by omega)] at h
  omega
theorem plG_iv : ∀ j (s : vW), rIV s → rIV (plG j s)
  | 0, s, h => h
  | j + 1, s, h => by
    have hN : rIV (ntW s) := rIV_sc h ntW_sc (tkOK_nt h.1)
    obtain ⟨K, hK6, hK⟩ := h.2.2.2
    obtain ⟨q1, K', q2, q3⟩ := plS_ok h.1 hK hK6
    have hS : rIV (plS s) := by
      have hB : rIV (plB s) := rIV_sc h plB_sc (tkOK_plB h.1)
      refine ⟨q1, ?_, ?_, K', q2, q3⟩
      · have : (plS s) 10 10 = (plB s) 10 10 := by
          unfold plS
          split
          · split
            · rw [addActW, vset_oth (by decide), vset_ne (by decide), vset_ne (by decide)]
            · rfl
          · rfl
        rw [this]
        exact hB.2.1
      · have : (plS s) 10 11 = (plB s) 10 11 := by
          unfold plS
          split
          · split
            · rw [addActW, vset_oth (by decide), vset_ne (by decide), vset_ne (by decide)]
            · rfl
          · rfl
        rw [this]
        exact hB.2.2.1
    unfold plG
    split
    · split
      · exact hN
      · exact plG_iv j _ hS
    · exact hN
theorem rIV_1 {W : vW} {i : Nat} {v : Int32} (h : rIV W) : rIV (vset W 1 i v) := ⟨tkOK_2 h.1 (vset_ne (by decide)), by rw [vset_ne (by decide)]; exact h.2.1, by rw [vset_ne (by decide)]; exact h.2.2.1, by rw [vset_ne (by decide)]; exact h.2.2.2⟩
theorem hdW_10 {σ : vW} {n : Nat} : (hdW σ n) 10 = σ 10 := by
  have e : (nhW σ (nI 8)) 10 = σ 10 := nhW_sc.1 10 (by decide) (by decide)
  unfold hdW
  split
  · exact e
  · split
    · split
      · rw [vset_ne (by decide), vset_ne (by decide)]
        exact e
      · rw [rfW_sc.1 10 (by decide) (by decide)]
        exact e
    · exact e
theorem rIV_lnP {t : vW} (h : rIV t) : rIV (lnP t) := by
  refine rIV_1 ?_
  obtain ⟨n, hn5, hn⟩ := h.2.1
  obtain ⟨m, hm9, hm⟩ := h.2.2.1
  unfold lnP1
  split
  · split
    · rw [mQ, hm, nI_clamp (by omega), wlW]
      split
      · exact rIV_sc h rfW_sc (tkOK_rf h.1)
      · rename_i h9
        have hw : rIV (wl4 t) := rIV_sc h wl4_sc (tkOK_ts (tkOK_nt (tkOK_wl3 (tkOK_nn (tkOK_nn h.1)))))
        split
        · have hm1 : m < 9 := by
            rcases Nat.lt_or_ge m 9 with q | q
            · exact q
            · exact absurd (nI_le q (by omega)) h9
          refine ⟨tkOK_2 hw.1 (by rw [addWallW, vset_ne (by decide), vset_ne (by decide), vset_ne (by decide)]), ?_, ⟨m + 1, hm1, addWallW_len _ _ _ _ _⟩, ?_⟩
          · rw [addWallW, vset_oth (by decide), vset_ne (by decide), vset_ne (by decide)]
            exact hw.2.1
          · rw [addWallW, vset_oth (by decide), vset_ne (by decide), vset_ne (by decide)]
            exact hw.2.2.2
        · exact hw
    · split
      · have hr : rIV (rm2 t) := rIV_sc h rm2_sc (tkOK_ts (tkOK_nt (tkOK_nn (tkOK_rm1 h.1))))
        unfold rmW1
        split
        · split
          · have h1 := rIV_1 (i := 5) (v := t 1 5 ||| nI 1 <<< (nnR t (nI 7) &&& 31)) hr
            exact ⟨tkOK_2 h1.1 (vset_ne (by decide)), by rw [vset_ne (by decide)]; exact h1.2.1, by rw [vset_ne (by decide)]; exact h1.2.2.1, by rw [vset_ne (by decide)]; exact h1.2.2.2⟩
          · exact hr
        · exact hr
      · split
        · refine plG_iv 7 _ ?_
          unfold pl0
          refine rIV_1 ?_
          split
          · exact h
          · exact rIV_sc h rfW_sc (tkOK_rf h.1)
        · exact rIV_sc h rfW_sc (tkOK_rf h.1)
  · rw [nQ, hn, nI_clamp (by omega), odW]
    split
    · exact rIV_sc h rfW_sc (tkOK_rf h.1)
    · rename_i h5
      have hn1 : n < 5 := by
        rcases Nat.lt_or_ge n 5 with q | q
        · exact q
        · exact absurd (nI_le q (by omega)) h5
      have ho : rIV (od1 t) := rIV_sc h (scR_trans ntW_sc (scR_trans nnW_sc nnW_sc)) (tkOK_nt (tkOK_nn (tkOK_nn h.1)))
      split
      · have e10 : ∀ j, (od2 t n (kdQ t)) 10 j = if j = 10 then nI (n + 1) else (od1 t) 10 j := fun j => by
          rw [od2, addOneW, vset_row, vrow_at, vset_ne (by decide), vset_ne (by decide), vset_ne (by decide), vset_ne (by decide)]
          rfl
        have h2 : rIV (od2 t n (kdQ t)) := by
          refine ⟨tkOK_2 ho.1 (by rw [od2, addOneW_ne (by decide) (by omega)]), ⟨n + 1, hn1, by rw [e10, if_pos rfl]⟩, ?_, ?_⟩
          · rw [e10, if_neg (by decide)]
            exact ho.2.2.1
          · rw [e10, if_neg (by decide)]
            exact ho.2.2.2
        have h3 : rIV (od3 (od2 t n (kdQ t)) n) := by
          unfold od3
          split
          · have h4 : rIV (hdW (od2 t n (kdQ t)) (n + 1)) := ⟨tkOK_2 h2.1 hdW_2, by rw [hdW_10]; exact h2.2.1, by rw [hdW_10]; exact h2.2.2.1, by rw [hdW_10]; exact h2.2.2.2⟩
            exact rIV_sc h4 ntW_sc (tkOK_nt h4.1)
          · exact h2
        exact rIV_sc h3 tsW_sc (tkOK_ts h3.1)
      · exact ho
/-- behind a token that was read -/
theorem tkH_nt {s : vW} (h : tkOK s) (hB : ntB s = true) : tkH (ntW s) := by
  obtain ⟨l, p, h1, h2, h3, h4⟩ := h
  have hq : (ntW s) 2 = (rkW s l p) 2 := by
    have e0 : s 1 3 = 0 := by
      apply Classical.byContradiction
      intro z
      unfold ntB at hB
      rw [ntW, if_neg z, if_neg z] at hB
      exact Bool.false_ne_true hB
    rw [ntW, if_pos e0, rkQ, h3, h4, nI_clamp (by omega), nI_clamp (by omega)]
    split
    · exact rfW_2
    · rfl
  have hb := rkB_le (σ := s) h2
  rw [tkH, hq, rkW]
  generalize rkB s l p = q at hb
  have ht := rkT_le (σ := s) hb.2
  have a1 : (rk0 s l q) 2 1 = nI l := by rw [rk0, vset_oth (by decide), vset_oth (by decide), vset_oth (by decide), vset_oth (by decide)]; exact h3
  have a3 : (rk0 s l q) 2 3 = nI q := by rw [rk0, vset_oth (by decide), vset_oth (by decide), vset_at]
  have a5 : (rk0 s l q) 2 5 = nI q := by rw [rk0, vset_oth (by decide), vset_oth (by decide), vset_oth (by decide), vset_at]
  have b1 : (rk1 s l q) 2 1 = nI l := by rw [rk1, vset_oth (by decide), vset_oth (by decide)]; exact a1
  have b3 : (rk1 s l q) 2 3 = nI q := by rw [rk1, vset_oth (by decide), vset_oth (by decide)]; exact a3
  have b5 : (rk1 s l q) 2 5 = nI (rkT s l q) := by rw [rk1, vset_at]
  unfold rkW1
  split
  · rename_i h3'
    have hql : q < l := by
      rcases Nat.lt_or_ge q l with z | z
      · exact z
      · rw [bC, if_neg (by omega)] at h3'
        exact absurd h3' (by decide)
    exact ⟨l, q, q + 1, h1, by omega, hql, by rw [vset_oth (by decide)]; exact a1, by rw [vset_oth (by decide)]; exact a3, vset_at⟩
  · split
    · exact ⟨l, q, rkT s l q, h1, ht.1, ht.2, b1, b3, b5⟩
    · split
      · split
        · exact ⟨l, q, rkT s l q, h1, ht.1, ht.2, b1, b3, b5⟩
        · exact ⟨l, q, rkT s l q, h1, ht.1, ht.2, by rw [vset_oth (by decide)]; exact b1, by rw [vset_oth (by decide)]; exact b3, by rw [vset_oth (by decide)]; exact b5⟩
      · exact ⟨l, q, q, h1, Nat.le_refl q, hb.2, a1, a3, a5⟩
set_option maxHeartbeats 4000000 in
theorem C_X0_readAll {σ : vW} {l : Nat} (hl : σ 2 1 = nI l) (hl6 : l ≤ 160) : Ctr mX0_readAll 7 [.ref 1] σ (vDet none (raW σ)) := by
  have hT := TB10
  refine Ctr.intro (by decide) (fun α => Nat.le_of_ble_eq_true rfl) (fun x G hQ => ?_)
  have G : vG x RX0 cX0_readAll 3 none 7 := G
  show V x 0 [some (.ref 1), none, none] [] σ
  generalize hZ : raW σ = Z at hQ
  have k161 : ∀ (W : vW) (i : Nat) (v : Option Value), rIV W → raE W = Z → V x 161 [some (.ref 1), some (.int (nI i)), v] [] W := by
    intro W i v hI hz
    obtain ⟨m, hm9, hm⟩ := hI.2.2.1
    obtain ⟨K, hK6, hK⟩ := hI.2.2.2
    have em : mQ W = m := by rw [mQ, hm, nI_clamp (by omega)]
    have eK : KQ W = K := by rw [KQ, hK, nI_clamp (by omega)]
    rw [raE, em, eK] at hz
    refine V.drop (L' := [some (.ref 1), some (.int (nI i)), none]) ?_ ?_
    · exact ⟨rfl, rfl, trivial⟩
    refine v_aload_3_0 G dX0_readAll_161 ?_
    refine v_getI G vc_0 lk_X0_35 (fs_X0_3) dX0_readAll_162 ?_
    refine v_if_ne (tgt := 195) G dX0_readAll_165 rfl (fun h_165 => ?_) (fun h_165 => ?_)
    · exact v_vret G hQ dX0_readAll_195 (vDet.of rfl (by rw [← hz]; simp only [h_165, if_true, if_false, Bool.false_eq_true, reduceIte]))
    · refine v_aload_3_0 G dX0_readAll_168 ?_
      refine v_getR G vc_0 lk_X0_21 (fs_X0_1) dX0_readAll_169 ?_
      refine v_cV0 G (C_X4_namesMissing hT hm hm9 hK hK6) (by decide) md_X4_namesMissing in_X4_namesMissing (rv_X4 (by first | assumption | exact imgP_TB | exact shP_SB) rfl) ml_X0_85 (Nat.le_of_ble_eq_true rfl) dX0_readAll_172 ?_
      refine v_ifB_eq (tgt := 195) G dX0_readAll_175 rfl (fun h_175 => ?_) (fun h_175 => ?_)
      · exact v_vret G hQ dX0_readAll_195 (vDet.of rfl (by rw [← hz]; simp only [h_165, h_175, if_true, if_false, Bool.false_eq_true, reduceIte]))
      · refine v_aload_3_0 G dX0_readAll_178 ?_
        refine v_bipush (v := nI 6) G dX0_readAll_179 (by decide) ?_
        refine v_putI G vc_0 vt_0 lk_X0_35 (fs_X0_3) (ft_X0_3 _) dX0_readAll_181 ?_
        refine v_aload_3_0 G dX0_readAll_184 ?_
        refine v_aload_3_0 G dX0_readAll_185 ?_
        refine v_getR G vc_0 lk_X0_12 (fs_X0_0) dX0_readAll_186 ?_
        refine v_getI G vc_3 lk_X0_88 (fs_X3_1) dX0_readAll_189 ?_
        rw [vset_ne (by decide)]
        refine v_putI G vc_0 vt_0 lk_X0_38 (fs_X0_4) (ft_X0_4 _) dX0_readAll_192 ?_
        exact v_vret G hQ dX0_readAll_195 (vDet.of rfl (by rw [← hz]; simp only [h_165, h_175, if_true, if_false, Bool.false_eq_true, reduceIte]))
  have k41 : ∀ j (W : vW) (i : Nat) (v : Option Value), i + j = 161 → rIV W → raE (raG j W) = Z → V x 41 [some (.ref 1), some (.int (nI i)), v] [] W := by
    intro j
    induction j with
    | zero =>
      intro W i v hi hI hz
      have k := k161 W i v hI hz
      refine V.drop (L' := [some (.ref 1), some (.int (nI i)), none]) ?_ ?_
      · exact ⟨rfl, rfl, trivial⟩
      have k := k161 W i none hI hz
      refine v_iload_3_1 G dX0_readAll_41 ?_
      refine v_sipush (v := nI 160) G dX0_readAll_42 (by decide) ?_
      refine v_icmp_gt (tgt := 161) G dX0_readAll_45 rfl (fun h_45 => ?_) (fun h_45 => absurd (nI_lt (by omega) (by omega)) h_45)
      exact k
    | succ j ihj =>
      intro W i v hi hI hz
      rw [raG] at hz
      have hN : rIV (ntW W) := rIV_sc hI ntW_sc (tkOK_nt hI.1)
      refine V.drop (L' := [some (.ref 1), some (.int (nI i)), none]) ?_ ?_
      · exact ⟨rfl, rfl, trivial⟩
      have k145 : ∀ v, rIV (lnP (ntW W)) → raE (raG j (lnP (ntW W))) = Z → V x 145 [some (.ref 1), some (.int (nI i)), v] [] (lnP1 (ntW W)) := by
        intro v hI2 hz2
        have k := ihj (lnP (ntW W)) (i + 1) none (by omega) hI2 hz2
        rw [lnP] at k
        refine V.drop (L' := [some (.ref 1), some (.int (nI i)), none]) ?_ ?_
        · exact ⟨rfl, rfl, trivial⟩
        refine v_aload_3_0 G dX0_readAll_145 ?_
        refine v_dup G dX0_readAll_146 rfl ?_
        refine v_getI G vc_0 lk_X0_31 (fs_X0_2) dX0_readAll_147 ?_
        refine v_iconst (v := nI 1) G dX0_readAll_150 (by decide) ?_
        refine v_iadd G dX0_readAll_151 ?_
        refine v_putI G vc_0 vt_0 lk_X0_31 (fs_X0_2) (ft_X0_2 _) dX0_readAll_152 ?_
        refine v_iincN_3_1 G dX0_readAll_155 rfl ?_
        refine v_goto (tgt := 41) G dX0_readAll_158 rfl ?_
        exact k
      have k66 : ntB W = true → raE (raG j (lnP (ntW W))) = Z → V x 66 [some (.ref 1), some (.int (nI i)), none] [] (ntW W) := by
        intro hB hz2
        have hH := tkH_nt hI.1 hB
        obtain ⟨n, hn5, hn⟩ := hN.2.1
        obtain ⟨m, hm9, hm⟩ := hN.2.2.1
        obtain ⟨K, hK6, hK⟩ := hN.2.2.2
        have en : nQ (ntW W) = n := by rw [nQ, hn, nI_clamp (by omega)]
        have em : mQ (ntW W) = m := by rw [mQ, hm, nI_clamp (by omega)]
        have k := fun v => k145 v (rIV_lnP hN) hz2
        rw [lnP1, en, em] at k
        have hNt := hN.1
        generalize ntW W = t at hn hm hK hH k hNt ⊢
        refine v_aload_3_0 G dX0_readAll_66 ?_
        refine v_cV0 G (C_X0_kindNamed hH) (by decide) md_X0_kindNamed in_X0_kindNamed (rv_X0 rfl) ml_X0_55 (Nat.le_of_ble_eq_true rfl) dX0_readAll_67 ?_
        refine v_istore_3_2 G dX0_readAll_70 rfl ?_
        refine v_iload_3_2 G dX0_readAll_71 ?_
        refine v_if_lt (tgt := 83) G dX0_readAll_72 rfl (fun h_72 => ?_) (fun h_72 => ?_)
        · refine v_aload_3_0 G dX0_readAll_83 ?_
          refine v_getR G vc_0 lk_X0_12 (fs_X0_0) dX0_readAll_84 ?_
          refine v_ldcS (i := 4) G (by decide) dX0_readAll_87 ?_
          refine v_cV1 G (C_isQ hH (i := 4) (by decide)) (by decide) md_X3_isName in_X3_isName (rv_X3 rfl) ml_X0_65 (Nat.le_of_ble_eq_true rfl) dX0_readAll_89 ?_
          refine v_ifB_eq (tgt := 102) G dX0_readAll_92 rfl (fun h_92 => ?_) (fun h_92 => ?_)
          · refine v_aload_3_0 G dX0_readAll_102 ?_
            refine v_getR G vc_0 lk_X0_12 (fs_X0_0) dX0_readAll_103 ?_
            refine v_ldcS (i := 5) G (by decide) dX0_readAll_106 ?_
            refine v_cV1 G (C_isQ hH (i := 5) (by decide)) (by decide) md_X3_isName in_X3_isName (rv_X3 rfl) ml_X0_65 (Nat.le_of_ble_eq_true rfl) dX0_readAll_108 ?_
            refine v_ifB_eq (tgt := 121) G dX0_readAll_111 rfl (fun h_111 => ?_) (fun h_111 => ?_)
            · refine v_aload_3_0 G dX0_readAll_121 ?_
              refine v_getR G vc_0 lk_X0_12 (fs_X0_0) dX0_readAll_122 ?_
              refine v_ldcS (i := 6) G (by decide) dX0_readAll_125 ?_
              refine v_cV1 G (C_isQ hH (i := 6) (by decide)) (by decide) md_X3_isName in_X3_isName (rv_X3 rfl) ml_X0_65 (Nat.le_of_ble_eq_true rfl) dX0_readAll_127 ?_
              refine v_ifB_eq (tgt := 140) G dX0_readAll_130 rfl (fun h_130 => ?_) (fun h_130 => ?_)
              · refine v_aload_3_0 G dX0_readAll_140 ?_
                refine v_iconst (v := nI 2) G dX0_readAll_141 (by decide) ?_
                refine v_cV1v G (C_X0_refuse) (by decide) md_X0_refuse in_X0_refuse (rv_X0 rfl) ml_X0_82 (Nat.le_of_ble_eq_true rfl) dX0_readAll_142 ?_
                simp only [h_72, h_92, h_111, h_130, if_true, if_false, Bool.false_eq_true, reduceIte] at k
                exact k _
              · refine v_aload_3_0 G dX0_readAll_133 ?_
                refine v_cV0v G (C_X0_readPlan hNt hK hK6) (by decide) md_X0_readPlan in_X0_readPlan (rv_X0 rfl) ml_X0_79 (Nat.le_of_ble_eq_true rfl) dX0_readAll_134 ?_
                refine v_goto (tgt := 145) G dX0_readAll_137 rfl ?_
                simp only [h_72, h_92, h_111, h_130, if_true, if_false, Bool.false_eq_true, reduceIte] at k
                exact k _
            · refine v_aload_3_0 G dX0_readAll_114 ?_
              refine v_cV0v G (C_X0_readRoom hNt) (by decide) md_X0_readRoom in_X0_readRoom (rv_X0 rfl) ml_X0_74 (Nat.le_of_ble_eq_true rfl) dX0_readAll_115 ?_
              refine v_goto (tgt := 145) G dX0_readAll_118 rfl ?_
              simp only [h_72, h_92, h_111, if_true, if_false, Bool.false_eq_true, reduceIte] at k
              exact k _
          · refine v_aload_3_0 G dX0_readAll_95 ?_
            refine v_cV0v G (C_X0_readWall hNt hm hm9) (by decide) md_X0_readWall in_X0_readWall (rv_X0 rfl) ml_X0_69 (Nat.le_of_ble_eq_true rfl) dX0_readAll_96 ?_
            refine v_goto (tgt := 145) G dX0_readAll_99 rfl ?_
            simp only [h_72, h_92, if_true, if_false, Bool.false_eq_true, reduceIte] at k
            exact k _
        · refine v_aload_3_0 G dX0_readAll_75 ?_
          refine v_iload_3_2 G dX0_readAll_76 ?_
          refine v_cV1v G (C_X0_readOne hNt hn hn5) (by decide) md_X0_readOne in_X0_readOne (rv_X0 rfl) ml_X0_59 (Nat.le_of_ble_eq_true rfl) dX0_readAll_77 ?_
          refine v_goto (tgt := 145) G dX0_readAll_80 rfl ?_
          simp only [h_72, if_true, if_false, Bool.false_eq_true, reduceIte] at k
          exact k _
      have hIf : rIV W := hI
      refine v_iload_3_1 G dX0_readAll_41 ?_
      refine v_sipush (v := nI 160) G dX0_readAll_42 (by decide) ?_
      refine v_icmp_gt (tgt := 161) G dX0_readAll_45 rfl (fun h_45 => absurd h_45 (nI_nlt (by omega) (by omega))) (fun h_45 => ?_)
      refine v_aload_3_0 G dX0_readAll_48 ?_
      refine v_cV0 G (C_X0_nextToken hI.1) (by decide) md_X0_nextToken in_X0_nextToken (rv_X0 rfl) ml_X0_48 (Nat.le_of_ble_eq_true rfl) dX0_readAll_49 ?_
      refine v_ifB_eq (tgt := 161) G dX0_readAll_52 rfl (fun h_52 => ?_) (fun h_52 => ?_)
      · first
          | (rw [if_pos h_52, if_pos h_63] at hz; exact k161 _ i none hN hz)
          | (simp only [h_52, Bool.false_eq_true, if_false] at hz; exact k161 _ i none hN hz)
      · refine v_aload_3_0 G dX0_readAll_55 ?_
        refine v_getR G vc_0 lk_X0_12 (fs_X0_0) dX0_readAll_56 ?_
        refine v_getI G vc_3 lk_X0_52 (fs_X3_2) dX0_readAll_59 ?_
        refine v_iconst (v := nI 4) G dX0_readAll_62 (by decide) ?_
        refine v_icmp_eq (tgt := 161) G dX0_readAll_63 rfl (fun h_63 => ?_) (fun h_63 => ?_)
        · first
            | (rw [if_pos h_52, if_pos h_63] at hz; exact k161 _ i none hN hz)
            | (simp only [h_52, Bool.false_eq_true, if_false] at hz; exact k161 _ i none hN hz)
        · rw [if_pos h_52, if_neg h_63] at hz
          exact k66 h_52 hz
  have hc : ∀ j, (clrW (vset σ 2 5 (nI 0)) 10) 10 j = if j = 10 then nI 0 else if j = 11 then nI 0 else if j = 12 then nI 0 else σ 10 j := fun j => by
    rw [clrW, vrow_ne (by decide), vrow_ne (by decide)]
    simp only [vset]
    by_cases e0 : j = 12
    · subst e0; simp
    · by_cases e1 : j = 11
      · subst e1; simp
      · by_cases e2 : j = 10
        · subst e2; simp
        · simp [e0, e1, e2]
  have hc2 : (clrW (vset σ 2 5 (nI 0)) 10) 2 = (vset σ 2 5 (nI 0)) 2 := by rw [clrW, vrow_ne (by decide), vrow_ne (by decide), vset_ne (by decide), vset_ne (by decide), vset_ne (by decide)]
  have h0 : rIV (ra0 σ) := by
    unfold ra0
    refine rIV_1 (rIV_1 (rIV_1 (rIV_1 (rIV_1 ⟨⟨l, 0, hl6, Nat.zero_le l, ?_, ?_⟩, ⟨0, by omega, ?_⟩, ⟨0, by omega, ?_⟩, ⟨0, by omega, ?_⟩⟩))))
    · rw [hc2, vset_oth (by decide)]
      exact hl
    · rw [hc2, vset_at]
    · rw [hc, if_pos rfl]
    · rw [hc, if_neg (by decide), if_pos rfl]
    · rw [hc, if_neg (by decide), if_neg (by decide), if_pos rfl]
  refine v_aload_3_0 G dX0_readAll_0 ?_
  refine v_getR G vc_0 lk_X0_12 (fs_X0_0) dX0_readAll_1 ?_
  refine v_cV0v G (C_X3_rewind) (by decide) md_X3_rewind in_X3_rewind (rv_X3 rfl) ml_X0_25 (Nat.le_of_ble_eq_true rfl) dX0_readAll_4 ?_
  refine v_aload_3_0 G dX0_readAll_7 ?_
  refine v_getR G vc_0 lk_X0_21 (fs_X0_1) dX0_readAll_8 ?_
  refine v_cV0v G (C_X4_clear (by first | assumption | omega | exact oneB_in (by assumption) | exact wallB_in (by assumption) | exact oneB_m1 (by assumption) | decide)) (by decide) md_X4_clear in_X4_clear (rv_X4 (by first | assumption | exact imgP_TB | exact shP_SB) rfl) ml_X0_28 (Nat.le_of_ble_eq_true rfl) dX0_readAll_11 ?_
  refine v_aload_3_0 G dX0_readAll_14 ?_
  refine v_iconst (v := nI 0) G dX0_readAll_15 (by decide) ?_
  refine v_putI G vc_0 vt_0 lk_X0_31 (fs_X0_2) (ft_X0_2 _) dX0_readAll_16 ?_
  refine v_aload_3_0 G dX0_readAll_19 ?_
  refine v_iconst (v := nI 0) G dX0_readAll_20 (by decide) ?_
  refine v_putI G vc_0 vt_0 lk_X0_35 (fs_X0_3) (ft_X0_3 _) dX0_readAll_21 ?_
  refine v_aload_3_0 G dX0_readAll_24 ?_
  refine v_iconst (v := nI 0) G dX0_readAll_25 (by decide) ?_
  refine v_putI G vc_0 vt_0 lk_X0_38 (fs_X0_4) (ft_X0_4 _) dX0_readAll_26 ?_
  refine v_aload_3_0 G dX0_readAll_29 ?_
  refine v_iconst (v := nI 0) G dX0_readAll_30 (by decide) ?_
  refine v_putI G vc_0 vt_0 lk_X0_41 (fs_X0_5) (ft_X0_5 _) dX0_readAll_31 ?_
  refine v_aload_3_0 G dX0_readAll_34 ?_
  refine v_iconst (v := nI 0) G dX0_readAll_35 (by decide) ?_
  refine v_putI G vc_0 vt_0 lk_X0_44 (fs_X0_6) (ft_X0_6 (by first | exact Or.inl rfl | exact Or.inr rfl | exact bI_01 _)) dX0_readAll_36 ?_
  refine v_iconst (v := nI 0) G dX0_readAll_39 (by decide) ?_
  refine v_istore_3_1 G dX0_readAll_40 rfl ?_
  exact k41 161 (ra0 σ) 0 none (by omega) h0 hZ
def ptT (S : vW) : vW := vset (vset S 2 1 (nI 0)) 0 8 (S 1 3)
def ptK (S : vW) : Nat → vW
  | 0 => vset (becW (ptT S) 21 10) 4 3 (nI 0)
  | k + 1 => vset (ptK S k) 9 k (nI 0)
def ptR (S : vW) : Int32 := if S 1 3 = 0 then S 1 2 else -10 - S 1 4
def ptW (S : vW) : vW := if S 1 3 = 0 then ptK S 2 else ptT S
set_option maxHeartbeats 4000000 in
theorem C_X5_text {σ : vW} {l : Nat} (hl : σ 2 1 = nI l) (hl6 : l ≤ 160) : Ctr mX5_text 8 [.ref 0] σ (vDet (some (.int (ptR (raW σ)))) (ptW (raW σ))) := by
  have hT := TB21
  have hR := TB10
  refine Ctr.intro (by decide) (fun α => Nat.le_of_ble_eq_true rfl) (fun x G hQ => ?_)
  have G : vG x RX5 cX5_text 2 (some .int) 8 := G
  show V x 0 [some (.ref 0), none] [] σ
  have e1 : (ptT (raW σ)) 0 8 = (raW σ) 1 3 := by rw [ptT, vset_at]
  have e2 : (ptT (raW σ)) 1 = (raW σ) 1 := by rw [ptT, vset_ne (by decide), vset_ne (by decide)]
  have e3 : ∀ k, (ptK (raW σ) k) 1 = (raW σ) 1 := by
    intro k
    induction k with
    | zero => rw [ptK, vset_ne (by decide), becW_ne (by decide), e2]
    | succ k ih => rw [ptK, vset_ne (by decide), ih]
  have e4 : (vset (raW σ) 2 1 (nI 0)) 1 3 = (raW σ) 1 3 := by rw [vset_ne (by decide)]
  refine v_aload_2_0 G dX5_text_0 ?_
  refine v_getR G vc_5 lk_X5_10 (fs_X5_0) dX5_text_1 ?_
  refine v_cV0v G (C_X0_readAll hl hl6) (by decide) md_X0_readAll in_X0_readAll (rv_X0 rfl) ml_X5_70 (Nat.le_of_ble_eq_true rfl) dX5_text_4 ?_
  refine v_aload_2_0 G dX5_text_7 ?_
  refine v_getR G vc_5 lk_X5_10 (fs_X5_0) dX5_text_8 ?_
  refine v_getR G vc_0 lk_X5_56 (fs_X0_0) dX5_text_11 ?_
  refine v_iconst (v := nI 0) G dX5_text_14 (by decide) ?_
  refine v_putI G vc_3 vt_3 lk_X5_66 (fs_X3_1) (ft_X3_1 _) dX5_text_15 ?_
  refine v_aload_2_0 G dX5_text_18 ?_
  refine v_aload_2_0 G dX5_text_19 ?_
  refine v_getR G vc_5 lk_X5_10 (fs_X5_0) dX5_text_20 ?_
  refine v_getI G vc_0 lk_X5_73 (fs_X0_3) dX5_text_23 ?_
  rw [e4]
  refine v_putI G vc_5 vt_5 lk_X5_76 (fs_X5_8) (ft_X5_8 _) dX5_text_26 ?_
  show V x 29 _ [] (ptT (raW σ))
  refine v_aload_2_0 G dX5_text_29 ?_
  refine v_getI G vc_5 lk_X5_76 (fs_X5_8) dX5_text_30 ?_
  rw [e1]
  refine v_if_eq (tgt := 47) G dX5_text_33 rfl (fun h_33 => ?_) (fun h_33 => ?_)
  · refine v_aload_2_0 G dX5_text_47 ?_
    refine v_getR G vc_5 lk_X5_19 (fs_X5_1) dX5_text_48 ?_
    refine v_aload_2_0 G dX5_text_51 ?_
    refine v_getR G vc_5 lk_X5_10 (fs_X5_0) dX5_text_52 ?_
    refine v_getR G vc_0 lk_X5_82 (fs_X0_1) dX5_text_55 ?_
    refine v_cV1v G (C_X4_become hT hR (by decide)) (by decide) md_X4_become in_X4_become (rv_X4 (by first | assumption | exact imgP_TB | exact shP_SB) rfl) ml_X5_85 (Nat.le_of_ble_eq_true rfl) dX5_text_58 ?_
    refine v_aload_2_0 G dX5_text_61 ?_
    refine v_getR G vc_5 lk_X5_29 (fs_X5_3) dX5_text_62 ?_
    refine v_iconst (v := nI 0) G dX5_text_65 (by decide) ?_
    refine v_putI G vc_2 vt_2 lk_X5_89 (fs_X2_3) (ft_X2_3 _) dX5_text_66 ?_
    refine v_iconst (v := nI 0) G dX5_text_69 (by decide) ?_
    refine v_istore_2_1 G dX5_text_70 rfl ?_
    show V x 71 [some (.ref 0), some (.int (nI 0))] [] (ptK (raW σ) 0)
    refine v_for (pc := 71) (2) (fun k => ([some (.ref 0), some (.int (nI k))], (ptK (raW σ) k))) (fun k hk ih => ?_) ?_
    · show V x 71 [some (.ref 0), some (.int (nI k))] [] (ptK (raW σ) k)
      have ih : V x 71 [some (.ref 0), some (.int (nI (k + 1)))] [] (ptK (raW σ) (k + 1)) := ih
      refine v_iload_2_1 G dX5_text_71 ?_
      refine v_iconst (v := nI 2) G dX5_text_72 (by decide) ?_
      refine v_icmp_ge (tgt := 89) G dX5_text_73 rfl (fun h_73 => absurd h_73 (by exact nI_ge hk (by omega))) (fun h_73 => ?_)
      refine v_aload_2_0 G dX5_text_76 ?_
      refine v_getR G vc_5 lk_X5_37 (fs_X5_5) dX5_text_77 ?_
      refine v_iload_2_1 G dX5_text_80 ?_
      refine v_iconst (v := nI 0) G dX5_text_81 (by decide) ?_
      refine v_zastN G (as_X5_5) (by first | assumption | omega | exact oneB_in (by assumption) | exact wallB_in (by assumption) | exact oneB_m1 (by assumption) | decide) (by first | decide | omega) (by first | exact Or.inl rfl | exact Or.inr rfl | exact bI_01 _ | assumption) dX5_text_82 ?_
      refine v_iincN_2_1 G dX5_text_83 rfl ?_
      refine v_goto (tgt := 71) G dX5_text_86 rfl ?_
      exact ih
    · show V x 71 [some (.ref 0), some (.int (nI 2))] [] (ptK (raW σ) 2)
      refine v_iload_2_1 G dX5_text_71 ?_
      refine v_iconst (v := nI 2) G dX5_text_72 (by decide) ?_
      refine v_icmp_ge (tgt := 89) G dX5_text_73 rfl (fun h_73 => ?_) (fun h_73 => absurd (by exact nI_le (Nat.le_refl _) (by omega)) h_73)
      refine v_aload_2_0 G dX5_text_89 ?_
      refine v_getR G vc_5 lk_X5_10 (fs_X5_0) dX5_text_90 ?_
      refine v_getI G vc_0 lk_X5_92 (fs_X0_2) dX5_text_93 ?_
      rw [e3]
      exact v_iret G hQ dX5_text_96 (vDet.of (by rw [ptR, if_pos h_33]) (by rw [ptW, if_pos h_33]))
  · refine v_bipush (v := (-10)) G dX5_text_36 (by decide) ?_
    refine v_aload_2_0 G dX5_text_38 ?_
    refine v_getR G vc_5 lk_X5_10 (fs_X5_0) dX5_text_39 ?_
    refine v_getI G vc_0 lk_X5_79 (fs_X0_4) dX5_text_42 ?_
    rw [e2]
    refine v_isub G dX5_text_45 ?_
    exact v_iret G hQ dX5_text_46 (vDet.of (by rw [ptR, if_neg h_33]) (by rw [ptW, if_neg h_33]))
