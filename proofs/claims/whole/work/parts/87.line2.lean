/-! The pure part: a line that tells of one of the people -/
section L2
theorem nI_leI' {a b : Nat} (ha : a < 1000) (hb : b < 1000) : nI a ≤ nI b ↔ a ≤ b := ⟨nIle ha hb, fun h => nI_le h (by omega)⟩
variable {P M : vW} {l n m K : Nat}
theorem pk_addOne {s : vW} {k : Nat} {a b c : Int32} : pkS (addOneW s 10 k a b c) s := by
  unfold addOneW
  exact (pk_row (by omega)).tr ((pk_row (by omega)).tr ((pk_row (by omega)).tr ((pk_row (by omega)).tr (pk_row (by omega)))))
theorem pk_hd {s : vW} {k : Nat} : pkS (hdW s k) (nhW s (nI 8)) := by
  unfold hdW
  split
  · exact pkS_refl _
  · split
    · split
      · exact (pk_row (by omega)).tr (pk_row (by omega))
      · exact pk_rf
    · exact pkS_refl _
theorem pk_od3 {s : vW} {k : Nat} : pkS (od3 s k) s := by
  unfold od3
  split
  · exact pk_nt.tr (pk_hd.tr pk_nh)
  · exact pkS_refl s
theorem od1_eq : od1 P = ntW (nhW (ntW (nhW (ntW P) (nI 3))) (nI 7)) := by rw [od1, nnW_eq, nnW_eq]
theorem pk_od {k : Nat} {kd : Int32} (h : ¬ nI 5 ≤ nI k) : pkS (odW P k kd) (od1 P) := by
  rw [odW, if_neg h]
  split
  · refine pk_ts.tr (pk_od3.tr ?_)
    rw [od2]
    exact pk_addOne
  · exact pkS_refl _
theorem mk_ro4 {σ : vW} {k : Nat} : mkS (ro4 σ k) σ := by
  unfold ro4
  split
  · split
    · exact mk_77.tr ((mk_75 (by omega)).tr mk_whW)
    · exact mkS_refl σ
  · exact mkS_refl σ
theorem line_one (h : OKT P M l) (hX : TX P M n m K) {kd : Nat} (hkd : kd < 4) : FF (odW P n (nI kd)) (lnZ M (nI kd) n m K) l ∨ ∃ Y n', lnZ M (nI kd) n m K = stp Y ∧ OK0 (odW P n (nI kd)) Y l ∧ TX (odW P n (nI kd)) Y n' m K ∧ (odW P n (nI kd)) 1 2 = P 1 2 := by
  have n5 := hX.1.1.2.1
  have m9 := hX.1.2.1.2.1
  have hz : inZ (nI kd) 7 = true := by rw [inZ_nI (by omega), decide_eq_true (by omega)]
  have k3 : ¬ nI 3 < nI kd := nI_nlt (by omega) (by omega)
  by_cases hn : n < 5
  · -- room for one more
    have nn5 : ¬ nI 5 ≤ nI n := nI_ge hn (by omega)
    have hA : lnA M (nI kd) n m = M := lnA_id hX (fun z => by have := nI_eqN (by omega) (by omega) z; omega) (ln1_id ⟨fun z => absurd z k3, fun _ => hn⟩ n5 m9)
    have hB : lnB M (nI kd) n m = stp M := by rw [lnB, hA]
    have eP := od1_eq (P := P)
    -- the first step
    rcases L_nt h.pre with hF | h1
    · have hR : lnZ M (nI kd) n m K = stp M := by rw [lnZ, if_pos hz, hB, if_neg hF.nle]
      rw [hR]
      refine Or.inl (hF.keep ((pk_od nn5).tr ?_) (mkS_refl _))
      rw [eP]
      exact pk_nt.tr (pk_nh.tr (pk_nt.tr pk_nh))
    · have hR : lnZ M (nI kd) n m K = stp (ln5 (roW (stp M) n (nI kd))) := by
        rw [lnZ, if_pos hz, hB, if_pos (le0 h1.2.2.1), lnC, hB, rmoW, if_neg k3]
      rw [hR]
      have hX1 := hX.sc (ntW_sc (σ := P)) (stp_sc (σ := M))
      have el : (ntW P) 1 2 = P 1 2 := ntW_sc.2.1 2 (by decide) (by decide)
      generalize stp M = C0 at h1 hX1 ⊢
      -- the model's stages
      have hC1 : OKT (ntW P) (vset C0 77 n (nI kd)) l := h1.mv rfl rfl rfl (fun i _ _ => by rw [vset_ne (by decide)]) (vset_ne (by decide))
      have tail3 : mkS (stp (ln5 (roW C0 n (nI kd)))) (otW (ro2 (vset C0 77 n (nI kd)) n) (nI 0) (nI 7) (nI 0)) := mk_stp.tr (mk_ln5.tr ((mk_75 (by omega)).tr (mk_ro4.tr mk_77)))
      have tail2 : mkS (stp (ln5 (roW C0 n (nI kd)))) (otW (vset C0 77 n (nI kd)) (nI 0) (nI 3) (nI 0)) := tail3.tr (mk_otW.tr mk_77)
      -- the house
      rcases num_nt hC1 (mx := 3) (by omega) with hF | ⟨v1, hv1, f1, f2, f3, f4, _, _, _, h2⟩
      · refine Or.inl (hF.keep ((pk_od nn5).tr ?_) tail2)
        rw [eP]
        exact pk_nt.tr pk_nh
      · have e2 : ro2 (vset C0 77 n (nI kd)) n = vset (stp (vset C0 77 n (nI kd))) 77 (5 + n) (nI v1) := by rw [ro2, f3, f4]
        have ePa : od1 P = ntW (nhW (ntW (ntW P)) (nI 7)) := by rw [eP, f1]
        rw [f4] at tail2
        rcases h2 with hF | h2
        · refine Or.inl (hF.keep ((pk_od nn5).tr ?_) tail2)
          rw [ePa]
          exact pk_nt.tr pk_nh
        · have hX2 : TX (ntW (ntW P)) C0 n m K := hX1.mv (fun r _ _ => ntW_sc.1 r (by omega) (by omega)) (ntW_sc.2.1 5 (by decide) (by decide)) (ntW_sc.2.1 6 (by decide) (by decide)) rfl (fun _ _ _ => rfl)
          have hC2 : OKT (ntW (ntW P)) (ro2 (vset C0 77 n (nI kd)) n) l := by
            rw [e2]
            exact h2.mv rfl rfl rfl (fun i _ _ => by rw [vset_ne (by decide)]) (vset_ne (by decide))
          have el2 : (ntW (ntW P)) 1 2 = P 1 2 := (ntW_sc.2.1 2 (by decide) (by decide)).trans el
          have eN1 : nnR P (nI 3) = nI v1 := by rw [nnR_eq]; exact f2
          have eN2 : nnR (nnW P (nI 3)) (nI 7) = nhR (ntW (ntW P)) (nI 7) := by rw [nnR_eq, nnW_eq, f1]
          -- the home
          rcases num_nt hC2 (mx := 7) (by omega) with hF | ⟨v2, hv2, g1, g2, g3, g4, _, _, _, h3⟩
          · refine Or.inl (hF.keep ((pk_od nn5).tr ?_) tail3)
            rw [ePa]
            exact pkS_refl _
          · have e3 : ro3 (ro2 (vset C0 77 n (nI kd)) n) n = vset (stp (ro2 (vset C0 77 n (nI kd)) n)) 77 (10 + n) (nI v2) := by rw [ro3, g3, g4]
            have ePb : od1 P = ntW (ntW (ntW P)) := by rw [ePa, g1]
            rw [g4] at tail3
            rcases h3 with hF | h3
            · refine Or.inl (hF.keep ((pk_od nn5).tr ?_) tail3)
              rw [ePb]
              exact pkS_refl _
            · have hX3 : TX (ntW (ntW (ntW P))) C0 n m K := hX2.mv (fun r _ _ => ntW_sc.1 r (by omega) (by omega)) (ntW_sc.2.1 5 (by decide) (by decide)) (ntW_sc.2.1 6 (by decide) (by decide)) rfl (fun _ _ _ => rfl)
              have el3 : (ntW (ntW (ntW P))) 1 2 = P 1 2 := (ntW_sc.2.1 2 (by decide) (by decide)).trans el2
              have hBt : ntB (nnW (nnW P (nI 3)) (nI 7)) = true := by
                have e : ntW (nnW (nnW P (nI 3)) (nI 7)) = ntW (ntW (ntW P)) := by rw [nnW_eq, nnW_eq, f1, g1]
                rw [ntB, e, if_pos h3.2.1]
              have eO : odW P n (nI kd) = tsW (od3 (addOneW (ntW (ntW (ntW P))) 10 n (nI kd) (nI v1) (nI v2)) n) := by
                rw [odW, if_neg nn5, if_pos hBt, od2, ePb, eN1, eN2, g2]
              have eRo : roW C0 n (nI kd) = vset (ro4 (ro3 (ro2 (vset C0 77 n (nI kd)) n) n) n) 75 3 (nI (n + 1)) := rfl
              rw [eO, eRo]
              -- the states behind the home: Q the program's, S the model's
              have hS77 : ∀ i, (ro3 (ro2 (vset C0 77 n (nI kd)) n) n) 77 i = if i = 10 + n then nI v2 else if i = 5 + n then nI v1 else if i = n then nI kd else C0 77 i := fun i => by
                rw [e3, vset_row, vrow_at, stp_sc.1 77 (by decide), e2, vset_row, vrow_at, stp_sc.1 77 (by decide), vset_row, vrow_at]
                rfl
              have hS75 : ∀ i, 3 ≤ i → i ≤ 8 → (ro3 (ro2 (vset C0 77 n (nI kd)) n) n) 75 i = C0 75 i := fun i _ _ => by
                rw [e3, vset_ne (by decide), stp_sc.2 i (by omega), e2, vset_ne (by decide), stp_sc.2 i (by omega), vset_ne (by decide)]
              have hSO : OKT (addOneW (ntW (ntW (ntW P))) 10 n (nI kd) (nI v1) (nI v2)) (ro3 (ro2 (vset C0 77 n (nI kd)) n) n) l := by
                rw [e3]
                exact h3.mv (by rw [addOneW_ne (by decide) (by omega)]) (addOneW_ne (by decide) (by omega)) (addOneW_ne (by decide) (by omega)) (fun i _ _ => by rw [vset_ne (by decide)]) (vset_ne (by decide))
              generalize ro3 (ro2 (vset C0 77 n (nI kd)) n) n = S at hS77 hS75 hSO ⊢
              have hQr : ∀ r, r ≠ 10 → ¬ (11 ≤ r ∧ r ≤ 14) → (addOneW (ntW (ntW (ntW P))) 10 n (nI kd) (nI v1) (nI v2)) r = (ntW (ntW (ntW P))) r := fun r q1 q2 => addOneW_ne q1 q2
              have hQ10 : ∀ i, (addOneW (ntW (ntW (ntW P))) 10 n (nI kd) (nI v1) (nI v2)) 10 i = if i = 10 then nI (n + 1) else (ntW (ntW (ntW P))) 10 i := fun i => by
                rw [addOneW, vset_row, vrow_at, vset_ne (by decide), vset_ne (by decide), vset_ne (by decide), vset_ne (by decide)]
                rfl
              have hQ11 : ∀ i, (addOneW (ntW (ntW (ntW P))) 10 n (nI kd) (nI v1) (nI v2)) 11 i = if i = n then nI kd else (ntW (ntW (ntW P))) 11 i := fun i => by
                rw [addOneW, vset_ne (by decide), vset_ne (by decide), vset_ne (by decide), vset_ne (by decide), vset_row, vrow_at]
                rfl
              have hQ12 : ∀ i, (addOneW (ntW (ntW (ntW P))) 10 n (nI kd) (nI v1) (nI v2)) 12 i = if i = n then nI v1 else (ntW (ntW (ntW P))) 12 i := fun i => by
                rw [addOneW, vset_ne (by decide), vset_ne (by decide), vset_ne (by decide), vset_row, vrow_at, vset_ne (by decide)]
                rfl
              have hQ13 : ∀ i, (addOneW (ntW (ntW (ntW P))) 10 n (nI kd) (nI v1) (nI v2)) 13 i = if i = n then nI v2 else (ntW (ntW (ntW P))) 13 i := fun i => by
                rw [addOneW, vset_ne (by decide), vset_ne (by decide), vset_row, vrow_at, vset_ne (by decide), vset_ne (by decide)]
                rfl
              have hQ14 : ∀ i, (addOneW (ntW (ntW (ntW P))) 10 n (nI kd) (nI v1) (nI v2)) 14 i = if i = n then -1 else (ntW (ntW (ntW P))) 14 i := fun i => by
                rw [addOneW, vset_ne (by decide), vset_row, vrow_at, vset_ne (by decide), vset_ne (by decide), vset_ne (by decide)]
                rfl
              generalize addOneW (ntW (ntW (ntW P))) 10 n (nI kd) (nI v1) (nI v2) = Q at hSO hQr hQ10 hQ11 hQ12 hQ13 hQ14 ⊢
              have hQl : Q 1 2 = P 1 2 := by rw [hQr 1 (by decide) (by omega)]; exact el3
              -- the content, once the door is told or not
              obtain ⟨⟨x1, x2, x3⟩, ⟨y1, y2⟩, ⟨d1, d2, d3, d4⟩, w1, ⟨r1, r2⟩, ⟨a1, a2, a3⟩, u1, u2⟩ := hX3
              have hTX0 : TX Q (vset S 75 3 (nI (n + 1))) (n + 1) m K := by
                have g75 : ∀ i, 3 ≤ i → i ≤ 8 → (vset S 75 3 (nI (n + 1))) 75 i = if i = 3 then nI (n + 1) else C0 75 i := fun i q1 q2 => by
                  rw [vset_row, vrow_at]
                  show (if i = 3 then nI (n + 1) else S 75 i) = _
                  rw [hS75 i q1 q2]
                have g77 : (vset S 75 3 (nI (n + 1))) 77 = S 77 := vset_ne (by decide)
                have o : ∀ i, 15 ≤ i → S 77 i = C0 77 i := fun i hi => by rw [hS77, if_neg (by omega), if_neg (by omega), if_neg (by omega)]
                refine ⟨⟨⟨by rw [hQ10, if_pos rfl], hn, by rw [g75 3 (by omega) (by omega), if_pos rfl]⟩, ⟨by rw [hQ10, if_neg (by omega)]; exact x2.1, x2.2.1, by rw [g77, o 25 (by omega)]; exact x2.2.2⟩, by rw [hQ10, if_neg (by omega)]; exact x3.1, x3.2.1, by rw [g77, o 52 (by omega)]; exact x3.2.2⟩, ⟨fun p hp => ?_, fun p hp => ?_⟩, ⟨fun p hp => ?_, fun p q1 q2 => ?_, fun w hw => ?_, fun w hw => ?_⟩, fun w hw => ?_, ⟨fun r hr => ?_, ?_⟩, ⟨fun i hi => ?_, ?_, ?_⟩, fun c hc => ?_, fun c hc => ?_⟩
                · rw [g77, hQ11, hQ12, hQ13, hS77, hS77, hS77]
                  by_cases e : p = n
                  · subst e
                    rw [if_pos rfl, if_pos rfl, if_pos rfl, if_neg (by omega), if_neg (by omega), if_pos rfl, if_neg (by omega), if_pos rfl, if_pos rfl]
                    exact ⟨rfl, rfl, rfl⟩
                  · rw [if_neg e, if_neg e, if_neg e, if_neg (by omega), if_neg (by omega), if_neg (by omega), if_neg (by omega), if_neg (by omega), if_neg (by omega), if_neg (by omega), if_neg (by omega), if_neg (by omega)]
                    exact y1 p (by omega)
                · rw [g77, o _ (by omega), hS77]
                  refine ⟨(y2 p hp).1, ?_⟩
                  by_cases e : p = n
                  · rw [if_pos (by omega)]
                    exact ⟨v2, by omega, rfl⟩
                  · rw [if_neg (by omega), if_neg (by omega), if_neg (by omega)]
                    exact (y2 p hp).2
                · rw [g77, hQ14, o _ (by omega), hQr 17 (by decide) (by omega)]
                  by_cases e : p = n
                  · rw [if_pos e]
                    exact Or.inl ⟨rfl, d2 p (by omega) (by omega)⟩
                  · rw [if_neg e]
                    exact d1 p (by omega)
                · rw [g77, o _ (by omega)]
                  exact d2 p (by omega) q2
                · rw [hQr 17 (by decide) (by omega)]
                  rcases d3 w hw with q | ⟨p, hp, q1, q2⟩
                  · exact Or.inl q
                  · exact Or.inr ⟨p, by omega, q1, by rw [hQ14, if_neg (by omega)]; exact q2⟩
                · rw [g75 4 (by omega) (by omega), if_neg (by omega), hQr 17 (by decide) (by omega)]
                  exact d4 w hw
                · rw [g77, o _ (by omega), o _ (by omega), hQr 15 (by decide) (by omega), hQr 16 (by decide) (by omega)]
                  exact w1 w hw
                · rw [g77, o _ (by omega), hQr 18 (by decide) (by omega)]
                  exact r1 r hr
                · rw [g75 5 (by omega) (by omega), if_neg (by omega), hQr 1 (by decide) (by omega)]
                  exact r2
                · rw [g77, o _ (by omega), o _ (by omega), hQr 19 (by decide) (by omega), hQr 20 (by decide) (by omega)]
                  exact a1 i hi
                · rw [g75 6 (by omega) (by omega), if_neg (by omega), hQr 1 (by decide) (by omega)]
                  exact a2
                · rw [hQr 1 (by decide) (by omega)]
                  exact a3
                · rw [g75 7 (by omega) (by omega), if_neg (by omega), hQr 19 (by decide) (by omega)]
                  exact u1 c hc
                · rw [g75 8 (by omega) (by omega), if_neg (by omega), hQr 17 (by decide) (by omega), hQr 20 (by decide) (by omega)]
                  exact u2 c hc
              have hown : ∀ w, Q 17 w = (ntW (ntW (ntW P))) 17 w := fun w => by rw [hQr 17 (by decide) (by omega)]
              -- the end of the line
              have hend : ∀ (X Y : vW), OKT X Y l → TX X (vset Y 75 3 (nI (n + 1))) (n + 1) m K → X 1 2 = P 1 2 → FF (tsW X) (stp (ln5 (vset Y 75 3 (nI (n + 1))))) l ∨ ∃ Y' n', stp (ln5 (vset Y 75 3 (nI (n + 1)))) = stp Y' ∧ OK0 (tsW X) Y' l ∧ TX (tsW X) Y' n' m K ∧ (tsW X) 1 2 = P 1 2 := by
                intro X Y hO hT hL
                have hO2 : OKT X (vset Y 75 3 (nI (n + 1))) l := hO.mv rfl rfl rfl (fun i _ _ => vset_oth (by omega)) (vset_ne (by decide))
                rcases L_sign hO2 with hF | ⟨t1, t2⟩
                · exact Or.inl (hF.keep (pkS_refl _) mk_stp)
                · rw [t1, t2]
                  exact Or.inr ⟨_, n + 1, rfl, hO2.pre, hT, hL⟩
              -- is there a door?
              by_cases hnum : Q 2 2 = nI 2
              · have h16 : S 75 16 = nI 2 := by
                  obtain ⟨_, _, _, q, e, _, _, _, _, _, _, ht⟩ := hSO
                  rcases ht with ⟨z, _⟩ | ⟨z, _⟩ | ⟨_, z, _⟩ | ⟨z, _⟩
                  · rw [hnum] at z; exact absurd z (by decide)
                  · rw [hnum] at z; exact absurd z (by decide)
                  · exact z
                  · rw [hnum] at z; exact absurd z (by decide)
                have eo : od3 Q n = ntW (hdW Q (n + 1)) := by rw [od3, if_pos hnum]
                have er : ro4 S n = vset (vset (whW S (S 75 4)) 75 4 (S 75 4 ||| nI 1 <<< (otR S (nI 0) (nI 8) (S 75 4) &&& 31))) 77 (15 + n) (otR S (nI 0) (nI 8) (S 75 4) + nI 1) := by rw [ro4, if_pos hSO.2.2.1, if_pos h16]
                rw [eo, er]
                have tl : mkS (stp (ln5 (vset (vset (vset (whW S (S 75 4)) 75 4 (S 75 4 ||| nI 1 <<< (otR S (nI 0) (nI 8) (S 75 4) &&& 31))) 77 (15 + n) (otR S (nI 0) (nI 8) (S 75 4) + nI 1)) 75 3 (nI (n + 1))))) (otA S (nI 0) (nI 8) (S 75 4)) := mk_stp.tr (mk_ln5.tr ((mk_75 (by omega)).tr (mk_77.tr ((mk_75 (by omega)).tr ((mk_75 (by omega)).tr mk_stp)))))
                rcases L_num hSO (mx := 8) (by omega) with hF | ⟨b1, b2, b3, b4, v, hv, b5, b6⟩
                · exact Or.inl (hF.keep (pk_ts.tr (pk_nt.tr pk_hd)) (tl.tr mk_ot3))
                · have hone : oneB (nI (n + 1)) (nI (n + 1) - nI 1) = true := by
                    rw [nI_prd]
                    exact oneB_nI hn (by omega)
                  have hS4 : S 75 4 = C0 75 4 := hS75 4 (by omega) (by omega)
                  have hmk := sar_bt (m := S 75 4) (i := v) (by omega)
                  rw [hS4] at hmk
                  have hd4 := d4 v (by omega)
                  have hlt : ¬ nhR Q (nI 8) < 0 := by
                    rw [b5]
                    exact nI_pos (by omega)
                  by_cases hw : Q 17 v = -1
                  · -- the wall is free
                    have hw' := hw
                    rw [hown] at hw'
                    have eA : otA S (nI 0) (nI 8) (S 75 4) = S := by
                      rw [otA, b2, ot3, if_pos hSO.2.2.1, b6]
                      by_cases z : S 75 4 = 0
                      · rw [if_pos z]
                      · rw [if_neg z, hS4, if_neg (fun q => (hd4.mp (hmk.mp q)) hw')]
                    have eR : otR S (nI 0) (nI 8) (S 75 4) = nI v := by rw [otR, eA, if_pos hSO.2.2.1, b6]
                    have eW : whW S (S 75 4) = vset (stp S) 75 8 (if nI v ≤ S 75 8 then S 75 8 else nI v) := by
                      rw [whW, eR, otW, eA]
                    have eH : hdW Q (n + 1) = vset (vset Q 17 v (nI n)) 14 n (nI v) := by
                      rw [hdW, if_neg hlt, if_pos hone, b5, nI_clamp (by omega), if_pos hw, b1, nI_prd]
                      rfl
                    rw [eR, eW, eH, hS75 8 (by omega) (by omega)]
                    rw [eR, eW, eA, hS75 8 (by omega) (by omega)] at tl
                    have hO3 : OKT (vset (vset Q 17 v (nI n)) 14 n (nI v)) S l := hSO.mv (by rw [vset_ne (by decide), vset_ne (by decide)]) (by rw [vset_ne (by decide), vset_ne (by decide)]) (by rw [vset_ne (by decide), vset_ne (by decide)]) (fun _ _ _ => rfl) rfl
                    rcases L_nt hO3.pre with hF | hO4
                    · exact Or.inl (hF.keep pk_ts (mk_stp.tr (mk_ln5.tr ((mk_75 (by omega)).tr (mk_77.tr ((mk_75 (by omega)).tr (mk_75 (by omega))))))))
                    · refine hend _ _ (hO4.mv rfl rfl rfl (fun i _ _ => by rw [vset_ne (by decide), vset_oth (by omega), vset_oth (by omega)]) (by rw [vset_ne (by decide), vset_ne (by decide), vset_ne (by decide)])) ?_ ?_
                      · -- the content
                        have nr : ∀ r, r ≠ 1 → r ≠ 2 → (ntW (vset (vset Q 17 v (nI n)) 14 n (nI v))) r = (vset (vset Q 17 v (nI n)) 14 n (nI v)) r := fun r q1 q2 => ntW_sc.1 r q1 q2
                        have nf : ∀ i, i ≠ 3 → i ≠ 4 → (ntW (vset (vset Q 17 v (nI n)) 14 n (nI v))) 1 i = Q 1 i := fun i q1 q2 => by rw [ntW_sc.2.1 i q1 q2, vset_ne (by decide), vset_ne (by decide)]
                        have n17 : ∀ i, (ntW (vset (vset Q 17 v (nI n)) 14 n (nI v))) 17 i = if i = v then nI n else Q 17 i := fun i => by
                          rw [nr 17 (by decide) (by decide), vset_ne (by decide), vset_row, vrow_at]
                          rfl
                        have n14 : ∀ i, (ntW (vset (vset Q 17 v (nI n)) 14 n (nI v))) 14 i = if i = n then nI v else Q 14 i := fun i => by
                          rw [nr 14 (by decide) (by decide), vset_row, vrow_at, vset_ne (by decide)]
                          rfl
                        have no : ∀ r, r ≠ 1 → r ≠ 2 → r ≠ 14 → r ≠ 17 → (ntW (vset (vset Q 17 v (nI n)) 14 n (nI v))) r = Q r := fun r q1 q2 q3 q4 => by rw [nr r q1 q2, vset_ne q3, vset_ne q4]
                        generalize ntW (vset (vset Q 17 v (nI n)) 14 n (nI v)) = N at n17 n14 no nf ⊢
                        -- the model's end state
                        have t77 : ∀ i, (vset (vset (vset (vset (stp S) 75 8 (if nI v ≤ C0 75 8 then C0 75 8 else nI v)) 75 4 (S 75 4 ||| nI 1 <<< (nI v &&& 31))) 77 (15 + n) (nI v + nI 1)) 75 3 (nI (n + 1))) 77 i = if i = 15 + n then nI (v + 1) else S 77 i := fun i => by
                          rw [vset_ne (by decide), vset_row, vrow_at, vset_ne (by decide), vset_ne (by decide), stp_sc.1 77 (by decide), nI_add]
                          rfl
                        have t75 : ∀ i, 3 ≤ i → i ≤ 8 → (vset (vset (vset (vset (stp S) 75 8 (if nI v ≤ C0 75 8 then C0 75 8 else nI v)) 75 4 (S 75 4 ||| nI 1 <<< (nI v &&& 31))) 77 (15 + n) (nI v + nI 1)) 75 3 (nI (n + 1))) 75 i = if i = 3 then nI (n + 1) else if i = 4 then S 75 4 ||| nI 1 <<< (nI v &&& 31) else if i = 8 then (if nI v ≤ C0 75 8 then C0 75 8 else nI v) else S 75 i := fun i q1 q2 => by
                          rw [vset_row, vrow_at, vset_ne (by decide), vset_row, vrow_at, vset_row, vrow_at]
                          show (if i = 3 then nI (n + 1) else if i = 4 then _ else if i = 8 then _ else (stp S) 75 i) = _
                          rw [stp_sc.2 i (by omega)]
                        generalize vset (vset (vset (vset (stp S) 75 8 (if nI v ≤ C0 75 8 then C0 75 8 else nI v)) 75 4 (S 75 4 ||| nI 1 <<< (nI v &&& 31))) 77 (15 + n) (nI v + nI 1)) 75 3 (nI (n + 1)) = T at t77 t75 ⊢
                        obtain ⟨⟨x1', x2', x3'⟩, ⟨y1', y2'⟩, ⟨d1', d2', d3', d4'⟩, w1', ⟨r1', r2'⟩, ⟨a1', a2', a3'⟩, u1', u2'⟩ := hTX0
                        have z77 : (vset S 75 3 (nI (n + 1))) 77 = S 77 := vset_ne (by decide)
                        have z75 : ∀ i, i ≠ 3 → (vset S 75 3 (nI (n + 1))) 75 i = S 75 i := fun i hi => vset_oth hi
                        rw [z77] at x2' x3' y1' y2' d1' d2' w1' r1' a1'
                        rw [z75 4 (by decide)] at d4'
                        rw [z75 5 (by decide)] at r2'
                        rw [z75 6 (by decide)] at a2'
                        rw [z75 7 (by decide)] at u1'
                        rw [z75 8 (by decide)] at u2'
                        have o77 : ∀ i, i ≠ 15 + n → T 77 i = S 77 i := fun i hi => by rw [t77, if_neg hi]
                        refine ⟨⟨⟨by rw [no 10 (by decide) (by decide) (by decide) (by decide)]; exact x1'.1, hn, by rw [t75 3 (by omega) (by omega), if_pos rfl]⟩, ⟨by rw [no 10 (by decide) (by decide) (by decide) (by decide)]; exact x2'.1, m9, by rw [o77 25 (by omega)]; exact x2'.2.2⟩, by rw [no 10 (by decide) (by decide) (by decide) (by decide)]; exact x3'.1, x3'.2.1, by rw [o77 52 (by omega)]; exact x3'.2.2⟩, ⟨fun p hp => ?_, fun p hp => ?_⟩, ⟨fun p hp => ?_, fun p q1 q2 => ?_, fun w hw => ?_, fun w hw => ?_⟩, fun w hw => ?_, ⟨fun r hr => ?_, ?_⟩, ⟨fun i hi => ?_, ?_, ?_⟩, fun c hc => ?_, fun c hc => ?_⟩
                        · rw [no 11 (by decide) (by decide) (by decide) (by decide), no 12 (by decide) (by decide) (by decide) (by decide), no 13 (by decide) (by decide) (by decide) (by decide), o77 _ (by omega), o77 _ (by omega), o77 _ (by omega)]
                          exact y1' p hp
                        · rw [o77 _ (by omega), o77 _ (by omega)]
                          exact y2' p hp
                        · rw [n14]
                          by_cases e : p = n
                          · rw [if_pos e]
                            refine Or.inr ⟨v, by omega, rfl, by rw [t77, if_pos (by omega)], ?_⟩
                            rw [n17, if_pos rfl, e]
                          · rw [if_neg e, o77 _ (by omega)]
                            rcases d1' p hp with ⟨q1, q2⟩ | ⟨w, hw9, q1, q2, q3⟩
                            · exact Or.inl ⟨q1, q2⟩
                            · refine Or.inr ⟨w, hw9, q1, q2, ?_⟩
                              rw [n17, if_neg (fun z => by rw [z, hw] at q3; exact nI_nm1 (by omega) q3.symm)]
                              exact q3
                        · rw [o77 _ (by omega)]
                          exact d2' p (by omega) q2
                        · rw [n17]
                          by_cases e : w = v
                          · rw [if_pos e]
                            exact Or.inr ⟨n, by omega, rfl, by rw [n14, if_pos rfl, e]⟩
                          · rw [if_neg e]
                            rcases d3' w hw with q | ⟨p, hp, q1, q2⟩
                            · exact Or.inl q
                            · refine Or.inr ⟨p, hp, q1, ?_⟩
                              rw [n14, if_neg (fun z => by
                                rw [z, hQ14, if_pos rfl] at q2
                                exact nI_nm1 (by omega) q2.symm)]
                              exact q2
                        · rw [t75 4 (by omega) (by omega), if_neg (by omega), if_pos rfl, n17, b_or, bt_bit (by omega) (by omega)]
                          by_cases e : w = v
                          · rw [if_pos e, decide_eq_true e, Bool.or_true]
                            exact ⟨fun _ z => nI_nm1 (by omega) z, fun _ => rfl⟩
                          · rw [if_neg e, decide_eq_false e, Bool.or_false]
                            exact d4' w hw
                        · rw [no 15 (by decide) (by decide) (by decide) (by decide), no 16 (by decide) (by decide) (by decide) (by decide), o77 _ (by omega), o77 _ (by omega)]
                          exact w1' w hw
                        · rw [no 18 (by decide) (by decide) (by decide) (by decide), o77 _ (by omega)]
                          exact r1' r hr
                        · rw [nf 5 (by decide) (by decide), t75 5 (by omega) (by omega), if_neg (by omega), if_neg (by omega), if_neg (by omega)]
                          exact r2'
                        · rw [no 19 (by decide) (by decide) (by decide) (by decide), no 20 (by decide) (by decide) (by decide) (by decide), o77 _ (by omega), o77 _ (by omega)]
                          exact a1' i hi
                        · rw [nf 6 (by decide) (by decide), t75 6 (by omega) (by omega), if_neg (by omega), if_neg (by omega), if_neg (by omega)]
                          exact a2'
                        · rw [nf 6 (by decide) (by decide)]
                          exact a3'
                        · rw [no 19 (by decide) (by decide) (by decide) (by decide), t75 7 (by omega) (by omega), if_neg (by omega), if_neg (by omega), if_neg (by omega)]
                          exact u1' c hc
                        · rw [no 20 (by decide) (by decide) (by decide) (by decide), t75 8 (by omega) (by omega), if_neg (by omega), if_neg (by omega), if_pos rfl, ← hS75 8 (by omega) (by omega)]
                          have old := u2' c hc
                          have hmx : nI c ≤ (if nI v ≤ S 75 8 then S 75 8 else nI v) ↔ nI c ≤ S 75 8 ∨ c ≤ v := by
                            have h1 := nI_leI' (a := c) (b := v) (by omega) (by omega)
                            by_cases g : nI v ≤ S 75 8
                            · rw [if_pos g]
                              refine ⟨fun z => Or.inl z, fun z => z.elim (fun y => y) (fun y => ?_)⟩
                              exact Int32.le_trans (h1.mpr y) g
                            · rw [if_neg g, h1]
                              refine ⟨fun z => Or.inr z, fun z => z.elim (fun y => ?_) (fun y => y)⟩
                              have g2 : S 75 8 ≤ nI v := Int32.le_of_lt (Int32.not_le.mp g)
                              exact h1.mp (Int32.le_trans y g2)
                          rw [hmx, old]
                          constructor
                          · rintro ((⟨w, q1, q2, q3⟩ | q) | q)
                            · refine Or.inl ⟨w, q1, q2, ?_⟩
                              rw [n17]
                              split
                              · exact fun z => nI_nm1 (by omega) z
                              · exact q3
                            · exact Or.inr q
                            · exact Or.inl ⟨v, q, by omega, by rw [n17, if_pos rfl]; exact fun z => nI_nm1 (by omega) z⟩
                          · rintro (⟨w, q1, q2, q3⟩ | q)
                            · rw [n17] at q3
                              by_cases e : w = v
                              · exact Or.inr (by omega)
                              · rw [if_neg e] at q3
                                exact Or.inl (Or.inl ⟨w, q1, q2, q3⟩)
                            · exact Or.inl (Or.inr q)
                      · rw [ntW_sc.2.1 2 (by decide) (by decide), vset_ne (by decide), vset_ne (by decide)]
                        exact hQl
                  · -- the wall has a door
                    have hw' := hw
                    rw [hown] at hw'
                    have hbit : nI 1 = C0 75 4 >>> (nI v &&& 31) &&& nI 1 := (hmk.mpr (hd4.mpr hw')).symm
                    have z4 : ¬ S 75 4 = 0 := fun z => by
                      rw [hS4] at z
                      have := hd4.mpr hw'
                      rw [z, b_0] at this
                      exact Bool.false_ne_true this
                    have eA : otA S (nI 0) (nI 8) (S 75 4) = failW S (nI 4) := by
                      rw [otA, b2, ot3, if_pos hSO.2.2.1, if_neg z4, b6, hS4, if_pos hbit.symm]
                    have eH : hdW Q (n + 1) = rfW Q (nI 4) := by
                      rw [hdW, if_neg hlt, if_pos hone, b5, nI_clamp (by omega), if_neg hw, b1]
                    rw [eA] at tl
                    rw [eH]
                    exact Or.inl ((FF_fail (c := 4) hSO (by omega) (by omega)).keep (pk_ts.tr pk_nt) tl)
              · have h16 : ¬ S 75 16 = nI 2 := fun y => by
                  obtain ⟨_, _, _, q, e, _, _, _, _, _, _, ht⟩ := hSO
                  rcases ht with ⟨_, z, _⟩ | ⟨_, z⟩ | ⟨z, _⟩ | ⟨_, z⟩
                  · rw [y] at z; exact absurd z (by decide)
                  · rw [y] at z; exact absurd z (by decide)
                  · exact hnum z
                  · rw [y] at z; exact absurd z (by decide)
                have eo : od3 Q n = Q := by rw [od3, if_neg hnum]
                have er : ro4 S n = S := by rw [ro4, if_pos hSO.2.2.1, if_neg h16]
                rw [eo, er]
                exact hend Q S hSO hTX0 hQl
  · -- five already
    have e5 : nI n = nI 5 := by rw [show n = 5 by omega]
    have eO : odW P n (nI kd) = rfW P (nI 5) := by rw [odW, if_pos (by rw [e5]; decide)]
    rw [eO]
    exact Or.inl (line_5 h hz (by rw [ln1, if_neg k3, if_pos e5]))
end L2
