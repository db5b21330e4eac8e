/-! The pure part: a line that tells of a wall, of a room -/
section L3
variable {P M : vW} {l n m K : Nat}
theorem pk_addWall {s : vW} {k : Nat} {a b : Int32} : pkS (addWallW s 10 k a b) s := by
  unfold addWallW
  exact (pk_row (by omega)).tr ((pk_row (by omega)).tr (pk_row (by omega)))
theorem pk_wl3 {s : vW} {a b : Int32} : pkS (wl3 s a b) s := by
  unfold wl3
  split
  · split
    · exact pk_rf
    · exact pkS_refl s
  · exact pkS_refl s
theorem pk_wl {k : Nat} (h : ¬ nI 9 ≤ nI k) : pkS (wlW P k) (wl4 P) := by
  rw [wlW, if_neg h]
  split
  · exact pk_addWall
  · exact pkS_refl _
theorem wl4_eq : wl4 P = tsW (ntW (wl3 (nhW (ntW (nhW (ntW P) (nI 7))) (nI 7)) (nnR P (nI 7)) (nnR (nnW P (nI 7)) (nI 7)))) := by
  rw [wl4, nnW_eq, nnW_eq]
theorem mk_rw3 {σ : vW} {k : Nat} : mkS (rw3 σ k) σ := by
  unfold rw3
  split
  · split
    · split
      · exact mk_fail
      · exact mkS_refl σ
    · exact mkS_refl σ
  · exact mkS_refl σ
theorem line_wall (h : OKT P M l) (hX : TX P M n m K) : FF (wlW P m) (lnZ M (nI 4) n m K) l ∨ ∃ Y m', lnZ M (nI 4) n m K = stp Y ∧ OK0 (wlW P m) Y l ∧ TX (wlW P m) Y n m' K ∧ (wlW P m) 1 2 = P 1 2 := by
  have n5 := hX.1.1.2.1
  have m9 := hX.1.2.1.2.1
  have hz : inZ (nI 4) 7 = true := by decide
  have k3 : nI 3 < nI 4 := by decide
  by_cases hm : m < 9
  · have nm9 : ¬ nI 9 ≤ nI m := nI_ge hm (by omega)
    have hA : lnA M (nI 4) n m = M := lnA_id hX (by decide) (ln1_id ⟨fun _ _ => hm, fun z => absurd k3 z⟩ n5 m9)
    have hB : lnB M (nI 4) n m = stp M := by rw [lnB, hA]
    have eP := wl4_eq (P := P)
    rcases L_nt h.pre with hF | h1
    · have hR : lnZ M (nI 4) n m K = stp M := by rw [lnZ, if_pos hz, hB, if_neg hF.nle]
      rw [hR]
      refine Or.inl (hF.keep ((pk_wl nm9).tr ?_) (mkS_refl _))
      rw [eP]
      exact pk_ts.tr (pk_nt.tr (pk_wl3.tr (pk_nh.tr (pk_nt.tr pk_nh))))
    · have hR : lnZ M (nI 4) n m K = stp (ln5 (rwW (stp M) m)) := by
        rw [lnZ, if_pos hz, hB, if_pos (le0 h1.2.2.1), lnC, hB, rmoW, if_pos k3, if_pos rfl]
      rw [hR]
      have hX1 := hX.sc (ntW_sc (σ := P)) (stp_sc (σ := M))
      have el : (ntW P) 1 2 = P 1 2 := ntW_sc.2.1 2 (by decide) (by decide)
      generalize stp M = C0 at h1 hX1 ⊢
      have tail2 : mkS (stp (ln5 (rwW C0 m))) (rw3 (rw2 C0 m) m) := mk_stp.tr (mk_ln5.tr (mk_77.tr (mk_77.tr mk_otW)))
      have tail1 : mkS (stp (ln5 (rwW C0 m))) (otW C0 (nI 0) (nI 7) (nI 0)) := tail2.tr (mk_rw3.tr mk_77)
      rcases num_nt h1 (mx := 7) (by omega) with hF | ⟨v1, hv1, f1, f2, f3, f4, _, _, _, h2⟩
      · refine Or.inl (hF.keep ((pk_wl nm9).tr ?_) tail1)
        rw [eP]
        exact pk_ts.tr (pk_nt.tr (pk_wl3.tr pk_nh))
      · have e2 : rw2 C0 m = vset (stp C0) 77 (26 + m) (nI v1) := by rw [rw2, f3, f4]
        have eN1 : nnR P (nI 7) = nI v1 := by rw [nnR_eq]; exact f2
        have eN2 : nnR (nnW P (nI 7)) (nI 7) = nhR (ntW (ntW P)) (nI 7) := by rw [nnR_eq, nnW_eq, f1]
        have ePa : wl4 P = tsW (ntW (wl3 (nhW (ntW (ntW P)) (nI 7)) (nI v1) (nhR (ntW (ntW P)) (nI 7)))) := by rw [eP, f1, eN1, eN2]
        rw [f4] at tail1
        rcases h2 with hF | h2
        · refine Or.inl (hF.keep ((pk_wl nm9).tr ?_) tail1)
          rw [ePa]
          exact pk_ts.tr (pk_nt.tr (pk_wl3.tr pk_nh))
        · have hX2 : TX (ntW (ntW P)) C0 n m K := hX1.mv (fun r _ _ => ntW_sc.1 r (by omega) (by omega)) (ntW_sc.2.1 5 (by decide) (by decide)) (ntW_sc.2.1 6 (by decide) (by decide)) rfl (fun _ _ _ => rfl)
          have el2 : (ntW (ntW P)) 1 2 = P 1 2 := (ntW_sc.2.1 2 (by decide) (by decide)).trans el
          have hC1 : OKT (ntW (ntW P)) (rw2 C0 m) l := by
            rw [e2]
            exact h2.mv rfl rfl rfl (fun i _ _ => by rw [vset_ne (by decide)]) (vset_ne (by decide))
          have hC77 : (rw2 C0 m) 77 (26 + m) = nI v1 := by rw [e2, vset_at]
          have hc77 : ∀ i, (rw2 C0 m) 77 i = if i = 26 + m then nI v1 else C0 77 i := fun i => by
            rw [e2, vset_row, vrow_at, stp_sc.1 77 (by decide)]
            rfl
          have hc75 : ∀ i, 3 ≤ i → i ≤ 8 → (rw2 C0 m) 75 i = C0 75 i := fun i _ _ => by rw [e2, vset_ne (by decide), stp_sc.2 i (by omega)]
          have hRW : rwW C0 m = vset (rw4 (rw3 (rw2 C0 m) m) m) 77 25 (nI (m + 1)) := rfl
          rw [hRW] at tail2 ⊢
          generalize rw2 C0 m = C1 at hC1 hC77 hc77 hc75 tail2 ⊢
          generalize ntW (ntW P) = P2 at hX2 el2 hC1 ePa eN2
          -- is the second number the first?
          by_cases hsame : P2 2 2 = nI 2 ∧ P2 2 4 = nI v1
          · have h16 : C1 75 16 = nI 2 ∧ C1 75 17 = nI v1 := by
              obtain ⟨_, _, _, q, e, _, _, _, _, _, _, ht⟩ := hC1
              rcases ht with ⟨z, _⟩ | ⟨z, _⟩ | ⟨_, z, v, hv, z2, z3⟩ | ⟨z, _⟩
              · rw [hsame.1] at z; exact absurd z (by decide)
              · rw [hsame.1] at z; exact absurd z (by decide)
              · have := nI_eqN (by omega) (by omega) (hsame.2.symm.trans z2)
                exact ⟨z, by rw [z3, this]⟩
              · rw [hsame.1] at z; exact absurd z (by decide)
            have e3 : rw3 C1 m = failW C1 (nI 3) := by rw [rw3, if_pos hC1.2.2.1, if_pos h16.1, hC77, if_pos h16.2]
            rcases L_num hC1 (mx := 7) (by omega) with hF | ⟨b1, b2, b3, b4, v, hv, b5, b6⟩
            · exfalso
              have : nhW P2 (nI 7) = P2 := by rw [nhW, nh1, if_pos hC1.2.1, if_pos hsame.1, nh2, if_pos hC1.2.1, hsame.2, if_pos (nI_le hv1 (by omega))]
              rw [this] at hF
              exact hF.pne hC1.2.1
            · have ev : nhR P2 (nI 7) = nI v1 := by rw [nhR, b1, if_pos hC1.2.1, hsame.2]
              have eW : wl4 P = tsW (ntW (rfW P2 (nI 3))) := by rw [ePa, b1, ev, wl3, if_pos hC1.2.1, if_pos rfl]
              rw [e3] at tail2 ⊢
              refine Or.inl ((FF_fail (c := 3) hC1 (by omega) (by omega)).keep ((pk_wl nm9).tr ?_) tail2)
              rw [eW]
              exact pk_ts.tr pk_nt
          · have e3 : rw3 C1 m = C1 := by
              rw [rw3, if_pos hC1.2.2.1]
              by_cases z : C1 75 16 = nI 2
              · rw [if_pos z, if_neg]
                intro z2
                rw [hC77] at z2
                obtain ⟨_, _, _, q, e, _, _, _, _, _, _, ht⟩ := hC1
                rcases ht with ⟨_, y, _⟩ | ⟨_, y⟩ | ⟨y1, _, v, hv, y2, y3⟩ | ⟨_, y⟩
                · rw [z] at y; exact absurd y (by decide)
                · rw [z] at y; exact absurd y (by decide)
                · exact hsame ⟨y1, by rw [y2, ← y3, z2]⟩
                · rw [z] at y; exact absurd y (by decide)
              · rw [if_neg z]
            rw [e3] at tail2 ⊢
            have tail3 : mkS (stp (ln5 (vset (rw4 C1 m) 77 25 (nI (m + 1))))) (otA C1 (nI 0) (nI 7) (nI 0)) := mk_stp.tr (mk_ln5.tr (mk_77.tr (mk_77.tr mk_stp)))
            rcases L_num hC1 (mx := 7) (by omega) with hF | ⟨b1, b2, b3, b4, v2, hv2, b5, b6⟩
            · refine Or.inl (hF.keep ((pk_wl nm9).tr ?_) (tail3.tr mk_ot3))
              rw [ePa]
              exact pk_ts.tr (pk_nt.tr pk_wl3)
            · have eA : otA C1 (nI 0) (nI 7) (nI 0) = C1 := by
                rw [otA, b2, ot3, if_pos hC1.2.2.1]
                exact if_pos rfl
              have eR : otR C1 (nI 0) (nI 7) (nI 0) = nI v2 := by rw [otR, eA, if_pos hC1.2.2.1, b6]
              have e4 : rw4 C1 m = vset (stp C1) 77 (35 + m) (nI v2) := by rw [rw4, eR, otW, eA]
              have hne : ¬ nI v1 = nI v2 := fun z => hsame ⟨b3, by
                have : nhR P2 (nI 7) = P2 2 4 := by rw [nhR, b1, if_pos hC1.2.1]
                rw [← this, b5, z]⟩
              have eW : wl4 P = tsW (ntW P2) := by rw [ePa, b1, b5, wl3, if_pos hC1.2.1, if_neg hne]
              rw [e4] at tail3 ⊢
              rw [eA] at tail3
              rcases L_nt hC1.pre with hF | h3
              · refine Or.inl (hF.keep ((pk_wl nm9).tr ?_) (mk_stp.tr (mk_ln5.tr (mk_77.tr mk_77))))
                rw [eW]
                exact pk_ts
              · have hO : OKT (ntW P2) (vset (vset (stp C1) 77 (35 + m) (nI v2)) 77 25 (nI (m + 1))) l := h3.mv rfl rfl rfl (fun i _ _ => by rw [vset_ne (by decide), vset_ne (by decide)]) (by rw [vset_ne (by decide), vset_ne (by decide)])
                rcases L_sign hO with hF | ⟨t1, t2⟩
                · refine Or.inl (hF.keep ((pk_wl nm9).tr ?_) mk_stp)
                  rw [eW]
                  exact pkS_refl _
                · rw [t1] at eW
                  have eWl : wlW P m = addWallW (ntW P2) 10 m (nI v1) (nI v2) := by rw [wlW, if_neg nm9, eW, if_pos hO.2.1, eN1, eN2, b5]
                  rw [t2, eWl]
                  have q10 : ∀ i, (addWallW (ntW P2) 10 m (nI v1) (nI v2)) 10 i = if i = 11 then nI (m + 1) else P2 10 i := fun i => by
                    rw [addWallW, vset_row, vrow_at, vset_ne (by decide), vset_ne (by decide), ntW_sc.1 10 (by decide) (by decide)]
                    rfl
                  have q15 : ∀ i, (addWallW (ntW P2) 10 m (nI v1) (nI v2)) 15 i = if i = m then nI v1 else P2 15 i := fun i => by
                    rw [addWallW, vset_ne (by decide), vset_ne (by decide), vset_row, vrow_at, ntW_sc.1 15 (by decide) (by decide)]
                    rfl
                  have q16 : ∀ i, (addWallW (ntW P2) 10 m (nI v1) (nI v2)) 16 i = if i = m then nI v2 else P2 16 i := fun i => by
                    rw [addWallW, vset_ne (by decide), vset_row, vrow_at, vset_ne (by decide), ntW_sc.1 16 (by decide) (by decide)]
                    rfl
                  have qo : ∀ r, r ≠ 10 → r ≠ 15 → r ≠ 16 → (addWallW (ntW P2) 10 m (nI v1) (nI v2)) r = (ntW P2) r := fun r z1 z2 z3 => by rw [addWallW, vset_ne z1, vset_ne z3, vset_ne z2]
                  have qo2 : ∀ r, 11 ≤ r → r ≠ 15 → r ≠ 16 → (addWallW (ntW P2) 10 m (nI v1) (nI v2)) r = P2 r := fun r z1 z2 z3 => by rw [qo r (by omega) z2 z3, ntW_sc.1 r (by omega) (by omega)]
                  have qf : ∀ i, i ≠ 3 → i ≠ 4 → (addWallW (ntW P2) 10 m (nI v1) (nI v2)) 1 i = P2 1 i := fun i z1 z2 => by rw [qo 1 (by decide) (by decide) (by decide), ntW_sc.2.1 i z1 z2]
                  have t77 : ∀ i, (vset (vset (stp C1) 77 (35 + m) (nI v2)) 77 25 (nI (m + 1))) 77 i = if i = 25 then nI (m + 1) else if i = 35 + m then nI v2 else if i = 26 + m then nI v1 else C0 77 i := fun i => by
                    rw [vset_row, vrow_at, vset_row, vrow_at, stp_sc.1 77 (by decide)]
                    show (if i = 25 then nI (m + 1) else if i = 35 + m then nI v2 else C1 77 i) = _
                    rw [hc77]
                  have t75 : ∀ i, 3 ≤ i → i ≤ 8 → (vset (vset (stp C1) 77 (35 + m) (nI v2)) 77 25 (nI (m + 1))) 75 i = C0 75 i := fun i z1 z2 => by rw [vset_ne (by decide), vset_ne (by decide), stp_sc.2 i (by omega), hc75 i z1 z2]
                  have hOm : OKT (addWallW (ntW P2) 10 m (nI v1) (nI v2)) (vset (vset (stp C1) 77 (35 + m) (nI v2)) 77 25 (nI (m + 1))) l := hO.mv (by rw [qo 1 (by decide) (by decide) (by decide)]) (qo 2 (by decide) (by decide) (by decide)) (qo 3 (by decide) (by decide) (by decide)) (fun _ _ _ => rfl) rfl
                  refine Or.inr ⟨_, m + 1, rfl, hOm.pre, ?_, by rw [qf 2 (by decide) (by decide)]; exact el2⟩
                  generalize addWallW (ntW P2) 10 m (nI v1) (nI v2) = N at q10 q15 q16 qo2 qf ⊢
                  generalize vset (vset (stp C1) 77 (35 + m) (nI v2)) 77 25 (nI (m + 1)) = T at t77 t75 ⊢
                  obtain ⟨⟨x1, x2, x3⟩, ⟨y1, y2⟩, ⟨d1, d2, d3, d4⟩, w1, ⟨r1, r2⟩, ⟨a1, a2, a3⟩, u1, u2⟩ := hX2
                  have o77 : ∀ i, i ≠ 25 → i ≠ 35 + m → i ≠ 26 + m → T 77 i = C0 77 i := fun i z1 z2 z3 => by rw [t77, if_neg z1, if_neg z2, if_neg z3]
                  refine ⟨⟨⟨by rw [q10, if_neg (by omega)]; exact x1.1, n5, by rw [t75 3 (by omega) (by omega)]; exact x1.2.2⟩, ⟨by rw [q10, if_pos rfl], hm, by rw [t77, if_pos rfl]⟩, by rw [q10, if_neg (by omega)]; exact x3.1, x3.2.1, by rw [o77 52 (by omega) (by omega) (by omega)]; exact x3.2.2⟩, ⟨fun p hp => ?_, fun p hp => ?_⟩, ⟨fun p hp => ?_, fun p z1 z2 => ?_, fun w hw => ?_, fun w hw => ?_⟩, fun w hw => ?_, ⟨fun r hr => ?_, ?_⟩, ⟨fun i hi => ?_, ?_, ?_⟩, fun c hc => ?_, fun c hc => ?_⟩
                  · rw [qo2 11 (by omega) (by omega) (by omega), qo2 12 (by omega) (by omega) (by omega), qo2 13 (by omega) (by omega) (by omega), o77 _ (by omega) (by omega) (by omega), o77 _ (by omega) (by omega) (by omega), o77 _ (by omega) (by omega) (by omega)]
                    exact y1 p hp
                  · rw [o77 _ (by omega) (by omega) (by omega), o77 _ (by omega) (by omega) (by omega)]
                    exact y2 p hp
                  · rw [qo2 14 (by omega) (by omega) (by omega), qo2 17 (by omega) (by omega) (by omega), o77 _ (by omega) (by omega) (by omega)]
                    exact d1 p hp
                  · rw [o77 _ (by omega) (by omega) (by omega)]
                    exact d2 p z1 z2
                  · rw [qo2 14 (by omega) (by omega) (by omega), qo2 17 (by omega) (by omega) (by omega)]
                    exact d3 w hw
                  · rw [qo2 17 (by omega) (by omega) (by omega), t75 4 (by omega) (by omega)]
                    exact d4 w hw
                  · rw [q15, q16, t77, t77]
                    by_cases e : w = m
                    · rw [if_pos e, if_pos e, if_neg (by omega), if_neg (by omega), if_pos (by omega), if_neg (by omega), if_pos (by omega)]
                      exact ⟨rfl, rfl, v1, v2, by omega, by omega, rfl, rfl⟩
                    · rw [if_neg e, if_neg e, if_neg (by omega), if_neg (by omega), if_neg (by omega), if_neg (by omega), if_neg (by omega), if_neg (by omega)]
                      exact w1 w (by omega)
                  · rw [qo2 18 (by omega) (by omega) (by omega), o77 _ (by omega) (by omega) (by omega)]
                    exact r1 r hr
                  · rw [qf 5 (by decide) (by decide), t75 5 (by omega) (by omega)]
                    exact r2
                  · rw [qo2 19 (by omega) (by omega) (by omega), qo2 20 (by omega) (by omega) (by omega), o77 _ (by omega) (by omega) (by omega), o77 _ (by omega) (by omega) (by omega)]
                    exact a1 i hi
                  · rw [qf 6 (by decide) (by decide), t75 6 (by omega) (by omega)]
                    exact a2
                  · rw [qf 6 (by decide) (by decide)]
                    exact a3
                  · rw [qo2 19 (by omega) (by omega) (by omega), t75 7 (by omega) (by omega)]
                    exact u1 c hc
                  · rw [qo2 17 (by omega) (by omega) (by omega), qo2 20 (by omega) (by omega) (by omega), t75 8 (by omega) (by omega)]
                    exact u2 c hc
  · have e9 : nI m = nI 9 := by rw [show m = 9 by omega]
    have eO : wlW P m = rfW P (nI 5) := by rw [wlW, if_pos (by rw [e9]; decide)]
    rw [eO]
    exact Or.inl (line_5 h hz (by rw [ln1, if_pos k3, if_pos rfl, if_pos e9]))
theorem pk_rm1 : pkS (rm1 P) (nnW P (nI 7)) := by
  unfold rm1
  split
  · exact pk_rf
  · exact pkS_refl _
theorem pk_rmW : pkS (rmW1 P) (rm2 P) := by
  unfold rmW1
  split
  · split
    · exact (pk_row (by omega)).tr (pk_fld (by decide))
    · exact pkS_refl _
  · exact pkS_refl _
theorem line_room (h : OKT P M l) (hX : TX P M n m K) : FF (rmW1 P) (lnZ M (nI 5) n m K) l ∨ ∃ Y, lnZ M (nI 5) n m K = stp Y ∧ OK0 (rmW1 P) Y l ∧ TX (rmW1 P) Y n m K ∧ (rmW1 P) 1 2 = P 1 2 := by
  have n5 := hX.1.1.2.1
  have m9 := hX.1.2.1.2.1
  have hz : inZ (nI 5) 7 = true := by decide
  have k3 : nI 3 < nI 5 := by decide
  have hA : lnA M (nI 5) n m = M := lnA_id hX (by decide) (ln1_id ⟨fun _ z => absurd z (by decide), fun z => absurd k3 z⟩ n5 m9)
  have hB : lnB M (nI 5) n m = stp M := by rw [lnB, hA]
  have eP : rm2 P = tsW (ntW (nhW (ntW (rm1 P)) (nI 99))) := by rw [rm2, nnW_eq]
  have eN : nnW P (nI 7) = nhW (ntW P) (nI 7) := nnW_eq
  rcases L_nt h.pre with hF | h1
  · have hR : lnZ M (nI 5) n m K = stp M := by rw [lnZ, if_pos hz, hB, if_neg hF.nle]
    rw [hR]
    refine Or.inl (hF.keep (pk_rmW.tr ?_) (mkS_refl _))
    rw [eP]
    refine pk_ts.tr (pk_nt.tr (pk_nh.tr (pk_nt.tr (pk_rm1.tr ?_))))
    rw [eN]
    exact pk_nh
  · have hR : lnZ M (nI 5) n m K = stp (ln5 (rrW (stp M))) := by
      rw [lnZ, if_pos hz, hB, if_pos (le0 h1.2.2.1), lnC, hB, rmoW, if_pos k3, if_neg (by decide), if_pos rfl]
    rw [hR]
    have hX1 := hX.sc (ntW_sc (σ := P)) (stp_sc (σ := M))
    have el : (ntW P) 1 2 = P 1 2 := ntW_sc.2.1 2 (by decide) (by decide)
    have e15 : P 1 5 = (ntW P) 1 5 := (ntW_sc.2.1 5 (by decide) (by decide)).symm
    generalize stp M = C0 at h1 hX1 ⊢
    have tail1 : mkS (stp (ln5 (rrW C0))) (otA C0 (nI 0) (nI 7) (C0 75 5)) := mk_stp.tr (mk_ln5.tr (mk_77.tr (mk_otW.tr ((mk_75 (by omega)).tr mk_stp))))
    rcases L_num h1 (mx := 7) (by omega) with hF | ⟨b1, b2, b3, b4, v1, hv1, b5, b6⟩
    · refine Or.inl (hF.keep (pk_rmW.tr ?_) (tail1.tr mk_ot3))
      rw [eP]
      refine pk_ts.tr (pk_nt.tr (pk_nh.tr (pk_nt.tr (pk_rm1.tr ?_))))
      rw [eN]
      exact pkS_refl _
    · have eN1 : nnR P (nI 7) = nI v1 := by rw [nnR_eq]; exact b5
      have r2 := hX1.2.2.2.2.1.2
      have hbit : bitB (P 1 5) (nI v1) = bt (C0 75 5) v1 := by rw [bitB_bt (by omega), e15, r2]
      have hmk := sar_bt (m := C0 75 5) (i := v1) (by omega)
      by_cases hb : bt (C0 75 5) v1 = true
      · have z5 : ¬ C0 75 5 = 0 := fun z => by
          rw [z, b_0] at hb
          exact Bool.false_ne_true hb
        have eA : otA C0 (nI 0) (nI 7) (C0 75 5) = failW C0 (nI 4) := by rw [otA, b2, ot3, if_pos h1.2.2.1, if_neg z5, b6, if_pos (hmk.mpr hb)]
        have eM : rm1 P = rfW (ntW P) (nI 4) := by rw [rm1, eN1, hbit, if_pos hb, eN, b1]
        rw [eA] at tail1
        refine Or.inl ((FF_fail (c := 4) h1 (by omega) (by omega)).keep (pk_rmW.tr ?_) tail1)
        rw [eP, eM]
        exact pk_ts.tr (pk_nt.tr (pk_nh.tr pk_nt))
      · have eA : otA C0 (nI 0) (nI 7) (C0 75 5) = C0 := by
          rw [otA, b2, ot3, if_pos h1.2.2.1, b6]
          by_cases z : C0 75 5 = 0
          · rw [if_pos z]
          · rw [if_neg z, if_neg (fun q => hb (hmk.mp q))]
        have eR : otR C0 (nI 0) (nI 7) (C0 75 5) = nI v1 := by rw [otR, eA, if_pos h1.2.2.1, b6]
        have eM : rm1 P = ntW P := by rw [rm1, eN1, hbit, if_neg hb, eN, b1]
        have e1 : rr1 C0 = vset (stp C0) 75 5 (C0 75 5 ||| nI 1 <<< (nI v1 &&& 31)) := by rw [rr1, eR, otW, eA]
        have eRR : rrW C0 = vset (otW (rr1 C0) (nI 0) (nI 99) (nI 0)) 77 (44 + v1) (otR (rr1 C0) (nI 0) (nI 99) (nI 0)) := by rw [rrW, eR, nI_clamp (by omega)]
        rw [eM] at eP
        rw [eRR] at tail1 ⊢
        have tail2 : mkS (stp (ln5 (vset (otW (rr1 C0) (nI 0) (nI 99) (nI 0)) 77 (44 + v1) (otR (rr1 C0) (nI 0) (nI 99) (nI 0))))) (otW (rr1 C0) (nI 0) (nI 99) (nI 0)) := mk_stp.tr (mk_ln5.tr mk_77)
        rcases L_nt h1.pre with hF | h2
        · refine Or.inl (hF.keep (pk_rmW.tr ?_) (tail2.tr (mk_otW.tr (by rw [e1]; exact mk_75 (by omega)))))
          rw [eP]
          exact pk_ts.tr (pk_nt.tr pk_nh)
        · have hX2 : TX (ntW (ntW P)) C0 n m K := hX1.mv (fun r _ _ => ntW_sc.1 r (by omega) (by omega)) (ntW_sc.2.1 5 (by decide) (by decide)) (ntW_sc.2.1 6 (by decide) (by decide)) rfl (fun _ _ _ => rfl)
          have el2 : (ntW (ntW P)) 1 2 = P 1 2 := (ntW_sc.2.1 2 (by decide) (by decide)).trans el
          have e152 : P 1 5 = (ntW (ntW P)) 1 5 := e15.trans (ntW_sc.2.1 5 (by decide) (by decide)).symm
          have hC1 : OKT (ntW (ntW P)) (rr1 C0) l := by
            rw [e1]
            exact h2.mv rfl rfl rfl (fun i _ _ => vset_oth (by omega)) (vset_ne (by decide))
          have c77 : (rr1 C0) 77 = C0 77 := by rw [e1, vset_ne (by decide), stp_sc.1 77 (by decide)]
          have c75 : ∀ i, 3 ≤ i → i ≤ 8 → (rr1 C0) 75 i = if i = 5 then C0 75 5 ||| nI 1 <<< (nI v1 &&& 31) else C0 75 i := fun i z1 z2 => by
            rw [e1, vset_row, vrow_at]
            show (if i = 5 then _ else (stp C0) 75 i) = _
            rw [stp_sc.2 i (by omega)]
          generalize rr1 C0 = C1 at hC1 c77 c75 tail2 ⊢
          have eNN : nnR (rm1 P) (nI 99) = nhR (ntW (ntW P)) (nI 99) := by rw [nnR_eq, eM]
          generalize ntW (ntW P) = P2 at hX2 el2 hC1 eP eNN e152
          rcases num_nt hC1 (mx := 99) (by omega) with hF | ⟨v2, hv2, f1, f2, f3, f4, _, _, _, h3⟩
          · refine Or.inl (hF.keep (pk_rmW.tr ?_) tail2)
            rw [eP]
            exact pk_ts
          · rw [f1] at eP
            rw [f3, f4] at tail2 ⊢
            rcases h3 with hF | h3
            · refine Or.inl (hF.keep (pk_rmW.tr ?_) tail2)
              rw [eP]
              exact pk_ts
            · have hO : OKT (ntW P2) (vset (stp C1) 77 (44 + v1) (nI v2)) l := h3.mv rfl rfl rfl (fun i _ _ => by rw [vset_ne (by decide)]) (vset_ne (by decide))
              rcases L_sign hO with hF | ⟨t1, t2⟩
              · refine Or.inl (hF.keep (pk_rmW.tr ?_) mk_stp)
                rw [eP]
                exact pkS_refl _
              · rw [t1] at eP
                have hrm : roomB (nI v1) = true := by rw [roomB_inZ, inZ_nI (by omega), decide_eq_true (by omega)]
                have eW : rmW1 P = vset (vset (ntW P2) 1 5 (P2 1 5 ||| nI 1 <<< (nI v1 &&& 31))) 18 v1 (nI v2) := by
                  rw [rmW1, eP, if_pos hO.2.1, eN1, if_pos hrm, nI_clamp (by omega), eNN, f2, e152]
                rw [t2, eW]
                have q18 : ∀ i, (vset (vset (ntW P2) 1 5 (P2 1 5 ||| nI 1 <<< (nI v1 &&& 31))) 18 v1 (nI v2)) 18 i = if i = v1 then nI v2 else P2 18 i := fun i => by
                  rw [vset_row, vrow_at, vset_ne (by decide), ntW_sc.1 18 (by decide) (by decide)]
                  rfl
                have qo : ∀ r, r ≠ 1 → r ≠ 18 → (vset (vset (ntW P2) 1 5 (P2 1 5 ||| nI 1 <<< (nI v1 &&& 31))) 18 v1 (nI v2)) r = (ntW P2) r := fun r z1 z2 => by rw [vset_ne z2, vset_ne z1]
                have qo2 : ∀ r, 10 ≤ r → r ≠ 18 → (vset (vset (ntW P2) 1 5 (P2 1 5 ||| nI 1 <<< (nI v1 &&& 31))) 18 v1 (nI v2)) r = P2 r := fun r z1 z2 => by rw [qo r (by omega) z2, ntW_sc.1 r (by omega) (by omega)]
                have qf : ∀ i, (vset (vset (ntW P2) 1 5 (P2 1 5 ||| nI 1 <<< (nI v1 &&& 31))) 18 v1 (nI v2)) 1 i = if i = 5 then P2 1 5 ||| nI 1 <<< (nI v1 &&& 31) else (ntW P2) 1 i := fun i => by
                  rw [vset_ne (by decide), vset_row, vrow_at]
                  rfl
                have t77 : ∀ i, (vset (stp C1) 77 (44 + v1) (nI v2)) 77 i = if i = 44 + v1 then nI v2 else C0 77 i := fun i => by
                  rw [vset_row, vrow_at, stp_sc.1 77 (by decide), c77]
                  rfl
                have t75 : ∀ i, 3 ≤ i → i ≤ 8 → (vset (stp C1) 77 (44 + v1) (nI v2)) 75 i = if i = 5 then C0 75 5 ||| nI 1 <<< (nI v1 &&& 31) else C0 75 i := fun i z1 z2 => by rw [vset_ne (by decide), stp_sc.2 i (by omega), c75 i z1 z2]
                have hOm : OKT (vset (vset (ntW P2) 1 5 (P2 1 5 ||| nI 1 <<< (nI v1 &&& 31))) 18 v1 (nI v2)) (vset (stp C1) 77 (44 + v1) (nI v2)) l := hO.mv (by rw [qf, if_neg (by decide)]) (qo 2 (by decide) (by decide)) (qo 3 (by decide) (by decide)) (fun _ _ _ => rfl) rfl
                refine Or.inr ⟨_, rfl, hOm.pre, ?_, by rw [qf, if_neg (by decide), ntW_sc.2.1 2 (by decide) (by decide)]; exact el2⟩
                have qf2 : ∀ i, i ≠ 3 → i ≠ 4 → i ≠ 5 → (vset (vset (ntW P2) 1 5 (P2 1 5 ||| nI 1 <<< (nI v1 &&& 31))) 18 v1 (nI v2)) 1 i = P2 1 i := fun i z1 z2 z3 => by rw [qf, if_neg z3, ntW_sc.2.1 i z1 z2]
                have qf5 : (vset (vset (ntW P2) 1 5 (P2 1 5 ||| nI 1 <<< (nI v1 &&& 31))) 18 v1 (nI v2)) 1 5 = P2 1 5 ||| nI 1 <<< (nI v1 &&& 31) := by rw [qf, if_pos rfl]
                generalize vset (vset (ntW P2) 1 5 (P2 1 5 ||| nI 1 <<< (nI v1 &&& 31))) 18 v1 (nI v2) = N at q18 qo2 qf2 qf5 ⊢
                generalize vset (stp C1) 77 (44 + v1) (nI v2) = T at t77 t75 ⊢
                obtain ⟨⟨x1, x2, x3⟩, ⟨y1, y2⟩, ⟨d1, d2, d3, d4⟩, w1, ⟨r1, r2'⟩, ⟨a1, a2, a3⟩, u1, u2⟩ := hX2
                have o77 : ∀ i, i ≠ 44 + v1 → T 77 i = C0 77 i := fun i z => by rw [t77, if_neg z]
                have o75 : ∀ i, 3 ≤ i → i ≤ 8 → i ≠ 5 → T 75 i = C0 75 i := fun i z1 z2 z3 => by rw [t75 i z1 z2, if_neg z3]
                refine ⟨⟨⟨by rw [qo2 10 (by omega) (by omega)]; exact x1.1, n5, by rw [o75 3 (by omega) (by omega) (by omega)]; exact x1.2.2⟩, ⟨by rw [qo2 10 (by omega) (by omega)]; exact x2.1, m9, by rw [o77 25 (by omega)]; exact x2.2.2⟩, by rw [qo2 10 (by omega) (by omega)]; exact x3.1, x3.2.1, by rw [o77 52 (by omega)]; exact x3.2.2⟩, ⟨fun p hp => ?_, fun p hp => ?_⟩, ⟨fun p hp => ?_, fun p z1 z2 => ?_, fun w hw => ?_, fun w hw => ?_⟩, fun w hw => ?_, ⟨fun r hr => ?_, ?_⟩, ⟨fun i hi => ?_, ?_, ?_⟩, fun c hc => ?_, fun c hc => ?_⟩
                · rw [qo2 11 (by omega) (by omega), qo2 12 (by omega) (by omega), qo2 13 (by omega) (by omega), o77 _ (by omega), o77 _ (by omega), o77 _ (by omega)]
                  exact y1 p hp
                · rw [o77 _ (by omega), o77 _ (by omega)]
                  exact y2 p hp
                · rw [qo2 14 (by omega) (by omega), qo2 17 (by omega) (by omega), o77 _ (by omega)]
                  exact d1 p hp
                · rw [o77 _ (by omega)]
                  exact d2 p z1 z2
                · rw [qo2 14 (by omega) (by omega), qo2 17 (by omega) (by omega)]
                  exact d3 w hw
                · rw [qo2 17 (by omega) (by omega), o75 4 (by omega) (by omega) (by omega)]
                  exact d4 w hw
                · rw [qo2 15 (by omega) (by omega), qo2 16 (by omega) (by omega), o77 _ (by omega), o77 _ (by omega)]
                  exact w1 w hw
                · rw [q18, t77]
                  by_cases e : r = v1
                  · rw [if_pos e, if_pos (by omega)]
                    exact ⟨rfl, v2, by omega, rfl⟩
                  · rw [if_neg e, if_neg (by omega)]
                    exact r1 r hr
                · rw [qf5, t75 5 (by omega) (by omega), if_pos rfl, r2']
                · rw [qo2 19 (by omega) (by omega), qo2 20 (by omega) (by omega), o77 _ (by omega), o77 _ (by omega)]
                  exact a1 i hi
                · rw [qf2 6 (by decide) (by decide) (by decide), o75 6 (by omega) (by omega) (by omega)]
                  exact a2
                · rw [qf2 6 (by decide) (by decide) (by decide)]
                  exact a3
                · rw [qo2 19 (by omega) (by omega), o75 7 (by omega) (by omega) (by omega)]
                  exact u1 c hc
                · rw [qo2 17 (by omega) (by omega), qo2 20 (by omega) (by omega), o75 8 (by omega) (by omega) (by omega)]
                  exact u2 c hc
end L3
