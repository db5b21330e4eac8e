/-! The pure part: the line of the plan -/
section L4
variable {P M : vW} {l n m K : Nat}
theorem pk_plA {s : vW} : pkS (plA s) s := by
  unfold plA
  split
  · exact pkS_refl s
  · split
    · exact pk_rf
    · exact pkS_refl s
theorem pk_addAct {s : vW} {k : Nat} {a b : Int32} : pkS (addActW s 10 k a b) s := by
  unfold addActW
  exact (pk_row (by omega)).tr ((pk_row (by omega)).tr (pk_row (by omega)))
theorem pk_plS {s : vW} : pkS (plS s) (plB s) := by
  unfold plS
  split
  · split
    · exact pk_addAct
    · exact pkS_refl _
  · exact pkS_refl _
theorem plB_eq {s : vW} : plB s = nhW (ntW (nhW (plA (ntW s)) (nI 4))) (nI 8) := by rw [plB, nnW_eq]
theorem pk_plB {s : vW} : pkS (plB s) (plA (ntW s)) := by
  rw [plB_eq]
  exact pk_nh.tr (pk_nt.tr pk_nh)
theorem pk_plG : ∀ j (s : vW), pkS (plG j s) s
  | 0, s => pkS_refl s
  | j + 1, s => by
    unfold plG
    split
    · split
      · exact pk_nt
      · exact (pk_plG j (plS s)).tr (pk_plS.tr (pk_plB.tr (pk_plA.tr pk_nt)))
    · exact pk_nt
theorem max_iff {c v : Nat} {x : Int32} (hc : c < 1000) (hv : v < 1000) : nI c ≤ (if nI v ≤ x then x else nI v) ↔ nI c ≤ x ∨ c ≤ v := by
  have h1 := nI_leI' (a := c) (b := v) hc hv
  by_cases g : nI v ≤ x
  · rw [if_pos g]
    exact ⟨fun z => Or.inl z, fun z => z.elim (fun y => y) (fun y => Int32.le_trans (h1.mpr y) g)⟩
  · rw [if_neg g, h1]
    refine ⟨fun z => Or.inr z, fun z => z.elim (fun y => ?_) (fun y => y)⟩
    exact h1.mp (Int32.le_trans y (Int32.le_of_lt (Int32.not_le.mp g)))
theorem plan_step : ∀ (j K : Nat) (s σ : vW), j + K = 7 → K ≤ 6 → (FF (ntW s) σ l ∨ (OKT (ntW s) σ l ∧ TX (ntW s) σ n m K ∧ (ntW s) 1 6 = nI 1)) → FF (plG j s) (stp (ln5 (rpG j σ K))) l ∨ ∃ Y K', stp (ln5 (rpG j σ K)) = stp Y ∧ OK0 (plG j s) Y l ∧ TX (plG j s) Y n m K' ∧ (plG j s) 1 2 = s 1 2
  | 0, K, s, σ, hj, hK, h => by omega
  | j + 1, K, s, σ, hj, hK, h => by
    have eN2 : (ntW s) 1 2 = s 1 2 := ntW_sc.2.1 2 (by decide) (by decide)
    rcases h with hF | ⟨hO, hX, h6⟩
    · have e1 : plG (j + 1) s = ntW s := by
        rw [plG, ntB, if_neg hF.pne, if_neg Bool.false_ne_true]
      have e2 : rpG (j + 1) σ K = σ := by
        rw [rpG, if_neg (fun z => hF.nle (le0 z))]
      rw [e1, e2]
      exact Or.inl (hF.keep (pkS_refl _) (mk_stp.tr mk_ln5))
    · have p0 := hO.2.1
      have m0 := hO.2.2.1
      have eB : ntB s = true := by rw [ntB, if_pos p0]
      obtain ⟨_, _, _, q, e, g1, g2, g3, g4, g5, g6, ht⟩ := hO
      have hO : OKT (ntW s) σ l := ⟨by assumption, p0, m0, q, e, g1, g2, g3, g4, g5, g6, ht⟩
      have eK : (ntW s) 10 12 = nI K := hX.1.2.2.1
      -- a token that begins no act
      have hoth : ¬ (ntW s) 2 2 = nI 3 → ¬ (ntW s) 2 2 = nI 2 → ¬ σ 75 16 = nI 2 → ¬ σ 75 16 = nI 3 → FF (plG (j + 1) s) (stp (ln5 (rpG (j + 1) σ K))) l := by
        intro z1 z2 z3 z4
        have e1 : plG (j + 1) s = plG j (plS s) := by rw [plG, if_pos eB, if_neg z1]
        have e2 : rpG (j + 1) σ K = σ := by rw [rpG, if_pos m0, if_neg z3]
        have e3 : plA (ntW s) = ntW s := by
          rw [plA, if_neg z2]
          exact ite_self _
        have e4 : nhW (ntW s) (nI 4) = nh2 (rfW (ntW s) (nI 2)) (nI 4) := by rw [nhW, nh1, if_pos p0, if_neg z2]
        have e5 : ln5 σ = failW σ (nI 2) := by rw [ln5, if_pos m0, if_neg z4]
        rw [e1, e2, e5]
        refine (FF_fail (c := 2) hO (by omega) (by omega)).keep ((pk_plG j _).tr (pk_plS.tr ?_)) mk_stp
        rw [plB_eq, e3, e4]
        exact pk_nh.tr (pk_nt.tr pk_nh2)
      rcases ht with ⟨a, b, _⟩ | ⟨a, b⟩ | ⟨a, b, v, hv, c, d⟩ | ⟨a, b⟩
      · exact Or.inl (hoth (by rw [a]; decide) (by rw [a]; decide) (by rw [b]; decide) (by rw [b]; decide))
      · exact Or.inl (hoth (by rw [a]; decide) (by rw [a]; decide) (by rw [b]; decide) (by rw [b]; decide))
      · -- a number
        have n3 : ¬ (ntW s) 2 2 = nI 3 := by rw [a]; decide
        have e1 : plG (j + 1) s = plG j (plS s) := by rw [plG, if_pos eB, if_neg n3]
        by_cases h66 : K = 6
        · have eK6 : nI K = nI 6 := by rw [h66]
          have e2 : rpG (j + 1) σ K = failW σ (nI 5) := by rw [rpG, if_pos m0, if_pos b, if_pos eK6]
          have e3 : plA (ntW s) = rfW (ntW s) (nI 5) := by rw [plA, eK, if_neg (by rw [eK6]; decide), if_pos a]
          rw [e1, e2]
          refine Or.inl ((FF_fail (c := 5) hO (by omega) (by omega)).keep ((pk_plG j _).tr (pk_plS.tr ?_)) (mk_stp.tr mk_ln5))
          rw [plB_eq, e3]
          exact pk_nh.tr (pk_nt.tr pk_nh)
        · have hK6 : K < 6 := by omega
          have e2 : rpG (j + 1) σ K = rpG j (rpN1 σ K) (K + 1) := by
            rw [rpG, if_pos m0, if_pos b, if_neg (fun z => by have := nI_eqN (by omega) (by omega) z; omega)]
          have e3 : plA (ntW s) = ntW s := by rw [plA, eK, if_pos (nI_lt hK6 (by omega))]
          rw [e1, e2]
          have tailG : ∀ j (σ : vW) K, mkS (rpG j σ K) σ := by
            intro j
            induction j with
            | zero => intro σ K; exact mkS_refl σ
            | succ j ih =>
              intro σ K
              unfold rpG
              split
              · split
                · split
                  · exact mk_fail
                  · refine (ih _ _).tr ?_
                    rw [rpN1, rpC]
                    refine mk_77.tr (mk_77.tr (mk_whW.tr ?_))
                    rw [rpB, rpA]
                    exact mk_77.tr ((mk_75 (by omega)).tr mk_otW)
                · exact mkS_refl σ
              · exact mkS_refl σ
          have eBq : plB s = nhW (ntW (nhW (ntW s) (nI 4))) (nI 8) := by rw [plB_eq, e3]
          have tailD : mkS (stp (ln5 (rpG j (rpN1 σ K) (K + 1)))) (otA (rpB σ K) (nI 0) (nI 8) (nI 0)) := mk_stp.tr (mk_ln5.tr ((tailG _ _ _).tr (mk_77.tr (mk_77.tr ((mk_75 (by omega)).tr mk_stp)))))
          have tail1 : mkS (stp (ln5 (rpG j (rpN1 σ K) (K + 1)))) (otW σ (nI 0) (nI 4) (nI 0)) := by
            refine tailD.tr (mk_otA.tr ?_)
            rw [rpB, rpA]
            exact mk_77.tr (mk_75 (by omega))
          rcases num_nt hO (mx := 4) (by omega) with hF | ⟨v1, hv1, f1, f2, f3, f4, _, _, _, h2⟩
          · refine Or.inl (hF.keep ((pk_plG j _).tr (pk_plS.tr ?_)) tail1)
            rw [eBq]
            exact pk_nh
          · rw [f1] at eBq
            rw [f4] at tail1
            rcases h2 with hF | h2
            · refine Or.inl (hF.keep ((pk_plG j _).tr (pk_plS.tr ?_)) tail1)
              rw [eBq]
              exact pk_nh
            · have eD : rpB σ K = vset (vset (stp σ) 75 7 (if nI v1 ≤ σ 75 7 then σ 75 7 else nI v1)) 77 (53 + K) (nI v1) := by rw [rpB, rpA, f3, f4]
              have hD : OKT (ntW (ntW s)) (rpB σ K) l := by
                rw [eD]
                exact h2.mv rfl rfl rfl (fun i _ _ => by rw [vset_ne (by decide), vset_oth (by omega)]) (by rw [vset_ne (by decide), vset_ne (by decide)])
              have D77 : ∀ i, (rpB σ K) 77 i = if i = 53 + K then nI v1 else σ 77 i := fun i => by
                rw [eD, vset_row, vrow_at, vset_ne (by decide), stp_sc.1 77 (by decide)]
                rfl
              have D75 : ∀ i, 3 ≤ i → i ≤ 8 → (rpB σ K) 75 i = if i = 7 then (if nI v1 ≤ σ 75 7 then σ 75 7 else nI v1) else σ 75 i := fun i z1 z2 => by
                rw [eD, vset_ne (by decide), vset_row, vrow_at]
                show (if i = 7 then _ else (stp σ) 75 i) = _
                rw [stp_sc.2 i (by omega)]
              have eNN : rpN1 σ K = rpC (rpB σ K) K := rfl
              rw [eNN] at tailD ⊢
              generalize rpB σ K = D at hD D77 D75 tailD ⊢
              rcases L_num hD (mx := 8) (by omega) with hF | ⟨b1, b2, b3, b4, v2, hv2, b5, b6⟩
              · refine Or.inl (hF.keep ((pk_plG j _).tr (pk_plS.tr ?_)) (tailD.tr mk_ot3))
                rw [eBq]
                exact pkS_refl _
              · have eA : otA D (nI 0) (nI 8) (nI 0) = D := by
                  rw [otA, b2, ot3, if_pos hD.2.2.1]
                  exact if_pos rfl
                have eR : otR D (nI 0) (nI 8) (nI 0) = nI v2 := by rw [otR, eA, if_pos hD.2.2.1, b6]
                have eC : rpC D K = vset (vset (vset (stp D) 75 8 (if nI v2 ≤ D 75 8 then D 75 8 else nI v2)) 77 (59 + K) (nI v2)) 77 52 (nI (K + 1)) := by rw [rpC, whW, eR, otW, eA]
                have eBu : plB s = ntW (ntW s) := by rw [eBq, b1]
                have es12 : (s 10 12).toNatClampNeg = K := by
                  have : (ntW s) 10 12 = s 10 12 := by rw [ntW_sc.1 10 (by decide) (by decide)]
                  rw [← this, eK, nI_clamp (by omega)]
                have er1 : nhR (plA (ntW s)) (nI 4) = nI v1 := by rw [e3]; exact f2
                have er2 : nnR (nhW (plA (ntW s)) (nI 4)) (nI 8) = nI v2 := by rw [nnR_eq, e3, f1]; exact b5
                have eS : plS s = addActW (ntW (ntW s)) 10 K (nI v1) (nI v2) := by
                  rw [plS, eBu, if_pos hD.2.1, es12, if_pos hK6, er1, er2]
                rw [eS, eC]
                -- the act is told on both sides
                have q10 : ∀ i, (addActW (ntW (ntW s)) 10 K (nI v1) (nI v2)) 10 i = if i = 12 then nI (K + 1) else (ntW s) 10 i := fun i => by
                  rw [addActW, vset_row, vrow_at, vset_ne (by decide), vset_ne (by decide), ntW_sc.1 10 (by decide) (by decide)]
                  rfl
                have q19 : ∀ i, (addActW (ntW (ntW s)) 10 K (nI v1) (nI v2)) 19 i = if i = K then nI v1 else (ntW s) 19 i := fun i => by
                  rw [addActW, vset_ne (by decide), vset_ne (by decide), vset_row, vrow_at, ntW_sc.1 19 (by decide) (by decide)]
                  rfl
                have q20 : ∀ i, (addActW (ntW (ntW s)) 10 K (nI v1) (nI v2)) 20 i = if i = K then nI v2 else (ntW s) 20 i := fun i => by
                  rw [addActW, vset_ne (by decide), vset_row, vrow_at, vset_ne (by decide), ntW_sc.1 20 (by decide) (by decide)]
                  rfl
                have qo : ∀ r, r ≠ 10 → r ≠ 19 → r ≠ 20 → (addActW (ntW (ntW s)) 10 K (nI v1) (nI v2)) r = (ntW (ntW s)) r := fun r z1 z2 z3 => addActW_ne z1 z2 z3
                have qo2 : ∀ r, 11 ≤ r → r ≠ 19 → r ≠ 20 → (addActW (ntW (ntW s)) 10 K (nI v1) (nI v2)) r = (ntW s) r := fun r z1 z2 z3 => by rw [qo r (by omega) z2 z3, ntW_sc.1 r (by omega) (by omega)]
                have qf : ∀ i, i ≠ 3 → i ≠ 4 → (addActW (ntW (ntW s)) 10 K (nI v1) (nI v2)) 1 i = (ntW s) 1 i := fun i z1 z2 => by rw [qo 1 (by decide) (by decide) (by decide), ntW_sc.2.1 i z1 z2]
                have hQ : OKT (addActW (ntW (ntW s)) 10 K (nI v1) (nI v2)) D l := hD.mv (by rw [qo 1 (by decide) (by decide) (by decide)]) (qo 2 (by decide) (by decide) (by decide)) (qo 3 (by decide) (by decide) (by decide)) (fun _ _ _ => rfl) rfl
                have t77 : ∀ i, (vset (vset (vset (stp D) 75 8 (if nI v2 ≤ D 75 8 then D 75 8 else nI v2)) 77 (59 + K) (nI v2)) 77 52 (nI (K + 1))) 77 i = if i = 52 then nI (K + 1) else if i = 59 + K then nI v2 else if i = 53 + K then nI v1 else σ 77 i := fun i => by
                  rw [vset_row, vrow_at, vset_row, vrow_at, vset_ne (by decide), stp_sc.1 77 (by decide)]
                  show (if i = 52 then _ else if i = 59 + K then _ else D 77 i) = _
                  rw [D77]
                have t75 : ∀ i, 3 ≤ i → i ≤ 8 → (vset (vset (vset (stp D) 75 8 (if nI v2 ≤ D 75 8 then D 75 8 else nI v2)) 77 (59 + K) (nI v2)) 77 52 (nI (K + 1))) 75 i = if i = 8 then (if nI v2 ≤ σ 75 8 then σ 75 8 else nI v2) else if i = 7 then (if nI v1 ≤ σ 75 7 then σ 75 7 else nI v1) else σ 75 i := fun i z1 z2 => by
                  rw [vset_ne (by decide), vset_ne (by decide), vset_row, vrow_at]
                  show (if i = 8 then (if nI v2 ≤ D 75 8 then D 75 8 else nI v2) else (stp D) 75 i) = _
                  rw [stp_sc.2 i (by omega), D75 i z1 z2, D75 8 (by omega) (by omega), if_neg (show ¬ (8 : Nat) = 7 by decide)]
                have tm : mkS (vset (vset (vset (stp D) 75 8 (if nI v2 ≤ D 75 8 then D 75 8 else nI v2)) 77 (59 + K) (nI v2)) 77 52 (nI (K + 1))) (stp D) := mk_77.tr (mk_77.tr (mk_75 (by omega)))
                have tO : OKT (ntW (addActW (ntW (ntW s)) 10 K (nI v1) (nI v2))) (stp D) l → OKT (ntW (addActW (ntW (ntW s)) 10 K (nI v1) (nI v2))) (vset (vset (vset (stp D) 75 8 (if nI v2 ≤ D 75 8 then D 75 8 else nI v2)) 77 (59 + K) (nI v2)) 77 52 (nI (K + 1))) l := fun z => z.mv rfl rfl rfl (fun i _ _ => by rw [vset_ne (by decide), vset_ne (by decide), vset_oth (by omega)]) (by rw [vset_ne (by decide), vset_ne (by decide), vset_ne (by decide)])
                generalize vset (vset (vset (stp D) 75 8 (if nI v2 ≤ D 75 8 then D 75 8 else nI v2)) 77 (59 + K) (nI v2)) 77 52 (nI (K + 1)) = T at t77 t75 tm tO ⊢
                generalize addActW (ntW (ntW s)) 10 K (nI v1) (nI v2) = N at q10 q19 q20 qo2 qf hQ tO ⊢
                have hTX : TX N T n m (K + 1) := by
                  obtain ⟨⟨x1, x2, x3⟩, ⟨y1, y2⟩, ⟨d1, d2, d3, d4⟩, w1, ⟨r1, r2⟩, ⟨a1, a2, a3⟩, u1, u2⟩ := hX
                  have o77 : ∀ i, i ≠ 52 → i ≠ 59 + K → i ≠ 53 + K → T 77 i = σ 77 i := fun i z1 z2 z3 => by rw [t77, if_neg z1, if_neg z2, if_neg z3]
                  have o75 : ∀ i, 3 ≤ i → i ≤ 6 → T 75 i = σ 75 i := fun i z1 z2 => by rw [t75 i z1 (by omega), if_neg (by omega), if_neg (by omega)]
                  refine ⟨⟨⟨by rw [q10, if_neg (by omega)]; exact x1.1, x1.2.1, by rw [o75 3 (by omega) (by omega)]; exact x1.2.2⟩, ⟨by rw [q10, if_neg (by omega)]; exact x2.1, x2.2.1, by rw [o77 25 (by omega) (by omega) (by omega)]; exact x2.2.2⟩, by rw [q10, if_pos rfl], hK6, by rw [t77, if_pos rfl]⟩, ⟨fun p hp => ?_, fun p hp => ?_⟩, ⟨fun p hp => ?_, fun p z1 z2 => ?_, fun w hw => ?_, fun w hw => ?_⟩, fun w hw => ?_, ⟨fun r hr => ?_, ?_⟩, ⟨fun i hi => ?_, ?_, Or.inr (by rw [qf 6 (by decide) (by decide)]; exact h6)⟩, fun c hc => ?_, fun c hc => ?_⟩
                  · have := x1.2.1
                    rw [qo2 11 (by omega) (by omega) (by omega), qo2 12 (by omega) (by omega) (by omega), qo2 13 (by omega) (by omega) (by omega), o77 _ (by omega) (by omega) (by omega), o77 _ (by omega) (by omega) (by omega), o77 _ (by omega) (by omega) (by omega)]
                    exact y1 p hp
                  · rw [o77 _ (by omega) (by omega) (by omega), o77 _ (by omega) (by omega) (by omega)]
                    exact y2 p hp
                  · have := x1.2.1
                    rw [qo2 14 (by omega) (by omega) (by omega), qo2 17 (by omega) (by omega) (by omega), o77 _ (by omega) (by omega) (by omega)]
                    exact d1 p hp
                  · rw [o77 _ (by omega) (by omega) (by omega)]
                    exact d2 p z1 z2
                  · rw [qo2 14 (by omega) (by omega) (by omega), qo2 17 (by omega) (by omega) (by omega)]
                    exact d3 w hw
                  · rw [qo2 17 (by omega) (by omega) (by omega), o75 4 (by omega) (by omega)]
                    exact d4 w hw
                  · have := x2.2.1
                    rw [qo2 15 (by omega) (by omega) (by omega), qo2 16 (by omega) (by omega) (by omega), o77 _ (by omega) (by omega) (by omega), o77 _ (by omega) (by omega) (by omega)]
                    exact w1 w hw
                  · rw [qo2 18 (by omega) (by omega) (by omega), o77 _ (by omega) (by omega) (by omega)]
                    exact r1 r hr
                  · rw [qf 5 (by decide) (by decide), o75 5 (by omega) (by omega)]
                    exact r2
                  · rw [q19, q20, t77, t77]
                    by_cases ei : i = K
                    · rw [if_pos ei, if_pos ei, if_neg (by omega), if_neg (by omega), if_pos (by omega), if_neg (by omega), if_pos (by omega)]
                      exact ⟨rfl, rfl, ⟨v1, by omega, rfl⟩, v2, by omega, rfl⟩
                    · rw [if_neg ei, if_neg ei, if_neg (by omega), if_neg (by omega), if_neg (by omega), if_neg (by omega), if_neg (by omega), if_neg (by omega)]
                      exact a1 i (by omega)
                  · rw [qf 6 (by decide) (by decide), o75 6 (by omega) (by omega)]
                    exact a2
                  · rw [t75 7 (by omega) (by omega), if_neg (by omega), if_pos rfl, max_iff (by omega) (by omega), u1 c hc]
                    constructor
                    · rintro (⟨i, hi, p, z1, z2, z3⟩ | z)
                      · exact ⟨i, by omega, p, z1, z2, by rw [q19, if_neg (by omega)]; exact z3⟩
                      · exact ⟨K, by omega, v1, z, by omega, by rw [q19, if_pos rfl]⟩
                    · rintro ⟨i, hi, p, z1, z2, z3⟩
                      rw [q19] at z3
                      by_cases ei : i = K
                      · rw [if_pos ei] at z3
                        have := nI_eqN (by omega) (by omega) z3
                        exact Or.inr (by omega)
                      · rw [if_neg ei] at z3
                        exact Or.inl ⟨i, by omega, p, z1, z2, z3⟩
                  · rw [t75 8 (by omega) (by omega), if_pos rfl, max_iff (by omega) (by omega), u2 c hc, qo2 17 (by omega) (by omega) (by omega)]
                    constructor
                    · rintro ((z | ⟨i, hi, w, z1, z2, z3⟩) | z)
                      · exact Or.inl z
                      · exact Or.inr ⟨i, by omega, w, z1, z2, by rw [q20, if_neg (by omega)]; exact z3⟩
                      · exact Or.inr ⟨K, by omega, v2, z, by omega, by rw [q20, if_pos rfl]⟩
                    · rintro (z | ⟨i, hi, w, z1, z2, z3⟩)
                      · exact Or.inl (Or.inl z)
                      · rw [q20] at z3
                        by_cases ei : i = K
                        · rw [if_pos ei] at z3
                          have := nI_eqN (by omega) (by omega) z3
                          exact Or.inr (by omega)
                        · rw [if_neg ei] at z3
                          exact Or.inl (Or.inr ⟨i, by omega, w, z1, z2, z3⟩)
                have hnext : FF (ntW N) T l ∨ (OKT (ntW N) T l ∧ TX (ntW N) T n m (K + 1) ∧ (ntW N) 1 6 = nI 1) := by
                  rcases L_nt hQ.pre with hF | h3
                  · exact Or.inl (hF.keep (pkS_refl _) tm)
                  · exact Or.inr ⟨tO h3, hTX.mv (fun r _ _ => ntW_sc.1 r (by omega) (by omega)) (ntW_sc.2.1 5 (by decide) (by decide)) (ntW_sc.2.1 6 (by decide) (by decide)) rfl (fun _ _ _ => rfl), by rw [ntW_sc.2.1 6 (by decide) (by decide), qf 6 (by decide) (by decide)]; exact h6⟩
                rcases plan_step j (K + 1) N T (by omega) (by omega) hnext with hF | ⟨Y, K', r1, r2, r3, r4⟩
                · exact Or.inl hF
                · exact Or.inr ⟨Y, K', r1, r2, r3, by rw [r4, qf 2 (by decide) (by decide)]; exact eN2⟩
      · -- the sign
        have e1 : plG (j + 1) s = ntW s := by rw [plG, if_pos eB, if_pos a]
        have e2 : rpG (j + 1) σ K = σ := by rw [rpG, if_pos m0, if_neg (by rw [b]; decide)]
        have e3 : ln5 σ = σ := by rw [ln5, if_pos m0, if_pos b]
        rw [e1, e2, e3]
        exact Or.inr ⟨σ, K, rfl, hO.pre, hX, eN2⟩
theorem line_plan (h : OKT P M l) (hX : TX P M n m K) : FF (plW P) (lnZ M (nI 6) n m K) l ∨ ∃ Y K', lnZ M (nI 6) n m K = stp Y ∧ OK0 (plW P) Y l ∧ TX (plW P) Y n m K' ∧ (plW P) 1 2 = P 1 2 := by
  have hz : inZ (nI 6) 7 = true := by decide
  have k3 : nI 3 < nI 6 := by decide
  have e1 : ln1 M (nI 6) n m = M := by rw [ln1, if_pos k3, if_neg (by decide)]
  have hfl : P 1 6 = M 75 6 ∧ ((P 1 6 = nI 0 ∧ K = 0) ∨ P 1 6 = nI 1) := hX.2.2.2.2.2.1.2
  have e3 : ∀ σ : vW, ln3 σ (nI 6) = vset σ 75 6 (nI 1) := fun σ => by
    rw [ln3, if_pos rfl]
    split <;> rfl
  have z1 : ¬ nI 1 = 0 := by decide
  rcases hfl.2 with ⟨hf, hK⟩ | hf
  · have e2 : ln2 M (nI 6) = M := by
      rw [ln2, if_pos rfl, ← hfl.1, hf]
      exact if_pos rfl
    have hB : lnB M (nI 6) n m = stp (vset M 75 6 (nI 1)) := by rw [lnB, lnA, e1, e2, e3]
    have eP : plW P = plG 7 (vset P 1 6 (nI 1)) := by
      rw [plW, pl0, hf]
      rfl
    have hO : OKT (vset P 1 6 (nI 1)) (vset M 75 6 (nI 1)) l := h.mv (vset_oth (by decide)) (vset_ne (by decide)) (vset_ne (by decide)) (fun i _ _ => vset_oth (by omega)) (vset_ne (by decide))
    have hX0 : TX (vset P 1 6 (nI 1)) (vset M 75 6 (nI 1)) n m K := by
      obtain ⟨x, y, d, w, ⟨r1, r2⟩, ⟨a1, a2, a3⟩, u1, u2⟩ := hX
      have pr : ∀ r, r ≠ 1 → (vset P 1 6 (nI 1)) r = P r := fun r z => vset_ne z
      have mf : ∀ i, i ≠ 6 → (vset M 75 6 (nI 1)) 75 i = M 75 i := fun i z => vset_oth z
      have m7 : (vset M 75 6 (nI 1)) 77 = M 77 := vset_ne (by decide)
      unfold TX
      rw [pr 10 (by decide), pr 11 (by decide), pr 12 (by decide), pr 13 (by decide), pr 14 (by decide), pr 15 (by decide), pr 16 (by decide), pr 17 (by decide), pr 18 (by decide), pr 19 (by decide), pr 20 (by decide), mf 3 (by decide), mf 4 (by decide), mf 5 (by decide), mf 7 (by decide), mf 8 (by decide), m7]
      exact ⟨x, y, d, w, ⟨r1, by rw [vset_oth (by decide)]; exact r2⟩, ⟨a1, by rw [vset_at, vset_at], Or.inr vset_at⟩, u1, u2⟩
    have eL : (vset P 1 6 (nI 1)) 1 2 = P 1 2 := vset_oth (by decide)
    have e6 : (vset P 1 6 (nI 1)) 1 6 = nI 1 := vset_at
    rw [eP]
    generalize vset P 1 6 (nI 1) = s at hO hX0 eL e6 ⊢
    generalize vset M 75 6 (nI 1) = M1 at hB hO hX0
    rcases L_nt hO.pre with hF | h1
    · have hR : lnZ M (nI 6) n m K = stp M1 := by rw [lnZ, if_pos hz, hB, if_neg hF.nle]
      rw [hR]
      have : plG 7 s = ntW s := by
        rw [show (7 : Nat) = 6 + 1 from rfl, plG, ntB, if_neg hF.pne, if_neg Bool.false_ne_true]
      rw [this]
      exact Or.inl hF
    · have hR : lnZ M (nI 6) n m K = stp (ln5 (rpG 7 (stp M1) K)) := by
        rw [lnZ, if_pos hz, hB, if_pos (le0 h1.2.2.1), lnC, hB, rmoW, if_pos k3, if_neg (by decide), if_neg (by decide), rpW, hK]
      rw [hR]
      rcases plan_step (l := l) (n := n) (m := m) 7 K s (stp M1) (by omega) (by omega) (Or.inr ⟨h1, hX0.sc ntW_sc stp_sc, by rw [ntW_sc.2.1 6 (by decide) (by decide)]; exact e6⟩) with hF | ⟨Y, K', r1, r2, r3, r4⟩
      · exact Or.inl hF
      · exact Or.inr ⟨Y, K', r1, r2, r3, r4.trans eL⟩
  · have ne0 : ¬ P 1 6 = 0 := by rw [hf]; exact z1
    have e2 : ln2 M (nI 6) = failW M (nI 4) := by rw [ln2, if_pos rfl, ← hfl.1, if_neg ne0]
    have hB : lnB M (nI 6) n m = stp (vset (failW M (nI 4)) 75 6 (nI 1)) := by rw [lnB, lnA, e1, e2, e3]
    have eP : plW P = plG 7 (vset (rfW P (nI 4)) 1 6 (nI 1)) := by rw [plW, pl0, if_neg ne0]
    have hF := (FF_fail (c := 4) h (by omega) (by omega)).keep (pkS_refl _) ((mk_stp (σ := vset (failW M (nI 4)) 75 6 (nI 1))).tr (mk_75 (by omega)))
    have hR : lnZ M (nI 6) n m K = stp (vset (failW M (nI 4)) 75 6 (nI 1)) := by rw [lnZ, if_pos hz, hB, if_neg hF.nle]
    rw [hR, eP]
    exact Or.inl (hF.keep ((pk_plG 7 _).tr (pk_fld (by decide))) (mkS_refl _))
end L4
