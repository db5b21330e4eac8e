/-! The pure part: text(), both sides -/
section X3
variable {a b M : vW} {l n m K k : Nat}
theorem fstP_gt {Q : Nat → Bool} {n' k' : Nat} (hn : 0 < n') (h : Q k' = false) : k' + 1 ≤ fstP Q n' k' := by
  rw [show n' = (n' - 1) + 1 by omega, fstP, h, if_neg Bool.false_ne_true]
  exact fstP_ge _ _ _
/-- a token is of one byte at least -/
theorem stp_pos (h : tpOK M) (h0 : M 75 12 = 0) (h1 : (stp M) 75 12 = 0) (h2 : ¬ (stp M) 75 16 = nI 0) : 1 ≤ ((stp M) 75 14).toNatClampNeg := by
  obtain ⟨l, p, hl, hp, e10, e14⟩ := h
  have hb := skB_le (σ := M) hp
  have e : stp M = stW1 M l (skB M l p) := by rw [stp, e10, e14, nI_clamp (by omega), nI_clamp (by omega), stW, if_pos (le0 h0)]
  rw [e] at h1 h2 ⊢
  generalize skB M l p = q at *
  have hql : ¬ mByte M l q = -4 → q < l := fun z => by
    rcases Nat.lt_or_ge q l with y | y
    · exact y
    · exact absurd (by rw [mByte, if_neg (by omega)]) z
  by_cases z0 : mByte M l q = -4
  · rw [stW1, if_pos z0, vset_at] at h2
    exact absurd rfl h2
  · have hq := hql z0
    by_cases z1 : isLow (mByte M l q) = true
    · have hs := skL_le (σ := M) hb.2
      have hg : q + 1 ≤ skL M l q := fstP_gt (by omega) (by rw [if_pos z1])
      rw [stW1, if_neg z0, if_pos z1, vset_oth (by decide), vset_at, nI_clamp (by omega)]
      omega
    · by_cases z2 : isDig (mByte M l q) = true
      · have hs := skD_le (σ := M) hb.2
        have hg : q + 1 ≤ skD M l q := fstP_gt (by omega) (by rw [if_pos z2])
        rw [stW1, if_neg z0, if_neg z1, if_pos z2]
        split
        · rw [vset_oth (by decide), vset_at, nI_clamp (by omega)]
          omega
        · rw [failW_oth (by decide) (by decide), vset_oth (by decide), vset_at, nI_clamp (by omega)]
          omega
      · rw [stW1, if_neg z0, if_neg z1, if_neg z2]
        split
        · rw [vset_at, nI_clamp (by omega)]
          omega
        · rw [failW_oth (by decide) (by decide), vset_at, nI_clamp (by omega)]
          omega
theorem mr_tx1 : mrS (tx1 b 65) b := by
  have h0 : mrS (tx0 b) b := by
    refine ⟨fun r z _ => tx0_row b z, fun i z1 z2 => ?_⟩
    rw [tx0, vset_oth (by omega), vset_oth (by omega), vset_oth (by omega), vset_oth (by omega), vset_oth (by omega), vset_oth (by omega), vset_oth (by omega), vset_oth (by omega)]
  refine mrS.tr (b := tx0 b) ⟨fun r _ z => vrow_ne z, fun i _ _ => by rw [tx1_75]⟩ h0
theorem pr_ra0 : prS (ra0 a) a := fun r z1 z2 z3 => by
  rw [ra0, vset_ne z1, vset_ne z1, vset_ne z1, vset_ne z1, vset_ne z1, clrW, vrow_ne (by omega), vrow_ne (by omega), vset_ne (by omega), vset_ne (by omega), vset_ne (by omega), vset_ne z2]
/-- a text with a fault leaves all as it was, but for the tape, the fault -/
theorem Rel.tbad {S W : vW} {c : Int32} (h : Rel a b n m K k l) (hS : prS S a) (hW : mrS W b) : Rel (vset (vset S 2 1 (nI 0)) 0 8 c) (vset (vset W 75 10 (nI 0)) 75 11 c) n m K k 0 := by
  obtain ⟨h1, h2, h3, h4, h5, h6⟩ := h
  have e : ∀ r, r ≠ 0 → r ≠ 1 → r ≠ 2 → ¬ (10 ≤ r ∧ r ≤ 20) → (vset (vset S 2 1 (nI 0)) 0 8 c) r = a r := fun r z0 z1 z2 z3 => by rw [vset_ne z0, vset_ne z2, hS r z1 z2 z3]
  have e0 : ∀ i, i ≠ 8 → (vset (vset S 2 1 (nI 0)) 0 8 c) 0 i = a 0 i := fun i z => by rw [vset_oth z, vset_ne (by decide), hS 0 (by omega) (by omega) (by omega)]
  have r : ∀ r, r ≠ 75 → r ≠ 77 → (vset (vset W 75 10 (nI 0)) 75 11 c) r = b r := fun r z1 z2 => by rw [vset_ne z1, vset_ne z1, hW.1 r z1 z2]
  have f : ∀ i, i ≠ 10 → i ≠ 11 → ¬ (3 ≤ i ∧ i ≤ 8) → ¬ (12 ≤ i ∧ i ≤ 17) → (vset (vset W 75 10 (nI 0)) 75 11 c) 75 i = b 75 i := fun i z1 z2 z3 z4 => by rw [vset_oth z2, vset_oth z1, hW.2 i z3 z4]
  refine ⟨h1.mv (fun r _ _ => e r (by omega) (by omega) (by omega) (by omega)) (fun i _ => by rw [r 76 (by decide) (by decide)]) (f 1 (by decide) (by decide) (by omega) (by omega)) (f 20 (by decide) (by decide) (by omega) (by omega)), h2.mv (fun r _ _ => e r (by omega) (by omega) (by omega) (by omega)) (f 25 (by decide) (by decide) (by omega) (by omega)) (r 82 (by decide) (by decide)), h3.mv (fun r _ _ => e r (by omega) (by omega) (by omega) (by omega)) (e 9 (by omega) (by omega) (by omega) (by omega)) (r 84 (by decide) (by decide)) (fun i _ _ => by rw [r 76 (by decide) (by decide)]), ⟨by rw [vset_ne (by decide), vset_at], by omega, by rw [vset_oth (by decide), vset_at], fun j hj => by omega⟩, h5.mv (fun r _ _ => e r (by omega) (by omega) (by omega) (by omega)) (r 85 (by decide) (by decide)) (r 86 (by decide) (by decide)) (r 87 (by decide) (by decide)), ⟨by rw [vset_at, vset_at], by rw [e0 9 (by decide), f 31 (by decide) (by decide) (by omega) (by omega)]; exact h6.2.1, ?_, ?_⟩⟩
  · unfold cutOK
    rw [r 79 (by decide) (by decide)]
    exact h6.2.2.1
  · rw [r 80 (by decide) (by decide)]
    exact h6.2.2.2
/-- a text without one: a new town -/
theorem Rel.tgood {S W : vW} {n' m' K' : Nat} (h : Rel a b n m K k l) (hS : prS S a) (hW : mrS W b) (hX : TX S W n' m' K') (hok : ¬ missB S 10 m' K' = true) (h3 : S 1 3 = 0) (h12 : W 75 12 = 0) : Rel (ptK S 2) (vset (vset (vset (vset (txP (vset (vset W 75 10 (nI 0)) 75 11 (W 75 12)) 65) 75 1 (W 75 3)) 75 25 (nI 0)) 84 0 (nI 0)) 84 1 (nI 0)) n' m' K' 0 0 := by
  obtain ⟨h1, h2, h3', h4, h5, h6⟩ := h
  have eK : ptK S 2 = vset (vset (vset (becW (ptT S) 21 10) 4 3 (nI 0)) 9 0 (nI 0)) 9 1 (nI 0) := rfl
  have eT : ∀ r, r ≠ 0 → r ≠ 2 → (ptT S) r = S r := fun r z1 z2 => by rw [ptT, vset_ne z1, vset_ne z2]
  rw [eK]
  have e : ∀ r, r ≠ 0 → r ≠ 1 → r ≠ 2 → r ≠ 4 → r ≠ 9 → ¬ (10 ≤ r ∧ r ≤ 31) → (vset (vset (vset (becW (ptT S) 21 10) 4 3 (nI 0)) 9 0 (nI 0)) 9 1 (nI 0)) r = a r := fun r z0 z1 z2 z3 z4 z5 => by rw [vset_ne z4, vset_ne z4, vset_ne z3, becW_ne (by omega), eT r z0 z2, hS r z1 z2 (by omega)]
  have eb : ∀ r, r ≠ 4 → r ≠ 9 → (vset (vset (vset (becW (ptT S) 21 10) 4 3 (nI 0)) 9 0 (nI 0)) 9 1 (nI 0)) r = (becW (ptT S) 21 10) r := fun r z1 z2 => by rw [vset_ne z2, vset_ne z2, vset_ne z1]
  have e0 : ∀ i, (vset (vset (vset (becW (ptT S) 21 10) 4 3 (nI 0)) 9 0 (nI 0)) 9 1 (nI 0)) 0 i = if i = 8 then S 1 3 else a 0 i := fun i => by
    rw [eb 0 (by decide) (by decide), becW_ne (by omega), ptT, vset_row, vrow_at, vset_ne (by decide), hS 0 (by omega) (by omega) (by omega)]
    rfl
  have e4 : (vset (vset (vset (becW (ptT S) 21 10) 4 3 (nI 0)) 9 0 (nI 0)) 9 1 (nI 0)) 4 3 = nI 0 := by rw [vset_ne (by decide), vset_ne (by decide), vset_at]
  have e9 : ∀ i, i < 2 → (vset (vset (vset (becW (ptT S) 21 10) 4 3 (nI 0)) 9 0 (nI 0)) 9 1 (nI 0)) 9 i = nI 0 := fun i hi => by
    rcases (show i = 0 ∨ i = 1 by omega) with rfl | rfl
    · rw [vset_oth (by decide), vset_at]
    · rw [vset_at]
  have e2 : (vset (vset (vset (becW (ptT S) 21 10) 4 3 (nI 0)) 9 0 (nI 0)) 9 1 (nI 0)) 2 1 = nI 0 := by rw [eb 2 (by decide) (by decide), becW_ne (by omega), ptT, vset_ne (by decide), vset_at]
  generalize hN : vset (vset (vset (becW (ptT S) 21 10) 4 3 (nI 0)) 9 0 (nI 0)) 9 1 (nI 0) = N at *
  -- the model's
  have tP : ∀ r, r ≠ 76 → (txP (vset (vset W 75 10 (nI 0)) 75 11 (W 75 12)) 65) r = (vset (vset W 75 10 (nI 0)) 75 11 (W 75 12)) r := fun r z => by rw [txP, vrow_ne z]
  have r : ∀ r, r ≠ 75 → r ≠ 76 → r ≠ 77 → r ≠ 84 → (vset (vset (vset (vset (txP (vset (vset W 75 10 (nI 0)) 75 11 (W 75 12)) 65) 75 1 (W 75 3)) 75 25 (nI 0)) 84 0 (nI 0)) 84 1 (nI 0)) r = b r := fun r z1 z2 z3 z4 => by rw [vset_ne z4, vset_ne z4, vset_ne z1, vset_ne z1, tP r z2, vset_ne z1, vset_ne z1, hW.1 r z1 z3]
  have f : ∀ i, (vset (vset (vset (vset (txP (vset (vset W 75 10 (nI 0)) 75 11 (W 75 12)) 65) 75 1 (W 75 3)) 75 25 (nI 0)) 84 0 (nI 0)) 84 1 (nI 0)) 75 i = if i = 25 then nI 0 else if i = 1 then W 75 3 else if i = 11 then W 75 12 else if i = 10 then nI 0 else W 75 i := fun i => by
    rw [vset_ne (by decide), vset_ne (by decide), vset_row, vrow_at, vset_row, vrow_at, tP 75 (by decide), vset_row, vrow_at, vset_row, vrow_at]
    rfl
  have c : ∀ i, i < 65 → (vset (vset (vset (vset (txP (vset (vset W 75 10 (nI 0)) 75 11 (W 75 12)) 65) 75 1 (W 75 3)) 75 25 (nI 0)) 84 0 (nI 0)) 84 1 (nI 0)) 76 i = W 77 i := fun i hi => by
    rw [vset_ne (by decide), vset_ne (by decide), vset_ne (by decide), vset_ne (by decide), txP, vrow_at, if_pos hi, vset_ne (by decide), vset_ne (by decide)]
  have k84 : ∀ i, i < 2 → (vset (vset (vset (vset (txP (vset (vset W 75 10 (nI 0)) 75 11 (W 75 12)) 65) 75 1 (W 75 3)) 75 25 (nI 0)) 84 0 (nI 0)) 84 1 (nI 0)) 84 i = nI 0 := fun i hi => by
    rcases (show i = 0 ∨ i = 1 by omega) with rfl | rfl
    · rw [vset_oth (by decide), vset_at]
    · rw [vset_at]
  generalize vset (vset (vset (vset (txP (vset (vset W 75 10 (nI 0)) 75 11 (W 75 12)) 65) 75 1 (W 75 3)) 75 25 (nI 0)) 84 0 (nI 0)) 84 1 (nI 0) = T at *
  have w : ∀ i, ¬ (3 ≤ i ∧ i ≤ 8) → ¬ (12 ≤ i ∧ i ≤ 17) → W 75 i = b 75 i := hW.2
  have hTP : TP S (T 76) 10 0 n' m' K' := hX.town hok c
  have hTP2 : TP (becW (ptT S) 21 10) (T 76) 21 0 n' m' K' := (hTP.mv0 (a' := ptT S) (fun r q1 q2 => eT r (by omega) (by omega)) (fun _ _ _ => rfl)).copy (by omega) (fun _ _ => rfl)
  refine ⟨⟨hTP2.mv0 (fun r q1 q2 => eb r (by omega) (by omega)) (fun _ _ _ => rfl), ?_, ?_⟩, ⟨e4, by omega, ?_, fun i hi => by omega⟩, fun i hi => ⟨by rw [e9 i hi, k84 i hi], Or.inl (k84 i hi)⟩, ⟨e2, by omega, ?_, fun j hj => by omega⟩, h5.mv (fun r _ _ => e r (by omega) (by omega) (by omega) (by omega) (by omega) (by omega)) (r 85 (by decide) (by decide) (by decide) (by decide)) (r 86 (by decide) (by decide) (by decide) (by decide)) (r 87 (by decide) (by decide) (by decide) (by decide)), ⟨?_, ?_, ?_, ?_⟩⟩
  · rw [f, if_neg (by decide), if_pos rfl]
    exact hX.1.1.2.2
  · rw [f, if_neg (by decide), if_neg (by decide), if_neg (by decide), if_neg (by decide), w 20 (by omega) (by omega)]
    exact h1.2.2
  · rw [f, if_pos rfl]
  · rw [f, if_neg (by decide), if_neg (by decide), if_neg (by decide), if_pos rfl]
  · rw [e0, if_pos rfl, f, if_neg (by decide), if_neg (by decide), if_pos rfl, h3, h12]
  · rw [e0, if_neg (by decide), f, if_neg (by decide), if_neg (by decide), if_neg (by decide), if_neg (by decide), w 31 (by omega) (by omega)]
    exact h6.2.1
  · unfold cutOK
    rw [r 79 (by decide) (by decide) (by decide) (by decide)]
    exact h6.2.2.1
  · rw [r 80 (by decide) (by decide) (by decide) (by decide)]
    exact h6.2.2.2
theorem text_eq (h : Rel a b n m K k l) : ptR (raW a) = (mText b).1 ∧ ∃ n' m' K' k' l', Rel (ptW (raW a)) (mText b).2 n' m' K' k' l' := by
  have h4 := h.2.2.2.1
  obtain ⟨o1, o2, o3⟩ := text_0 h4
  have hN : NMc (stp (tx1 b 65)) := by
    have h6 := h.2.2.2.2.2
    exact (NMc.mv (M := b) ⟨h6.2.2.1, h6.2.2.2⟩ mr_tx1).mv (mr_sc stp_sc)
  have hstart : FF (ntW (ra0 a)) (stp (tx1 b 65)) l ∨ (OKT (ntW (ra0 a)) (stp (tx1 b 65)) l ∧ (∃ n m K, TX (ntW (ra0 a)) (stp (tx1 b 65)) n m K) ∧ (ntW (ra0 a)) 1 2 = nI 0 ∧ (¬ (stp (tx1 b 65)) 75 16 = nI 0 → 162 ≤ ((stp (tx1 b 65)) 75 14).toNatClampNeg + 161)) := by
    rcases L_nt o1 with hF | hO
    · exact Or.inl hF
    · refine Or.inr ⟨hO, ⟨0, 0, 0, o2.sc ntW_sc stp_sc⟩, (ntW_sc.2.1 2 (by decide) (by decide)).trans o3, fun z => ?_⟩
      have := stp_pos (tx1_ok h4.2.2.1 h4.2.1) o1.2.2.1 hO.2.2.1 z
      omega
  obtain ⟨q1, q2⟩ := text_loop 161 (ra0 a) (stp (tx1 b 65)) 0 (by omega) hN hstart
  have hW : mrS (txG 162 (stp (tx1 b 65)) 0).1 b := q1.tr ((mr_sc stp_sc).tr mr_tx1)
  have hS : prS (raG 161 (ra0 a)) a := (pr_raG 161 _).tr pr_ra0
  have eM : mText b = txE (txG 162 (stp (tx1 b 65)) 0).1 (txG 162 (stp (tx1 b 65)) 0).2 := rfl
  have q2 : FF (raG 161 (ra0 a)) (txG 162 (stp (tx1 b 65)) 0).1 l ∨ (OKT (raG 161 (ra0 a)) (txG 162 (stp (tx1 b 65)) 0).1 l ∧ (raG 161 (ra0 a)) 2 2 = nI 4 ∧ (∃ n m K, TX (raG 161 (ra0 a)) (txG 162 (stp (tx1 b 65)) 0).1 n m K) ∧ (raG 161 (ra0 a)) 1 2 = nI (txG 162 (stp (tx1 b 65)) 0).2) := q2
  rw [eM, raW]
  generalize txG 162 (stp (tx1 b 65)) 0 = Z at hW q2
  generalize raG 161 (ra0 a) = S at hS q2
  obtain ⟨W, c⟩ := Z
  -- a fault, told by both
  have bad : ∀ (S' W' : vW), prS S' a → mrS W' b → ¬ S' 1 3 = 0 → ¬ W' 75 12 ≤ 0 → S' 1 3 = W' 75 12 → S' 1 4 = W' 75 13 → raE S = S' → txB W = W' → ptR (raE S) = (txE W c).1 ∧ ∃ n' m' K' k' l', Rel (ptW (raE S)) (txE W c).2 n' m' K' k' l' := by
    intro S' W' z1 z2 z3 z4 z5 z6 z7 z8
    rw [z7, txE, z8, if_neg z4, ptR, if_neg z3, ptW, if_neg z3, z6]
    refine ⟨rfl, n, m, K, k, 0, ?_⟩
    show Rel (ptT S') (txC W) n m K k 0
    rw [txC, z8, ptT, z5]
    exact h.tbad z1 z2
  rcases q2 with hF | ⟨hO, hE, ⟨n', m', K', hX⟩, hc⟩
  · obtain ⟨hT, cc, c1, c2, c3, c4, c5⟩ := hF
    have hF : FF S W l := ⟨hT, cc, c1, c2, c3, c4, c5⟩
    exact bad S W hS hW hF.pne hF.nle (c3.trans c4.symm) c5 (by rw [raE, if_neg hF.pne]) (by rw [txB, if_neg (fun z => hF.nle (le0 z))])
  · have p0 := hO.2.1
    have m0 : W 75 12 = 0 := hO.2.2.1
    have em : mQ S = m' := by rw [mQ, hX.1.2.1.1, nI_clamp (by have := hX.1.2.1.2.1; omega)]
    have eK : KQ S = K' := by rw [KQ, hX.1.2.2.1, nI_clamp (by have := hX.1.2.2.2.1; omega)]
    have hms := miss_eq hX
    by_cases hm : missB S 10 m' K' = true
    · have eR : raE S = vset (vset S 1 3 (nI 6)) 1 4 (S 2 1) := by rw [raE, if_pos p0, em, eK, if_pos hm]
      have eB : txB W = failW W (nI 6) := by
        rw [txB, if_pos m0]
        rcases hms.mp hm with z | z
        · rw [if_pos z]
        · by_cases y : W 75 3 ≤ W 75 7
          · rw [if_pos y]
          · rw [if_neg y, if_neg z]
      have eF : failW W (nI 6) = vset (vset W 75 12 (nI 6)) 75 13 (W 75 15) := by rw [failW, if_pos m0]
      obtain ⟨hT, _, _, q, e, _, _, _, g15, _, _, ht⟩ := hO
      have hql : q = l := by
        rcases ht with ⟨_, _, z⟩ | ⟨z, _⟩ | ⟨z, _⟩ | ⟨z, _⟩
        · exact z
        · rw [hE] at z; exact absurd z (by decide)
        · rw [hE] at z; exact absurd z (by decide)
        · rw [hE] at z; exact absurd z (by decide)
      refine bad _ _ ((pr_set (by omega)).tr ((pr_set (by omega)).tr hS)) ((mr_sc (scT_fail (scT_refl W))).tr hW) ?_ ?_ ?_ ?_ eR eB
      · rw [vset_oth (by decide), vset_at]
        decide
      · rw [eF, vset_oth (by decide), vset_at]
        decide
      · rw [vset_oth (by decide), vset_at, eF, vset_oth (by decide), vset_at]
      · have g15' : W 75 15 = nI q := g15
        rw [vset_at, eF, vset_at, hT.1, g15', hql]
    · have hno := fun z => hm (hms.mpr z)
      have eR : raE S = S := by rw [raE, if_pos p0, em, eK, if_neg hm]
      have z1 : ¬ W 75 3 ≤ W 75 7 := fun z => hno (Or.inl z)
      have z2 : W 75 8 < W 77 25 := Classical.byContradiction (fun z => hno (Or.inr z))
      have eB : txB W = W := by rw [txB, if_pos m0, if_neg z1, if_pos z2]
      rw [eR, txE, eB, if_pos (le0 m0), ptR, if_pos p0, ptW, if_pos p0]
      refine ⟨hc, n', m', K', 0, 0, ?_⟩
      show Rel (ptK S 2) (txD W) n' m' K' 0 0
      rw [txD, txC, eB]
      exact h.tgood hS hW hX hm p0 m0
end X3
