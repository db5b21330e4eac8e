/-! The pure part: text() -/
section X2
variable {P M a b : vW} {l n m K k : Nat}
theorem tIV_of (h : OKT P M l) (hX : TX P M n m K) (hN : NMc M) : tIV M := by
  obtain ⟨hT, p0, m0, q, e, h4, h5, h6, h7, h8, h9, ht⟩ := h
  exact ⟨⟨l, q, e, hT.2.1, h4, h5, hT.2.2.1, h7, h9⟩, hN.1, ⟨n, hX.1.1.2.1, hX.1.1.2.2⟩, ⟨m, hX.1.2.1.2.1, hX.1.2.1.2.2⟩, K, hX.1.2.2.2.1, hX.1.2.2.2.2⟩
theorem NMc.mv {M' : vW} (h : NMc M) (hm : mrS M' M) : NMc M' := by
  unfold NMc cutOK
  rw [hm.1 79 (by decide) (by decide), hm.1 80 (by decide) (by decide)]
  exact h
theorem lnQ_eq (hX : TX P M n m K) : lnQ M = lnZ M (nmQ M) n m K := by
  have n5 := hX.1.1.2.1
  have m9 := hX.1.2.1.2.1
  have K6 := hX.1.2.2.2.1
  rw [lnQ, hX.1.1.2.2, hX.1.2.1.2.2, hX.1.2.2.2.2, nI_clamp (by omega), nI_clamp (by omega), nI_clamp (by omega), lnW]
/-- what the loop comes to -/
theorem text_loop : ∀ (j : Nat) (s W : vW) (c : Nat), 1 ≤ j → NMc W → (FF (ntW s) W l ∨ (OKT (ntW s) W l ∧ (∃ n m K, TX (ntW s) W n m K) ∧ (ntW s) 1 2 = nI c ∧ (¬ W 75 16 = nI 0 → 162 ≤ (W 75 14).toNatClampNeg + j))) → mrS (txG (j + 1) W c).1 W ∧ (FF (raG j s) (txG (j + 1) W c).1 l ∨ (OKT (raG j s) (txG (j + 1) W c).1 l ∧ (raG j s) 2 2 = nI 4 ∧ (∃ n m K, TX (raG j s) (txG (j + 1) W c).1 n m K) ∧ (raG j s) 1 2 = nI (txG (j + 1) W c).2))
  | 0, s, W, c, hj, _, _ => by omega
  | j + 1, s, W, c, hj, hN, h => by
    rcases h with hF | ⟨hO, ⟨n, m, K, hX⟩, h2, hfu⟩
    · have e1 : raG (j + 1) s = ntW s := by rw [raG, ntB, if_neg hF.pne, if_neg Bool.false_ne_true]
      have e2 : txG (j + 1 + 1) W c = (W, c) := by rw [txG, if_neg (fun z => hF.nle (le0 z))]
      rw [e1, e2]
      exact ⟨mrS_refl W, Or.inl hF⟩
    · have p0 := hO.2.1
      have m0 := hO.2.2.1
      have eB : ntB s = true := by rw [ntB, if_pos p0]
      by_cases hE : (ntW s) 2 2 = nI 4
      · have h16 : W 75 16 = nI 0 := by
          obtain ⟨_, _, _, q, e, _, _, _, _, _, _, ht⟩ := hO
          rcases ht with ⟨_, z, _⟩ | ⟨z, _⟩ | ⟨z, _⟩ | ⟨z, _⟩
          · exact z
          · rw [hE] at z; exact absurd z (by decide)
          · rw [hE] at z; exact absurd z (by decide)
          · rw [hE] at z; exact absurd z (by decide)
        have e1 : raG (j + 1) s = ntW s := by rw [raG, if_pos eB, if_pos hE]
        have e2 : txG (j + 1 + 1) W c = (W, c) := by
          rw [txG, if_pos m0, h16]
          exact if_pos rfl
        rw [e1, e2]
        exact ⟨mrS_refl W, Or.inr ⟨hO, hE, ⟨n, m, K, hX⟩, h2⟩⟩
      · have h16 : ¬ W 75 16 = nI 0 := fun y => by
          obtain ⟨_, _, _, q, e, _, _, _, _, _, _, ht⟩ := hO
          rcases ht with ⟨z, _⟩ | ⟨_, z⟩ | ⟨_, z, _⟩ | ⟨_, z⟩
          · exact hE z
          · rw [y] at z; exact absurd z (by decide)
          · rw [y] at z; exact absurd z (by decide)
          · rw [y] at z; exact absurd z (by decide)
        have hfuel := hfu h16
        have hle : (W 75 14).toNatClampNeg ≤ 160 := by
          obtain ⟨hT, _, _, q, e, _, q5, _, _, _, q9, _⟩ := hO
          have := hT.2.1
          rw [q9, nI_clamp (by omega)]
          omega
        have e1 : raG (j + 1) s = raG j (lnP (ntW s)) := by rw [raG, if_pos eB, if_neg hE]
        have e2 : txG (j + 1 + 1) W c = txG (j + 1) (lnQ W) (c + 1) := by
          rw [txG, if_pos m0]
          exact if_neg h16
        have eQ := lnQ_eq hX
        have hmr : mrS (lnQ W) W := by
          rw [eQ]
          exact mr_lnZ
        have hgo := (tIV_lnQ (tIV_of hO hX hN) m0).2
        have h12 : ∀ r, r ≠ 1 → (lnP (ntW s)) r = (lnP1 (ntW s)) r := fun r z => by rw [lnP, vset_ne z]
        have hf1 : ∀ i, i ≠ 2 → (lnP (ntW s)) 1 i = (lnP1 (ntW s)) 1 i := fun i z => by rw [lnP, vset_oth z]
        have hf2 : (lnP (ntW s)) 1 2 = (lnP1 (ntW s)) 1 2 + nI 1 := by rw [lnP, vset_at]
        have hnext : FF (ntW (lnP (ntW s))) (lnQ W) l ∨ (OKT (ntW (lnP (ntW s))) (lnQ W) l ∧ (∃ n m K, TX (ntW (lnP (ntW s))) (lnQ W) n m K) ∧ (ntW (lnP (ntW s))) 1 2 = nI (c + 1) ∧ (¬ (lnQ W) 75 16 = nI 0 → 162 ≤ ((lnQ W) 75 14).toNatClampNeg + j)) := by
          rcases line_any hO hX hN with hF | ⟨Y, n', m', K', y1, y2, y3, y4⟩
          · rw [← eQ] at hF
            refine Or.inl (hF.keep (pk_nt.tr ?_) (mkS_refl _))
            exact pk_of (hf1 3 (by decide)) (hf1 4 (by decide)) (by rw [h12 2 (by decide)]) (h12 3 (by decide))
          · rw [← eQ] at y1
            have y2' : OK0 (lnP (ntW s)) Y l := by
              obtain ⟨z1, z2, z3, p, z4, z5, z6⟩ := y2
              exact ⟨z1.mv (by rw [h12 2 (by decide)]) (h12 3 (by decide)) rfl rfl, (hf1 3 (by decide)).trans z2, z3, p, z4, by rw [h12 2 (by decide)]; exact z5, z6⟩
            have y3' : TX (lnP (ntW s)) Y n' m' K' := y3.mv (fun r _ _ => h12 r (by omega)) (hf1 5 (by decide)) (hf1 6 (by decide)) rfl (fun _ _ _ => rfl)
            rcases L_nt y2' with hF | h3
            · rw [y1]
              exact Or.inl hF
            · rw [y1]
              refine Or.inr ⟨h3, ⟨n', m', K', y3'.sc ntW_sc stp_sc⟩, ?_, fun _ => ?_⟩
              · rw [ntW_sc.2.1 2 (by decide) (by decide), hf2, y4, h2, nI_add]
              · have := hgo (by rw [y1]; exact h3.2.2.1)
                rw [y1] at this
                omega
        obtain ⟨q1, q2⟩ := text_loop j (lnP (ntW s)) (lnQ W) (c + 1) (by omega) (hN.mv hmr) hnext
        rw [e1, e2]
        exact ⟨q1.tr hmr, q2⟩
/-- the names that are missing: both sides -/
theorem miss_eq (hX : TX P M n m K) : missB P 10 m K = true ↔ (M 75 3 ≤ M 75 7 ∨ ¬ M 75 8 < M 77 25) := by
  obtain ⟨⟨x1, x2, x3⟩, ⟨y1, y2⟩, ⟨d1, d2, d3, d4⟩, w1, ⟨r1, r2⟩, ⟨a1, a2, a3⟩, u1, u2⟩ := hX
  have n5 := x1.2.1
  have m9 := x2.2.1
  rw [Int32.not_lt, x1.2.2, x2.2.2, u1 n (by omega), u2 m (by omega), missB]
  have hO : fstP (missO P 10) (9 - m) m < 9 ↔ ∃ w, m ≤ w ∧ w < 9 ∧ ¬ P 17 w = -1 := by
    have hm : ∀ w, missO P 10 w = true ↔ ¬ P 17 w = -1 := fun w => by
      rw [missO]
      by_cases z : P (10 + 7) w = -1
      · rw [if_pos z]
        exact ⟨fun q => absurd q Bool.false_ne_true, fun q => absurd z q⟩
      · rw [if_neg z]
        exact ⟨fun _ => z, fun _ => rfl⟩
    constructor
    · intro z
      exact ⟨_, fstP_ge _ _ _, z, (hm _).mp (fstP_hit (9 - m) m (by omega))⟩
    · rintro ⟨w, z1, z2, z3⟩
      have := fstP_min (9 - m) m w z1 (by omega) ((hm w).mpr z3)
      omega
  have hA : fstP (missA P 10) K 0 < K ↔ (∃ i, i < K ∧ ∃ p, n ≤ p ∧ p < 5 ∧ P 19 i = nI p) ∨ ∃ i, i < K ∧ ∃ w, m ≤ w ∧ w < 9 ∧ P 20 i = nI w := by
    rw [fst_all]
    have hm : ∀ i, i < K → (missA P 10 i = true ↔ (∃ p, n ≤ p ∧ p < 5 ∧ P 19 i = nI p) ∨ ∃ w, m ≤ w ∧ w < 9 ∧ P 20 i = nI w) := fun i hi => by
      obtain ⟨_, _, ⟨p, hp, e1⟩, w, hw, e2⟩ := a1 i hi
      have q1 : (∃ p, n ≤ p ∧ p < 5 ∧ P 19 i = nI p) ↔ n ≤ p := ⟨fun ⟨p', z1, z2, z3⟩ => by
        have := nI_eqN (by omega) (by omega) (z3.symm.trans e1)
        omega, fun z => ⟨p, z, hp, e1⟩⟩
      have q2 : (∃ w, m ≤ w ∧ w < 9 ∧ P 20 i = nI w) ↔ m ≤ w := ⟨fun ⟨w', z1, z2, z3⟩ => by
        have := nI_eqN (by omega) (by omega) (z3.symm.trans e2)
        omega, fun z => ⟨w, z, hw, e2⟩⟩
      rw [q1, q2, missA, x1.1, x2.1]
      show (if oneB (nI n) (P 19 i) = true then (if wallB (nI m) (P 20 i) = true then false else true) else true) = true ↔ _
      rw [e1, e2, oneB_inZ n5, wallB_inZ m9, inZ_nI (by omega), inZ_nI (by omega)]
      by_cases z1 : p < n
      · rw [if_pos (decide_eq_true z1)]
        by_cases z2 : w < m
        · rw [if_pos (decide_eq_true z2)]
          exact ⟨fun q => absurd q Bool.false_ne_true, fun q => by omega⟩
        · rw [if_neg (by rw [decide_eq_false z2]; exact Bool.false_ne_true)]
          exact ⟨fun _ => Or.inr (by omega), fun _ => rfl⟩
      · rw [if_neg (by rw [decide_eq_false z1]; exact Bool.false_ne_true)]
        exact ⟨fun _ => Or.inl (by omega), fun _ => rfl⟩
    constructor
    · rintro ⟨i, hi, z⟩
      rcases (hm i hi).mp z with q | q
      · exact Or.inl ⟨i, hi, q⟩
      · exact Or.inr ⟨i, hi, q⟩
    · rintro (⟨i, hi, q⟩ | ⟨i, hi, q⟩)
      · exact ⟨i, hi, (hm i hi).mpr (Or.inl q)⟩
      · exact ⟨i, hi, (hm i hi).mpr (Or.inr q)⟩
  by_cases z1 : fstP (missO P 10) (9 - m) m < 9
  · rw [if_pos z1]
    exact ⟨fun _ => Or.inr (Or.inl (hO.mp z1)), fun _ => rfl⟩
  · rw [if_neg z1]
    by_cases z2 : fstP (missA P 10) K 0 < K
    · rw [if_pos z2]
      refine ⟨fun _ => ?_, fun _ => rfl⟩
      rcases hA.mp z2 with q | q
      · exact Or.inl q
      · exact Or.inr (Or.inr q)
    · rw [if_neg z2]
      refine ⟨fun q => absurd q Bool.false_ne_true, fun q => ?_⟩
      rcases q with q | q | q
      · exact absurd (hA.mpr (Or.inl q)) z2
      · exact absurd (hO.mpr q) z1
      · exact absurd (hA.mpr (Or.inr q)) z2
/-- the town told is the town -/
theorem TX.town (hX : TX P M n m K) (hok : ¬ missB P 10 m K = true) {R : Nat → Int32} (hR : ∀ i, i < 65 → R i = M 77 i) : TP P R 10 0 n m K := by
  have hms := fun z => hok ((miss_eq hX).mpr z)
  obtain ⟨⟨x1, x2, x3⟩, ⟨y1, y2⟩, ⟨d1, d2, d3, d4⟩, w1, ⟨r1, r2⟩, ⟨a1, a2, a3⟩, u1, u2⟩ := hX
  have n5 := x1.2.1
  have m9 := x2.2.1
  have K6 := x3.2.1
  have h7 : ∀ i, i < K → ∀ p, n ≤ p → p < 5 → ¬ P 19 i = nI p := fun i hi p z1 z2 z3 => hms (Or.inl (by
    rw [x1.2.2]
    exact (u1 n (by omega)).mpr ⟨i, hi, p, z1, z2, z3⟩))
  have h8 : ¬ ((∃ w, m ≤ w ∧ w < 9 ∧ ¬ P 17 w = -1) ∨ ∃ i, i < K ∧ ∃ w, m ≤ w ∧ w < 9 ∧ P 20 i = nI w) := fun z => hms (Or.inr (by
    rw [Int32.not_lt, x2.2.2]
    exact (u2 m (by omega)).mpr z))
  have r : ∀ c i, c + i < 65 → R (0 + c + i) = M 77 (c + i) := fun c i hi => by rw [Nat.zero_add]; exact hR _ hi
  refine ⟨⟨x1.1, n5, x2.1, m9, x3.1, K6, by rw [hR 25 (by omega)]; exact x2.2.2, by rw [hR 52 (by omega)]; exact x3.2.2⟩, fun p hp => ?_, fun q hq => ?_, ⟨fun p hp => ?_, fun w hw => ?_, fun p w hp hw e => ?_⟩, fun w hw => ?_, fun w hw => ?_, fun i hi => ?_, fun i hi => ?_⟩
  · rw [r 5 p (by omega), r 10 p (by omega), Nat.zero_add, hR p (by omega)]
    exact y1 p hp
  · rw [r 10 q (by omega)]
    exact (y2 q hq).2
  · rw [r 15 p (by omega), r 20 p (by omega)]
    rcases d1 p hp with ⟨z1, z2⟩ | ⟨w, hw, z1, z2, z3⟩
    · exact Or.inl ⟨z1, z2, (y2 p (by omega)).1⟩
    · refine Or.inr (Or.inr ⟨w, ?_, z1, z2, (y2 p (by omega)).1⟩)
      rcases Nat.lt_or_ge w m with q | q
      · exact q
      · exact absurd (Or.inl ⟨w, q, hw, fun z => by rw [z3] at z; exact nI_nm1 (by omega) z⟩) h8
  · exact d3 w hw
  · rcases d1 p hp with ⟨z1, z2⟩ | ⟨w', hw', z1, z2, z3⟩
    · have e : P 14 p = nI w := e
      rw [z1] at e
      exact absurd e.symm (nI_nm1 (by omega))
    · have e : P 14 p = nI w := e
      have := nI_eqN (by omega) (by omega) (z1.symm.trans e)
      rw [← this]
      exact z3
  · rw [r 26 w (by omega), r 35 w (by omega)]
    exact ⟨(w1 w hw).1, (w1 w hw).2.1⟩
  · rw [r 26 w (by omega), r 35 w (by omega)]
    exact (w1 w hw).2.2
  · rw [r 44 i (by omega)]
    exact r1 i hi
  · rw [r 53 i (by omega), r 59 i (by omega)]
    obtain ⟨z1, z2, ⟨p, hp, e1⟩, w, hw, e2⟩ := a1 i hi
    refine ⟨z1, z2, ⟨p, ?_, e1⟩, w, ?_, e2⟩
    · rcases Nat.lt_or_ge p n with q | q
      · exact q
      · exact absurd e1 (h7 i hi p q hp)
    · rcases Nat.lt_or_ge w m with q | q
      · exact q
      · exact absurd (Or.inr ⟨i, hi, w, q, hw, e2⟩) h8
/-- where the reading begins -/
theorem text_0 (h : pR a b l) : OK0 (ra0 a) (tx1 b 65) l ∧ TX (ra0 a) (tx1 b 65) 0 0 0 ∧ (ra0 a) 1 2 = nI 0 := by
  have c0 : ∀ r, r ≠ 1 → (ra0 a) r = (clrW (vset a 2 5 (nI 0)) 10) r := fun r z => by rw [ra0, vset_ne z, vset_ne z, vset_ne z, vset_ne z, vset_ne z]
  have c1 : ∀ r, r ≠ 10 → r ≠ 17 → r ≠ 18 → (clrW (vset a 2 5 (nI 0)) 10) r = (vset a 2 5 (nI 0)) r := fun r z1 z2 z3 => by rw [clrW, vrow_ne z3, vrow_ne z2, vset_ne z1, vset_ne z1, vset_ne z1]
  have f2 : (ra0 a) 1 2 = nI 0 := by rw [ra0, vset_oth (by decide), vset_oth (by decide), vset_oth (by decide), vset_oth (by decide), vset_at]
  have f3 : (ra0 a) 1 3 = nI 0 := by rw [ra0, vset_oth (by decide), vset_oth (by decide), vset_oth (by decide), vset_at]
  have f5 : (ra0 a) 1 5 = nI 0 := by rw [ra0, vset_oth (by decide), vset_at]
  have f6 : (ra0 a) 1 6 = nI 0 := by rw [ra0, vset_at]
  have g2 : ∀ i, (ra0 a) 2 i = if i = 5 then nI 0 else a 2 i := fun i => by
    rw [c0 2 (by decide), c1 2 (by decide) (by decide) (by decide), vset_row, vrow_at]
    rfl
  have g3 : (ra0 a) 3 = a 3 := by rw [c0 3 (by decide), c1 3 (by decide) (by decide) (by decide), vset_ne (by decide)]
  have g10 : ∀ j, (ra0 a) 10 j = if j = 12 then nI 0 else if j = 11 then nI 0 else if j = 10 then nI 0 else a 10 j := fun j => by
    rw [c0 10 (by decide), clrW, vrow_ne (by decide), vrow_ne (by decide), vset_row, vrow_at, vset_row, vrow_at, vset_row, vrow_at, vset_ne (by decide)]
    rfl
  have g17 : ∀ j, j < 9 → (ra0 a) 17 j = -1 := fun j hj => by rw [c0 17 (by decide), clrW, vrow_ne (by decide), vrow_at, fillR, if_pos hj]
  have g18 : ∀ j, j < 8 → (ra0 a) 18 j = nI 0 := fun j hj => by rw [c0 18 (by decide), clrW, vrow_at, fillR, if_pos hj]
  have t75 : ∀ i, (tx1 b 65) 75 i = (tx0 b) 75 i := fun i => by rw [tx1_75]
  have t3 : (tx1 b 65) 75 3 = nI 0 := by rw [t75, tx0_3]
  have t4 : (tx1 b 65) 75 4 = nI 0 := by rw [t75, tx0, vset_oth (by decide), vset_oth (by decide), vset_oth (by decide), vset_oth (by decide), vset_at]
  have t5 : (tx1 b 65) 75 5 = nI 0 := by rw [t75, tx0, vset_oth (by decide), vset_oth (by decide), vset_oth (by decide), vset_at]
  have t6 : (tx1 b 65) 75 6 = nI 0 := by rw [t75, tx0, vset_oth (by decide), vset_oth (by decide), vset_at]
  have t7 : (tx1 b 65) 75 7 = -1 := by rw [t75, tx0, vset_oth (by decide), vset_at]
  have t8 : (tx1 b 65) 75 8 = -1 := by rw [t75, tx0, vset_at]
  have t10 : (tx1 b 65) 75 10 = b 75 10 := by rw [t75, tx0_10]
  have t12 : (tx1 b 65) 75 12 = nI 0 := by rw [t75, tx0_12]
  have t14 : (tx1 b 65) 75 14 = nI 0 := by rw [t75, tx0_14]
  have t78 : (tx1 b 65) 78 = b 78 := by rw [tx1, vrow_ne (by decide), tx0_row b (by decide)]
  have t77 : ∀ i, i < 65 → (tx1 b 65) 77 i = nI 0 := fun i hi => by rw [tx1, vrow_at, fillR, if_pos hi]
  have nm1 : ∀ c, ¬ nI c ≤ -1 ∨ 1000 ≤ c := fun c => by
    rcases Nat.lt_or_ge c 1000 with z | z
    · left
      rw [le_toInt, nI_toInt (by omega)]
      have h3 : ((-1 : Int32)).toInt = -1 := by decide
      omega
    · exact Or.inr z
  refine ⟨⟨⟨by rw [g2, if_neg (by decide)]; exact h.1, h.2.1, by rw [t10]; exact h.2.2.1, fun j hj => by rw [g3, t78]; exact h.2.2.2 j hj⟩, f3, t12, 0, Nat.zero_le l, by rw [g2, if_pos rfl], t14⟩, ?_, f2⟩
  refine ⟨⟨⟨by rw [g10, if_neg (by decide), if_neg (by decide), if_pos rfl], by omega, t3⟩, ⟨by rw [g10, if_neg (by decide), if_pos rfl], by omega, t77 25 (by omega)⟩, by rw [g10, if_pos rfl], by omega, t77 52 (by omega)⟩, ⟨fun p hp => by omega, fun p hp => ⟨t77 _ (by omega), 0, by omega, t77 _ (by omega)⟩⟩, ⟨fun p hp => by omega, fun p _ hp => t77 _ (by omega), fun w hw => Or.inl (g17 w hw), fun w hw => ?_⟩, fun w hw => by omega, ⟨fun r hr => ⟨(g18 r hr).trans (t77 _ (by omega)).symm, 0, by omega, t77 _ (by omega)⟩, f5.trans t5.symm⟩, ⟨fun i hi => by omega, f6.trans t6.symm, Or.inl ⟨f6, rfl⟩⟩, fun c hc => ?_, fun c hc => ?_⟩
  · rw [t4, bt_nI0]
    exact ⟨fun z => absurd z Bool.false_ne_true, fun z => absurd (g17 w hw) z⟩
  · rw [t7]
    refine ⟨fun z => ?_, fun ⟨i, hi, _⟩ => by omega⟩
    rcases nm1 c with q | q
    · exact absurd z q
    · omega
  · rw [t8]
    refine ⟨fun z => ?_, fun z => ?_⟩
    · rcases nm1 c with q | q
      · exact absurd z q
      · omega
    · rcases z with ⟨w, _, hw, q⟩ | ⟨i, hi, _⟩
      · exact absurd (g17 w hw) q
      · omega
end X2
