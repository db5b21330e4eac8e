/-! The pure part: the tape's bytes, what is seen, images, sheets -/
section C3
variable {a b : vW} {n m K k l : Nat}
theorem byte_128 : ∀ j, j < 128 → vp_nar .byte (nI j).toInt8.toInt32 = nI j := by decide +kernel
theorem feed_eq (h : Rel a b n m K k l) {c : Int32} : feedR l c = mFeedR l c ∧ ∃ l', Rel (feedW a l c) (mFeedW b l c) n m K k l' := by
  obtain ⟨h1, h2, h3, h4, h5, h6⟩ := h
  have l6 := h4.2.1
  rw [feedR, feedW, mFeedR, mFeedW, upToB_inZ (by omega)]
  by_cases q : inZ c 128 = true
  · obtain ⟨j, hj, rfl⟩ := inZ_ex q (by omega)
    rw [if_pos q, if_pos q, if_pos q, if_pos q]
    by_cases hl : l < 160
    · have ne : ¬ nI l = nI 160 := fun z => by
        have := nI_eqN (by omega) (by omega) z
        omega
      rw [if_pos hl, if_pos hl, if_neg ne, if_neg ne, appW, byte_128 j hj]
      have e : ∀ r, r ≠ 2 → r ≠ 3 → (vset (vset a 3 l (nI j)) 2 1 (nI (l + 1))) r = a r := fun r q1 q2 => by rw [vset_ne q1, vset_ne q2]
      have f : ∀ i, i ≠ 10 → (vset (vset b 78 l (nI j)) 75 10 (nI (l + 1))) 75 i = b 75 i := fun i hi => by rw [vset_oth hi, vset_ne (by decide)]
      have r : ∀ r, r ≠ 75 → r ≠ 78 → (vset (vset b 78 l (nI j)) 75 10 (nI (l + 1))) r = b r := fun r q1 q2 => by rw [vset_ne q1, vset_ne q2]
      have e3 : ∀ x, (vset (vset a 3 l (nI j)) 2 1 (nI (l + 1))) 3 x = if x = l then nI j else a 3 x := fun x => by
        rw [vset_ne (by decide), vset_row, vrow_at]
        rfl
      have r78 : ∀ x, (vset (vset b 78 l (nI j)) 75 10 (nI (l + 1))) 78 x = if x = l then nI j else b 78 x := fun x => by
        rw [vset_ne (by decide), vset_row, vrow_at]
        rfl
      refine ⟨rfl, l + 1, h1.mv (fun r _ _ => e r (by omega) (by omega)) (fun i _ => by rw [r 76 (by decide) (by decide)]) (f 1 (by decide)) (f 20 (by decide)), h2.mv (fun r _ _ => by rcases (show r = 4 ∨ r = 5 ∨ r = 6 ∨ r = 7 by omega) with rfl | rfl | rfl | rfl <;> exact e _ (by decide) (by decide)) (f 25 (by decide)) (r 82 (by decide) (by decide)), h3.mv (fun r _ _ => e r (by omega) (by omega)) (e 9 (by decide) (by decide)) (r 84 (by decide) (by decide)) (fun i _ _ => by rw [r 76 (by decide) (by decide)]), ⟨vset_at, by omega, vset_at, fun i hi => ?_⟩, h5.mv (fun r _ _ => e r (by omega) (by omega)) (r 85 (by decide) (by decide)) (r 86 (by decide) (by decide)) (r 87 (by decide) (by decide)), h6.mv (by rw [e 0 (by decide) (by decide)]) (by rw [e 0 (by decide) (by decide)]) (f 11 (by decide)) (f 31 (by decide)) (r 79 (by decide) (by decide)) (r 80 (by decide) (by decide))⟩
      rw [e3, r78]
      by_cases ei : i = l
      · rw [if_pos ei, if_pos ei]
        exact ⟨rfl, j, hj, rfl⟩
      · rw [if_neg ei, if_neg ei]
        exact h4.2.2.2 i (by omega)
    · have e9 : nI l = nI 160 := by rw [show l = 160 by omega]
      rw [if_neg hl, if_neg hl, if_pos e9, if_pos e9]
      exact ⟨rfl, l, h1, h2, h3, h4, h5, h6⟩
  · rw [if_neg q, if_neg q, if_neg q, if_neg q]
    exact ⟨rfl, l, h1, h2, h3, h4, h5, h6⟩
theorem end_eq (h : Rel a b n m K k l) {c : Int32} : endR a c = (if inZ c (l + 1) = true then nI l else -1) ∧ ∃ l', Rel (endW a c) (if inZ c (l + 1) = true then vset b 75 10 c else b) n m K k l' := by
  obtain ⟨h1, h2, h3, h4, h5, h6⟩ := h
  have l6 := h4.2.1
  rw [endR, endW, h4.1, upToB_inZ (by omega)]
  by_cases q : inZ c (l + 1) = true
  · obtain ⟨j, hj, rfl⟩ := inZ_ex q (by omega)
    rw [if_pos q, if_pos q, if_pos q]
    have e : ∀ r, r ≠ 2 → (vset a 2 1 (nI j)) r = a r := fun r q1 => vset_ne q1
    have f : ∀ i, i ≠ 10 → (vset b 75 10 (nI j)) 75 i = b 75 i := fun i hi => vset_oth hi
    have r : ∀ r, r ≠ 75 → (vset b 75 10 (nI j)) r = b r := fun r q1 => vset_ne q1
    refine ⟨rfl, j, h1.mv (fun r _ _ => e r (by omega)) (fun i _ => by rw [r 76 (by decide)]) (f 1 (by decide)) (f 20 (by decide)), h2.mv (fun r _ _ => e r (by omega)) (f 25 (by decide)) (r 82 (by decide)), h3.mv (fun r _ _ => e r (by omega)) (e 9 (by decide)) (r 84 (by decide)) (fun i _ _ => by rw [r 76 (by decide)]), ⟨vset_at, by omega, vset_at, fun i hi => ?_⟩, h5.mv (fun r _ _ => e r (by omega)) (r 85 (by decide)) (r 86 (by decide)) (r 87 (by decide)), h6.mv (by rw [e 0 (by decide)]) (by rw [e 0 (by decide)]) (f 11 (by decide)) (f 31 (by decide)) (r 79 (by decide)) (r 80 (by decide))⟩
    rw [e 3 (by decide), r 78 (by decide)]
    exact h4.2.2.2 i (by omega)
  · rw [if_neg q, if_neg q, if_neg q]
    exact ⟨rfl, l, h1, h2, h3, h4, h5, h6⟩
theorem see_eq (h : Rel a b n m K k l) {p r : Int32} {z : Bool} : seeR a k p r = mSeeR n k p r ∧ ∃ k', Rel (seeW a k p r (bI z)) (mSeeV b n k p r z) n m K k' l := by
  have hh := h
  obtain ⟨h1, h2, h3, h4, h5, h6⟩ := h
  have n5 := h1.1.n5
  have k6 := h2.2.1
  rw [seeR, seeW, mSeeR, mSeeV, prOk, h1.1.one, roomB_inZ]
  by_cases q : inZ p n = true
  · rw [if_pos q, if_pos q, if_pos q]
    by_cases q2 : inZ r 8 = true
    · rw [if_pos q2, if_pos q2, if_pos q2, if_pos rfl, if_pos rfl]
      by_cases hk : k < 6
      · have ne : ¬ nI k = nI 6 := fun z => by
          have := nI_eqN (by omega) (by omega) z
          omega
        rw [if_pos hk, if_pos hk, if_neg ne, if_neg ne]
        obtain ⟨i, hi, rfl⟩ := inZ_ex q (by omega)
        obtain ⟨j, hj, rfl⟩ := inZ_ex q2 (by omega)
        have e : ∀ x, x ≠ 4 → x ≠ 5 → x ≠ 6 → x ≠ 7 → (noteW a k (nI i) (nI j) (bI z)) x = a x := fun x q1 q2 q3 q4 => by rw [noteW, vset_ne q1, vset_ne q4, vset_ne q3, vset_ne q2]
        have e5 : ∀ x, (noteW a k (nI i) (nI j) (bI z)) 5 x = if x = k then nI i else a 5 x := fun x => by
          rw [noteW, vset_ne (by decide), vset_ne (by decide), vset_ne (by decide), vset_row, vrow_at]
          rfl
        have e6 : ∀ x, (noteW a k (nI i) (nI j) (bI z)) 6 x = if x = k then nI j else a 6 x := fun x => by
          rw [noteW, vset_ne (by decide), vset_ne (by decide), vset_row, vrow_at, vset_ne (by decide)]
          rfl
        have e7 : ∀ x, (noteW a k (nI i) (nI j) (bI z)) 7 x = if x = k then bI z else a 7 x := fun x => by
          rw [noteW, vset_ne (by decide), vset_row, vrow_at, vset_ne (by decide), vset_ne (by decide)]
          rfl
        have f : ∀ x, x ≠ 25 → (mSeeW b k (nI i) (nI j) z) 75 x = b 75 x := fun x hx => by rw [mSeeW, vset_oth hx, vset_ne (by decide), vset_ne (by decide), vset_ne (by decide)]
        have r : ∀ x, x ≠ 75 → x ≠ 82 → (mSeeW b k (nI i) (nI j) z) x = b x := fun x q1 q2 => by rw [mSeeW, vset_ne q1, vset_ne q2, vset_ne q2, vset_ne q2]
        have r8 : ∀ x, (mSeeW b k (nI i) (nI j) z) 82 x = if x = 3 * k + 2 then bI z else if x = 3 * k + 1 then nI j else if x = 3 * k then nI i else b 82 x := fun x => by
          rw [mSeeW, vset_ne (by decide), vset_row, vrow_at, vset_row, vrow_at, vset_row, vrow_at]
          rfl
        refine ⟨rfl, k + 1, h1.mv (fun x _ _ => e x (by omega) (by omega) (by omega) (by omega)) (fun i _ => by rw [r 76 (by decide) (by decide)]) (f 1 (by decide)) (f 20 (by decide)), ⟨noteW_len _ _ _ _ _, by omega, by rw [mSeeW, vset_at], fun x hx => ?_⟩, h3.mv (fun x _ _ => e x (by omega) (by omega) (by omega) (by omega)) (e 9 (by decide) (by decide) (by decide) (by decide)) (r 84 (by decide) (by decide)) (fun i _ _ => by rw [r 76 (by decide) (by decide)]), h4.mv (by rw [e 2 (by decide) (by decide) (by decide) (by decide)]) (e 3 (by decide) (by decide) (by decide) (by decide)) (f 10 (by decide)) (r 78 (by decide) (by decide)), h5.mv (fun x _ _ => e x (by omega) (by omega) (by omega) (by omega)) (r 85 (by decide) (by decide)) (r 86 (by decide) (by decide)) (r 87 (by decide) (by decide)), h6.mv (by rw [e 0 (by decide) (by decide) (by decide) (by decide)]) (by rw [e 0 (by decide) (by decide) (by decide) (by decide)]) (f 11 (by decide)) (f 31 (by decide)) (r 79 (by decide) (by decide)) (r 80 (by decide) (by decide))⟩
        rw [e5, e6, e7, r8, r8, r8]
        by_cases ex : x = k
        · subst ex
          rw [if_pos rfl, if_pos rfl, if_pos rfl, if_neg (by omega), if_neg (by omega), if_pos rfl, if_neg (by omega), if_pos rfl, if_pos rfl]
          exact ⟨i, j, hi, hj, rfl, rfl, bI_01 z, rfl, rfl, rfl⟩
        · rw [if_neg ex, if_neg ex, if_neg ex, if_neg (by omega), if_neg (by omega), if_neg (by omega), if_neg (by omega), if_neg (by omega), if_neg (by omega), if_neg (by omega), if_neg (by omega), if_neg (by omega)]
          exact h2.2.2.2 x (by omega)
      · have e9 : nI k = nI 6 := by rw [show k = 6 by omega]
        rw [if_neg hk, if_neg hk, if_pos e9, if_pos e9]
        exact ⟨rfl, k, hh⟩
    · rw [if_neg q2, if_neg q2, if_neg q2, if_neg Bool.false_ne_true, if_neg Bool.false_ne_true]
      exact ⟨rfl, k, hh⟩
  · rw [if_neg q, if_neg q, if_neg q, if_neg Bool.false_ne_true, if_neg Bool.false_ne_true]
    exact ⟨rfl, k, hh⟩
theorem forget_eq (h : Rel a b n m K k l) {c : Int32} : forgR a c = (if inZ c (k + 1) = true then nI k else -1) ∧ ∃ k', Rel (forgW a c) (if inZ c (k + 1) = true then vset b 75 25 c else b) n m K k' l := by
  have hh := h
  obtain ⟨h1, h2, h3, h4, h5, h6⟩ := h
  have k6 := h2.2.1
  rw [forgR, forgW, h2.1, upToB_inZ (by omega)]
  by_cases q : inZ c (k + 1) = true
  · obtain ⟨j, hj, rfl⟩ := inZ_ex q (by omega)
    rw [if_pos q, if_pos q, if_pos q]
    have e : ∀ r, r ≠ 4 → (vset a 4 3 (nI j)) r = a r := fun r q1 => vset_ne q1
    have f : ∀ i, i ≠ 25 → (vset b 75 25 (nI j)) 75 i = b 75 i := fun i hi => vset_oth hi
    have r : ∀ r, r ≠ 75 → (vset b 75 25 (nI j)) r = b r := fun r q1 => vset_ne q1
    refine ⟨rfl, j, h1.mv (fun r _ _ => e r (by omega)) (fun i _ => by rw [r 76 (by decide)]) (f 1 (by decide)) (f 20 (by decide)), ⟨vset_at, by omega, vset_at, fun i hi => ?_⟩, h3.mv (fun r _ _ => e r (by omega)) (e 9 (by decide)) (r 84 (by decide)) (fun i _ _ => by rw [r 76 (by decide)]), h4.mv (by rw [e 2 (by decide)]) (e 3 (by decide)) (f 10 (by decide)) (r 78 (by decide)), h5.mv (fun r _ _ => e r (by omega)) (r 85 (by decide)) (r 86 (by decide)) (r 87 (by decide)), h6.mv (by rw [e 0 (by decide)]) (by rw [e 0 (by decide)]) (f 11 (by decide)) (f 31 (by decide)) (r 79 (by decide)) (r 80 (by decide))⟩
    rw [e 5 (by decide), e 6 (by decide), e 7 (by decide), r 82 (by decide)]
    exact h2.2.2.2 i (by omega)
  · rw [if_neg q, if_neg q, if_neg q]
    exact ⟨rfl, k, hh⟩
theorem imgP_v {j : Nat} (h : j < 2) : imgP j = 43 + 11 * j := by
  rcases (show j = 0 ∨ j = 1 by omega) with rfl | rfl <;> rfl
theorem keep_eq (h : Rel a b n m K k l) {c : Int32} : keepR a c = (if inZ c 2 = true then (if b 84 c.toNatClampNeg = 0 then nI 0 else nI 1) else -1) ∧ Rel (keepW a c) (if inZ c 2 = true then vset (cpW b 0 (65 * (c.toNatClampNeg + 1))) 84 c.toNatClampNeg (nI 1) else b) n m K k l := by
  have hh := h
  obtain ⟨h1, h2, h3, h4, h5, h6⟩ := h
  rw [keepR, keepW, upToB_inZ (by omega)]
  by_cases q : inZ c 2 = true
  · obtain ⟨j, hj, rfl⟩ := inZ_ex q (by omega)
    have ei := imgP_v hj
    rw [if_pos q, if_pos q, if_pos q, if_pos q, nI_clamp (by omega), (h3 j hj).1]
    have e : ∀ r, r ≠ 9 → (r < imgP j ∨ imgP j + 10 < r) → (vset (becW a (imgP j) 21) 9 j (nI 1)) r = a r := fun r q1 q2 => by rw [vset_ne q1, becW_ne q2]
    have e9 : ∀ i, (vset (becW a (imgP j) 21) 9 j (nI 1)) 9 i = if i = j then nI 1 else a 9 i := fun i => by
      rw [vset_row, vrow_at, becW_ne (by omega)]
      rfl
    have eb : ∀ r, r ≠ 9 → (vset (becW a (imgP j) 21) 9 j (nI 1)) r = (becW a (imgP j) 21) r := fun r q1 => vset_ne q1
    have r : ∀ r, r ≠ 76 → r ≠ 84 → (vset (cpW b 0 (65 * (j + 1))) 84 j (nI 1)) r = b r := fun r q1 q2 => by rw [vset_ne q2, cpW_ne q1]
    have r84 : ∀ i, (vset (cpW b 0 (65 * (j + 1))) 84 j (nI 1)) 84 i = if i = j then nI 1 else b 84 i := fun i => by
      rw [vset_row, vrow_at, cpW_ne (by decide)]
      rfl
    have r76 : (vset (cpW b 0 (65 * (j + 1))) 84 j (nI 1)) 76 = (cpW b 0 (65 * (j + 1))) 76 := vset_ne (by decide)
    have f : ∀ i, (vset (cpW b 0 (65 * (j + 1))) 84 j (nI 1)) 75 i = b 75 i := fun i => by rw [r 75 (by decide) (by decide)]
    refine ⟨rfl, h1.mv (fun x _ _ => e x (by omega) (by omega)) (fun i _ => by rw [r76, cpW_off (by omega)]) (f 1) (f 20), h2.mv (fun x _ _ => e x (by omega) (by omega)) (f 25) (r 82 (by decide) (by decide)), fun i hi => ?_, h4.mv (by rw [e 2 (by decide) (by omega)]) (e 3 (by decide) (by omega)) (f 10) (r 78 (by decide) (by decide)), h5.mv (fun x _ _ => e x (by omega) (by omega)) (r 85 (by decide) (by decide)) (r 86 (by decide) (by decide)) (r 87 (by decide) (by decide)), h6.mv (by rw [e 0 (by decide) (by omega)]) (by rw [e 0 (by decide) (by omega)]) (f 11) (f 31) (r 79 (by decide) (by decide)) (r 80 (by decide) (by decide))⟩
    rw [e9, r84, r76]
    by_cases ex : i = j
    · subst ex
      rw [if_pos rfl, if_pos rfl]
      refine ⟨rfl, Or.inr ⟨rfl, m, K, ?_⟩⟩
      have ht := h1.1.copy (t := imgP i) (g' := 65 * (i + 1)) (R' := (cpW b 0 (65 * (i + 1))) 76) (by omega) (fun x hx => cpW_to hx)
      exact ht.mv0 (fun x q1 q2 => eb x (by omega)) (fun _ _ _ => rfl)
    · rw [if_neg ex, if_neg ex]
      refine ⟨(h3 i hi).1, ?_⟩
      rcases (h3 i hi).2 with q | ⟨q, m', K', hq⟩
      · exact Or.inl q
      · have ei2 := imgP_v hi
        exact Or.inr ⟨q, m', K', hq.mv0 (fun x q1 q2 => e x (by omega) (by omega)) (fun x q1 q2 => cpW_off (by omega))⟩
  · rw [if_neg q, if_neg q, if_neg q, if_neg q]
    exact ⟨rfl, hh⟩
theorem back_eq (h : Rel a b n m K k l) {c : Int32} : ∃ mi : Nat → Nat, (∀ j, j ≤ 1 → ¬ a 9 j = 0 → a (imgP j) 11 = nI (mi j) ∧ mi j ≤ 9) ∧ backR a c (mi c.toNatClampNeg) = mBackR b n c ∧ ∃ m' K', Rel (backW a c) (mBackW b c) n m' K' k l := by
  have hh := h
  obtain ⟨h1, h2, h3, h4, h5, h6⟩ := h
  have key : ∀ j, j < 2 → ¬ b 84 j = 0 → ∃ m' K', TP a (b 76) (imgP j) (65 * (j + 1)) n m' K' := fun j hj hz => by
    rcases (h3 j hj).2 with q | ⟨_, q⟩
    · exact absurd q hz
    · exact q
  have hmi : ∃ mi : Nat → Nat, ∀ j, j < 2 → ¬ b 84 j = 0 → ∃ K', TP a (b 76) (imgP j) (65 * (j + 1)) n (mi j) K' := by
    have x0 : ∃ m0, ¬ b 84 0 = 0 → ∃ K', TP a (b 76) (imgP 0) (65 * (0 + 1)) n m0 K' := by
      by_cases z : b 84 0 = 0
      · exact ⟨0, fun q => absurd z q⟩
      · obtain ⟨m', K', q⟩ := key 0 (by omega) z
        exact ⟨m', fun _ => ⟨K', q⟩⟩
    have x1 : ∃ m1, ¬ b 84 1 = 0 → ∃ K', TP a (b 76) (imgP 1) (65 * (1 + 1)) n m1 K' := by
      by_cases z : b 84 1 = 0
      · exact ⟨0, fun q => absurd z q⟩
      · obtain ⟨m', K', q⟩ := key 1 (by omega) z
        exact ⟨m', fun _ => ⟨K', q⟩⟩
    obtain ⟨m0, q0⟩ := x0
    obtain ⟨m1, q1⟩ := x1
    refine ⟨fun j => if j = 0 then m0 else m1, fun j hj hz => ?_⟩
    rcases (show j = 0 ∨ j = 1 by omega) with rfl | rfl
    · exact q0 hz
    · exact q1 hz
  obtain ⟨mi, hmi⟩ := hmi
  refine ⟨mi, fun j hj hz => ?_, ?_⟩
  · obtain ⟨K', q⟩ := hmi j (by omega) (by rw [← (h3 j (by omega)).1]; exact hz)
    exact ⟨q.hm, q.m9⟩
  · rw [backR, backW, mBackR, mBackW, upToB_inZ (by omega)]
    by_cases q : inZ c 2 = true
    · obtain ⟨j, hj, rfl⟩ := inZ_ex q (by omega)
      rw [if_pos q, if_pos q, if_pos q, if_pos q, nI_clamp (by omega), (h3 j hj).1]
      by_cases z : b 84 j = 0
      · rw [if_pos z, if_pos z, if_pos z, if_pos z]
        exact ⟨rfl, m, K, hh⟩
      · rw [if_neg z, if_neg z, if_neg z, if_neg z]
        obtain ⟨K', hq⟩ := hmi j hj z
        have ei := imgP_v hj
        have ht := hq.copy (t := 21) (g' := 0) (R' := (cpW b (65 * (j + 1)) 0) 76) (by omega) (fun x hx => cpW_to hx)
        exact ⟨ht.hungB, mi j, K', hh.town ⟨ht, by rw [cpW_75]; exact h1.2.1, by rw [cpW_75]; exact h1.2.2⟩ (fun r hr => becW_ne (by omega)) (fun r q1 _ => cpW_ne q1) (fun i hi => cpW_off (by omega))⟩
    · rw [if_neg q, if_neg q, if_neg q, if_neg q]
      exact ⟨rfl, m, K, hh⟩
end C3
