/-! The pure part: counts, sheets -/
section ST
variable {a b s : vW} {R : Nat → Int32} {t g n m K k l : Nat}
theorem worthAll (h : TP s R t 0 n m K) : ∀ i, i ≤ 8 → worthTo s t (nI 255) i = mSumW R i
  | 0, _ => rfl
  | i + 1, hi => by
    have e := h.wor (r := i) (by omega)
    rw [Nat.zero_add] at e
    rw [worthTo, mSumW, worthAll h i (by omega), bitB_bt (by omega), show nI 255 = 255 from rfl, b_255, decide_eq_true (by omega), if_pos rfl, e]
theorem goneAll (h : TP s R t 0 n m K) : nI (bcN (doorsTo s t (-2) n)) = mSumG R n := by
  have n5 := h.n5
  have m9 := h.m9
  have hb : ∀ i, i < 32 → bt (doorsTo s t (-2) n) i = (decide (i < n) && decide (s (t + 4) i = -2)) := fun i hi => by
    refine orM_bt (f := doorsTo s t (-2)) (P := fun j => decide (s (t + 4) j = -2)) rfl (fun j _ => ?_) hi n (by omega)
    rw [doorsTo]
    by_cases e : s (t + 4) j = -2
    · simp only [e, if_true, decide_true]
    · simp only [e, if_false, decide_false, Bool.false_eq_true]
  rw [(bc_nB (x := doorsTo s t (-2) n) (fun i h1 h2 => by rw [hb i h2, decide_eq_false (by omega), Bool.false_and])).1]
  rw [show (10 : Nat) = n + (10 - n) by omega, nB_ext (n + (10 - n)) (g := fun i => decide (i < n) && decide (s (t + 4) i = -2)) (fun i hi => hb i (by omega)), nB_more (10 - n) (fun i hi => by rw [decide_eq_false (by omega), Bool.false_and])]
  rw [nB_ext n (g := fun i => decide (s (t + 4) i = -2)) (fun i hi => by rw [decide_eq_true hi, Bool.true_and])]
  have key : ∀ j, j ≤ n → mSumG R j = nI (nB (fun i => decide (s (t + 4) i = -2)) j) := by
    intro j
    induction j with
    | zero => exact fun _ => rfl
    | succ j ih =>
      intro hj
      have hd := h.door.1 j (by omega)
      rw [Nat.zero_add, Nat.zero_add] at hd
      rw [mSumG, ih (by omega), nB]
      rcases hd with ⟨z, _, y⟩ | ⟨z, _, y⟩ | ⟨v, hv, z, _, y⟩
      · rw [y, z, if_neg (by decide), nI_add]
      · rw [y, z, if_pos (by decide), nI_add]
      · rw [y, z, decide_eq_false (fun q => m2_nI (by omega) q.symm), if_neg Bool.false_ne_true, nI_add]
  exact (key n (Nat.le_refl n)).symm
theorem count_eq (h : Rel a b n m K k l) {w : Int32} : countR a n w = mCntR b n w := by
  obtain ⟨h1, h2, h3, h4, h5, h6⟩ := h
  have e0 := (h3 0 (by omega)).1
  have e1 := (h3 1 (by omega)).1
  have es : (if 0 ≤ a 67 2 then a 67 2 else -4) = if b 85 0 = -4 then -4 else b 86 0 := by
    rcases h5.1 0 (by omega) with ⟨z, y⟩ | ⟨v, hv, y1, y2, y3, _⟩
    · have z : a 67 2 < 0 := z
      rw [y, if_pos rfl, if_neg (Int32.not_le.mpr z)]
    · have y3 : a 67 2 = b 86 0 := y3
      obtain ⟨e, he, y4⟩ := h5.2 0 (by omega)
      rw [y2, if_neg (nI_nm4 (by omega)), y3, y4, if_pos (nI_z (by omega))]
  rw [countR, mCntR, h2.1, h2.2.2.1, e0, e1, h4.1, h4.2.2.1, es, worthAll h1.1 8 (Nat.le_refl 8), goneAll h1.1]
theorem shP_v {q : Nat} (h : q < 4) : shP q = 67 + 2 * q := by
  rcases (show q = 0 ∨ q = 1 ∨ q = 2 ∨ q = 3 by omega) with rfl | rfl | rfl | rfl <;> rfl
/-- a sheet changed, all else as it was -/
theorem Rel.sheet {a' b' : vW} (h : Rel a b n m K k l) (ha : ∀ r, ¬ (67 ≤ r ∧ r ≤ 74) → a' r = a r) (hb : ∀ r, r ≠ 85 → r ≠ 86 → r ≠ 87 → b' r = b r) (hs : hR a' b') : Rel a' b' n m K k l := by
  obtain ⟨h1, h2, h3, h4, h5, h6⟩ := h
  have f : ∀ i, b' 75 i = b 75 i := fun i => by rw [hb 75 (by decide) (by decide) (by decide)]
  exact ⟨h1.mv (fun r _ _ => ha r (by omega)) (fun i _ => by rw [hb 76 (by decide) (by decide) (by decide)]) (f 1) (f 20), h2.mv (fun r _ _ => ha r (by omega)) (f 25) (hb 82 (by decide) (by decide) (by decide)), h3.mv (fun r _ _ => ha r (by omega)) (ha 9 (by omega)) (hb 84 (by decide) (by decide) (by decide)) (fun i _ _ => by rw [hb 76 (by decide) (by decide) (by decide)]), h4.mv (by rw [ha 2 (by omega)]) (ha 3 (by omega)) (f 10) (hb 78 (by decide) (by decide) (by decide)), hs, h6.mv (by rw [ha 0 (by omega)]) (by rw [ha 0 (by omega)]) (f 11) (f 31) (hb 79 (by decide) (by decide) (by decide)) (hb 80 (by decide) (by decide) (by decide))⟩
theorem sheet_eq (h : Rel a b n m K k l) {x y z : Int32} : sheetR x y z = mShtR x y z ∧ Rel (sheetW a x y z) (mShtW b x y z) n m K k l := by
  rw [sheetR, sheetW, mShtR, mShtW, upToB_inZ (by omega), upToB_inZ (by omega)]
  by_cases q1 : inZ x 4 = true
  · (repeat rw [if_pos q1])
    by_cases q2 : inZ y 3 = true
    · (repeat rw [if_pos q2])
      by_cases q3 : z ≤ nI 40
      · (repeat rw [if_pos q3])
        by_cases q4 : 0 ≤ z
        · (repeat rw [if_pos q4])
          obtain ⟨q, hq, rfl⟩ := inZ_ex q1 (by omega)
          obtain ⟨v, hv, rfl⟩ := inZ_ex q2 (by omega)
          have hz : ∃ e, e ≤ 40 ∧ z = nI e := by
            rw [le_toInt, nI_toInt (by omega)] at q3
            rw [le_toInt, Int32.toInt_zero] at q4
            exact ⟨z.toInt.toNat, by omega, by rw [← Int32.toInt_inj, nI_toInt (by omega)]; omega⟩
          obtain ⟨e, he, rfl⟩ := hz
          have hP := shP_v hq
          have h5 := h.2.2.2.2.1
          rw [nI_clamp (by omega)]
          have a1 : ∀ r, r ≠ shP q → r ≠ shP q + 1 → (renewW a (shP q) (nI v) (nI e)) r = a r := fun r z1 z2 => by rw [renewW, vrow_ne z2, vset_ne z1, vset_ne z1]
          have a2 : ∀ j, (renewW a (shP q) (nI v) (nI e)) (shP q) j = if j = 2 then nI e else if j = 1 then nI v else a (shP q) j := fun j => by
            rw [renewW, vrow_ne (by omega), vset_row, vrow_at, vset_row, vrow_at]
            rfl
          have a3 : ∀ j, j < 40 → (renewW a (shP q) (nI v) (nI e)) (shP q + 1) j = nI 0 := fun j hj => by rw [renewW, vrow_at, fillR, if_pos hj]
          have b1 : ∀ r, r ≠ 85 → r ≠ 86 → r ≠ 87 → (mShtF b q (nI v) (nI e) 40) r = b r := fun r z1 z2 z3 => by rw [mShtF, vrow_ne z3, vset_ne z2, vset_ne z1]
          have b5 : ∀ j, (mShtF b q (nI v) (nI e) 40) 85 j = if j = q then nI v else b 85 j := fun j => by
            rw [mShtF, vrow_ne (by decide), vset_ne (by decide), vset_row, vrow_at]
            rfl
          have b6 : ∀ j, (mShtF b q (nI v) (nI e) 40) 86 j = if j = q then nI e else b 86 j := fun j => by
            rw [mShtF, vrow_ne (by decide), vset_row, vrow_at, vset_ne (by decide)]
            rfl
          have b7 : ∀ j, (mShtF b q (nI v) (nI e) 40) 87 j = if 40 * q ≤ j ∧ j < 40 * q + 40 then nI 0 else b 87 j := fun j => by rw [mShtF, vrow_at]
          refine ⟨rfl, h.sheet (fun r hr => a1 r (by omega) (by omega)) b1 ⟨fun p hp => ?_, fun p hp => ?_⟩⟩
          · by_cases ep : p = q
            · subst ep
              right
              refine ⟨v, hv, by rw [a2, if_neg (by decide), if_pos rfl], by rw [b5, if_pos rfl], by rw [a2, if_pos rfl, b6, if_pos rfl], fun i hi => ?_⟩
              rw [a3 i hi, b7, if_pos ⟨by omega, by omega⟩]
            · have hP2 := shP_v hp
              rw [a1 (shP p) (by omega) (by omega), a1 (shP p + 1) (by omega) (by omega), b5, b6, if_neg ep, if_neg ep]
              rcases h5.1 p hp with y | ⟨v', y1, y2, y3, y4, y5⟩
              · exact Or.inl y
              · exact Or.inr ⟨v', y1, y2, y3, y4, fun i hi => by rw [b7, if_neg (by omega)]; exact y5 i hi⟩
          · rw [b6]
            by_cases ep : p = q
            · rw [if_pos ep]
              exact ⟨e, he, rfl⟩
            · rw [if_neg ep]
              exact h5.2 p hp
        · (repeat rw [if_neg q4])
          exact ⟨rfl, h⟩
      · (repeat rw [if_neg q3])
        exact ⟨rfl, h⟩
    · (repeat rw [if_neg q2])
      exact ⟨rfl, h⟩
  · (repeat rw [if_neg q1])
    exact ⟨rfl, h⟩
theorem cm_iff {x y : Int64} : lg_cmp x y < 0 ↔ x.toInt < y.toInt := by
  constructor
  · exact cm_lt
  · intro h
    apply Classical.byContradiction
    intro q
    have := cm_nlt q
    omega
theorem cm_le {x y : Int64} : 0 ≤ lg_cmp x y ↔ y.toInt ≤ x.toInt := by
  rw [← Int32.not_lt, cm_iff]
  omega
/-- the fault of an index: both sides -/
theorem flt_eq (h : hR a b) {q : Nat} (hq : q < 4) {v : Int32} {c : Int64} : fltA a (shP q) v c = if b 85 q = -4 then nI 1 else if b 85 q = v then (if 0 ≤ c.toInt ∧ c.toInt < (b 86 q).toInt then nI 0 else nI 2) else nI 3 := by
  obtain ⟨e, he, e6⟩ := h.2 q hq
  have l0 : (lN 0).toInt = 0 := by decide
  have l40 : (40 : Int64).toInt = 40 := by decide
  rw [fltA]
  rcases h.1 q hq with ⟨z, y⟩ | ⟨v', y1, y2, y3, y4, y5⟩
  · rw [y, if_pos rfl, if_neg (Int32.not_le.mpr z)]
  · rw [y3, y2, y4, e6, if_pos (nI_z (by omega)), if_neg (nI_nm4 (by omega)), nI_toInt (by omega)]
    by_cases ev : nI v' = v
    · rw [if_pos ev, if_pos ev]
      by_cases c1 : lg_cmp c (lN 0) < 0
      · have := cm_iff.mp c1
        rw [if_pos c1, if_neg (by omega)]
      · have d1 := cm_nlt c1
        rw [if_neg c1]
        by_cases c2 : 0 ≤ lg_cmp c (nI e).toInt64
        · have := cm_le.mp c2
          rw [Int32.toInt_toInt64, nI_toInt (by omega)] at this
          rw [if_pos c2, if_neg (by omega)]
        · have d2 : ¬ (nI e).toInt64.toInt ≤ c.toInt := fun z => c2 (cm_le.mpr z)
          rw [Int32.toInt_toInt64, nI_toInt (by omega)] at d2
          rw [if_neg c2, if_pos (cm_iff.mpr (by omega)), if_pos (by omega)]
    · rw [if_neg ev, if_neg ev]
theorem nar8 {v : Int32} : v.toInt8.toInt32 = (v <<< (nI 24 &&& 31)) >>> (nI 24 &&& 31) := by
  apply b_ext
  intro i hi
  rw [b_sshr 24 (by decide) _ hi]
  have e : bt v.toInt8.toInt32 i = if i < 8 then bt v i else bt v 7 := by
    unfold bt
    rw [Int8.toBitVec_toInt32, Int32.toBitVec_toInt8, BitVec.getLsbD_signExtend, decide_eq_true hi, Bool.true_and]
    by_cases h : i < 8
    · rw [if_pos h, if_pos h, BitVec.getLsbD_signExtend, decide_eq_true h, Bool.true_and, if_pos (by omega)]
    · rw [if_neg h, if_neg h, BitVec.msb_eq_getLsbD_last, BitVec.getLsbD_signExtend]
      rfl
  rw [e]
  by_cases h : i < 8
  · rw [if_pos h, if_pos (by omega), b_shl 24 (by decide) _ (by omega), decide_eq_true (by omega), Bool.true_and, show 24 + i - 24 = i by omega]
  · rw [if_neg h, if_neg (by omega), b_shl 24 (by decide) _ (by omega), decide_eq_true (by omega), Bool.true_and]
theorem nar16 {v : Int32} : v.toInt16.toInt32 = (v <<< (nI 16 &&& 31)) >>> (nI 16 &&& 31) := by
  apply b_ext
  intro i hi
  rw [b_sshr 16 (by decide) _ hi]
  have e : bt v.toInt16.toInt32 i = if i < 16 then bt v i else bt v 15 := by
    unfold bt
    rw [Int16.toBitVec_toInt32, Int32.toBitVec_toInt16, BitVec.getLsbD_signExtend, decide_eq_true hi, Bool.true_and]
    by_cases h : i < 16
    · rw [if_pos h, if_pos h, BitVec.getLsbD_signExtend, decide_eq_true h, Bool.true_and, if_pos (by omega)]
    · rw [if_neg h, if_neg h, BitVec.msb_eq_getLsbD_last, BitVec.getLsbD_signExtend]
      rfl
  rw [e]
  by_cases h : i < 16
  · rw [if_pos h, if_pos (by omega), b_shl 16 (by decide) _ (by omega), decide_eq_true (by omega), Bool.true_and, show 16 + i - 16 = i by omega]
  · rw [if_neg h, if_neg (by omega), b_shl 16 (by decide) _ (by omega), decide_eq_true (by omega), Bool.true_and]
theorem nar_eq {v x : Int32} : narR v x = mLayV x v := by
  rw [narR, mLayV, nar8, nar16]
  rfl
theorem lay_eq (h : Rel a b n m K k l) {x y v : Int32} {e : Nat} (he : ∀ q, q < 4 → x = nI q → b 86 q = nI e) (he40 : e ≤ 40) : layR a x y = mLayR b e x y ∧ Rel (layW a x y v) (mLayW b e x y v) n m K k l := by
  have h5 := h.2.2.2.2.1
  rw [layR, layW, mLayR, mLayW, upToB_inZ (by omega)]
  by_cases q1 : inZ x 4 = true
  · obtain ⟨q, hq, rfl⟩ := inZ_ex q1 (by omega)
    have e6 := he q hq rfl
    have hP := shP_v hq
    (repeat rw [if_pos q1])
    rw [nI_clamp (by omega)]
    have hf : layA a q y = if b 85 q = -4 then nI 1 else if inZ y e = true then nI 0 else nI 2 := by
      rw [layA, flt_eq h5 hq]
      rcases h5.1 q hq with ⟨z, w⟩ | ⟨v', y1, y2, y3, y4, y5⟩
      · rw [w, if_pos rfl, if_pos rfl]
      · rw [y3, y2, if_neg (nI_nm4 (by omega)), if_neg (nI_nm4 (by omega)), if_pos rfl, e6, Int32.toInt_toInt64, nI_toInt (by omega)]
        by_cases z : inZ y e = true
        · rw [if_pos z, if_pos (inZ_iff.mp z)]
        · rw [if_neg z, if_neg (fun w => z (inZ_iff.mpr w))]
    rw [hf]
    have z1 : ¬ nI 1 = 0 := by decide
    have z2 : ¬ nI 2 = 0 := by decide
    rcases h5.1 q hq with ⟨z, w⟩ | ⟨v', y1, y2, y3, y4, y5⟩
    · rw [w, if_pos rfl, if_pos rfl, if_pos rfl, if_neg z1, if_neg z1]
      exact ⟨by decide, h⟩
    · have n4 : ¬ b 85 q = -4 := by
        rw [y3]
        exact nI_nm4 (by omega)
      rw [if_neg n4, if_neg n4, if_neg n4]
      by_cases z : inZ y e = true
      · obtain ⟨i, hi, rfl⟩ := inZ_ex z (by omega)
        rw [if_pos z, if_pos z, if_pos z, if_pos (show nI 0 = 0 from rfl), if_pos (show nI 0 = 0 from rfl), nI_clamp (by omega), y2, ← y3, nar_eq]
        refine ⟨rfl, h.sheet (fun r hr => vset_ne (by omega)) (fun r r1 r2 r3 => vset_ne r3) ⟨fun p hp => ?_, fun p hp => ?_⟩⟩
        · have hP2 := shP_v hp
          rw [vset_ne (show (85 : Nat) ≠ 87 by decide), vset_ne (show (86 : Nat) ≠ 87 by decide), vset_ne (show shP p ≠ shP q + 1 by omega)]
          rcases h5.1 p hp with w | ⟨v2, w1, w2, w3, w4, w5⟩
          · exact Or.inl w
          · refine Or.inr ⟨v2, w1, w2, w3, w4, fun j hj => ?_⟩
            by_cases ep : p = q
            · subst ep
              by_cases ej : j = i
              · subst ej
                rw [vset_at, vset_at]
              · rw [vset_oth ej, vset_oth (by omega)]
                exact w5 j hj
            · rw [vset_ne (by omega), vset_oth (by omega)]
              exact w5 j hj
        · rw [vset_ne (by decide)]
          exact h5.2 p hp
      · rw [if_neg z, if_neg z, if_neg z, if_neg z2, if_neg z2]
        exact ⟨by decide, h⟩
  · (repeat rw [if_neg q1])
    exact ⟨rfl, h⟩
end ST
