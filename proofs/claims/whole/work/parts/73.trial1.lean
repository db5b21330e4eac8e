/-! The pure part: plans tried -/
section R1
variable {a b : vW} {n m K k l : Nat}
theorem fstP_snoc (P : Nat → Bool) : ∀ j i, fstP P (j + 1) i = if fstP P j i < i + j then fstP P j i else if P (i + j) = true then i + j else i + j + 1
  | 0, i => by
    show (if P i = true then i else i + 1) = if i < i + 0 then i else if P (i + 0) = true then i + 0 else i + 0 + 1
    rw [if_neg (show ¬ i < i + 0 by omega)]
    rfl
  | j + 1, i => by
    have ih := fstP_snoc P j (i + 1)
    rw [fstP]
    by_cases h : P i = true
    · have e : fstP P (j + 1) i = i := by rw [fstP, if_pos h]
      rw [if_pos h, e, if_pos (by omega)]
    · have e : fstP P (j + 1) i = fstP P j (i + 1) := by rw [fstP, if_neg h]
      rw [if_neg h, ih, e, show i + 1 + j = i + (j + 1) by omega]
/-- the town of a trial, and the plan gone there -/
theorem TP.tri (h : TP a (b 76) 21 0 n m K) : TP (becW a 32 21) ((cpW b 0 260) 76) 32 260 n m K := h.copy (by omega) (fun i hi => by rw [cpW_to hi])
theorem plan_tr (h : TP a (b 76) 21 0 n m K) (lo : Int32) : ∀ i, i ≤ K → TP (fpW (becW a 32 21) 32 lo i) ((pgW b n lo i) 76) 32 260 n m K ∧ (i < K → ∃ p w, p < n ∧ w < m ∧ (becW a 32 21) (32 + 9) i = nI p ∧ (becW a 32 21) (32 + 10) i = nI w ∧ b 76 (53 + i) = nI p ∧ b 76 (59 + i) = nI w)
  | i, hi => by
    have K6 := h.K6
    have n5 := h.n5
    have hact : ∀ i, i < K → ∃ p w, p < n ∧ w < m ∧ (becW a 32 21) (32 + 9) i = nI p ∧ (becW a 32 21) (32 + 10) i = nI w ∧ b 76 (53 + i) = nI p ∧ b 76 (59 + i) = nI w := fun i hi => by
      obtain ⟨q1, q2, ⟨p, hp, q3⟩, w, hw, q4⟩ := h.act hi
      rw [Nat.zero_add] at q1 q2
      exact ⟨p, w, hp, hw, (becW_c (by omega) (by omega) (by omega) (by show i < 6; omega)).trans q3, (becW_c (by omega) (by omega) (by omega) (by show i < 6; omega)).trans q4, q1.symm.trans q3, q2.symm.trans q4⟩
    refine ⟨?_, hact i⟩
    induction i with
    | zero =>
      rw [fpW, pgW, vset_ne (by decide), vset_ne (by decide)]
      exact h.tri
    | succ i ih =>
      have ih := ih (by omega)
      obtain ⟨p, w, hp, hw, e1, e2, e3, e4⟩ := hact i (by omega)
      rw [fpW, pgW, e1, e2, e3, e4, nI_clamp (by omega)]
      by_cases e : nI i = lo
      · rw [if_pos e, if_pos e]
        exact ih
      · rw [if_neg e, if_neg e]
        have ec := ih.can hp hw
        by_cases hc : canB (fpW (becW a 32 21) 32 lo i) 32 (nI p) (nI w) = true
        · rw [if_pos hc, if_pos (ec ▸ hc), vset_ne (by decide), mHgW_76]
          exact ih.hang hp hw hc
        · have hc2 : ¬ mCan ((pgW b n lo i) 76) n 260 p (nI w) = true := fun z => hc (ec.trans z)
          rw [if_neg hc, if_neg hc2, vset_ne (by decide), mHgW, if_neg hc2]
          exact ih
def cfB (a : vW) (i : Nat) : Bool := canB (fpW (becW a 32 21) 32 (-4) i) 32 ((becW a 32 21) (32 + 9) i) ((becW a 32 21) (32 + 10) i)
theorem plan_ct (h : TP a (b 76) 21 0 n m K) : ∀ i, i ≤ K → (pgW b n (-4) i) 75 22 = nI (nB (cfB a) i) ∧ (pgW b n (-4) i) 75 23 = if fstP (fun j => !cfB a j) i 0 < i then nI (fstP (fun j => !cfB a j) i 0) else -4
  | 0, _ => by
    rw [pgW]
    exact ⟨by rw [vset_oth (by decide), vset_at]; rfl, by rw [vset_at, if_neg (by omega)]⟩
  | i + 1, hi => by
    have K6 := h.K6
    have n5 := h.n5
    obtain ⟨ih1, ih2⟩ := plan_ct h i (by omega)
    obtain ⟨hT, hact⟩ := plan_tr h (-4) i (by omega)
    obtain ⟨p, w, hp, hw, e1, e2, e3, e4⟩ := hact (by omega)
    have ec := hT.can hp hw
    have ecf : cfB a i = mCan ((pgW b n (-4) i) 76) n 260 p (nI w) := by rw [cfB, e1, e2]; exact ec
    have n4 : ¬ nI i = -4 := nI_nm4 (by omega)
    rw [pgW, e3, e4, nI_clamp (by omega), if_neg n4, ← ecf, nB, fstP_snoc, Nat.zero_add]
    by_cases hc : cfB a i = true
    · rw [if_pos hc, if_pos hc]
      refine ⟨by rw [vset_at, ih1, nI_add], ?_⟩
      rw [vset_oth (by decide), mHgW_75, ih2]
      have hn : ¬ (!cfB a i) = true := by rw [hc]; decide
      by_cases hf : fstP (fun j => !cfB a j) i 0 < i
      · rw [if_pos hf, if_pos hf, if_pos (by omega)]
      · rw [if_neg hf, if_neg hf, if_neg hn, if_neg (by omega)]
    · rw [if_neg hc, if_neg hc]
      refine ⟨by rw [vset_oth (by decide), mHgW_75, ih1]; rfl, ?_⟩
      rw [vset_at, ih2]
      have hn : (!cfB a i) = true := by rw [Bool.eq_false_iff.mpr hc]; rfl
      by_cases hf : fstP (fun j => !cfB a j) i 0 < i
      · rw [if_pos hf, if_neg (nI_nm4 (by omega)), if_pos hf, if_pos (by omega)]
      · rw [if_neg hf, if_pos rfl, if_neg hf, if_pos hn, if_pos (by omega)]
theorem fpC_bt (a : vW) {i : Nat} (hi : i < 32) (j : Nat) (hj : j ≤ 32) : bt (fpC (becW a 32 21) 32 (-4) j) i = (decide (i < j) && cfB a i) := by
  refine orM_bt (f := fpC (becW a 32 21) 32 (-4)) (P := cfB a) rfl (fun q hq => ?_) hi j hj
  rw [fpC, if_neg (nI_nm4 (by omega))]
  rfl
theorem aSame_bec (K : Nat) (lo : Int32) : aSame (trialP a K lo) a := fun r _ _ h _ _ => trialP_ne (by omega)
theorem runs_eq (h : Rel a b n m K k l) {w : Int32} : runsR a n m K w = mRunsR b n m K w := by
  have hT := h.1.1
  have K6 := hT.K6
  have n5 := hT.n5
  obtain ⟨t1, _⟩ := plan_tr hT (-4) K (Nat.le_refl K)
  obtain ⟨c1, c2⟩ := plan_ct hT K (Nat.le_refl K)
  rw [runsR, mRunsR, upToB_inZ (by omega), h.1.2.2, c1, c2]
  by_cases q : inZ w 4 = true
  · obtain ⟨j, hj, rfl⟩ := inZ_ex q (by omega)
    rw [if_pos q, if_pos q]
    have e0 : nI (bcN (fpC (becW a 32 21) 32 (-4) K)) = nI (nB (cfB a) K) := by
      have hb := fun i (hi : i < 32) => fpC_bt a hi K (by omega)
      rw [(bc_nB (x := fpC (becW a 32 21) 32 (-4) K) (fun i h1 h2 => by rw [hb i h2, decide_eq_false (by omega), Bool.false_and])).1]
      rw [show (10 : Nat) = K + (10 - K) by omega, nB_ext (K + (10 - K)) (g := fun i => decide (i < K) && cfB a i) (fun i hi => hb i (by omega)), nB_more (10 - K) (fun i hi => by rw [decide_eq_false (by omega), Bool.false_and])]
      rw [nB_ext K (g := cfB a) (fun i hi => by rw [decide_eq_true hi, Bool.true_and])]
    have e1 : firstMs (fpC (becW a 32 21) 32 (-4) K) K = if fstP (fun j => !cfB a j) K 0 < K then nI (fstP (fun j => !cfB a j) K 0) else -4 := by
      have hx : ∀ j i, i + j ≤ K → fstP (fun i => !bitB (fpC (becW a 32 21) 32 (-4) K) (nI i)) j i = fstP (fun j => !cfB a j) j i := by
        intro j
        induction j with
        | zero => intro i _; rfl
        | succ j ih =>
          intro i hij
          rw [fstP, fstP, ih (i + 1) (by omega), bitB_bt (by omega), fpC_bt a (by omega) K (by omega), decide_eq_true (show i < K by omega), Bool.true_and]
      rw [firstMs, hx K 0 (by omega)]
    rcases (show j = 0 ∨ j = 1 ∨ j = 2 ∨ j = 3 by omega) with rfl | rfl | rfl | rfl
    · exact e0
    · exact e1
    · exact t1.all n (Nat.le_refl n)
    · exact t1.hungB
  · rw [if_neg q, if_neg q]
theorem ahead_eq (h : Rel a b n m K k l) {x : Int32} : aheadR a m K x = if inZ x n = true then mReachQ ((pgW b n (-4) K) 76) n (b 75 20) 260 m x.toNatClampNeg else -1 := by
  have hT := h.1.1
  have n5 := hT.n5
  obtain ⟨t1, _⟩ := plan_tr hT (-4) K (Nat.le_refl K)
  rw [aheadR, hT.one, h.1.2.2]
  by_cases q : inZ x n = true
  · obtain ⟨p, hp, rfl⟩ := inZ_ex q (by omega)
    rw [if_pos q, if_pos q, nI_clamp (by omega)]
    exact t1.reach hp
  · rw [if_neg q, if_neg q]
/-- the most so far, and where: both ways -/
theorem mx_pair {f g : Nat → Int32} {v0 : Int32} {G : Nat → Int32 × Int32} (h0 : G 0 = (v0, -4)) (hs : ∀ i, G (i + 1) = if g i ≤ (G i).1 then G i else (g i, nI i)) : ∀ i, (∀ j, j < i → f j = g j) → G i = (mxV f v0 i, mxA f v0 i)
  | 0, _ => h0
  | i + 1, h => by
    have ih := mx_pair h0 hs i (fun j hj => h j (by omega))
    rw [hs, ih, mxV, mxA, h i (by omega)]
    split <;> rfl
theorem askd_lst {a v w : Int32} : askd a v w = lstR (v, a) w := rfl
theorem leave_eq (h : Rel a b n m K k l) {w : Int32} : leaveR a n m K w = mLeaveR b n m K w := by
  have hT := h.1.1
  have key : ∀ (S : vW) (lo : Int32), (∀ r, 21 ≤ r → r ≤ 31 → S r = a r) → rbpV S n m K lo = lvA b n m K lo := fun S lo hS => by
    have hT2 : TP S (b 76) 21 0 n m K := hT.mv0 hS (fun _ _ _ => rfl)
    rw [rbpV, lvA, h.1.2.2]
    exact (plan_tr hT2 lo K (Nat.le_refl K)).1.all n (Nat.le_refl n)
  have e := mx_pair (f := lvF a n m K) (g := fun i => lvA b n m K (nI i)) (v0 := rbpV a n m K (-4)) (G := lvG b n m K) (by rw [lvG, key a (-4) (fun _ _ _ => rfl)]) (fun i => rfl) K (fun j _ => key _ _ (fun r h1 h2 => lvW_ne (by omega) j))
  rw [leaveR, mLeaveR, upToB_inZ (by omega), e]
  rfl
theorem aSame_lvW {i : Nat} : aSame (lvW a K i) a := fun r _ _ h _ _ => lvW_ne (by omega) i
/-- kinds tried -/
theorem kind_tr (h : TP a (b 76) 21 0 n m K) {p : Nat} (hp : p < n) : ∀ i, TP (kdW a p i) ((kyW b p i) 76) 32 260 n m K
  | 0 => h.tri
  | i + 1 => by
    have ih := kind_tr h hp i
    rw [kdW, kyW, vset76]
    have := ih.one1 (c := 0) (v := nI i) (by omega) hp (fun q => by omega)
    rw [show 260 + (5 * 0 + p) = 260 + p by omega] at this
    exact this
theorem all_nI {s : vW} {t : Nat} : ∀ i, ∃ N, N ≤ 64 * i ∧ allTo s t m i = nI N
  | 0 => ⟨0, Nat.le_refl 0, rfl⟩
  | i + 1 => by
    obtain ⟨N, hN, e⟩ := all_nI (s := s) (t := t) i
    have := (bcN_lt (reachW s t m i)).1
    exact ⟨N + bcN (reachW s t m i), by omega, by rw [allTo, e, nI_add]⟩
theorem kindly_eq (h : Rel a b n m K k l) {x w : Int32} : kindlyR a n m x w = mKindlyR b n m x w := by
  have hT := h.1.1
  have n5 := hT.n5
  rw [kindlyR, mKindlyR, p1Ok, hT.one, upToB_inZ (by omega)]
  by_cases q : inZ x n = true
  · obtain ⟨p, hp, rfl⟩ := inZ_ex q (by omega)
    rw [if_pos q, if_pos q, nI_clamp (by omega)]
    by_cases q2 : inZ w 2 = true
    · rw [if_pos q2, if_pos q2, if_pos rfl]
      have ef : ∀ i, kdF a n m p i = kyA b n m p i := fun i => by
        rw [kdF, kyA, h.1.2.2]
        exact (kind_tr hT hp (i + 1)).all n (Nat.le_refl n)
      have hpos : ¬ kyA b n m p 0 ≤ -1 := by
        rw [← ef, kdF]
        obtain ⟨N, hN, e⟩ := all_nI (m := m) (s := kdW a p (0 + 1)) (t := 32) n
        rw [e, le_toInt, nI_toInt (by omega)]
        have h3 : ((-1 : Int32)).toInt = -1 := by decide
        omega
      have key : ∀ i, kyG b n m p (i + 1) = (mxV (kdF a n m p) (-1) (i + 1), mxA (kdF a n m p) (-1) (i + 1)) := by
        intro i
        induction i with
        | zero =>
          rw [kyG, kyG, mxV, mxA, mxV, mxA, ef, if_neg hpos, if_neg hpos, if_neg hpos]
        | succ i ih =>
          have s1 : kyG b n m p (i + 1 + 1) = if kyA b n m p (i + 1) ≤ (kyG b n m p (i + 1)).1 then kyG b n m p (i + 1) else (kyA b n m p (i + 1), nI (i + 1)) := rfl
          have s2 : mxV (kdF a n m p) (-1) (i + 1 + 1) = if kdF a n m p (i + 1) ≤ mxV (kdF a n m p) (-1) (i + 1) then mxV (kdF a n m p) (-1) (i + 1) else kdF a n m p (i + 1) := rfl
          have s3 : mxA (kdF a n m p) (-1) (i + 1 + 1) = if kdF a n m p (i + 1) ≤ mxV (kdF a n m p) (-1) (i + 1) then mxA (kdF a n m p) (-1) (i + 1) else nI (i + 1) := rfl
          rw [s1, s2, s3, ih, ef (i + 1)]
          split <;> rfl
      rw [key 3]
    · rw [if_neg q2, if_neg q2, if_neg Bool.false_ne_true]
  · rw [if_neg q, if_neg q, if_neg Bool.false_ne_true]
theorem aSame_kdW {p i : Nat} : aSame (kdW a p i) a := fun r _ _ h _ _ => by rw [kdW_ne (by omega), becW_ne (by omega)]
end R1
