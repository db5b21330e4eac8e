/-! The pure part: more calls that change -/
section C2
variable {s s' a b : vW} {R R' : Nat → Int32} {t g n m K k l : Nat}
theorem TP.build (h : TP s R t g n m K) {x y : Nat} (hm : m < 9) (hx : x < 8) (hy : y < 8) : TP (addWallW s t m (nI x) (nI y)) (upd (upd (upd R (g + 26 + m) (nI x)) (g + 35 + m) (nI y)) (g + 25) (nI (m + 1))) t g n (m + 1) K := by
  have n5 := h.n5
  have K6 := h.K6
  have hd := h.door
  have hs : ∀ i, i ≤ 10 → i ≠ 0 → i ≠ 5 → i ≠ 6 → (addWallW s t m (nI x) (nI y)) (t + i) = s (t + i) := fun i _ h0 h5 h6 => by rw [addWallW, vset_ne (by omega), vset_ne (by omega), vset_ne (by omega)]
  have e0 : ∀ j, (addWallW s t m (nI x) (nI y)) t j = if j = 11 then nI (m + 1) else s t j := fun j => by
    rw [addWallW, vset_row, vrow_at, vset_ne (by omega), vset_ne (by omega)]
    rfl
  have e5 : ∀ j, (addWallW s t m (nI x) (nI y)) (t + 5) j = if j = m then nI x else s (t + 5) j := fun j => by
    rw [addWallW, vset_ne (by omega), vset_ne (by omega), vset_row, vrow_at]
    rfl
  have e6 : ∀ j, (addWallW s t m (nI x) (nI y)) (t + 6) j = if j = m then nI y else s (t + 6) j := fun j => by
    rw [addWallW, vset_ne (by omega), vset_row, vrow_at, vset_ne (by omega)]
    rfl
  generalize addWallW s t m (nI x) (nI y) = S at hs e0 e5 e6 ⊢
  have r : ∀ j, j ≠ g + 25 → j ≠ g + 26 + m → j ≠ g + 35 + m → (upd (upd (upd R (g + 26 + m) (nI x)) (g + 35 + m) (nI y)) (g + 25) (nI (m + 1))) j = R j := fun j h1 h2 h3 => by rw [upd_ne h1, upd_ne h3, upd_ne h2]
  have r25 : (upd (upd (upd R (g + 26 + m) (nI x)) (g + 35 + m) (nI y)) (g + 25) (nI (m + 1))) (g + 25) = nI (m + 1) := upd_at _ _ _
  have r26 : (upd (upd (upd R (g + 26 + m) (nI x)) (g + 35 + m) (nI y)) (g + 25) (nI (m + 1))) (g + 26 + m) = nI x := by rw [upd_ne (by omega), upd_ne (by omega), upd_at]
  have r35 : (upd (upd (upd R (g + 26 + m) (nI x)) (g + 35 + m) (nI y)) (g + 25) (nI (m + 1))) (g + 35 + m) = nI y := by rw [upd_ne (by omega), upd_at]
  generalize upd (upd (upd R (g + 26 + m) (nI x)) (g + 35 + m) (nI y)) (g + 25) (nI (m + 1)) = Q at r r25 r26 r35 ⊢
  refine ⟨⟨by rw [e0, if_neg (by omega)]; exact h.hn, n5, by rw [e0, if_pos rfl], hm, by rw [e0, if_neg (by omega)]; exact h.hK, K6, r25, by rw [r _ (by omega) (by omega) (by omega)]; exact h.gK⟩, fun p hp => ?_, fun q hq => ?_, ⟨fun p hp => ?_, ?_, ?_⟩, fun w hw => ?_, fun w hw => ?_, fun j hj => ?_, fun j hj => ?_⟩
  · rw [hs 1 (by omega) (by omega) (by omega) (by omega), hs 2 (by omega) (by omega) (by omega) (by omega), hs 3 (by omega) (by omega) (by omega) (by omega), r _ (by omega) (by omega) (by omega), r _ (by omega) (by omega) (by omega), r _ (by omega) (by omega) (by omega)]
    exact h.2.1 p hp
  · rw [r _ (by omega) (by omega) (by omega)]
    exact h.hom8 hq
  · rw [hs 4 (by omega) (by omega) (by omega) (by omega), r _ (by omega) (by omega) (by omega), r _ (by omega) (by omega) (by omega)]
    rcases hd.1 p hp with q | q | ⟨w, hw, q⟩
    · exact Or.inl q
    · exact Or.inr (Or.inl q)
    · exact Or.inr (Or.inr ⟨w, by omega, q⟩)
  · rw [hs 4 (by omega) (by omega) (by omega) (by omega), hs 7 (by omega) (by omega) (by omega) (by omega)]
    exact hd.2.1
  · rw [hs 4 (by omega) (by omega) (by omega) (by omega), hs 7 (by omega) (by omega) (by omega) (by omega)]
    exact hd.2.2
  · rw [e5, e6]
    by_cases e : w = m
    · subst e
      rw [if_pos rfl, if_pos rfl, r26, r35]
      exact ⟨rfl, rfl⟩
    · rw [if_neg e, if_neg e, r _ (by omega) (by omega) (by omega), r _ (by omega) (by omega) (by omega)]
      exact h.wall (by omega)
  · by_cases e : w = m
    · subst e
      exact ⟨x, y, hx, hy, r26, r35⟩
    · rw [r _ (by omega) (by omega) (by omega), r _ (by omega) (by omega) (by omega)]
      exact h.wOK w (by omega)
  · rw [hs 8 (by omega) (by omega) (by omega) (by omega), r _ (by omega) (by omega) (by omega)]
    exact h.wor9 hj
  · rw [hs 9 (by omega) (by omega) (by omega) (by omega), hs 10 (by omega) (by omega) (by omega) (by omega), r _ (by omega) (by omega) (by omega), r _ (by omega) (by omega) (by omega)]
    obtain ⟨q1, q2, q3, w, hw, q4⟩ := h.act hj
    exact ⟨q1, q2, q3, w, by omega, q4⟩
theorem nI_eq9 {N : Nat} (hm : m ≤ N) (hN : N < 1000) : (nI m = nI N) = (¬ m < N) := propext ⟨fun q => by have := nI_eqN (by omega) (by omega) q; omega, fun q => by rw [show m = N by omega]⟩
theorem build_eq (h : Rel a b n m K k l) {x y : Int32} : buildR m x y = mBldR m x y ∧ ∃ m', Rel (buildW a m x y) (mBldV b m x y) n m' K k l := by
  have hT := h.1.1
  have m9 := hT.m9
  rw [buildR, buildW, mBldR, mBldV, buildOk, roomB_inZ, roomB_inZ]
  by_cases q : inZ x 8 = true
  · rw [if_pos q, if_pos q, if_pos q]
    by_cases q2 : inZ y 8 = true
    · rw [if_pos q2, if_pos q2, if_pos q2]
      by_cases e : x = y
      · rw [if_pos e, if_pos e, if_pos e, if_neg Bool.false_ne_true, if_neg Bool.false_ne_true]
        exact ⟨rfl, m, h⟩
      · rw [if_neg e, if_neg e, if_neg e, if_pos rfl, if_pos rfl]
        by_cases hm : m < 9
        · have ne : ¬ nI m = nI 9 := fun z => by
            have := nI_eqN (by omega) (by omega) z
            omega
          rw [if_pos hm, if_pos hm, if_neg ne, if_neg ne]
          obtain ⟨i, hi, rfl⟩ := inZ_ex q (by omega)
          obtain ⟨j, hj, rfl⟩ := inZ_ex q2 (by omega)
          refine ⟨rfl, m + 1, h.town ⟨?_, ?_, ?_⟩ (fun r hr => ?_) (fun r h1 _ => ?_) (fun i hi => ?_)⟩
          · rw [mBldW, vset76, vset76, vset76]
            have := hT.build hm hi hj
            rw [Nat.zero_add, Nat.zero_add] at this
            exact this
          · rw [mBldW, vset_ne (by decide), vset_ne (by decide), vset_ne (by decide)]
            exact h.1.2.1
          · rw [mBldW, vset_ne (by decide), vset_ne (by decide), vset_ne (by decide)]
            exact h.1.2.2
          · rw [addWallW, vset_ne (by omega), vset_ne (by omega), vset_ne (by omega)]
          · rw [mBldW, vset_ne h1, vset_ne h1, vset_ne h1]
          · rw [mBldW, vset_oth (by omega), vset_oth (by omega), vset_oth (by omega)]
        · have e9 : nI m = nI 9 := by rw [show m = 9 by omega]
          rw [if_neg hm, if_neg hm, if_pos e9, if_pos e9]
          exact ⟨rfl, m, h⟩
    · rw [if_neg q2, if_neg q2, if_neg q2, if_neg Bool.false_ne_true, if_neg Bool.false_ne_true]
      exact ⟨rfl, m, h⟩
  · rw [if_neg q, if_neg q, if_neg q, if_neg Bool.false_ne_true, if_neg Bool.false_ne_true]
    exact ⟨rfl, m, h⟩
/-- the plan's cells -/
theorem TP.acts {K' : Nat} (h : TP s R t g n m K) (hK' : K' ≤ 6) (hs : ∀ i, i ≤ 10 → i ≠ 0 → i ≠ 9 → i ≠ 10 → s' (t + i) = s (t + i)) (e0 : ∀ j, s' t j = if j = 12 then nI K' else s t j) (hR : ∀ i, i < 52 → R' (g + i) = R (g + i)) (e52 : R' (g + 52) = nI K') (ha : ∀ k, k < K' → s' (t + 9) k = R' (g + 53 + k) ∧ s' (t + 10) k = R' (g + 59 + k) ∧ (∃ p, p < n ∧ s' (t + 9) k = nI p) ∧ ∃ w, w < m ∧ s' (t + 10) k = nI w) : TP s' R' t g n m K' := by
  have n5 := h.n5
  have m9 := h.m9
  have hd := h.door
  have r : ∀ c i, c + i < 52 → R' (g + c + i) = R (g + c + i) := fun c i hi => by
    rw [Nat.add_assoc]
    exact hR _ hi
  refine ⟨⟨by rw [e0, if_neg (by omega)]; exact h.hn, n5, by rw [e0, if_neg (by omega)]; exact h.hm, m9, by rw [e0, if_pos rfl], hK', by rw [hR 25 (by omega)]; exact h.gm, e52⟩, fun p hp => ?_, fun q hq => ?_, ⟨fun p hp => ?_, ?_, ?_⟩, fun w hw => ?_, fun w hw => ?_, fun j hj => ?_, ha⟩
  · rw [hs 1 (by omega) (by omega) (by omega) (by omega), hs 2 (by omega) (by omega) (by omega) (by omega), hs 3 (by omega) (by omega) (by omega) (by omega), hR p (by omega), r 5 p (by omega), r 10 p (by omega)]
    exact h.2.1 p hp
  · rw [r 10 q (by omega)]
    exact h.hom8 hq
  · rw [hs 4 (by omega) (by omega) (by omega) (by omega), r 15 p (by omega), r 20 p (by omega)]
    exact hd.1 p hp
  · rw [hs 4 (by omega) (by omega) (by omega) (by omega), hs 7 (by omega) (by omega) (by omega) (by omega)]
    exact hd.2.1
  · rw [hs 4 (by omega) (by omega) (by omega) (by omega), hs 7 (by omega) (by omega) (by omega) (by omega)]
    exact hd.2.2
  · rw [hs 5 (by omega) (by omega) (by omega) (by omega), hs 6 (by omega) (by omega) (by omega) (by omega), r 26 w (by omega), r 35 w (by omega)]
    exact h.wall hw
  · rw [r 26 w (by omega), r 35 w (by omega)]
    exact h.wOK w hw
  · rw [hs 8 (by omega) (by omega) (by omega) (by omega), r 44 j (by omega)]
    exact h.wor9 hj
theorem TP.plan (h : TP s R t g n m K) {p w : Nat} (hK : K < 6) (hp : p < n) (hw : w < m) : TP (addActW s t K (nI p) (nI w)) (upd (upd (upd R (g + 53 + K) (nI p)) (g + 59 + K) (nI w)) (g + 52) (nI (K + 1))) t g n m (K + 1) := by
  have e9 : ∀ j, (addActW s t K (nI p) (nI w)) (t + 9) j = if j = K then nI p else s (t + 9) j := fun j => by
    rw [addActW, vset_ne (by omega), vset_ne (by omega), vset_row, vrow_at]
    rfl
  have e10 : ∀ j, (addActW s t K (nI p) (nI w)) (t + 10) j = if j = K then nI w else s (t + 10) j := fun j => by
    rw [addActW, vset_ne (by omega), vset_row, vrow_at, vset_ne (by omega)]
    rfl
  refine h.acts (by omega) (fun i _ h0 h5 h6 => by rw [addActW, vset_ne (by omega), vset_ne (by omega), vset_ne (by omega)]) (fun j => by rw [addActW, vset_row, vrow_at, vset_ne (by omega), vset_ne (by omega)]; rfl) (fun i hi => by rw [upd_ne (by omega), upd_ne (by omega), upd_ne (by omega)]) (upd_at _ _ _) (fun i hi => ?_)
  rw [e9, e10]
  by_cases e : i = K
  · subst e
    rw [if_pos rfl, if_pos rfl, upd_ne (by omega), upd_ne (by omega), upd_at, upd_ne (by omega), upd_at]
    exact ⟨rfl, rfl, ⟨p, hp, rfl⟩, ⟨w, hw, rfl⟩⟩
  · rw [if_neg e, if_neg e, upd_ne (by omega), upd_ne (by omega), upd_ne (by omega), upd_ne (by omega), upd_ne (by omega), upd_ne (by omega)]
    exact h.act (by omega)
theorem plan_eq (h : Rel a b n m K k l) {x y : Int32} : planR a K x y = mPlnR n m K x y ∧ ∃ K', Rel (planW a K x y) (mPlnV b n m K x y) n m K' k l := by
  have hT := h.1.1
  have n5 := hT.n5
  have m9 := hT.m9
  have K6 := hT.K6
  rw [planR, planW, mPlnR, mPlnV, pwOk, hT.one, hT.wal]
  by_cases q : inZ x n = true
  · rw [if_pos q, if_pos q, if_pos q]
    by_cases q2 : inZ y m = true
    · rw [if_pos q2, if_pos q2, if_pos q2, if_pos rfl, if_pos rfl]
      by_cases hK : K < 6
      · have ne : ¬ nI K = nI 6 := fun z => by
          have := nI_eqN (by omega) (by omega) z
          omega
        rw [if_pos hK, if_pos hK, if_neg ne, if_neg ne]
        obtain ⟨i, hi, rfl⟩ := inZ_ex q (by omega)
        obtain ⟨j, hj, rfl⟩ := inZ_ex q2 (by omega)
        refine ⟨rfl, K + 1, h.town ⟨?_, ?_, ?_⟩ (fun r hr => ?_) (fun r h1 _ => ?_) (fun i hi => ?_)⟩
        · rw [mPlnW, vset76, vset76, vset76]
          have := hT.plan hK hi hj
          rw [Nat.zero_add, Nat.zero_add] at this
          exact this
        · rw [mPlnW, vset_ne (by decide), vset_ne (by decide), vset_ne (by decide)]
          exact h.1.2.1
        · rw [mPlnW, vset_ne (by decide), vset_ne (by decide), vset_ne (by decide)]
          exact h.1.2.2
        · rw [addActW, vset_ne (by omega), vset_ne (by omega), vset_ne (by omega)]
        · rw [mPlnW, vset_ne h1, vset_ne h1, vset_ne h1]
        · rw [mPlnW, vset_oth (by omega), vset_oth (by omega), vset_oth (by omega)]
      · have e9 : nI K = nI 6 := by rw [show K = 6 by omega]
        rw [if_neg hK, if_neg hK, if_pos e9, if_pos e9]
        exact ⟨rfl, K, h⟩
    · rw [if_neg q2, if_neg q2, if_neg q2, if_neg Bool.false_ne_true, if_neg Bool.false_ne_true]
      exact ⟨rfl, K, h⟩
  · rw [if_neg q, if_neg q, if_neg q, if_neg Bool.false_ne_true, if_neg Bool.false_ne_true]
    exact ⟨rfl, K, h⟩
theorem cut_eq (h : Rel a b n m K k l) {x : Int32} : cutR a x = (if inZ x (K + 1) = true then nI K else -1) ∧ ∃ K', Rel (cutW a x) (if inZ x (K + 1) = true then vset b 76 52 x else b) n m K' k l := by
  have hT := h.1.1
  have K6 := hT.K6
  rw [cutR, cutW, hT.hK, upToB_inZ (by omega)]
  by_cases q : inZ x (K + 1) = true
  · obtain ⟨i, hi, rfl⟩ := inZ_ex q (by omega)
    rw [if_pos q, if_pos q, if_pos q]
    refine ⟨rfl, i, h.cell (c := 0) (by omega) (by omega) (hT.acts (by omega) (fun j _ h0 _ _ => vset_ne (by omega)) (fun j => by rw [vset_row, vrow_at]; rfl) (fun j hj => upd_ne (by omega)) (upd_at _ _ _) (fun j hj => ?_))⟩
    rw [vset_ne (by omega), vset_ne (by omega), upd_ne (by omega), upd_ne (by omega)]
    exact hT.act (by omega)
  · rw [if_neg q, if_neg q, if_neg q]
    exact ⟨rfl, K, h⟩
theorem mHgW_r {u : vW} {p r : Nat} {w : Int32} (hr : r ≠ 76) : (mHgW u n g p w) r = u r := by
  unfold mHgW
  split
  · exact vset_ne hr
  · rfl
theorem hgR_c {p i : Nat} {w : Int32} (hi : i ≠ g + 15 + p) : hgR R n g p w i = R i := by
  unfold hgR
  split
  · exact upd_ne hi
  · rfl
theorem hang_eq (h : Rel a b n m K k l) {x y : Int32} : hangR a m x y = (if inZ x n = true then (if inZ y m = true then mHangsR b n m x.toNatClampNeg y else -1) else -1) ∧ Rel (hangV a x y) (if inZ x n = true then (if inZ y m = true then mHgW b n 0 x.toNatClampNeg y else b) else b) n m K k l := by
  have hT := h.1.1
  have n5 := hT.n5
  have m9 := hT.m9
  rw [hangR, hangV, pwOk, hT.one, hT.wal]
  by_cases q : inZ x n = true
  · obtain ⟨p, hp, rfl⟩ := inZ_ex q (by omega)
    rw [if_pos q, if_pos q, if_pos q]
    by_cases q2 : inZ y m = true
    · obtain ⟨w, hw, rfl⟩ := inZ_ex q2 (by omega)
      rw [if_pos q2, if_pos q2, if_pos q2, if_pos rfl, if_pos rfl, nI_clamp (by omega), mHangsR, h.1.2.2]
      have ec := hT.can hp hw
      by_cases hc : canB a 21 (nI p) (nI w) = true
      · have hT2 := hT.hang hp hw hc
        rw [if_pos hc, if_pos hc, if_pos (ec ▸ hc), mHgW_76]
        refine ⟨hT2.reach hp, h.town ⟨by rw [mHgW_76]; exact hT2, by rw [mHgW_r (by decide)]; exact h.1.2.1, by rw [mHgW_r (by decide)]; exact h.1.2.2⟩ (fun r hr => hangW_ne (by omega) (by omega)) (fun r h1 _ => mHgW_r h1) (fun i hi => by rw [mHgW_76, hgR_c (by omega)])⟩
      · have hc2 : ¬ mCan (b 76) n 0 p (nI w) = true := fun z => hc (ec.trans z)
        have e : mHgW b n 0 p (nI w) = b := by rw [mHgW, if_neg hc2]
        rw [if_neg hc, if_neg hc, if_neg hc2, e]
        exact ⟨rfl, h⟩
    · rw [if_neg q2, if_neg q2, if_neg q2, if_neg Bool.false_ne_true, if_neg Bool.false_ne_true]
      exact ⟨rfl, h⟩
  · rw [if_neg q, if_neg q, if_neg q, if_neg Bool.false_ne_true, if_neg Bool.false_ne_true]
    exact ⟨rfl, h⟩
theorem mFlW_76 {u : vW} {w o : Nat} (ho : o < 1000) (hd : mDoor (u 76) n g (nI w) = nI o) : (mFlW u n g (nI w)) 76 = tkR (u 76) g o (nI 1) := by
  rw [mFlW, hd, if_neg (nI_nm4 (by omega)), vset76, vset76, nI_clamp (by omega)]
  rfl
theorem mFlW_r {u : vW} {r : Nat} {w : Int32} (hr : r ≠ 76) : (mFlW u n g w) r = u r := by
  unfold mFlW
  split
  · rfl
  · rw [vset_ne hr, vset_ne hr]
theorem fill_eq (h : Rel a b n m K k l) {x : Int32} : fillRv a x = (if inZ x m = true then (if mDoor (b 76) n 0 x = -4 then -2 else mDoor (b 76) n 0 x) else -1) ∧ Rel (fillV a x) (if inZ x m = true then mFlW b n 0 x else b) n m K k l := by
  have hT := h.1.1
  have n5 := hT.n5
  have m9 := hT.m9
  rw [fillRv, fillV, hT.wal]
  by_cases q : inZ x m = true
  · obtain ⟨w, hw, rfl⟩ := inZ_ex q (by omega)
    rw [if_pos q, if_pos q, if_pos q, if_pos q]
    rcases dOK_door hT.door m9 n5 (w := w) (by omega) with ⟨e1, e2⟩ | ⟨o, ho, e1, e2⟩
    · rcases takeR_eq hT hw with ⟨_, e3⟩ | ⟨o, ho, e4, _⟩
      · have e : mFlW b n 0 (nI w) = b := by rw [mFlW, if_pos e2]
        rw [e3, if_pos rfl, e2, if_pos rfl, takeW_0 hT hw e1, e]
        exact ⟨rfl, h⟩
      · rw [e1] at e4
        exact absurd e4.symm (nI_nm1 (by omega))
    · rcases takeR_eq hT hw with ⟨e4, e3⟩ | ⟨o', ho', e4, e5⟩
      · rw [e1] at e4
        exact absurd e4 (nI_nm1 (by omega))
      · have : o' = o := nI_eqN (by omega) (by omega) (e4.symm.trans e1)
        subst this
        rw [e5, if_neg (nI_nm1 (by omega)), e2, if_neg (nI_nm4 (by omega))]
        refine ⟨rfl, h.town ⟨?_, ?_, ?_⟩ (fun r hr => takeW_ne (by omega) (by omega)) (fun r h1 _ => mFlW_r h1) (fun i hi => ?_)⟩
        · rw [mFlW_76 (by omega) e2]
          exact hT.take hw ho' e1 (Or.inr ⟨rfl, rfl⟩)
        · rw [mFlW_r (by decide)]
          exact h.1.2.1
        · rw [mFlW_r (by decide)]
          exact h.1.2.2
        · rw [mFlW_76 (by omega) e2, tkR, upd_ne (by omega), upd_ne (by omega)]
  · rw [if_neg q, if_neg q, if_neg q, if_neg q]
    exact ⟨rfl, h⟩
end C2
