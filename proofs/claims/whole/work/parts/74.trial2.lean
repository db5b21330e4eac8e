/-! The pure part: one door more, one door less -/
section R2
variable {a b s : vW} {R R' : Nat → Int32} {t g n m K k l : Nat}
theorem lets_ow {s s' : vW} {o p : Int32} (h0 : s' t = s t) (h1 : s' (t + 1) = s (t + 1)) (h2 : s' (t + 2) = s (t + 2)) : letsB s' t o p = letsB s t o p := by
  unfold letsB
  rw [h0, h1, h2]
/-- page 260 as a copy of page 0 -/
theorem TP.pg (h : TP a (b 76) 21 0 n m K) : TP a ((cpW b 0 260) 76) 21 260 n m K := h.mv (fun _ _ _ => rfl) (fun _ _ _ _ _ => rfl) (fun _ _ _ _ _ => rfl) (fun _ _ => rfl) (fun _ _ _ _ _ => rfl) (fun i hi => by rw [cpW_to hi])
/-- the walls passed if one door more hung -/
theorem passIf_bt (h : TP s R t g n m K) {q w p v : Nat} (hq : q < n) (hw : w < m) (hp : p < n) (hv : v < m) (hc : canB s t (nI q) (nI w) = true) : bt (passIf s t (nI q) (nI w) (nI p) m) v = mPass (hgR R n g q (nI w)) n (nI 0) g v p := by
  have m9 := h.m9
  have n5 := h.n5
  have hT := h.hang hq hw hc
  have ho := canB_own (by omega) (by omega) hc
  rw [← hT.pass (by omega) hp, lets_ow (hangW_ne (by omega) (by omega)) (hangW_ne (by omega) (by omega)) (hangW_ne (by omega) (by omega))]
  have a7 : (hangW s t (nI q) (nI w)) (t + 7) v = if v = w then nI q else s (t + 7) v := by
    rw [hangW, vset_row, vrow_at, nI_clamp (by omega), nI_clamp (by omega), vset_ne (by omega)]
    rfl
  have hP := passTo_bt (s := s) (t := t) (p := nI p) (i := v) (by omega) m (by omega)
  rw [decide_eq_true hv, Bool.true_and] at hP
  rw [a7, passIf]
  by_cases e : v = w
  · subst e
    rw [if_pos rfl]
    by_cases hl : letsB s t (nI q) (nI p) = true
    · rw [if_pos hl, b_or, bt_bit (by omega) (by omega), decide_eq_true rfl, Bool.or_true, hl]
    · rw [if_neg hl, hP, ho.2, letsB_none, Bool.eq_false_iff.mpr hl]
  · rw [if_neg e]
    by_cases hl : letsB s t (nI q) (nI p) = true
    · rw [if_pos hl, b_or, bt_bit (by omega) (by omega), decide_eq_false e, Bool.or_false, hP]
    · rw [if_neg hl, hP]
theorem hgR_same {q w : Nat} {i : Nat} (hi : i < 15 ∨ 20 ≤ i) (hq : q < 5) : hgR R n g q (nI w) (g + i) = R (g + i) := hgR_c (by omega)
theorem distIf_eq (h : TP a (b 76) 21 0 n m K) (hJ : b 75 20 = nI 0) {q w p r : Nat} (hq : q < n) (hw : w < m) (hp : p < n) (hr : r < 8) : distIf a 21 m (nI q) (nI w) p (nI r) = sbR b n m q (nI w) p r := by
  have n5 := h.n5
  have hg := h.pg
  have ec := hg.can hq hw
  rw [distIf, sbR, hJ]
  by_cases hc : canB a 21 (nI q) (nI w) = true
  · rw [if_pos hc, if_pos (ec ▸ hc), hgT, mHgW_76]
    have hT := hg.hang hq hw hc
    obtain ⟨x, hx, e1, e2⟩ := hg.home2 hp
    have e3 : hgR ((cpW b 0 260) 76) n 260 q (nI w) (260 + 10 + p) = nI x := by rw [hgR_c (by omega)]; exact e2
    rw [mFarQ, e1, e3, nI_clamp (by omega)]
    exact dist_eq h.m9 hx hr hT.wOK (fun v hv => ⟨by rw [hgR_c (by omega)]; exact (hg.wall hv).1, by rw [hgR_c (by omega)]; exact (hg.wall hv).2, passIf_bt hg hq hw hp hv hc⟩)
  · rw [if_neg hc, if_neg (fun z => hc (ec.trans z))]
/-- a distance is -4, or below 8 -/
theorem mFarQ_v {g' m' q' i : Nat} {J : Int32} {R' : Nat → Int32} (hE : wOK R' g' m') (hh : ∃ r, r < 8 ∧ R' (g' + 10 + q') = nI r) (hi : i < 8) : mFarQ R' n J g' m' q' i = -4 ∨ ∃ e, e < 8 ∧ mFarQ R' n J g' m' q' i = nI e := by
  obtain ⟨r, hr, e⟩ := hh
  rw [mFarQ, e, nI_clamp (by omega)]
  rcases (mgA_rnd (n := n) (J := J) (q := q') (f := fun _ => 0) hE hr).1 i hi with ⟨z, _⟩ | ⟨d, hd, z, _⟩
  · exact Or.inl z
  · exact Or.inr ⟨d, hd, z⟩
theorem sbR_v (h : TP a (b 76) 21 0 n m K) {q w p r : Nat} (hq : q < n) (hw : w < m) (hp : p < n) (hr : r < 8) : sbR b n m q (nI w) p r = -4 ∨ ∃ e, e < 8 ∧ sbR b n m q (nI w) p r = nI e := by
  have n5 := h.n5
  have hg := h.pg
  have ec := hg.can hq hw
  unfold sbR
  split
  · rename_i hc
    have hT := hg.hang hq hw (ec.trans hc)
    rw [hgT, mHgW_76]
    exact mFarQ_v hT.wOK (hT.hom8 (by omega)) hr
  · exact Or.inl rfl
/-- the two ways of keeping the least -/
def lst2 (A V : Int32) (G : Int32 × Int32) : Prop := G.2 = A ∧ ((A = -4 ∧ V = nI 8 ∧ G.1 = nI 100) ∨ (¬ A = -4 ∧ V = G.1 ∧ ∃ e, e < 8 ∧ V = nI e))
theorem lst2_s {A V x : Int32} {G : Int32 × Int32} {c : Nat} (h : lst2 A V G) (hc : c < 1000) (hx : x = -4 ∨ ∃ e, e < 8 ∧ x = nI e) : lst2 (if x < 0 then A else if V ≤ x then A else nI c) (if x < 0 then V else if V ≤ x then V else x) (if x = -4 then G else if G.1 ≤ x then G else (x, nI c)) := by
  rcases hx with hx | ⟨e, he, hx⟩
  · rw [if_pos hx, if_pos (by rw [hx]; decide), if_pos (by rw [hx]; decide)]
    exact h
  · have n0 : ¬ x < 0 := by
      rw [hx]
      exact nI_pos (by omega)
    have n4 : ¬ x = -4 := by
      rw [hx]
      exact nI_nm4 (by omega)
    rw [if_neg n0, if_neg n0, if_neg n4]
    obtain ⟨h1, ⟨h2, h3, h4⟩ | ⟨h2, h3, e', he', h4⟩⟩ := h
    · have q1 : ¬ V ≤ x := by
        rw [h3, hx]
        exact nI_ge (by omega) (by omega)
      have q2 : ¬ G.1 ≤ x := by
        rw [h4, hx]
        exact nI_ge (by omega) (by omega)
      rw [if_neg q1, if_neg q1, if_neg q2]
      exact ⟨rfl, Or.inr ⟨nI_nm4 (by omega), rfl, e, he, hx⟩⟩
    · rw [← h3]
      by_cases q : V ≤ x
      · rw [if_pos q, if_pos q, if_pos q]
        exact ⟨h1, Or.inr ⟨h2, h3, e', he', h4⟩⟩
      · rw [if_neg q, if_neg q, if_neg q]
        exact ⟨rfl, Or.inr ⟨nI_nm4 (by omega), rfl, e, he, hx⟩⟩
theorem lst2_ask {A V w : Int32} {G : Int32 × Int32} (h : lst2 A V G) : askd A V w = lstR G w := by
  unfold askd lstR
  obtain ⟨h1, ⟨h2, _⟩ | ⟨h2, h3, _⟩⟩ := h
  · rw [h1, if_pos h2, if_pos h2]
  · rw [h1, if_neg h2, if_neg h2, h3]
theorem best_eq (h : Rel a b n m K k l) {x r w : Int32} : bestR a m x r w = mBestR b n m x r w := by
  have hT := h.1.1
  have n5 := hT.n5
  have m9 := hT.m9
  rw [bestR, mBestR, pr1Ok, hT.one, roomB_inZ, upToB_inZ (by omega)]
  by_cases q : inZ x n = true
  · obtain ⟨p, hp, rfl⟩ := inZ_ex q (by omega)
    rw [if_pos q, if_pos q, nI_clamp (by omega)]
    by_cases q2 : inZ r 8 = true
    · obtain ⟨j, hj, rfl⟩ := inZ_ex q2 (by omega)
      rw [if_pos q2, if_pos q2, nI_clamp (by omega)]
      by_cases q3 : inZ w 2 = true
      · rw [if_pos q3, if_pos q3, if_pos rfl]
        have ef := hT.free hp
        by_cases hf : a (21 + 4) p = -1
        · rw [if_pos hf, if_pos (ef.mp hf)]
          apply lst2_ask
          have key : ∀ i, i ≤ m → lst2 (frA (fun k => distIf a 21 m (nI p) (nI k) p (nI j)) (fun k => k) (-4) (nI 8) i) (frV (fun k => distIf a 21 m (nI p) (nI k) p (nI j)) (nI 8) i) (bsG b n m p j i) := by
            intro i
            induction i with
            | zero => exact fun _ => ⟨rfl, Or.inl ⟨rfl, rfl, rfl⟩⟩
            | succ i ih =>
              intro hi
              have := lst2_s (ih (by omega)) (c := i) (by omega) (sbR_v hT hp (w := i) (by omega) hp hj)
              rw [frA, frV, bsG, distIf_eq hT h.1.2.2 hp (by omega) hp hj]
              exact this
          exact key m (Nat.le_refl m)
        · rw [if_neg hf, if_neg (fun z => hf (ef.mpr z))]
      · rw [if_neg q3, if_neg q3, if_neg Bool.false_ne_true]
    · rw [if_neg q2, if_neg q2, if_neg Bool.false_ne_true]
  · rw [if_neg q, if_neg q, if_neg Bool.false_ne_true]
theorem friend_eq (h : Rel a b n m K k l) {x r w : Int32} : friendR a n m x r w = mFriendR b n m x r w := by
  have hT := h.1.1
  have n5 := hT.n5
  have m9 := hT.m9
  rw [friendR, mFriendR, pr1Ok, hT.one, roomB_inZ, upToB_inZ (by omega)]
  by_cases q : inZ x n = true
  · obtain ⟨p, hp, rfl⟩ := inZ_ex q (by omega)
    rw [if_pos q, if_pos q, nI_clamp (by omega)]
    by_cases q2 : inZ r 8 = true
    · obtain ⟨j, hj, rfl⟩ := inZ_ex q2 (by omega)
      rw [if_pos q2, if_pos q2, nI_clamp (by omega)]
      by_cases q3 : inZ w 2 = true
      · rw [if_pos q3, if_pos q3, if_pos rfl]
        apply lst2_ask
        have key1 : ∀ (c : Nat) (A V : Int32) (G : Int32 × Int32), c < n → lst2 A V G → ∀ i, i ≤ m → lst2 (frA (frF a m p (nI j) c) (fun k => 10 * c + k) A V i) (frV (frF a m p (nI j) c) V i) (frG b n m p j c G i) := by
          intro c A V G hc hG i
          induction i with
          | zero => exact fun _ => hG
          | succ i ih =>
            intro hi
            have ih := ih (by omega)
            rw [frA, frV, frG, frF]
            by_cases e : c = p
            · subst e
              rw [if_pos rfl, if_pos rfl, if_pos (by decide), if_pos (by decide)]
              exact ih
            · have ne : ¬ nI c = nI p := fun z => e (nI_eqN (by omega) (by omega) z)
              rw [if_neg ne, if_neg e, distIf_eq hT h.1.2.2 hc (by omega) hp hj]
              exact lst2_s ih (c := 10 * c + i) (by omega) (sbR_v hT hc (w := i) (by omega) hp hj)
        have key : ∀ c, c ≤ n → lst2 (foA a m p (nI j) c) (foV a m p (nI j) c) (frQ b n m p j c) := by
          intro c
          induction c with
          | zero => exact fun _ => ⟨rfl, Or.inl ⟨rfl, rfl, rfl⟩⟩
          | succ c ih =>
            intro hc
            rw [foA, foV, frQ]
            exact key1 c _ _ _ (by omega) (ih (by omega)) m (Nat.le_refl m)
        exact key n (Nat.le_refl n)
      · rw [if_neg q3, if_neg q3, if_neg Bool.false_ne_true]
    · rw [if_neg q2, if_neg q2, if_neg Bool.false_ne_true]
  · rw [if_neg q, if_neg q, if_neg Bool.false_ne_true]
/-- what one gains is no less than 0 -/
theorem gainG_nI {x : Int32} {p : Nat} (hw : ∀ r, r < 8 → ∃ v, v < 100 ∧ R (g + 44 + r) = nI v) : ∀ i, i ≤ 8 → ∃ N, N ≤ 100 * i ∧ mGainG R g p x i = nI N
  | 0, _ => ⟨0, Nat.le_refl 0, rfl⟩
  | i + 1, hi => by
    obtain ⟨N, hN, e⟩ := gainG_nI (x := x) (p := p) hw i (by omega)
    obtain ⟨v, hv, ev⟩ := hw i (by omega)
    rw [mGainG, e, ev]
    split
    · split
      · exact ⟨N, by omega, by rw [nI_add]; rfl⟩
      · exact ⟨N + v, by omega, by rw [nI_add]⟩
    · exact ⟨N, by omega, by rw [nI_add]; rfl⟩
theorem TP.gpos (h : TP s R t g n m K) {p : Nat} {J : Int32} : ∃ N, N ≤ 800 ∧ mGain R n J g m p = nI N := gainG_nI (fun _ hr => (h.wor9 hr).2) 8 (Nat.le_refl 8)
theorem gainIf_eq (h : TP a (b 76) 21 0 n m K) (hJ : b 75 20 = nI 0) {p w : Nat} (hw : w < m) (hp : p < n) : gainIf a 21 m p (nI w) = if mCan ((cpW b 0 260) 76) n 260 p (nI w) = true then mgnT b n m p w else -4 := by
  have n5 := h.n5
  have hg := h.pg
  have ec := hg.can hp hw
  rw [gainIf, mgnT, hJ]
  by_cases hc : canB a 21 (nI p) (nI w) = true
  · rw [if_pos hc, if_pos (ec ▸ hc), hgT, mHgW_76]
    have hT := hg.hang hp hw hc
    obtain ⟨x, hx, e1, e2⟩ := hg.home2 hp
    have e3 : hgR ((cpW b 0 260) 76) n 260 p (nI w) (260 + 10 + p) = nI x := by rw [hgR_c (by omega)]; exact e2
    have e4 : spreadW a 21 m (passIf a 21 (nI p) (nI w) (nI p) m) (nI x) = mReachQ (hgR ((cpW b 0 260) 76) n 260 p (nI w)) n (nI 0) 260 m p := by
      rw [mReachQ, e3, nI_clamp (by omega)]
      exact reach_eq h.m9 hx hT.wOK (fun v hv => ⟨by rw [hgR_c (by omega)]; exact (hg.wall hv).1, by rw [hgR_c (by omega)]; exact (hg.wall hv).2, passIf_bt hg hp hw hp hv hc⟩)
    rw [gainW, mGain, e1, e4]
    exact gain_eq hx e3 (fun r hr => by rw [hgR_c (by omega)]; exact hg.wor hr) 8 (Nat.le_refl 8)
  · rw [if_neg hc, if_neg (fun z => hc (ec.trans z))]
theorem gain_eq2 (h : Rel a b n m K k l) {x w : Int32} : gainR a m x w = mGainR b n m x w := by
  have hT := h.1.1
  have n5 := hT.n5
  have m9 := hT.m9
  rw [gainR, mGainR, p1Ok, hT.one, upToB_inZ (by omega)]
  by_cases q : inZ x n = true
  · obtain ⟨p, hp, rfl⟩ := inZ_ex q (by omega)
    rw [if_pos q, if_pos q, nI_clamp (by omega)]
    by_cases q3 : inZ w 2 = true
    · rw [if_pos q3, if_pos q3, if_pos rfl]
      have ef := hT.free hp
      by_cases hf : a (21 + 4) p = -1
      · rw [if_pos hf, if_pos (ef.mp hf)]
        have e0 : g0 a m p = mGain (b 76) n (nI 0) 0 m p := hT.gain hp
        obtain ⟨N0, hN0, eN0⟩ := hT.gpos (p := p) (J := nI 0)
        have key : ∀ i, i ≤ m → gnG b n m p i = (mxV (fun k => gainIf a 21 m p (nI k)) (g0 a m p) i, mxA (fun k => gainIf a 21 m p (nI k)) (g0 a m p) i) ∧ ∃ N, N ≤ 800 ∧ mxV (fun k => gainIf a 21 m p (nI k)) (g0 a m p) i = nI N := by
          intro i
          induction i with
          | zero => exact fun _ => ⟨by rw [gnG, h.1.2.2, ← e0]; rfl, N0, hN0, by rw [mxV, e0]; exact eN0⟩
          | succ i ih =>
            intro hi
            obtain ⟨ih, N, hN, eN⟩ := ih (by omega)
            rw [gnG, ih, mxV, mxA, gainIf_eq hT h.1.2.2 (by omega) hp]
            by_cases hc : mCan ((cpW b 0 260) 76) n 260 p (nI i) = true
            · rw [if_pos hc, if_pos hc]
              have hT2 := hT.pg.hang (w := i) hp (by omega) ((hT.pg.can hp (by omega)).trans hc)
              obtain ⟨N', hN', eN'⟩ := hT2.gpos (p := p) (J := b 75 20)
              by_cases hq : mgnT b n m p i ≤ mxV (fun k => gainIf a 21 m p (nI k)) (g0 a m p) i
              · rw [if_pos hq, if_pos hq, if_pos hq]
                exact ⟨rfl, N, hN, eN⟩
              · rw [if_neg hq, if_neg hq, if_neg hq]
                exact ⟨rfl, N', hN', by rw [mgnT, hgT, mHgW_76]; exact eN'⟩
            · have hq : (-4 : Int32) ≤ mxV (fun k => gainIf a 21 m p (nI k)) (g0 a m p) i := by
                rw [eN, le_toInt, nI_toInt (by omega)]
                have h3 : ((-4 : Int32)).toInt = -4 := by decide
                omega
              rw [if_neg hc, if_neg hc, if_pos hq, if_pos hq]
              exact ⟨rfl, N, hN, eN⟩
        rw [(key m (Nat.le_refl m)).1]
        rfl
      · rw [if_neg hf, if_neg (fun z => hf (ef.mpr z))]
    · rw [if_neg q3, if_neg q3, if_neg Bool.false_ne_true]
  · rw [if_neg q, if_neg q, if_neg Bool.false_ne_true]
/-- the walls passed if some are filled -/
theorem andn_bt {x y : Int32} {v : Nat} (hv : v < 32) : bt (x &&& (y ^^^ -1)) v = (bt x v && !bt y v) := by rw [b_and, b_xor, b_m1 v hv, Bool.xor_true]
theorem fillT (h : TP s R t g n m K) {u : vW} {w : Nat} (hw : w < m) (hu : u 76 = R) : TP (takeW s t (nI w) (-2)) ((mFlW u n g (nI w)) 76) t g n m K ∧ ∀ v, v < 9 → (takeW s t (nI w) (-2)) (t + 7) v = if v = w then -1 else s (t + 7) v := by
  have m9 := h.m9
  have n5 := h.n5
  rcases dOK_door h.door m9 n5 (w := w) (by omega) with ⟨e1, e2⟩ | ⟨o, ho, e1, e2⟩
  · have e : mFlW u n g (nI w) = u := by rw [mFlW, if_pos (by rw [hu]; exact e2)]
    rw [takeW_0 h hw e1, e, hu]
    refine ⟨h, fun v hv => ?_⟩
    split
    · rename_i z
      rw [z]
      exact e1
    · rfl
  · have e3 : mDoor (u 76) n g (nI w) = nI o := by rw [hu]; exact e2
    rw [mFlW_76 (by omega) e3, hu]
    refine ⟨h.take hw ho e1 (Or.inr ⟨rfl, rfl⟩), fun v hv => ?_⟩
    rw [takeW, takeO, h.wal, inZ_nI (by omega), decide_eq_true hw, if_pos rfl, nI_clamp (by omega), e1, h.one, inZ_nI (by omega), decide_eq_true ho, if_pos rfl, vset_ne (by omega), vset_row, vrow_at]
    rfl
theorem mGain_v {r0 p : Nat} {opn : Int32} (h : TP s R t g n m K) (hE : ∀ v, v < m → s (t + 5) v = R (g + 26 + v) ∧ s (t + 6) v = R (g + 35 + v) ∧ bt opn v = mPass R n (nI 0) g v p) (hr : r0 < 8) (hh : R (g + 10 + p) = nI r0) : gainW s t p (spreadW s t m opn (nI r0)) = gainW s t p (mReachQ R n (nI 0) g m p) := by
  rw [mReachQ, hh, nI_clamp (by omega), reach_eq h.m9 hr h.wOK hE]
theorem dearX_eq (h : TP a (b 76) 21 0 n m K) (hJ : b 75 20 = nI 0) {p w : Nat} (hw : w < m) (hp : p < n) : drF a m p w = dearX b n m p w := by
  have n5 := h.n5
  have m9 := h.m9
  have hg := h.pg
  obtain ⟨hT, ho⟩ := fillT hg hw (u := cpW b 0 260) rfl
  have e0 : g0 a m p = mGain (b 76) n (nI 0) 0 m p := h.gain hp
  obtain ⟨x, hx, e1, e2⟩ := hg.home2 hp
  obtain ⟨y, hy, e3, e4⟩ := hT.home2 hp
  have e5 : (takeW a 21 (nI w) (-2)) (21 + 3) p = a (21 + 3) p := by rw [takeW_ne (by omega) (by omega)]
  have exy : y = x := nI_eqN (by omega) (by omega) (e3.symm.trans (e5.trans e1))
  subst exy
  rw [drF, dearX, e0, hJ, flT, e1]
  congr 1
  have e6 : spreadW a 21 m (passTo a 21 (nI p) m &&& ((nI 1 <<< (nI w &&& 31)) ^^^ -1)) (nI y) = mReachQ ((mFlW (cpW b 0 260) n 260 (nI w)) 76) n (nI 0) 260 m p := by
    rw [mReachQ, e4, nI_clamp (by omega)]
    refine reach_eq h.m9 hy hT.wOK (fun v hv => ⟨?_, ?_, ?_⟩)
    · rw [← (hT.wall hv).1, takeW_ne (by omega) (by omega)]
    · rw [← (hT.wall hv).2, takeW_ne (by omega) (by omega)]
    · rw [← hT.pass (by omega) hp, lets_ow (takeW_ne (by omega) (by omega)) (takeW_ne (by omega) (by omega)) (takeW_ne (by omega) (by omega)), ho v (by omega), andn_bt (by omega), passTo_bt (by omega) m (by omega), decide_eq_true hv, Bool.true_and, bt_bit (by omega) (by omega)]
      by_cases e : v = w
      · rw [decide_eq_true e, if_pos e, letsB_none, Bool.not_true, Bool.and_false]
      · rw [decide_eq_false e, if_neg e, Bool.not_false, Bool.and_true]
  rw [gainW, mGain, e1, e6]
  refine gain_eq hy e4 (fun r hr => ?_) 8 (Nat.le_refl 8)
  have := hT.wor hr
  rw [takeW_ne (by omega) (by omega)] at this
  exact this
theorem dear_eq (h : Rel a b n m K k l) {x w : Int32} : dearR a m x w = mDearR b n m x w := by
  have hT := h.1.1
  have n5 := hT.n5
  have m9 := hT.m9
  rw [dearR, mDearR, p1Ok, hT.one, upToB_inZ (by omega)]
  by_cases q : inZ x n = true
  · obtain ⟨p, hp, rfl⟩ := inZ_ex q (by omega)
    rw [if_pos q, if_pos q, nI_clamp (by omega)]
    by_cases q3 : inZ w 2 = true
    · rw [if_pos q3, if_pos q3, if_pos rfl, mx_pair (f := drF a m p) (g := dearX b n m p) (v0 := nI 0) (G := dearG b n m p) rfl (fun i => rfl) m (fun j hj => dearX_eq hT h.1.2.2 hj hp)]
      rfl
    · rw [if_neg q3, if_neg q3, if_neg Bool.false_ne_true]
  · rw [if_neg q, if_neg q, if_neg Bool.false_ne_true]
end R2
