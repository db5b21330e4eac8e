/-! The pure part: whom to watch next; drift -/
section AK
variable {a b s : vW} {R R' : Nat → Int32} {t g n m K k l : Nat}
theorem ushr_val {x : Int32} {i : Nat} (hi : i < 32) : ushr x (nI i) &&& nI 1 = bI (bt x i) := by
  apply b_ext
  intro j hj
  rw [b_and, bt_1 hj]
  unfold ushr
  rw [b_ushr i hi x j]
  by_cases e : bt x i = true
  · rw [e]
    show _ = bt (nI 1) j
    rw [bt_1 hj]
    by_cases ej : j = 0
    · subst ej
      rw [Nat.add_zero, e, Bool.true_and]
    · rw [decide_eq_false ej, Bool.and_false]
  · rw [Bool.eq_false_iff.mpr e]
    show _ = bt (nI 0) j
    rw [bt_nI0]
    by_cases ej : j = 0
    · subst ej
      rw [Nat.add_zero, Bool.eq_false_iff.mpr e, Bool.false_and]
    · rw [decide_eq_false ej, Bool.and_false]
theorem riW_66 {S : vW} {x : Int32} {r : Nat} : ∀ j, j ≤ 32 → (riW S x j) 66 r = if r < j then S 66 r + bI (bt x r) else S 66 r
  | 0, _ => by
    rw [if_neg (Nat.not_lt_zero r)]
    rfl
  | j + 1, hj => by
    have e : (riW S x (j + 1)) 66 r = if r = j then (riW S x j) 66 j + (ushr x (nI j) &&& nI 1) else (riW S x j) 66 r := by
      rw [riW, vset_row, vrow_at]
      rfl
    have ih := riW_66 (S := S) (x := x) (r := r) j (by omega)
    rw [e, ushr_val (by omega)]
    by_cases h : r = j
    · subst h
      rw [if_pos rfl, if_pos (by omega), ih, if_neg (Nat.lt_irrefl r)]
    · rw [if_neg h, ih]
      by_cases h2 : r < j
      · rw [if_pos h2, if_pos (by omega)]
      · rw [if_neg h2, if_neg (by omega)]
theorem woM_alw {u : vW} {p j : Nat} (hj : j < 32) : ∀ i, i ≤ 32 → bt (woM u n m k p i) j = true → alw u n p j = true := by
  intro i hi h
  have := orM_bt (f := woM u n m k p) (P := fun w => alw u n p w && asG (woT u p w) n (u 75 20) m 260 (u 82) k) rfl (fun w hw => by
    rw [woM]
    by_cases e : alw u n p w = true
    · rw [if_pos e]
      by_cases e2 : asG (woT u p w) n (u 75 20) m 260 (u 82) k = true
      · rw [if_pos e2, if_pos (by rw [e, e2]; rfl)]
      · rw [if_neg e2, if_neg (by rw [e, Bool.eq_false_iff.mpr e2]; decide), or_0]
    · rw [if_neg e, if_neg (by rw [Bool.eq_false_iff.mpr e, Bool.false_and]; decide)]) hj i hi
  rw [this, Bool.and_eq_true, Bool.and_eq_true] at h
  exact h.2.1
theorem anyP_mv {s' : vW} {p : Nat} (h : anyP s R t g n m K p) (ha : ∀ r, t ≤ r → r ≤ t + 10 → s' r = s r) : anyP s' R t g n m K p := by
  obtain ⟨R', hT, hR⟩ := h
  exact ⟨R', hT.mv0 ha (fun _ _ _ => rfl), hR⟩
/-- the counts of who would come where -/
theorem cr_eq (h : TP a (b 76) 21 0 n m K) (hJ : b 75 20 = nI 0) {S : vW} (hS : ∀ r, 21 ≤ r → r ≤ 31 → S r = a r) {p q : Nat} (hp : p < n) (hq : q < n) : ∀ i, i ≤ m → anyP (crW S m p q (woM b n m k p m) i) (offR ((cpW b 0 260) 76) 260 p) 32 260 n m K p ∧ ∀ r, r < 8 → (crW S m p q (woM b n m k p m) i) 66 r = akC b n m k p q r i
  | 0, _ => by
    refine ⟨?_, fun r hr => ?_⟩
    · rw [crW]
      exact anyP_mv (any_0 h hS p) (fun r h1 h2 => vrow_ne (by omega))
    · rw [crW, vrow_at, akC, fillR, if_pos hr]
  | i + 1, hi => by
    have n5 := h.n5
    have m9 := h.m9
    obtain ⟨ih, i66⟩ := cr_eq h hJ hS hp hq i (by omega)
    obtain ⟨m1, m2, m3⟩ := any_mv ih hp (show i < m by omega)
    have hb := sar_bt (m := woM b n m k p m) (i := i) (by omega)
    have hA := alw_eq h hp (show i < m by omega)
    refine ⟨?_, fun r hr => ?_⟩
    · rw [crW]
      refine anyP_mv (s := crM (crW S m p q (woM b n m k p m) i) p (woM b n m k p m) i) ?_ (fun r h1 h2 => riW_ne (by omega) 8)
      rw [crM]
      split
      · exact m1
      · exact ih
    · rw [crW, riW_66 8 (by omega), if_pos hr, crM_ne (by decide) (by decide), i66 r hr, akC, crR, bitB_bt (by omega)]
      congr 1
      by_cases e : bt (woM b n m k p m) i = true
      · have e2 := m2.mpr (hA.mp (woM_alw (by omega) m (by omega) e))
        have hT := m3 e2
        rw [if_pos e, if_pos (hb.mpr e), if_pos e2, crM, bitB_bt (by omega), if_pos e, hT.reach hq, hJ, woT_reach hT (by omega) (by omega), sar_val (by omega)]
      · rw [if_neg e, if_neg (fun z => e (hb.mp z)), bt_nI0]
        rfl
theorem max_ak {c T : Int32} : maxI c (T - c) = akX c T := by
  unfold maxI akX
  by_cases h1 : c < T - c
  · rw [if_pos h1, if_pos (Int32.le_of_lt h1)]
  · rw [if_neg h1]
    by_cases h2 : c ≤ T - c
    · rw [if_pos h2]
      rw [le_toInt] at h2
      rw [lt_toInt] at h1
      exact Int32.toInt_inj.mp (by omega)
    · rw [if_neg h2]
theorem ask_eq (h : Rel a b n m K k l) {x w : Int32} : askR a n m k x w = mAskR b n m k x w := by
  have hT := h.1.1
  have n5 := hT.n5
  have m9 := hT.m9
  rw [askR, mAskR, p1Ok, hT.one, upToB_inZ (by omega)]
  by_cases q : inZ x n = true
  · obtain ⟨p, hp, rfl⟩ := inZ_ex q (by omega)
    rw [if_pos q, if_pos q, nI_clamp (by omega)]
    by_cases q2 : inZ w 2 = true
    · rw [if_pos q2, if_pos q2, if_pos rfl]
      have ew := ws_eq h hp m (Nat.le_refl m)
      have e0 : nI (bcN (wsB a m k p m)) = bitsR (woM b n m k p m) := by
        have := bc_nB (x := woM b n m k p m) (fun i h1 h2 => by
          have hx := orM_bt (f := woM b n m k p) (P := fun w => alw b n p w && asG (woT b p w) n (b 75 20) m 260 (b 82) k) rfl (fun w hw => by
            rw [woM]
            by_cases e : alw b n p w = true
            · rw [if_pos e]
              by_cases e2 : asG (woT b p w) n (b 75 20) m 260 (b 82) k = true
              · rw [if_pos e2, if_pos (by rw [e, e2]; rfl)]
              · rw [if_neg e2, if_neg (by rw [e, Bool.eq_false_iff.mpr e2]; decide), or_0]
            · rw [if_neg e, if_neg (by rw [Bool.eq_false_iff.mpr e, Bool.false_and]; decide)]) h2 m (by omega)
          rw [hx, decide_eq_false (by omega), Bool.false_and])
        rw [ew, this.1, this.2]
      have hf : ∀ c, c < n → ∀ r, r < 8 → asF a m k p c r = akX (akC b n m k p c r m) (bitsR (woM b n m k p m)) := fun c hc r hr => by
        have := (cr_eq hT h.1.2.2 (k := k) (S := askW a m k p c) (fun r h1 h2 => askW_ne (by omega) c) hp hc m (Nat.le_refl m)).2 r hr
        rw [asF, askW, ew, this, max_ak, ← e0, ew]
      have key1 : ∀ c, c < n → ∀ z : Int32 × Int32, ∀ i, i ≤ 8 → akR b n m k p c z i = (lwV (asF a m k p c) z.1 i, lwA (asF a m k p c) (fun r => 10 * c + r) z.2 z.1 i) := by
        intro c hc z i
        induction i with
        | zero => exact fun _ => rfl
        | succ i ih =>
          intro hi
          rw [akR, ih (by omega), lwV, lwA, hf c hc i (by omega)]
          split <;> rfl
      have key : ∀ c, c ≤ n → akQ b n m k p c = (asV a m k p c, asA a m k p c) := by
        intro c
        induction c with
        | zero =>
          intro _
          rw [akQ, asV, asA, e0]
        | succ c ih =>
          intro hc
          rw [akQ, ih (by omega), key1 c (by omega) _ 8 (by omega), asV, asA]
      rw [key n (Nat.le_refl n)]
      rfl
    · rw [if_neg q2, if_neg q2, if_neg Bool.false_ne_true]
  · rw [if_neg q, if_neg q, if_neg Bool.false_ne_true]
theorem aSame_ask {p i : Nat} : aSame (askW a m k p i) a := by
  intro r h1 h2 h3 h4 h5
  induction i with
  | zero => rw [askW, mvs_ne (by omega) (by omega), becW_ne (by omega)]
  | succ i ih => rw [askW, crW_ne (by omega) (by omega) (by omega), becW_ne (by omega), ih]
/-! drift -/
theorem dsN_eq (seed : Int32) : ∀ i, dsN seed i = dfX seed i
  | 0 => rfl
  | i + 1 => by rw [dsN, dfX, dsN_eq seed i]
theorem bt_32767 {i : Nat} (hi : i < 32) : bt (nI 32767) i = decide (i < 15) := by
  rw [bt_nIi (by decide)]
  have : ∀ i, i < 32 → (32767 : Nat).testBit i = decide (i < 15) := by decide
  exact this i hi
theorem dsG_eq (seed : Int32) (i : Nat) : dsG seed i = nI (dfY seed i) := by
  rw [← (dfY_nI seed i).1, dsG, dsN_eq]
  apply b_ext
  intro j hj
  unfold ushr
  rw [b_and, b_and, b_ushr 16 (by decide), b_sshr 16 (by decide) _ hj, bt_32767 hj]
  by_cases h : j < 15
  · rw [if_pos (by omega)]
  · rw [decide_eq_false h, Bool.and_false, Bool.and_false]
theorem drift_tr (h : TP a (b 76) 21 0 n m K) (hn : 0 < n) (hm : 0 < m) (seed : Int32) : ∀ i, TP (dsW a n m seed i) ((dfW b n m seed i) 76) 32 260 n m K
  | 0 => h.tri
  | i + 1 => by
    have n5 := h.n5
    have m9 := h.m9
    have ih := drift_tr h hn hm seed i
    have hY := (dfY_nI seed i).2
    have hp : dfY seed i % n < n := Nat.mod_lt _ hn
    have hw : dfY seed i / 8 % m < m := Nat.mod_lt _ hm
    have ep : drP (dsW a n m seed i) 32 n m (nI (dfY seed i)) = nI (dfY seed i % n) := by rw [drP, nI_remN (by omega) (by omega)]
    have ew : drW1 (dsW a n m seed i) 32 n m (nI (dfY seed i)) = nI (dfY seed i / 8 % m) := by
      have h3 : dfY seed i / 8 ≤ dfY seed i := Nat.div_le_self _ _
      rw [drW1, nI_divN (by omega) (by omega), nI_remN (by omega) (by omega)]
    rw [dsW, dfW, dsG_eq, drW, ep, ew, df1]
    generalize dfY seed i % n = p at *
    generalize dfY seed i / 8 % m = w at *
    have ec := ih.can hp hw
    by_cases hc : canB (dsW a n m seed i) 32 (nI p) (nI w) = true
    · rw [if_pos hc, if_pos (ec ▸ hc), mHgW_76]
      exact ih.hang hp hw hc
    · have hc2 : ¬ mCan ((dfW b n m seed i) 76) n 260 p (nI w) = true := fun z => hc (ec.trans z)
      have e : mHgW (dfW b n m seed i) n 260 p (nI w) = dfW b n m seed i := by rw [mHgW, if_neg hc2]
      rw [if_neg hc, if_neg hc2, e]
      rcases dOK_door ih.door m9 n5 (w := w) (by omega) with ⟨e1, e2⟩ | ⟨o, ho, e1, e2⟩
      · rw [if_pos e2, takeW_0 ih hw e1]
        exact ih
      · rw [if_neg (show ¬ mDoor ((dfW b n m seed i) 76) n 260 (nI w) = -4 by rw [e2]; exact nI_nm4 (by omega)), e2, nI_clamp (by omega), vset76]
        have hT := ih.take (v := nI 0) (th := -1) hw ho e1 (Or.inl ⟨rfl, rfl⟩)
        refine hT.mv0 (fun _ _ _ => rfl) (fun j h1 h2 => ?_)
        rw [tkR]
        by_cases ej : j = 260 + 20 + o
        · rw [ej, upd_at, upd_ne (by omega)]
          rcases ih.door.1 o ho with ⟨_, _, z⟩ | ⟨z, _, _⟩ | ⟨_, _, _, _, z⟩
          · exact z
          · rcases ih.door.2.1 w (by omega) with y | ⟨o', ho', y1, y2⟩
            · rw [e1] at y
              exact absurd y (nI_nm1 (by omega))
            · rw [e1] at y1
              rw [← nI_eqN (by omega) (by omega) y1, z] at y2
              exact absurd y2 (m2_nI (by omega))
          · exact z
        · rw [upd_ne ej, show 275 + o = 260 + 15 + o by omega]
theorem drift_eq (h : Rel a b n m K k l) {seed c w : Int32} : driftR a n m seed c w = mDriftR b n m seed c w := by
  have hT := h.1.1
  have n5 := hT.n5
  have m9 := hT.m9
  have hin : dsOk c w = if inL c.toInt64 (lN 1) 60 = true then inZ w 2 else false := by
    have h1 : (lN 1).toInt = 1 := by decide
    have h2 : (60 : Int64).toInt = 60 := by decide
    have hx : inL c.toInt64 (lN 1) 60 = true ↔ 1 ≤ c.toInt ∧ c.toInt ≤ 60 := by
      unfold inL
      rw [decide_eq_true_iff, Int32.toInt_toInt64, h1, h2]
    rw [dsOk, upToB_inZ (by omega)]
    by_cases c1 : c < nI 1
    · rw [if_pos c1, if_neg]
      intro z
      have := hx.mp z
      rw [lt_toInt, nI_toInt (by omega)] at c1
      omega
    · rw [if_neg c1]
      by_cases c2 : nI 60 < c
      · rw [if_pos c2, if_neg]
        intro z
        have := hx.mp z
        rw [lt_toInt, nI_toInt (by omega)] at c2
        omega
      · rw [lt_toInt, nI_toInt (by omega)] at c1 c2
        rw [if_neg (by rw [lt_toInt, nI_toInt (by omega)]; exact c2), if_pos (hx.mpr ⟨by omega, by omega⟩)]
        by_cases z : inZ w 2 = true
        · rw [if_pos z, z]
        · rw [if_neg z, Bool.eq_false_iff.mpr z]
  rw [driftR, mDriftR, hin, dsOk2, hT.hn, hT.hm, h.1.2.2]
  by_cases q : inL c.toInt64 (lN 1) 60 = true
  · rw [if_pos q, if_pos q]
    by_cases q2 : inZ w 2 = true
    · rw [if_pos q2, if_pos q2]
      by_cases z1 : nI n = 0
      · rw [if_pos z1, if_pos z1, if_neg Bool.false_ne_true]
      · rw [if_neg z1, if_neg z1]
        by_cases z2 : nI m = 0
        · rw [if_pos z2, if_pos z2, if_neg Bool.false_ne_true]
        · rw [if_neg z2, if_neg z2, if_pos rfl]
          have hn : 0 < n := by
            rcases Nat.eq_zero_or_pos n with y | y
            · rw [y] at z1
              exact absurd rfl z1
            · exact y
          have hm : 0 < m := by
            rcases Nat.eq_zero_or_pos m with y | y
            · rw [y] at z2
              exact absurd rfl z2
            · exact y
          have ht := drift_tr hT hn hm seed c.toNatClampNeg
          rw [ht.all n (Nat.le_refl n), ht.hungB]
    · rw [if_neg q2, if_neg q2]
  · rw [if_neg q, if_neg q, if_neg Bool.false_ne_true]
theorem aSame_drift {seed c w : Int32} : aSame (driftW a n m seed c w) a := by
  intro r h1 h2 h3 h4 h5
  unfold driftW
  split
  · split
    · rw [dsW_ne (by omega) (by omega), becW_ne (by omega)]
    · rfl
  · rfl
end AK
