/-! The pure part: the fewest walls to be filled -/
theorem nB_sub {f g : Nat → Bool} : ∀ k, (∀ i, i < k → f i = true → g i = true) → nB f k ≤ nB g k
  | 0, _ => Nat.le_refl 0
  | k + 1, h => by
    have := nB_sub k (fun i hi => h i (by omega))
    rw [nB, nB]
    by_cases e : f k = true
    · rw [if_pos e, if_pos (h k (by omega) e)]
      omega
    · rw [if_neg e]
      omega
theorem nB_same {f g : Nat → Bool} : ∀ k, (∀ i, i < k → f i = true → g i = true) → nB f k = nB g k → ∀ i, i < k → f i = g i
  | 0, _, _, i, hi => by omega
  | k + 1, h, he, i, hi => by
    have h1 := nB_sub k (fun i hi => h i (by omega))
    rw [nB, nB] at he
    by_cases e : f k = true
    · have e2 := h k (by omega) e
      rw [if_pos e, if_pos e2] at he
      by_cases ei : i = k
      · rw [ei, e, e2]
      · exact nB_same k (fun i hi => h i (by omega)) (by omega) i (by omega)
    · by_cases e2 : g k = true
      · rw [if_neg e, if_pos e2] at he
        omega
      · rw [if_neg e, if_neg e2] at he
        by_cases ei : i = k
        · rw [ei, Bool.eq_false_iff.mpr e, Bool.eq_false_iff.mpr e2]
        · exact nB_same k (fun i hi => h i (by omega)) (by omega) i (by omega)
/-- the number of bits of a small mask -/
def cS (S : Nat) : Nat := nB (fun i => S.testBit i) 10
def subS (S h : Nat) : Prop := ∀ i, S.testBit i = true → h.testBit i = true
theorem cS_sub {S h : Nat} (q : subS S h) : cS S ≤ cS h := nB_sub 10 (fun i _ => q i)
theorem cS_same {S h : Nat} (q : subS S h) (hS : S < 1024) (hh : h < 1024) (e : cS S = cS h) : S = h := by
  have := nB_same 10 (fun i _ => q i) e
  apply Nat.eq_of_testBit_eq
  intro i
  by_cases hi : i < 10
  · exact this i hi
  · rw [Nat.testBit_lt_two_pow (Nat.lt_of_lt_of_le hS (Nat.pow_le_pow_right (n := 2) (by decide) (show 10 ≤ i by omega))), Nat.testBit_lt_two_pow (Nat.lt_of_lt_of_le hh (Nat.pow_le_pow_right (n := 2) (by decide) (show 10 ≤ i by omega)))]
theorem cS_int {S : Nat} (hS : S < 1024) : bcN (nI S) = cS S ∧ bitsR (nI S) = nI (cS S) := by
  have hb : ∀ i, bt (nI S) i = S.testBit i := fun i => bt_nIi (Nat.lt_of_lt_of_le hS (by decide))
  have := bc_nB (x := nI S) (fun i h1 h2 => by rw [hb]; exact Nat.testBit_lt_two_pow (Nat.lt_of_lt_of_le hS (Nat.pow_le_pow_right (n := 2) (by decide) h1)))
  rw [nB_ext 10 (f := bt (nI S)) (g := fun i => S.testBit i) (fun i _ => hb i)] at this
  exact this
theorem cS_le (S : Nat) : cS S ≤ 10 := nB_le 10
section SH
variable {a b : vW} {n m K k l : Nat}
/-- the town with the walls of S filled -/
def tkS (a : vW) (S : Nat) : Nat → vW
  | 0 => a
  | w + 1 => if bt (nI S) w = true then takeW (tkS a S w) 21 (nI w) (-2) else tkS a S w
theorem tkS_ne {S r : Nat} (h1 : r ≠ 25) (h2 : r ≠ 28) : ∀ w, (tkS a S w) r = a r
  | 0 => rfl
  | w + 1 => by
    rw [tkS]
    split
    · rw [takeW_ne (by omega) (by omega), tkS_ne h1 h2 w]
    · exact tkS_ne h1 h2 w
theorem tkS_ok (h : TP a (b 76) 21 0 n m K) {S : Nat} : ∀ w, w ≤ m → TP (tkS a S w) ((shF b n S w) 76) 21 260 n m K ∧ ∀ v, v < 9 → (tkS a S w) (21 + 7) v = if v < w ∧ bt (nI S) v = true then -1 else a (21 + 7) v
  | 0, _ => ⟨h.pg, fun v _ => by rw [if_neg (by omega)]; rfl⟩
  | w + 1, hw => by
    have m9 := h.m9
    obtain ⟨ih, io⟩ := tkS_ok h (S := S) w (by omega)
    have hs := sar_bt (m := nI S) (i := w) (by omega)
    rw [tkS, shF]
    by_cases e : bt (nI S) w = true
    · rw [if_pos e, if_pos (hs.mpr e)]
      obtain ⟨q1, q2⟩ := fillT ih (w := w) (by omega) (u := shF b n S w) rfl
      refine ⟨q1, fun v hv => ?_⟩
      rw [q2 v hv, io v hv]
      by_cases ev : v = w
      · subst ev
        rw [if_pos rfl, if_pos ⟨by omega, e⟩]
      · rw [if_neg ev]
        by_cases c : v < w ∧ bt (nI S) v = true
        · rw [if_pos c, if_pos ⟨by omega, c.2⟩]
        · rw [if_neg c, if_neg (fun z => c ⟨by omega, z.2⟩)]
    · rw [if_neg e, if_neg (fun z => e (hs.mp z))]
      refine ⟨ih, fun v hv => ?_⟩
      rw [io v hv]
      by_cases ev : v = w
      · subst ev
        rw [if_neg (by omega), if_neg (fun z => e z.2)]
      · by_cases c : v < w ∧ bt (nI S) v = true
        · rw [if_pos c, if_pos ⟨by omega, c.2⟩]
        · rw [if_neg c, if_neg (fun z => c ⟨by omega, z.2⟩)]
/-- who comes where with the walls of S filled -/
theorem shut_reach (h : TP a (b 76) 21 0 n m K) {S p : Nat} (hp : p < n) : spreadW a 21 m (passTo a 21 (nI p) m &&& (nI S ^^^ -1)) (a (21 + 3) p) = mReachQ ((shF b n S m) 76) n (nI 0) 260 m p := by
  have n5 := h.n5
  have m9 := h.m9
  obtain ⟨hT, ho⟩ := tkS_ok h (S := S) m (Nat.le_refl m)
  obtain ⟨y, hy, e3, e4⟩ := hT.home2 hp
  have e5 : a (21 + 3) p = nI y := by rw [← e3, tkS_ne (by decide) (by decide)]
  rw [e5, mReachQ, e4, nI_clamp (by omega)]
  refine reach_eq m9 hy hT.wOK (fun v hv => ⟨?_, ?_, ?_⟩)
  · rw [← (hT.wall hv).1, tkS_ne (by decide) (by decide)]
  · rw [← (hT.wall hv).2, tkS_ne (by decide) (by decide)]
  · rw [← hT.pass (by omega) hp, lets_ow (tkS_ne (by decide) (by decide) m) (tkS_ne (by decide) (by decide) m) (tkS_ne (by decide) (by decide) m), ho v (by omega), andn_bt (by omega), passTo_bt (by omega) m (by omega), decide_eq_true hv, Bool.true_and]
    by_cases e : bt (nI S) v = true
    · rw [e, if_pos ⟨hv, rfl⟩, letsB_none, Bool.not_true, Bool.and_false]
    · rw [if_neg (fun z => e z.2), Bool.eq_false_iff.mpr e, Bool.not_false, Bool.and_true]
/-- the two searches, told of numbers -/
def lpS (sh : Nat → Bool) (h0 : Nat) : Nat → Nat
  | 0 => h0
  | k + 1 => if cS (lpS sh h0 k) ≤ cS k then lpS sh h0 k else if k &&& h0 = k then (if sh k = true then k else lpS sh h0 k) else lpS sh h0 k
def lmS (sh : Nat → Bool) : Nat → Nat × Nat
  | 0 => (100, 0)
  | S + 1 => if (lmS sh S).1 ≤ cS S then lmS sh S else if sh S = true then (cS S, S) else lmS sh S
theorem and_sub {S h : Nat} : S &&& h = S ↔ subS S h := by
  constructor
  · intro e i hi
    have := congrArg (fun x => x.testBit i) e
    simp only [Nat.testBit_and, hi, Bool.true_and] at this
    exact this
  · intro q
    apply Nat.eq_of_testBit_eq
    intro i
    rw [Nat.testBit_and]
    by_cases e : S.testBit i = true
    · rw [e, q i e]
      rfl
    · rw [Bool.eq_false_iff.mpr e, Bool.false_and]
theorem lpS_ok {sh : Nat → Bool} {h0 : Nat} (hh : h0 < 1024) (h1 : sh h0 = true) : ∀ k, k ≤ 1024 → subS (lpS sh h0 k) h0 ∧ sh (lpS sh h0 k) = true ∧ (lpS sh h0 k = h0 ∨ lpS sh h0 k < k) ∧ ∀ S, S < k → subS S h0 → sh S = true → cS (lpS sh h0 k) < cS S ∨ (cS (lpS sh h0 k) = cS S ∧ lpS sh h0 k ≤ S)
  | 0, _ => ⟨fun i q => q, h1, Or.inl rfl, fun S hS => by omega⟩
  | k + 1, hk => by
    obtain ⟨i1, i2, i3, i4⟩ := lpS_ok hh h1 k (by omega)
    rw [lpS]
    by_cases q1 : cS (lpS sh h0 k) ≤ cS k
    · rw [if_pos q1]
      refine ⟨i1, i2, i3.imp (fun z => z) (fun z => by omega), fun S hS hsub hsh => ?_⟩
      by_cases e : S = k
      · subst e
        rcases Nat.lt_or_eq_of_le q1 with z | z
        · exact Or.inl z
        · refine Or.inr ⟨z, ?_⟩
          rcases i3 with y | y
          · rw [y] at z ⊢
            rw [cS_same hsub (by omega) hh z.symm]
            exact Nat.le_refl _
          · omega
      · exact i4 S (by omega) hsub hsh
    · rw [if_neg q1]
      by_cases q2 : k &&& h0 = k
      · rw [if_pos q2]
        by_cases q3 : sh k = true
        · rw [if_pos q3]
          refine ⟨and_sub.mp q2, q3, Or.inr (by omega), fun S hS hsub hsh => ?_⟩
          by_cases e : S = k
          · subst e
            exact Or.inr ⟨rfl, Nat.le_refl _⟩
          · rcases i4 S (by omega) hsub hsh with z | ⟨z, _⟩
            · exact Or.inl (by omega)
            · exact Or.inl (by omega)
        · rw [if_neg q3]
          refine ⟨i1, i2, i3.imp (fun z => z) (fun z => by omega), fun S hS hsub hsh => ?_⟩
          by_cases e : S = k
          · subst e
            exact absurd hsh q3
          · exact i4 S (by omega) hsub hsh
      · rw [if_neg q2]
        refine ⟨i1, i2, i3.imp (fun z => z) (fun z => by omega), fun S hS hsub hsh => ?_⟩
        by_cases e : S = k
        · subst e
          exact absurd (and_sub.mpr hsub) q2
        · exact i4 S (by omega) hsub hsh
theorem lmS_ok {sh : Nat → Bool} : ∀ k, ((lmS sh k).1 = 100 ∧ ∀ S, S < k → ¬ sh S = true) ∨ ((lmS sh k).1 = cS (lmS sh k).2 ∧ sh (lmS sh k).2 = true ∧ (lmS sh k).2 < k ∧ ∀ S, S < k → sh S = true → cS (lmS sh k).2 < cS S ∨ (cS (lmS sh k).2 = cS S ∧ (lmS sh k).2 ≤ S))
  | 0 => Or.inl ⟨rfl, fun S hS => by omega⟩
  | k + 1 => by
    have ih := lmS_ok (sh := sh) k
    have c10 := cS_le k
    rw [lmS]
    by_cases q1 : (lmS sh k).1 ≤ cS k
    · rw [if_pos q1]
      rcases ih with ⟨z, _⟩ | ⟨z1, z2, z3, z4⟩
      · omega
      · refine Or.inr ⟨z1, z2, by omega, fun S hS hsh => ?_⟩
        by_cases e : S = k
        · subst e
          rw [z1] at q1
          rcases Nat.lt_or_eq_of_le q1 with y | y
          · exact Or.inl y
          · exact Or.inr ⟨y, by omega⟩
        · exact z4 S (by omega) hsh
    · rw [if_neg q1]
      by_cases q3 : sh k = true
      · rw [if_pos q3]
        refine Or.inr ⟨rfl, q3, by show k < k + 1; omega, fun S hS hsh => ?_⟩
        by_cases e : S = k
        · subst e
          exact Or.inr ⟨rfl, Nat.le_refl _⟩
        · rcases ih with ⟨z1, z2⟩ | ⟨z1, z2, z3, z4⟩
          · exact absurd hsh (z2 S (by omega))
          · rw [z1] at q1
            rcases z4 S (by omega) hsh with y | ⟨y, _⟩
            · exact Or.inl (by show cS k < cS S; omega)
            · exact Or.inl (by show cS k < cS S; omega)
      · rw [if_neg q3]
        rcases ih with ⟨z1, z2⟩ | ⟨z1, z2, z3, z4⟩
        · refine Or.inl ⟨z1, fun S hS => ?_⟩
          by_cases e : S = k
          · rw [e]
            exact q3
          · exact z2 S (by omega)
        · refine Or.inr ⟨z1, z2, by omega, fun S hS hsh => ?_⟩
          by_cases e : S = k
          · subst e
            exact absurd hsh q3
          · exact z4 S (by omega) hsh
/-- both searches find the same -/
theorem shut_same {sh : Nat → Bool} {h0 M : Nat} (hh : h0 < 2 ^ M) (hM : M ≤ 9) (h1 : sh h0 = true) (hand : ∀ S, sh S = sh (S &&& h0)) : (lmS sh (2 ^ M)).2 = lpS sh h0 512 ∧ (lmS sh (2 ^ M)).1 = cS (lpS sh h0 512) := by
  have hp : 2 ^ M ≤ 2 ^ 9 := Nat.pow_le_pow_right (by decide) hM
  obtain ⟨p1, p2, p3, p4⟩ := lpS_ok (sh := sh) (h0 := h0) (by omega) h1 512 (by omega)
  have hlp : lpS sh h0 512 < 2 ^ M := by
    refine Nat.lt_pow_two_of_testBit _ (fun i hi => ?_)
    apply Bool.eq_false_iff.mpr
    intro z
    have := p1 i z
    rw [Nat.testBit_lt_two_pow (Nat.lt_of_lt_of_le hh (Nat.pow_le_pow_right (by decide) hi))] at this
    exact Bool.false_ne_true this
  rcases lmS_ok (sh := sh) (2 ^ M) with ⟨z1, z2⟩ | ⟨z1, z2, z3, z4⟩
  · exact absurd h1 (z2 h0 hh)
  · have hT : subS ((lmS sh (2 ^ M)).2 &&& h0) (lmS sh (2 ^ M)).2 := fun i hi => by
      rw [Nat.testBit_and, Bool.and_eq_true] at hi
      exact hi.1
    have hTl : (lmS sh (2 ^ M)).2 &&& h0 ≤ (lmS sh (2 ^ M)).2 := Nat.and_le_left
    have e1 : (lmS sh (2 ^ M)).2 &&& h0 = (lmS sh (2 ^ M)).2 := by
      refine cS_same hT (by omega) (by omega) ?_
      have c1 := cS_sub hT
      rcases z4 ((lmS sh (2 ^ M)).2 &&& h0) (by omega) (by rw [← hand]; exact z2) with y | ⟨y, _⟩
      · omega
      · omega
    have r1 := p4 (lmS sh (2 ^ M)).2 (by omega) (and_sub.mp e1) z2
    have r2 := z4 (lpS sh h0 512) hlp p2
    have e2 : (lmS sh (2 ^ M)).2 = lpS sh h0 512 := by
      rcases r1 with y | ⟨y1, y2⟩
      · rcases r2 with x | ⟨x1, x2⟩
        · omega
        · omega
      · rcases r2 with x | ⟨x1, x2⟩
        · omega
        · omega
    exact ⟨e2, by rw [z1, e2]⟩
theorem hung_bt {s : vW} {t i : Nat} (hi : i < 32) (hm : m ≤ 32) : bt (hungTo s t m) i = (decide (i < m) && !decide (s (t + 7) i = -1)) := by
  refine orM_bt (f := hungTo s t) (P := fun k => !decide (s (t + 7) k = -1)) rfl (fun k _ => ?_) hi m hm
  rw [hungTo]
  by_cases e : s (t + 7) k = -1
  · simp only [e, if_true, decide_true, Bool.not_true, Bool.false_eq_true, if_false]
  · simp only [e, if_false, decide_false, Bool.not_false, if_true]
theorem edg_none {A B : Nat → Int32} {P : Nat → Bool} (h : ∀ w, w < m → P w = false) {r : Nat} : ∀ d i, wl (edg A B m P) r d i → i = r
  | 0, i, q => q
  | d + 1, i, q => by
    rcases q with q | ⟨j, _, _, _, w, hw, hP, _⟩
    · exact edg_none h d i q
    · rw [h w hw] at hP
      exact absurd hP Bool.false_ne_true
theorem nI_leJ {x y : Nat} (hx : x < 1000) (hy : y < 1000) : nI x ≤ nI y ↔ x ≤ y := by
  rw [le_toInt, nI_toInt (by omega), nI_toInt (by omega)]
  omega
theorem shut_eq (h : Rel a b n m K k l) {x r w : Int32} : shutR a m x r w = mShutR b n m x r w := by
  have hT := h.1.1
  have n5 := hT.n5
  have m9 := hT.m9
  rw [shutR, mShutR, pr1Ok, hT.one, roomB_inZ, upToB_inZ (by omega)]
  by_cases q : inZ x n = true
  · obtain ⟨p, hp, rfl⟩ := inZ_ex q (by omega)
    rw [if_pos q, if_pos q, nI_clamp (by omega)]
    by_cases q2 : inZ r 8 = true
    · obtain ⟨j, hj, rfl⟩ := inZ_ex q2 (by omega)
      rw [if_pos q2, if_pos q2, nI_clamp (by omega)]
      by_cases q3 : inZ w 2 = true
      · rw [if_pos q3, if_pos q3, if_pos rfl]
        obtain ⟨y, hy, e1, e2⟩ := hT.home2 hp
        rw [Nat.zero_add] at e2
        rw [e1, e2]
        by_cases ej : nI j = nI y
        · rw [if_pos ej, if_pos ej.symm]
        · rw [if_neg ej, if_neg (show ¬ nI y = nI j from fun z => ej z.symm)]
          have hsub : ∀ i, i < 32 → bt (passTo a 21 (nI p) m) i = true → bt (hungTo a 21 m) i = true := fun i hi z => by
            rw [passTo_bt hi m (by omega), Bool.and_eq_true] at z
            rw [hung_bt hi (by omega), z.1, Bool.true_and]
            by_cases e : a (21 + 7) i = -1
            · rw [e, letsB_none] at z
              exact absurd z.2 Bool.false_ne_true
            · rw [decide_eq_false e]
              rfl
          obtain ⟨h0, hh0, eh0⟩ := msk_nI (x := hungTo a 21 m) (k := m) (by omega) (fun i h1 h2 => by rw [hung_bt h2 (by omega), decide_eq_false (by omega), Bool.false_and])
          have hp9 : 2 ^ m ≤ 2 ^ 9 := Nat.pow_le_pow_right (by decide) m9
          have bN : ∀ S i, S < 1024 → bt (nI S) i = S.testBit i := fun S i hS => bt_nIi (Nat.lt_of_lt_of_le hS (by decide))
          let sh : Nat → Bool := fun S => !bt (spreadW a 21 m (passTo a 21 (nI p) m &&& (nI (S &&& h0) ^^^ -1)) (nI y)) j
          have hsh : ∀ S, S < 1024 → sh S = !bt (spreadW a 21 m (passTo a 21 (nI p) m &&& (nI S ^^^ -1)) (nI y)) j := fun S hS => by
            have : passTo a 21 (nI p) m &&& (nI (S &&& h0) ^^^ -1) = passTo a 21 (nI p) m &&& (nI S ^^^ -1) := by
              apply b_ext
              intro i hi
              have hl : S &&& h0 ≤ S := Nat.and_le_left
              rw [andn_bt hi, andn_bt hi, bN _ _ (by omega), bN _ _ hS, Nat.testBit_and]
              by_cases e : bt (passTo a 21 (nI p) m) i = true
              · have := hsub i hi e
                rw [eh0, bN _ _ (by omega)] at this
                rw [this, Bool.and_true]
              · rw [Bool.eq_false_iff.mpr e, Bool.false_and, Bool.false_and]
            show (!bt (spreadW a 21 m (passTo a 21 (nI p) m &&& (nI (S &&& h0) ^^^ -1)) (nI y)) j) = _
            rw [this]
          have hs0 : sh h0 = true := by
            rw [hsh h0 (by omega)]
            have : ¬ bt (spreadW a 21 m (passTo a 21 (nI p) m &&& (nI h0 ^^^ -1)) (nI y)) j = true := by
              rw [spread_lv m9 (fun v hv => by
                obtain ⟨c, d, hc, hd, ec, ed⟩ := hT.wOK v hv
                exact ⟨c, d, hc, hd, (hT.wall hv).1.trans ec, (hT.wall hv).2.trans ed⟩) hy (by omega)]
              intro z
              have := edg_none (fun v hv => by
                rw [andn_bt (by omega), ← eh0]
                by_cases e : bt (passTo a 21 (nI p) m) v = true
                · rw [hsub v (by omega) e, Bool.not_true, Bool.and_false]
                · rw [Bool.eq_false_iff.mpr e, Bool.false_and]) 7 j z
              exact ej (by rw [this])
            rw [Bool.eq_false_iff.mpr this]
            rfl
          have hand : ∀ S, sh S = sh (S &&& h0) := fun S => by
            show (!bt (spreadW a 21 m (passTo a 21 (nI p) m &&& (nI (S &&& h0) ^^^ -1)) (nI y)) j) = !bt (spreadW a 21 m (passTo a 21 (nI p) m &&& (nI (S &&& h0 &&& h0) ^^^ -1)) (nI y)) j
            rw [show S &&& h0 &&& h0 = S &&& h0 by rw [Nat.and_assoc, Nat.and_self]]
          have hlp : ∀ i, i ≤ 512 → lsTo a 21 m p (nI j) (hungTo a 21 m) (passTo a 21 (nI p) m) i = nI (lpS sh h0 i) := by
            intro i
            induction i with
            | zero => exact fun _ => eh0
            | succ i ih =>
              intro hi
              have ih := ih (by omega)
              have lp := lpS_ok (sh := sh) (h0 := h0) (by omega) hs0 i (by omega)
              have ll : lpS sh h0 i < 1024 := by
                rcases lp.2.2.1 with z | z <;> omega
              have hc1 : nI (bcN (nI (lpS sh h0 i))) ≤ nI (bcN (nI i)) ↔ cS (lpS sh h0 i) ≤ cS i := by
                have c1 := cS_le (lpS sh h0 i)
                have c2 := cS_le i
                rw [(cS_int ll).1, (cS_int (show i < 1024 by omega)).1, nI_leJ (by omega) (by omega)]
              have hc2 : nI i &&& (hungTo a 21 m ^^^ -1) = 0 ↔ i &&& h0 = i := by
                rw [zero_bt, and_sub, eh0]
                constructor
                · intro z v hv
                  by_cases hv32 : v < 32
                  · have := z v hv32
                    rw [andn_bt hv32, bN _ _ (by omega), bN _ _ (by omega), hv, Bool.true_and] at this
                    simpa using this
                  · rw [Nat.testBit_lt_two_pow (Nat.lt_of_lt_of_le (show i < 2 ^ 32 by omega) (Nat.pow_le_pow_right (by decide) (by omega)))] at hv
                    exact absurd hv Bool.false_ne_true
                · intro z v hv
                  rw [andn_bt hv, bN _ _ (by omega), bN _ _ (by omega)]
                  by_cases e : i.testBit v = true
                  · rw [z v e, Bool.not_true, Bool.and_false]
                  · rw [Bool.eq_false_iff.mpr e, Bool.false_and]
              rw [lsTo, lsC, ih, lpS, e1, bitB_bt (by omega)]
              have hsi := hsh i (by omega)
              by_cases g1 : cS (lpS sh h0 i) ≤ cS i
              · rw [if_pos (hc1.mpr g1), if_pos g1, if_neg Bool.false_ne_true]
              · rw [if_neg (fun z => g1 (hc1.mp z)), if_neg g1]
                by_cases g2 : i &&& h0 = i
                · rw [if_pos (hc2.mpr g2), if_pos g2, hsi]
                  by_cases g3 : bt (spreadW a 21 m (passTo a 21 (nI p) m &&& (nI i ^^^ -1)) (nI y)) j = true
                  · rw [if_pos g3, if_neg Bool.false_ne_true, g3, Bool.not_true, if_neg Bool.false_ne_true]
                  · rw [if_neg g3, if_pos rfl, Bool.eq_false_iff.mpr g3, Bool.not_false, if_pos rfl]
                · rw [if_neg (fun z => g2 (hc2.mp z)), if_neg g2, if_neg Bool.false_ne_true]
          have hlm : ∀ i, i ≤ 2 ^ m → shG b n m p j i = (nI (lmS sh i).1, nI (lmS sh i).2) ∧ (lmS sh i).1 ≤ 100 := by
            intro i
            induction i with
            | zero => exact fun _ => ⟨rfl, Nat.le_refl _⟩
            | succ i ih =>
              intro hi
              obtain ⟨ih, i100⟩ := ih (by omega)
              have c2 := cS_le i
              have hs := sar0_bt (m := mReachQ ((shF b n i m) 76) n (b 75 20) 260 m p) (i := j) (by omega)
              have hsi := hsh i (by omega)
              rw [← e1, shut_reach hT hp] at hsi
              rw [shG, lmS, ih, (cS_int (show i < 1024 by omega)).2, shX]
              by_cases g1 : (lmS sh i).1 ≤ cS i
              · rw [if_pos ((nI_leJ (by omega) (by omega)).mpr g1), if_pos g1]
                exact ⟨rfl, i100⟩
              · rw [if_neg (fun z => g1 ((nI_leJ (by omega) (by omega)).mp z)), if_neg g1, hsi]
                rw [h.1.2.2] at hs ⊢
                by_cases g3 : bt (mReachQ ((shF b n i m) 76) n (nI 0) 260 m p) j = false
                · rw [if_pos (hs.mpr g3), g3, Bool.not_false, if_pos rfl]
                  exact ⟨rfl, by show cS i ≤ 100; omega⟩
                · have g4 : bt (mReachQ ((shF b n i m) 76) n (nI 0) 260 m p) j = true := by simpa using g3
                  rw [if_neg (fun z => g3 (hs.mp z)), g4, Bool.not_true, if_neg Bool.false_ne_true]
                  exact ⟨rfl, i100⟩
          obtain ⟨s1, s2⟩ := shut_same hh0 m9 hs0 hand
          have lp := lpS_ok (sh := sh) (h0 := h0) (by omega) hs0 512 (by omega)
          have ll : lpS sh h0 512 < 1024 := by
            rcases lp.2.2.1 with z | z <;> omega
          rw [(hlm (2 ^ m) (Nat.le_refl _)).1, s1, s2, shutW, hlp 512 (Nat.le_refl _), (cS_int ll).1]
      · rw [if_neg q3, if_neg q3, if_neg Bool.false_ne_true]
    · rw [if_neg q2, if_neg q2, if_neg Bool.false_ne_true]
  · rw [if_neg q, if_neg q, if_neg Bool.false_ne_true]
end SH
