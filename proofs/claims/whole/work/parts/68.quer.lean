/-! The pure part: questions, the same answers -/
section QU
variable {s : vW} {R : Nat → Int32} {t g n m K : Nat}
theorem or_0 (x : Int32) : x ||| nI 0 = x := Int32.or_zero
theorem TP.free0 (h : TP s R t 0 n m K) : ∀ k, k ≤ n → doorsTo s t (-1) k = mFreeG R k
  | 0, _ => rfl
  | k + 1, hk => by
    rw [doorsTo, mFreeG, h.free0 k (by omega)]
    by_cases q : s (t + 4) k = -1
    · rw [if_pos q, if_pos ((h.free (by omega)).mp q)]
    · rw [if_neg q, if_neg (fun z => q ((h.free (by omega)).mpr z)), or_0]
theorem TP.who (h : TP s R t 0 n m K) {r : Nat} (hr : r < 32) : ∀ k, k ≤ n → whoTo s t m (nI r) k = mWhoG R n (nI 0) m (nI r) k
  | 0, _ => rfl
  | k + 1, hk => by
    have hb := sar_bt (m := mReachQ R n (nI 0) 0 m k) (i := r) hr
    rw [whoTo, mWhoG, h.who hr k (by omega), h.reach (by omega), bitB_bt hr]
    by_cases q : bt (mReachQ R n (nI 0) 0 m k) r = true
    · rw [if_pos q, if_pos (hb.mpr q)]
    · rw [if_neg q, if_neg (fun z => q (hb.mp z)), or_0]
theorem bt_nI0 (i : Nat) : bt (nI 0) i = false := b_0 i
theorem zero_bt {x : Int32} : x = 0 ↔ ∀ i, i < 32 → bt x i = false := by
  constructor
  · intro h i _
    rw [h, b_0]
  · intro h
    apply b_ext
    intro i hi
    rw [h i hi, b_0]
theorem orI_bt {f : Nat → Int32} {P : Nat → Bool} (h0 : f 0 = nI 0) (hs : ∀ k, k < 32 → f (k + 1) = f k ||| if P k = true then nI 1 <<< (nI k &&& 31) else nI 0) {i : Nat} (hi : i < 32) (k : Nat) (hk : k ≤ 32) : bt (f k) i = (decide (i < k) && P i) := by
  refine orM_bt h0 (fun k hk => ?_) hi k hk
  rw [hs k hk]
  split
  · rfl
  · exact or_0 _
theorem mWho_bt {J : Int32} {r i : Nat} (hr : r < 32) (hi : i < 32) (k : Nat) (hk : k ≤ 32) : bt (mWhoG R n J m (nI r) k) i = (decide (i < k) && bt (mReachQ R n J 0 m i) r) := by
  refine orI_bt (f := mWhoG R n J m (nI r)) (P := fun q => bt (mReachQ R n J 0 m q) r) rfl (fun k hk => ?_) hi k hk
  have hb := sar_bt (m := mReachQ R n J 0 m k) (i := r) hr
  rw [mWhoG]
  by_cases q : bt (mReachQ R n J 0 m k) r = true
  · rw [if_pos (hb.mpr q), if_pos q]
  · rw [if_neg (fun z => q (hb.mp z)), if_neg q]
theorem unr_bt {i : Nat} (hi : i < 32) : ∀ k, bt (unrTo s t m k) i = true ↔ i < 8 ∧ ∀ p, p < k → bt (reachW s t m p) i = false
  | 0 => by
    rw [unrTo, show nI 255 = 255 from rfl, b_255, decide_eq_true_iff]
    exact ⟨fun q => ⟨q, fun p hp => by omega⟩, fun q => q.1⟩
  | k + 1 => by
    rw [unrTo, b_and, Bool.and_eq_true, unr_bt hi k, b_xor, b_m1 i hi, Bool.xor_true]
    constructor
    · rintro ⟨⟨q1, q2⟩, q3⟩
      refine ⟨q1, fun p hp => ?_⟩
      by_cases e : p = k
      · subst e
        simpa using q3
      · exact q2 p (by omega)
    · rintro ⟨q1, q2⟩
      exact ⟨⟨q1, fun p hp => q2 p (by omega)⟩, by rw [q2 k (by omega)]; rfl⟩
theorem TP.unr (h : TP s R t 0 n m K) : unrTo s t m n = mDesG R n (nI 0) m 8 := by
  have n5 := h.n5
  apply b_ext
  intro i hi
  rw [Bool.eq_iff_iff, unr_bt hi]
  have hd : bt (mDesG R n (nI 0) m 8) i = (decide (i < 8) && decide (mWhoG R n (nI 0) m (nI i) n = 0)) := by
    refine orI_bt (f := mDesG R n (nI 0) m) (P := fun r => decide (mWhoG R n (nI 0) m (nI r) n = 0)) rfl (fun k hk => ?_) hi 8 (by omega)
    rw [mDesG]
    by_cases q : mWhoG R n (nI 0) m (nI k) n = 0
    · simp only [q, if_true, decide_true]
    · simp only [q, if_false, decide_false, Bool.false_eq_true]
  rw [hd, Bool.and_eq_true, decide_eq_true_iff, decide_eq_true_iff, zero_bt]
  constructor
  · rintro ⟨q1, q2⟩
    refine ⟨q1, fun j hj => ?_⟩
    rw [mWho_bt hi hj n (by omega)]
    by_cases e : j < n
    · rw [← h.reach e, q2 j e, Bool.and_false]
    · rw [decide_eq_false e, Bool.false_and]
  · rintro ⟨q1, q2⟩
    refine ⟨q1, fun p hp => ?_⟩
    have := q2 p (by omega)
    rw [mWho_bt hi (by omega) n (by omega), decide_eq_true hp, Bool.true_and] at this
    rw [h.reach hp]
    exact this
theorem rule_eq (h : TP s R 21 0 n m K) {w : Int32} : ruleR s n m w = mRuleR R n (nI 0) m w := by
  have k52 : R 52 = nI K := h.gK
  rw [ruleR, mRuleR, h.hn, h.hm, h.hungB, h.hK, h.free0 n (Nat.le_refl n), h.unr, k52]
theorem TP.st (h : TP s R t 0 n m K) {p : Nat} (hp : p < n) : (if 0 ≤ s (t + 4) p then s (t + 4) p else -4) = (if R (15 + p) = 0 then -4 else R (15 + p) - nI 1) ∧ stateOf (s (t + 4) p) = (if R (15 + p) ≤ 0 then nI 2 * R (20 + p) else nI 1) := by
  have m9 := h.m9
  have hd := h.door.1 p hp
  rw [Nat.zero_add, Nat.zero_add] at hd
  have l0 : nI 0 ≤ 0 := by decide
  rcases hd with ⟨a, b, c⟩ | ⟨a, b, c⟩ | ⟨v, hv, a, b, c⟩
  · rw [a, b, c]
    decide
  · rw [a, b, c]
    decide
  · rw [a, b, c]
    have e1 : (0 : Int32) ≤ nI v := nI_z (by omega)
    have e2 : ¬ nI (v + 1) = 0 := fun q => by have := nI_eqN (b := 0) (by omega) (by omega) q; omega
    have e3 : ¬ nI (v + 1) ≤ 0 := by
      rw [le_toInt, nI_toInt (by omega), Int32.toInt_zero]
      omega
    refine ⟨by rw [if_pos e1, if_neg e2, nI_prd], ?_⟩
    rw [if_neg e3, stateOf, if_neg (nI_nm1 (by omega)), if_neg (fun q => m2_nI (by omega) q.symm)]
theorem one_eq (h : TP s R 21 0 n m K) {p w : Int32} : oneR s m p w = if inZ p n = true then mOneR R n (nI 0) m p.toNatClampNeg w else -1 := by
  have n5 := h.n5
  rw [oneR, h.one]
  by_cases q : inZ p n = true
  · obtain ⟨k, hk, rfl⟩ := inZ_ex q (by omega)
    have e0 := h.kind hk
    have e1 := h.hous hk
    have e2 := h.home hk
    have e3 := h.st hk
    rw [if_pos q, if_pos q, nI_clamp (by omega), mOneR, e0, e1, e2, e3.1, e3.2, h.reach hk, ← h.gain hk, h.reach hk]
  · rw [if_neg q, if_neg q]
theorem TP.whom (h : TP s R t 0 n m K) {w : Nat} (hw : w < 9) : ∀ k, k ≤ n → whomTo s t (s (t + 7) w) k = mWallG R n (nI 0) w k
  | 0, _ => rfl
  | k + 1, hk => by
    rw [whomTo, mWallG, h.whom hw k (by omega), h.pass hw (by omega)]
    split
    · rfl
    · rw [or_0]
theorem wall_eq (h : TP s R 21 0 n m K) {v w : Int32} : wallR s n v w = if inZ v m = true then (if inZ w 4 = true then mWallR R n (nI 0) v.toNatClampNeg w else -1) else -1 := by
  have m9 := h.m9
  have n5 := h.n5
  rw [wallR, h.wal]
  by_cases q : inZ v m = true
  · obtain ⟨k, hk, rfl⟩ := inZ_ex q (by omega)
    rw [if_pos q, if_pos q, nI_clamp (by omega)]
    have e1 := (h.wall hk).1
    have e2 := (h.wall hk).2
    rw [e1, e2, h.whom (by omega) n (Nat.le_refl n)]
    have e3 : (if s (21 + 7) k = -1 then -4 else s (21 + 7) k) = mDoor R n 0 (nI k) := by
      rcases dOK_door h.door m9 n5 (w := k) (by omega) with ⟨a, b⟩ | ⟨p, hp, a, b⟩
      · rw [a, b, if_pos rfl]
      · rw [a, b, if_neg (nI_nm1 (by omega))]
    rw [e3]
    by_cases qw : inZ w 4 = true
    · obtain ⟨j, hj, rfl⟩ := inZ_ex qw (by omega)
      rw [if_pos qw, mWallR]
      rcases (show j = 0 ∨ j = 1 ∨ j = 2 ∨ j = 3 by omega) with rfl | rfl | rfl | rfl
      · rfl
      · rfl
      · rfl
      · rfl
    · have ne : ∀ j, j < 4 → ¬ w = nI j := fun j hj z => qw (by rw [z, inZ_nI (by omega), decide_eq_true hj])
      rw [if_neg qw, if_neg (ne 0 (by omega)), if_neg (ne 1 (by omega)), if_neg (ne 2 (by omega)), if_neg (ne 3 (by omega))]
  · rw [if_neg q, if_neg q]
theorem room_eq (h : TP s R 21 0 n m K) {a k : Int32} : roomR s n m a k = if inZ a 8 = true then (if inZ k 2 = true then (if k = 0 then R (44 + a.toNatClampNeg) else mWhoG R n (nI 0) m a n) else -1) else -1 := by
  rw [roomR, roomB_inZ]
  by_cases q : inZ a 8 = true
  · obtain ⟨r, hr, rfl⟩ := inZ_ex q (by omega)
    have e := h.wor hr
    rw [if_pos q, if_pos q, nI_clamp (by omega), e, h.who (by omega) n (Nat.le_refl n)]
    by_cases qw : inZ k 2 = true
    · obtain ⟨j, hj, rfl⟩ := inZ_ex qw (by omega)
      rw [if_pos qw]
      rcases (show j = 0 ∨ j = 1 by omega) with rfl | rfl
      · rfl
      · rfl
    · have ne : ∀ j, j < 2 → ¬ k = nI j := fun j hj z => qw (by rw [z, inZ_nI (by omega), decide_eq_true hj])
      rw [if_neg qw, if_neg (ne 0 (by omega)), if_neg (ne 1 (by omega))]
  · rw [if_neg q, if_neg q]
theorem act_eq (h : TP s R 21 0 n m K) {a k : Int32} : actR s a k = if inZ a K = true then (if inZ k 2 = true then R (53 + 6 * k.toNatClampNeg + a.toNatClampNeg) else -1) else -1 := by
  have K6 := h.K6
  rw [actR, h.hK]
  by_cases q : inZ a K = true
  · obtain ⟨i, hi, rfl⟩ := inZ_ex q (by omega)
    have e1 := (h.act hi).1
    have e2 := (h.act hi).2.1
    rw [if_pos q, if_neg (nI_pos (by omega)), if_pos (nI_lt hi (by omega)), nI_clamp (by omega), e1, e2]
    by_cases qw : inZ k 2 = true
    · obtain ⟨j, hj, rfl⟩ := inZ_ex qw (by omega)
      rw [if_pos qw]
      rcases (show j = 0 ∨ j = 1 by omega) with rfl | rfl
      · rfl
      · rfl
    · have ne : ∀ j, j < 2 → ¬ k = nI j := fun j hj z => qw (by rw [z, inZ_nI (by omega), decide_eq_true hj])
      rw [if_neg qw, if_neg (ne 0 (by omega)), if_neg (ne 1 (by omega))]
  · rw [if_neg q]
    split
    · rfl
    · rename_i h1
      split
      · rename_i h2
        obtain ⟨j, hj, rfl⟩ := nI_of h1
        rw [nI_ltI (by omega) (by omega)] at h2
        exact absurd (by rw [inZ_nI (by omega), decide_eq_true h2]) q
      · rfl
theorem steps_eq (h : TP s R 21 0 n m K) {a r : Int32} : stepsR s m a r = if inZ a n = true then (if inZ r 8 = true then mFarQ R n (nI 0) 0 m a.toNatClampNeg r.toNatClampNeg else -1) else -1 := by
  have n5 := h.n5
  rw [stepsR, prOk, h.one, roomB_inZ]
  by_cases q : inZ a n = true
  · obtain ⟨p, hp, rfl⟩ := inZ_ex q (by omega)
    rw [if_pos q, if_pos q]
    by_cases qr : inZ r 8 = true
    · obtain ⟨i, hi, rfl⟩ := inZ_ex qr (by omega)
      rw [if_pos qr, if_pos rfl, if_pos qr, nI_clamp (by omega), nI_clamp (by omega)]
      exact h.dist hp hi
    · rw [if_neg qr, if_neg Bool.false_ne_true, if_neg qr]
  · rw [if_neg q, if_neg Bool.false_ne_true, if_neg q]
theorem meet_eq (h : TP s R 21 0 n m K) {a b : Int32} : meetR s m a b = if inZ a n = true then (if inZ b n = true then (if a = b then -1 else mReachQ R n (nI 0) 0 m a.toNatClampNeg &&& mReachQ R n (nI 0) 0 m b.toNatClampNeg) else -1) else -1 := by
  have n5 := h.n5
  rw [meetR, meetOk, h.one, h.one]
  by_cases q : inZ a n = true
  · obtain ⟨p, hp, rfl⟩ := inZ_ex q (by omega)
    rw [if_pos q, if_pos q]
    by_cases qr : inZ b n = true
    · obtain ⟨i, hi, rfl⟩ := inZ_ex qr (by omega)
      rw [if_pos qr, if_pos qr, nI_clamp (by omega), nI_clamp (by omega), h.reach hp, h.reach hi]
      by_cases e : nI p = nI i
      · rw [if_pos e, if_pos e, if_neg Bool.false_ne_true]
      · rw [if_neg e, if_neg e, if_pos rfl]
    · rw [if_neg qr, if_neg Bool.false_ne_true, if_neg qr]
  · rw [if_neg q, if_neg Bool.false_ne_true, if_neg q]
end QU
