/-! The pure part: luck, mean -/
theorem gcA_gcd : ∀ j c a b, b < 2 ^ j → 2 * j + 1 ≤ c → a < 2 ^ 62 → b < 2 ^ 62 → gcA c (lN a) (lN b) = lN (Nat.gcd a b)
  | 0, c, a, b, h1, h2, h3, h4 => by
    have hb : b = 0 := by omega
    subst hb
    rw [show c = (c - 1) + 1 by omega, gcA_s, if_pos (show lN 0 = 0 from rfl), Nat.gcd_zero_right]
  | j + 1, c, a, b, h1, h2, h3, h4 => by
    have n0 : ∀ x, 0 < x → x < 2 ^ 62 → ¬ lN x = 0 := fun x hx hx2 e => by
      have := lN_eq0 (by omega) e
      omega
    rcases Nat.eq_zero_or_pos b with hb | hb
    · subst hb
      rw [show c = (c - 1) + 1 by omega, gcA_s, if_pos (show lN 0 = 0 from rfl), Nat.gcd_zero_right]
    · have hr := Nat.mod_lt a hb
      have g1 : Nat.gcd a b = Nat.gcd b (a % b) := by rw [Nat.gcd_comm a b, Nat.gcd_rec b a, Nat.gcd_comm]
      rw [show c = (c - 2) + 1 + 1 by omega, gcA_s, if_neg (n0 b hb h4), lN_rem (by omega) (by omega), g1]
      generalize a % b = r at *
      rcases Nat.eq_zero_or_pos r with hz | hz
      · subst hz
        rw [gcA_s, if_pos (show lN 0 = 0 from rfl), Nat.gcd_zero_right]
      · have hs := Nat.mod_lt b hz
        have hle : b % r + r ≤ b := by
          have q1 := Nat.div_add_mod b r
          have q2 : 1 ≤ b / r := Nat.div_pos (by omega) hz
          have q3 : r * 1 ≤ r * (b / r) := Nat.mul_le_mul_left r q2
          omega
        have g2 : Nat.gcd b r = Nat.gcd r (b % r) := by rw [Nat.gcd_comm b r, Nat.gcd_rec r b, Nat.gcd_comm]
        rw [gcA_s, if_neg (n0 r hz (by omega)), lN_rem (by omega) (by omega), g2]
        exact gcA_gcd j (c - 2) r (b % r) (by rw [Nat.pow_succ] at h1; omega) (by omega) (by omega) (by omega)
theorem low_eq {X Y : Nat} {w : Int32} (hX : X < 2 ^ 62) (hY : Y < 2 ^ 62) (hY0 : 0 < Y) : lowR (lN X) (lN Y) w = lowN X Y w := by
  have hg : 0 < Nat.gcd X Y := Nat.gcd_pos_of_pos_right X hY0
  have hgb : Nat.gcd X Y < 2 ^ 62 := Nat.lt_of_le_of_lt (Nat.gcd_le_right X hY0) hY
  have e : gcA 200 (lN Y) (lN X) = lN (Nat.gcd X Y) := by rw [gcA_gcd 62 200 Y X hX (by omega) hY hX, Nat.gcd_comm]
  rw [lowR, lowN, e, if_neg (fun z => by have := lN_eq0 (by omega) z; omega), lN_div (by omega) (by omega), lN_div (by omega) (by omega)]
theorem powL_N {V : Nat} (hV : V < 1000) : ∀ j, powL (nI V) j = lN (V ^ j)
  | 0 => rfl
  | j + 1 => by rw [powL, powL_N hV j, nI_l (by omega), lN_mul, Nat.pow_succ]
/-- the odds of a set of people, a mask told -/
def jtX (M : Int32) (v : Nat) (X : Int32) : Nat → Nat
  | 0 => 1
  | i + 1 => jtX M v X i * (if M >>> (nI i &&& 31) &&& nI 1 = 0 then 1 else (if X >>> (nI i &&& 31) &&& nI 1 = nI 1 then v else 10 - v))
theorem jtN_X {M : Int32} {v S : Nat} : ∀ i, jtN M v S i = jtX M v (nI S) i
  | 0 => rfl
  | i + 1 => by rw [jtN, jtX, jtN_X i]
section LL
variable {a b s : vW} {R : Nat → Int32} {t g n m K k l : Nat}
theorem jmM_bt {i j : Nat} (hi : i < 32) (hj : j ≤ 32) : bt (jmM R j) i = (decide (i < j) && !decide (R (15 + i) ≤ 0)) := by
  refine orM_bt (f := jmM R) (P := fun p => !decide (R (15 + p) ≤ 0)) rfl (fun p _ => ?_) hi j hj
  rw [jmM]
  by_cases e : R (15 + p) ≤ 0
  · simp only [e, if_true, decide_true, Bool.not_true, Bool.false_eq_true, if_false]
    exact or_0 _
  · simp only [e, if_false, decide_false, Bool.not_false, if_true]
theorem hp_hung (h : TP s R t 0 n m K) {p : Nat} (hp : p < n) : hpB s t m p = !decide (R (15 + p) ≤ 0) := by
  have m9 := h.m9
  have hd := h.door.1 p hp
  rw [Nat.zero_add, Nat.zero_add] at hd
  have l0 : nI 0 ≤ 0 := by decide
  rw [Bool.eq_iff_iff, hpB_iff]
  rcases hd with ⟨z, y, _⟩ | ⟨z, y, _⟩ | ⟨v, hv, z, y, _⟩
  · rw [y, decide_eq_true l0, z]
    exact ⟨fun ⟨w, hw, q⟩ => absurd q.symm (nI_nm1 (by omega)), fun q => absurd q (by decide)⟩
  · rw [y, decide_eq_true l0, z]
    exact ⟨fun ⟨w, hw, q⟩ => absurd q (m2_nI (by omega)), fun q => absurd q (by decide)⟩
  · have e3 : ¬ nI (v + 1) ≤ 0 := by
      rw [le_toInt, nI_toInt (by omega), Int32.toInt_zero]
      omega
    rw [y, decide_eq_false e3]
    exact ⟨fun _ => rfl, fun _ => ⟨v, hv, z⟩⟩
/-- the odds of a set: of those that are jammed, of those that are not -/
theorem jtX_eq (h : TP s R t 0 n m K) {v : Nat} {A : Nat → Bool} (hA : subP s t m n A) : ∀ i, i ≤ n → jtX (jmM R n) v (mkM A 5) i = v ^ nB A i * (10 - v) ^ nB (fun p => hpB s t m p && !A p) i
  | 0, _ => rfl
  | i + 1, hi => by
    have n5 := h.n5
    have h1 := sar0_bt (m := jmM R n) (i := i) (by omega)
    have h2 := sar_bt (m := mkM A 5) (i := i) (by omega)
    rw [jmM_bt (by omega) (by omega), decide_eq_true (show i < n by omega), Bool.true_and, ← hp_hung h (by omega)] at h1
    rw [mkM_bt (by omega) (by omega), decide_eq_true (show i < 5 by omega), Bool.true_and] at h2
    rw [jtX, jtX_eq h hA i (by omega), nB, nB]
    by_cases e1 : hpB s t m i = true
    · have e0 : ¬ (jmM R n >>> (nI i &&& 31) &&& nI 1 = 0) := fun z => by
        have := h1.mp z
        rw [e1] at this
        exact Bool.false_ne_true this.symm
      rw [if_neg e0, e1, Bool.true_and]
      by_cases e2 : A i = true
      · rw [if_pos (h2.mpr e2), if_pos e2, e2, Bool.not_true, if_neg Bool.false_ne_true, Nat.add_zero, Nat.pow_succ]
        rw [Nat.mul_assoc, Nat.mul_assoc, Nat.mul_comm v]
        rfl
      · rw [if_neg (fun z => e2 (h2.mp z)), if_neg e2, Bool.eq_false_iff.mpr e2, Bool.not_false, if_pos rfl, Nat.add_zero, Nat.pow_succ, Nat.mul_assoc]
    · have e0 := Bool.eq_false_iff.mpr e1
      have e2 : A i = false := Bool.eq_false_iff.mpr (fun z => e1 (hA i z).2)
      rw [if_pos (h1.mpr e0), e0, e2, Bool.false_and, if_neg Bool.false_ne_true, Nat.add_zero, Nat.mul_one]
      rfl
/-- what is counted of the rooms reached -/
def rmOK (rm r : Int32) : Prop := ∀ x : Int32, (∀ i, 8 ≤ i → i < 32 → bt x i = false) → bcN (rm &&& x) = jcN x r
theorem rmOK_one {r : Nat} (hr : r < 8) : rmOK (nI 1 <<< (nI r &&& 31)) (nI r) := by
  intro x hx
  have hb : ∀ i, i < 32 → bt (nI 1 <<< (nI r &&& 31) &&& x) i = (decide (i = r) && bt x i) := fun i hi => by rw [b_and, bt_bit (by omega) hi]
  rw [(bc_nB (x := nI 1 <<< (nI r &&& 31) &&& x) (fun i h1 h2 => by rw [hb i h2, decide_eq_false (by omega), Bool.false_and])).1]
  rw [jcN, if_neg (nI_nm4 (by omega)), bit1, sar_val (by omega)]
  by_cases e : bt x r = true
  · rw [nB_one (p := r) (by rw [hb r (by omega), decide_eq_true rfl, e]; rfl) 10 (by omega) (fun i hi q => by
      rw [hb i (by omega), Bool.and_eq_true, decide_eq_true_iff] at q
      exact q.1), e]
    rfl
  · rw [nB_none 10 (fun i hi => by
      rw [hb i (by omega)]
      by_cases ei : i = r
      · rw [ei, Bool.eq_false_iff.mpr e, Bool.and_false]
      · rw [decide_eq_false ei, Bool.false_and]), Bool.eq_false_iff.mpr e]
    rfl
theorem rmOK_all : rmOK (nI 255) (-4) := by
  intro x hx
  have e : nI 255 &&& x = x := by
    apply b_ext
    intro i hi
    rw [b_and, show nI 255 = 255 from rfl, b_255]
    by_cases h8 : i < 8
    · rw [decide_eq_true h8, Bool.true_and]
    · rw [decide_eq_false h8, Bool.false_and, hx i (by omega) hi]
  have h1 := bc_nB (x := x) (fun i h1 h2 => hx i (by omega) h2)
  have h2 := bitsN_nI x
  have h3 := bitsN_le x
  have h4 := nB_le (f := bt x) 10
  rw [e, h1.1, jcN, if_pos rfl]
  rw [h1.2] at h2
  exact nI_eqN (by omega) (by omega) h2
/-- who comes where when those of A have their doors jammed -/
theorem jam_reach (h : TP a (b 76) 21 0 n m K) {A : Nat → Bool} (hA : subP a 21 m n A) {p : Nat} (hp : p < n) : spreadW a 21 m (passTo a 21 (nI p) m &&& (mkM (imB a 21 n A) 9 ^^^ -1)) (a (21 + 3) p) = mReachQ (b 76) n (mkM A 5) 0 m p := by
  have n5 := h.n5
  have m9 := h.m9
  obtain ⟨y, hy, e3, e4⟩ := h.home2 hp
  rw [e3, mReachQ, e4, nI_clamp (by omega)]
  refine reach_eq m9 hy h.wOK (fun v hv => ⟨(h.wall hv).1, (h.wall hv).2, ?_⟩)
  rw [andn_bt (by omega), passTo_bt (by omega) m (by omega), decide_eq_true hv, Bool.true_and, mkM_bt (by omega) (by omega), decide_eq_true (show v < 9 by omega), Bool.true_and]
  have hP := h.pass (w := v) (q := p) (by omega) hp
  rcases dOK_door h.door m9 n5 (w := v) (by omega) with ⟨e1, e2⟩ | ⟨o, ho, e1, e2⟩
  · rw [e1, letsB_none, Bool.false_and, mPass, if_pos e2]
  · have n4 : ¬ mDoor (b 76) n 0 (nI v) = -4 := by rw [e2]; exact nI_nm4 (by omega)
    have hn0 := (sar0_bt (m := nI 0) (show o < 32 by omega)).mpr (b_0 o)
    have hJ := sar0_bt (m := mkM A 5) (show o < 32 by omega)
    rw [mkM_bt (by omega) (by omega), decide_eq_true (show o < 5 by omega), Bool.true_and] at hJ
    rw [hP, mPass, mPass, if_neg n4, if_neg n4, e2, if_pos hn0]
    have e4 : a (21 + 4) o = nI v := by
      rcases h.door.2.1 v (by omega) with q | ⟨o', ho', q1, q2⟩
      · rw [e1] at q
        exact absurd q (nI_nm1 (by omega))
      · rw [e1] at q1
        rw [nI_eqN (by omega) (by omega) q1]
        exact q2
    have hi : imB a 21 n A v = A o := by
      rw [Bool.eq_iff_iff, imB_iff (by omega)]
      constructor
      · rintro ⟨p', hp', q1, q2⟩
        rw [h.uniq hp' ho (by omega) q1 e4] at q2
        exact q2
      · exact fun q => ⟨o, ho, e4, q⟩
    rw [hi]
    by_cases eA : A o = true
    · rw [eA, Bool.not_true, Bool.and_false, if_neg (fun z => by rw [hJ.mp z] at eA; exact Bool.false_ne_true eA)]
    · have eA2 := Bool.eq_false_iff.mpr eA
      rw [eA2, Bool.not_false, Bool.and_true, if_pos (hJ.mpr eA2)]
/-- both sums -/
theorem jam_eq (h : TP a (b 76) 21 0 n m K) {V p : Nat} {rm r : Int32} (hV : V ≤ 10) (hp : p < n) (hrm : rmOK rm r) : jamTo a 21 m p (nI V) rm (hungTo a 21 m) (passTo a 21 (nI p) m) 512 = lN (jsN (b 76) n m p V r 32) := by
  have n5 := h.n5
  have m9 := h.m9
  obtain ⟨h0, hh0, eh0⟩ := msk_nI (x := hungTo a 21 m) (k := 9) (by omega) (fun i h1 h2 => by rw [hung_bt h2 (by omega), decide_eq_false (by omega), Bool.false_and])
  obtain ⟨M0, hM0, eM0⟩ := msk_nI (x := jmM (b 76) n) (k := 5) (by omega) (fun i h1 h2 => by rw [jmM_bt h2 (by omega), decide_eq_false (by omega), Bool.false_and])
  have bN : ∀ S i, S < 2 ^ 32 → bt (nI S) i = S.testBit i := fun S i hS => bt_nIi hS
  -- the value of a set of walls, of a set of people
  let Gw : (Nat → Bool) → Nat := fun B => V ^ bcN (mkM B 9) * (10 - V) ^ bcN (hungTo a 21 m &&& (mkM B 9 ^^^ -1)) * bcN (rm &&& spreadW a 21 m (passTo a 21 (nI p) m &&& (mkM B 9 ^^^ -1)) (a (21 + 3) p))
  let Gp : (Nat → Bool) → Nat := fun A => jtX (jmM (b 76) n) V (mkM A 5) n * jcN (mReachQ (b 76) n (mkM A 5) 0 m p) r
  have hcond : ∀ (x y : Nat), x < 2 ^ 32 → y < 2 ^ 32 → (nI x &&& (nI y ^^^ -1) = 0 ↔ x &&& y = x) := fun x y hx hy => by
    rw [zero_bt, and_sub]
    constructor
    · intro z v hv
      by_cases hv32 : v < 32
      · have := z v hv32
        rw [andn_bt hv32, bN _ _ hx, bN _ _ hy, hv, Bool.true_and] at this
        simpa using this
      · rw [Nat.testBit_lt_two_pow (Nat.lt_of_lt_of_le hx (Nat.pow_le_pow_right (by decide) (by omega)))] at hv
        exact absurd hv Bool.false_ne_true
    · intro z v hv
      rw [andn_bt hv, bN _ _ hx, bN _ _ hy]
      by_cases e : x.testBit v = true
      · rw [z v e, Bool.not_true, Bool.and_false]
      · rw [Bool.eq_false_iff.mpr e, Bool.false_and]
  have hprog : ∀ j, j ≤ 512 → jamTo a 21 m p (nI V) rm (hungTo a 21 m) (passTo a 21 (nI p) m) j = lN (pSm h0 (fun k => Gw k.testBit) 0 j) := by
    intro j
    induction j with
    | zero => exact fun _ => rfl
    | succ j ih =>
      intro hj
      have hc := hcond j h0 (by omega) (by omega)
      rw [← eh0] at hc
      rw [jamTo, ih (by omega), pSm, Nat.zero_add]
      by_cases e : j &&& h0 = j
      · rw [if_pos (hc.mpr e), if_pos e, jamT]
        have e1 : mkM j.testBit 9 = nI j := mkM_nI (by omega) (by omega)
        have e2 : nI 10 - nI V = nI (10 - V) := nI_subN hV
        have b1 := (bcN_lt (nI j)).1
        have b2 := (bcN_lt (hungTo a 21 m &&& (nI j ^^^ -1))).1
        have b3 := (bcN_lt (rm &&& spreadW a 21 m (passTo a 21 (nI p) m &&& (nI j ^^^ -1)) (a (21 + 3) p))).1
        rw [powL_N (by omega), e2, powL_N (by omega), nI_l (by omega), lN_mul, lN_mul, lN_add]
        show lN _ = lN (_ + V ^ bcN (mkM j.testBit 9) * (10 - V) ^ bcN (hungTo a 21 m &&& (mkM j.testBit 9 ^^^ -1)) * bcN (rm &&& spreadW a 21 m (passTo a 21 (nI p) m &&& (mkM j.testBit 9 ^^^ -1)) (a (21 + 3) p)))
        rw [e1]
      · rw [if_neg (fun z => e (hc.mp z)), if_neg e, Nat.add_zero]
  have hmod : ∀ j, j ≤ 32 → jsN (b 76) n m p V r j = pSm M0 (fun k => Gp k.testBit) 0 j := by
    intro j
    induction j with
    | zero => exact fun _ => rfl
    | succ j ih =>
      intro hj
      have hc := hcond j M0 (by omega) (by omega)
      rw [← eM0] at hc
      rw [jsN, ih (by omega), pSm, Nat.zero_add]
      by_cases e : j &&& M0 = j
      · rw [if_pos (hc.mpr e), if_pos e, jtN_X]
        have e1 : mkM j.testBit 5 = nI j := mkM_nI (by omega) (by omega)
        show _ = _ + jtX (jmM (b 76) n) V (mkM j.testBit 5) n * jcN (mReachQ (b 76) n (mkM j.testBit 5) 0 m p) r
        rw [e1]
      · rw [if_neg (fun z => e (hc.mp z)), if_neg e, Nat.add_zero]
  have hz : (0 : Nat).testBit = fun _ => false := by
    funext i
    exact Nat.zero_testBit i
  have hA0 : subP a 21 m n (fun _ => false) := fun p q => absurd q Bool.false_ne_true
  have him0 : imB a 21 n (fun _ => false) = fun _ => false := by
    funext w
    by_cases hw : w < 9
    · exact Bool.eq_false_iff.mpr (fun q => by
        obtain ⟨p, _, _, e⟩ := (imB_iff hw).mp q
        exact Bool.false_ne_true e)
    · rw [imB, if_neg hw]
  have hG : ∀ A, subP a 21 m n A → Gw (imB a 21 n A) = Gp A := by
    intro A hA
    have hA2 : subP a 21 m n (fun p => hpB a 21 m p && !A p && decide (p < n)) := fun p q => by
      rw [Bool.and_eq_true, Bool.and_eq_true, decide_eq_true_iff] at q
      exact ⟨q.2, q.1.1⟩
    have e1 : bcN (mkM (imB a 21 n A) 9) = nB A n := by
      rw [(bc_nB (x := mkM (imB a 21 n A) 9) (fun i h1 h2 => by rw [mkM_bt h2 (by omega), decide_eq_false (by omega), Bool.false_and])).1, ← im_nB h hA]
      rw [show (10 : Nat) = 9 + 1 from rfl, nB_ext (9 + 1) (g := fun i => decide (i < 9) && imB a 21 n A i) (fun i hi => mkM_bt (by omega) (by omega)), nB_more 1 (fun i hi => by rw [decide_eq_false (by omega), Bool.false_and])]
      exact nB_ext 9 (fun i hi => by rw [decide_eq_true hi, Bool.true_and])
    have e2 : bcN (hungTo a 21 m &&& (mkM (imB a 21 n A) 9 ^^^ -1)) = nB (fun p => hpB a 21 m p && !A p) n := by
      have hb : ∀ i, i < 9 → bt (hungTo a 21 m &&& (mkM (imB a 21 n A) 9 ^^^ -1)) i = imB a 21 n (fun p => hpB a 21 m p && !A p && decide (p < n)) i := fun i hi => by
        rw [andn_bt (by omega), hung_bt (by omega) (by omega), mkM_bt (by omega) (by omega), decide_eq_true hi, Bool.true_and, Bool.eq_iff_iff, imB_iff hi]
        rcases h.door.2.1 i hi with q | ⟨o, ho, q1, q2⟩
        · rw [q, decide_eq_true rfl, Bool.not_true, Bool.and_false, Bool.false_and]
          refine ⟨fun z => absurd z Bool.false_ne_true, ?_⟩
          rintro ⟨p', hp', z1, z2⟩
          have := h.door.2.2 p' i hp' hi z1
          rw [q] at this
          exact absurd this.symm (nI_nm1 (by omega))
        · have him : i < m := by
            rcases h.door.1 o ho with ⟨z, _⟩ | ⟨z, _⟩ | ⟨v, hv, z, _⟩
            · rw [q2] at z
              exact absurd z (nI_nm1 (by omega))
            · rw [q2] at z
              exact absurd z.symm (m2_nI (by omega))
            · rw [nI_eqN (by omega) (by omega) (q2.symm.trans z)]
              exact hv
          have hi2 : imB a 21 n A i = A o := by
            rw [Bool.eq_iff_iff, imB_iff hi]
            constructor
            · rintro ⟨p', hp', z1, z2⟩
              rw [h.uniq hp' ho hi z1 q2] at z2
              exact z2
            · exact fun z => ⟨o, ho, q2, z⟩
          rw [q1, decide_eq_false (nI_nm1 (by omega)), Bool.not_false, Bool.and_true, decide_eq_true him, Bool.true_and, hi2]
          constructor
          · intro z
            exact ⟨o, ho, q2, by rw [hpB_iff.mpr ⟨i, him, q2⟩, z, decide_eq_true ho]; rfl⟩
          · rintro ⟨p', hp', z1, z2⟩
            rw [Bool.and_eq_true, Bool.and_eq_true] at z2
            rw [h.uniq hp' ho hi z1 q2] at z2
            exact z2.1.2
      rw [(bc_nB (x := hungTo a 21 m &&& (mkM (imB a 21 n A) 9 ^^^ -1)) (fun i h1 h2 => by rw [andn_bt h2, hung_bt h2 (by omega), decide_eq_false (by omega), Bool.false_and, Bool.false_and])).1]
      have e10 : bt (hungTo a 21 m &&& (mkM (imB a 21 n A) 9 ^^^ -1)) 9 = false := by rw [andn_bt (by omega), hung_bt (by omega) (by omega), decide_eq_false (by omega), Bool.false_and, Bool.false_and]
      rw [show (10 : Nat) = 9 + 1 from rfl, nB, e10, if_neg Bool.false_ne_true, Nat.add_zero, nB_ext 9 hb, im_nB h hA2]
      exact nB_ext n (fun i hi => by rw [decide_eq_true hi, Bool.and_true])
    show V ^ bcN (mkM (imB a 21 n A) 9) * (10 - V) ^ bcN (hungTo a 21 m &&& (mkM (imB a 21 n A) 9 ^^^ -1)) * bcN (rm &&& spreadW a 21 m (passTo a 21 (nI p) m &&& (mkM (imB a 21 n A) 9 ^^^ -1)) (a (21 + 3) p)) = jtX (jmM (b 76) n) V (mkM A 5) n * jcN (mReachQ (b 76) n (mkM A 5) 0 m p) r
    rw [e1, e2, jtX_eq h hA n (Nat.le_refl n), jam_reach h hA hp]
    congr 1
    exact hrm _ (fun i h1 h2 => reach_8 h.wOK (h.hom8 (by omega)) h1 h2)
  have s1 := pSm_sSB (h0 := h0) (G := Gw) 9 0 (fun i q => by rw [Nat.mul_zero, Nat.zero_testBit] at q; exact absurd q Bool.false_ne_true)
  have s2 := pSm_sSB (h0 := M0) (G := Gp) 5 0 (fun i q => by rw [Nat.mul_zero, Nat.zero_testBit] at q; exact absurd q Bool.false_ne_true)
  rw [Nat.mul_zero, hz] at s1 s2
  rw [hprog 512 (Nat.le_refl _), hmod 32 (Nat.le_refl _), show (512 : Nat) = 2 ^ 9 from rfl, s1, show (32 : Nat) = 2 ^ 5 from rfl, s2]
  congr 1
  have q1 : sSB M0.testBit Gp 5 (fun _ => false) = sSB (hpB a 21 m) Gp n (fun _ => false) := by
    rw [show (5 : Nat) = n + (5 - n) by omega, sSB_more (5 - n) (fun i h1 h2 => by
      rw [← bN M0 i (by omega), ← eM0, jmM_bt (by omega) (by omega), decide_eq_false (by omega), Bool.false_and])]
    exact sSB_ext n _ (fun i hi => by rw [← bN M0 i (by omega), ← eM0, jmM_bt (by omega) (by omega), decide_eq_true hi, Bool.true_and, hp_hung h hi])
  have q2 : sSB h0.testBit Gw 9 (fun _ => false) = sSB (imB a 21 n (fun p => decide (p < n) && hpB a 21 m p)) Gw 9 (fun _ => false) := sSB_ext 9 _ (fun i hi => by
    rw [← bN h0 i (by omega), ← eh0, hung_bt (by omega) (by omega), Bool.eq_iff_iff, imB_iff hi]
    constructor
    · intro z
      rw [Bool.and_eq_true, decide_eq_true_iff] at z
      rcases h.door.2.1 i hi with q | ⟨o, ho, x1, x2⟩
      · rw [q, decide_eq_true rfl] at z
        exact absurd z.2 (by decide)
      · exact ⟨o, ho, x2, by rw [decide_eq_true ho, hpB_iff.mpr ⟨i, z.1, x2⟩]; rfl⟩
    · rintro ⟨p', hp', z1, z2⟩
      have x1 := h.door.2.2 p' i hp' hi z1
      have him : i < m := by
        rcases h.door.1 p' hp' with ⟨z, _⟩ | ⟨z, _⟩ | ⟨v, hv, z, _⟩
        · rw [z1] at z
          exact absurd z (nI_nm1 (by omega))
        · rw [z1] at z
          exact absurd z.symm (m2_nI (by omega))
        · rw [nI_eqN (by omega) (by omega) (z1.symm.trans z)]
          exact hv
      rw [x1, decide_eq_false (nI_nm1 (by omega)), decide_eq_true him]
      rfl)
  rw [q1, q2, sSB_im h hG n (Nat.le_refl n) _ hA0, him0]
theorem jamD_eq (h : TP a (b 76) 21 0 n m K) : jamD a m = lN (jmN (b 76) n) := by
  have n5 := h.n5
  have m9 := h.m9
  have e := h.hungB
  have h3 : mHungG (b 76) 0 n = nI (nB (fun p => !decide (b 76 (15 + p) ≤ 0)) n) := by
    refine sumI_nB (f := mHungG (b 76) 0) rfl (fun k => ?_) n
    rw [mHungG, Nat.zero_add]
    by_cases e : b 76 (15 + k) ≤ 0
    · simp only [e, if_true, decide_true, Bool.not_true, Bool.false_eq_true, if_false]
    · simp only [e, if_false, decide_false, Bool.not_false, if_true]
  have h4 := nB_le (f := fun p => !decide (b 76 (15 + p) ≤ 0)) n
  have h5 := (bcN_lt (hungTo a 21 m)).1
  rw [h3] at e
  have e2 := nI_eqN (by omega) (by omega) e
  have key : ∀ i, jmN (b 76) i = 10 ^ nB (fun p => !decide (b 76 (15 + p) ≤ 0)) i := by
    intro i
    induction i with
    | zero => rfl
    | succ i ih =>
      rw [jmN, ih, nB]
      by_cases e : b 76 (15 + i) ≤ 0
      · rw [if_pos e, decide_eq_true e, Bool.not_true, if_neg Bool.false_ne_true, Nat.mul_one, Nat.add_zero]
      · rw [if_neg e, decide_eq_false e, Bool.not_false, if_pos rfl, Nat.pow_succ]
  rw [jamD, powL_N (by omega), e2, key]
theorem luck_eq (h : Rel a b n m K k l) {v p r w : Int32} : luckR a m v p r w = mLuckR (b 76) n m v p r w := by
  have hT := h.1.1
  have n5 := hT.n5
  rw [luckR, mLuckR, luckOk, hT.one, roomB_inZ, upToB_inZ (by omega), upToB_inZ (by omega)]
  by_cases q1 : inZ v 11 = true
  · obtain ⟨V, hV, rfl⟩ := inZ_ex q1 (by omega)
    (repeat rw [if_pos q1])
    by_cases q2 : inZ p n = true
    · obtain ⟨p', hp, rfl⟩ := inZ_ex q2 (by omega)
      (repeat rw [if_pos q2])
      by_cases q3 : inZ r 8 = true
      · obtain ⟨r', hr, rfl⟩ := inZ_ex q3 (by omega)
        (repeat rw [if_pos q3])
        by_cases q4 : inZ w 2 = true
        · (repeat rw [if_pos q4])
          rw [if_pos rfl, nI_clamp (by omega), nI_clamp (by omega), jamV, jam_eq hT (by omega) hp (rmOK_one hr), jamD_eq hT, jamR]
          have b1 := jsN_le (R := b 76) (n := n) (m := m) (p := p') (v := V) (r := nI r') (by omega) n5 32
          have b2 := jmN_le (b 76) n
          have b3 : 10 ^ n ≤ 10 ^ 5 := Nat.pow_le_pow_right (by decide) n5
          exact low_eq (by omega) (by omega) b2.1
        · (repeat rw [if_neg q4])
          rw [if_neg Bool.false_ne_true]
      · (repeat rw [if_neg q3])
        rw [if_neg Bool.false_ne_true]
    · (repeat rw [if_neg q2])
      rw [if_neg Bool.false_ne_true]
  · (repeat rw [if_neg q1])
    rw [if_neg Bool.false_ne_true]
theorem mean_eq (h : Rel a b n m K k l) {v p w : Int32} : meanR a m v p w = mMeanR (b 76) n m v p w := by
  have hT := h.1.1
  have n5 := hT.n5
  rw [meanR, mMeanR, meanOk, hT.one, upToB_inZ (by omega), upToB_inZ (by omega)]
  by_cases q1 : inZ v 11 = true
  · obtain ⟨V, hV, rfl⟩ := inZ_ex q1 (by omega)
    (repeat rw [if_pos q1])
    by_cases q2 : inZ p n = true
    · obtain ⟨p', hp, rfl⟩ := inZ_ex q2 (by omega)
      (repeat rw [if_pos q2])
      by_cases q4 : inZ w 2 = true
      · (repeat rw [if_pos q4])
        rw [if_pos rfl, nI_clamp (by omega), nI_clamp (by omega), jamV, jam_eq hT (by omega) hp rmOK_all, jamD_eq hT, jamR]
        have b1 := jsN_le (R := b 76) (n := n) (m := m) (p := p') (v := V) (r := -4) (by omega) n5 32
        have b2 := jmN_le (b 76) n
        have b3 : 10 ^ n ≤ 10 ^ 5 := Nat.pow_le_pow_right (by decide) n5
        exact low_eq (by omega) (by omega) b2.1
      · (repeat rw [if_neg q4])
        rw [if_neg Bool.false_ne_true]
    · (repeat rw [if_neg q2])
      rw [if_neg Bool.false_ne_true]
  · (repeat rw [if_neg q1])
    rw [if_neg Bool.false_ne_true]
end LL
