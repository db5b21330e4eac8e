/-! The model: luck -/
theorem lN_div {a b : Nat} (ha : a < 2 ^ 63) (hb : b < 2 ^ 63) : lN a / lN b = lN (a / b) := by
  apply Int64.toBitVec_inj.mp
  rw [Int64.toBitVec_div, lN_bv, lN_bv, lN_bv]
  have m1 : (BitVec.ofNat 64 a).msb = false := by rw [BitVec.msb_eq_false_iff_two_mul_lt, BitVec.toNat_ofNat]; omega
  have m2 : (BitVec.ofNat 64 b).msb = false := by rw [BitVec.msb_eq_false_iff_two_mul_lt, BitVec.toNat_ofNat]; omega
  rw [BitVec.sdiv_eq, m1, m2]
  show BitVec.udiv _ _ = _
  apply BitVec.eq_of_toNat_eq
  have h3 : a / b ≤ a := Nat.div_le_self a b
  rw [BitVec.udiv_eq, BitVec.toNat_udiv, BitVec.toNat_ofNat, BitVec.toNat_ofNat, BitVec.toNat_ofNat, Nat.mod_eq_of_lt (show a < 2 ^ 64 by omega), Nat.mod_eq_of_lt (show b < 2 ^ 64 by omega), Nat.mod_eq_of_lt (show a / b < 2 ^ 64 by omega)]
theorem lN_rem {a b : Nat} (ha : a < 2 ^ 63) (hb : b < 2 ^ 63) : lN a - lN a / lN b * lN b = lN (a % b) := by
  rw [lN_div ha hb, lN_mul, lN_sub (Nat.div_mul_le_self a b)]
  congr 1
  have := Nat.div_add_mod a b
  rw [Nat.mul_comm] at this
  omega
theorem lN_eq0 {n : Nat} (h : n < 2 ^ 63) (e : lN n = 0) : n = 0 := by
  have h2 := congrArg Int64.toInt e
  rw [lN_ti (by omega), if_pos h] at h2
  have h3 : (0 : Int64).toInt = 0 := by decide
  omega
def euS (a b : Nat) : Nat → Nat × Nat
  | 0 => (a, b)
  | k + 1 => if (euS a b k).2 = 0 then euS a b k else ((euS a b k).2, (euS a b k).1 % (euS a b k).2)
theorem euS_ok {a b : Nat} (ha : a < 2 ^ 62) (hb : b < 2 ^ 62) : ∀ k, (euS a b k).1 < 2 ^ 62 ∧ (euS a b k).2 < 2 ^ 62 ∧ Nat.gcd (euS a b k).1 (euS a b k).2 = Nat.gcd a b ∧ ((euS a b k).2 = 0 ∨ (euS a b k).2 + k ≤ b)
  | 0 => ⟨ha, hb, rfl, Or.inr (Nat.le_refl _)⟩
  | k + 1 => by
    obtain ⟨h1, h2, h3, h4⟩ := euS_ok ha hb k
    unfold euS
    split
    · exact ⟨h1, h2, h3, Or.inl (by assumption)⟩
    · have h5 := Nat.mod_lt (euS a b k).1 (show 0 < (euS a b k).2 by omega)
      refine ⟨h2, by show (euS a b k).1 % (euS a b k).2 < 2 ^ 62; omega, ?_, ?_⟩
      · show Nat.gcd (euS a b k).2 ((euS a b k).1 % (euS a b k).2) = _
        rw [← h3, Nat.gcd_comm (euS a b k).1, Nat.gcd_rec (euS a b k).2 (euS a b k).1, Nat.gcd_comm]
      · right
        show (euS a b k).1 % (euS a b k).2 + (k + 1) ≤ b
        omega
theorem euS_end {a b k : Nat} (ha : a < 2 ^ 62) (hb : b < 2 ^ 62) (h : (euS a b k).2 = 0) : (euS a b k).1 = Nat.gcd a b := by
  have h2 := (euS_ok ha hb k).2.2.1
  rw [h, Nat.gcd_zero_right] at h2
  exact h2
theorem euS_last {a b : Nat} (ha : a < 2 ^ 62) (hb : b < 2 ^ 62) : (euS a b (b + 1)).2 = 0 := by
  rcases (euS_ok ha hb (b + 1)).2.2.2 with h | h
  · exact h
  · omega
def lowN (a b : Nat) (k : Int32) : Int64 := if k = 0 then lN (a / Nat.gcd a b) else lN (b / Nat.gcd a b)
set_option maxHeartbeats 4000000 in
theorem C_X6_lowest {σ : vW} {a b : Nat} {k : Int32} (ha : a < 2 ^ 62) (hb : b < 2 ^ 62) (hb0 : 0 < b) : Ctr mX6_lowest 0 [.long (lN a), .long (lN b), .int k] σ (vDet (some (.long (lowN a b k))) σ) := by
  have hg : 0 < Nat.gcd a b := Nat.gcd_pos_of_pos_right a hb0
  have hgb : Nat.gcd a b < 2 ^ 62 := Nat.lt_of_le_of_lt (Nat.gcd_le_right a hb0) hb
  have hgn : ¬ lN (Nat.gcd a b) = 0 := fun e => by have := lN_eq0 (by omega) e; omega
  have hz : ∀ j, lg_cmp (lN (euS a b j).2) (lN 0) = 0 → (euS a b j).1 = Nat.gcd a b := fun j h => euS_end ha hb (lN_eq0 (by have := (euS_ok ha hb j).2.1; omega) (lg_cmp_0 h))
  refine Ctr.intro (by decide) (fun α => Nat.le_of_ble_eq_true rfl) (fun x G hQ => ?_)
  have G : vG x RX6 cX6_lowest 11 (some .long) 0 := G
  show V x 0 [some (.long (lN a)), none, some (.long (lN b)), none, some (.int k), none, none, none, none, none, none] [] σ
  refine v_lload_11_0 G dX6_lowest_0 ?_
  refine v_lstore_11_5 G dX6_lowest_1 rfl ?_
  refine v_lload_11_2 G dX6_lowest_3 ?_
  refine v_lstore_11_7 G dX6_lowest_4 rfl ?_
  refine v_for (pc := 6) ((b + 1)) (fun j => ([some (.long (lN a)), none, some (.long (lN b)), none, some (.int k), some (.long (lN (euS a b j).1)), none, some (.long (lN (euS a b j).2)), none, none, none], σ)) (fun j hj ih => ?_) ?_
  · show V x 6 [some (.long (lN a)), none, some (.long (lN b)), none, some (.int k), some (.long (lN (euS a b j).1)), none, some (.long (lN (euS a b j).2)), none, none, none] [] σ
    have ih : V x 6 [some (.long (lN a)), none, some (.long (lN b)), none, some (.int k), some (.long (lN (euS a b (j + 1)).1)), none, some (.long (lN (euS a b (j + 1)).2)), none, none, none] [] σ := ih
    obtain ⟨e1, e2, _, _⟩ := euS_ok ha hb j
    refine v_lload_11_7 G dX6_lowest_6 ?_
    refine v_lconst (v := lN 0) G dX6_lowest_8 (by decide) ?_
    refine v_lcmp G dX6_lowest_9 ?_
    refine v_if_eq (tgt := 31) G dX6_lowest_10 rfl (fun h_10 => ?_) (fun h_10 => ?_)
    · refine v_iload_11_4 G dX6_lowest_31 ?_
      refine v_if_ne (tgt := 40) G dX6_lowest_33 rfl (fun h_33 => ?_) (fun h_33 => ?_)
      · refine v_lload_11_2 G dX6_lowest_40 ?_
        refine v_lload_11_5 G dX6_lowest_41 ?_
        refine v_ldiv G dX6_lowest_43 (by first | (rw [hz _ h_10]; exact hgn) | (rw [hz (b + 1) (by rw [euS_last ha hb]; decide)]; exact hgn) | exact lg_cmp_n0 h_10) ?_
        exact v_lret G hQ dX6_lowest_44 (vDet.of (by first | (rw [hz _ h_10, lN_div (by omega) (by omega), lowN, if_pos h_33]; done) | (rw [hz _ h_10, lN_div (by omega) (by omega), lowN, if_neg h_33]; done) | (rw [hz (b + 1) (by rw [euS_last ha hb]; decide), lN_div (by omega) (by omega), lowN, if_pos h_33]; done) | (rw [hz (b + 1) (by rw [euS_last ha hb]; decide), lN_div (by omega) (by omega), lowN, if_neg h_33]; done)) rfl)
      · refine v_lload_11_0 G dX6_lowest_36 ?_
        refine v_goto (tgt := 41) G dX6_lowest_37 rfl ?_
        refine v_lload_11_5 G dX6_lowest_41 ?_
        refine v_ldiv G dX6_lowest_43 (by first | (rw [hz _ h_10]; exact hgn) | (rw [hz (b + 1) (by rw [euS_last ha hb]; decide)]; exact hgn) | exact lg_cmp_n0 h_10) ?_
        exact v_lret G hQ dX6_lowest_44 (vDet.of (by first | (rw [hz _ h_10, lN_div (by omega) (by omega), lowN, if_pos h_33]; done) | (rw [hz _ h_10, lN_div (by omega) (by omega), lowN, if_neg h_33]; done) | (rw [hz (b + 1) (by rw [euS_last ha hb]; decide), lN_div (by omega) (by omega), lowN, if_pos h_33]; done) | (rw [hz (b + 1) (by rw [euS_last ha hb]; decide), lN_div (by omega) (by omega), lowN, if_neg h_33]; done)) rfl)
    · refine v_lload_11_5 G dX6_lowest_13 ?_
      refine v_lload_11_7 G dX6_lowest_15 ?_
      refine v_lrem G dX6_lowest_17 (by first | (rw [hz _ h_10]; exact hgn) | (rw [hz (b + 1) (by rw [euS_last ha hb]; decide)]; exact hgn) | exact lg_cmp_n0 h_10) ?_
      refine v_lstore_11_9 G dX6_lowest_18 rfl ?_
      refine v_lload_11_7 G dX6_lowest_20 ?_
      refine v_lstore_11_5 G dX6_lowest_22 rfl ?_
      refine v_lload_11_9 G dX6_lowest_24 ?_
      refine v_lstore_11_7 G dX6_lowest_26 rfl ?_
      refine v_goto (tgt := 6) G dX6_lowest_28 rfl ?_
      have hn : ¬ (euS a b j).2 = 0 := fun e => h_10 (by rw [e]; decide)
      rw [euS, if_neg hn] at ih
      rw [lN_rem (by omega) (by omega)]
      exact V.drop (by simp only [vsubP, and_self]) ih
  · show V x 6 [some (.long (lN a)), none, some (.long (lN b)), none, some (.int k), some (.long (lN (euS a b (b + 1)).1)), none, some (.long (lN (euS a b (b + 1)).2)), none, none, none] [] σ
    refine v_lload_11_7 G dX6_lowest_6 ?_
    refine v_lconst (v := lN 0) G dX6_lowest_8 (by decide) ?_
    refine v_lcmp G dX6_lowest_9 ?_
    refine v_if_eq (tgt := 31) G dX6_lowest_10 rfl (fun h_10 => ?_) (fun h_10 => absurd (show lg_cmp (lN (euS a b (b + 1)).2) (lN 0) = 0 by rw [euS_last ha hb]; decide) h_10)
    refine v_iload_11_4 G dX6_lowest_31 ?_
    refine v_if_ne (tgt := 40) G dX6_lowest_33 rfl (fun h_33 => ?_) (fun h_33 => ?_)
    · refine v_lload_11_2 G dX6_lowest_40 ?_
      refine v_lload_11_5 G dX6_lowest_41 ?_
      refine v_ldiv G dX6_lowest_43 (by first | (rw [hz _ h_10]; exact hgn) | (rw [hz (b + 1) (by rw [euS_last ha hb]; decide)]; exact hgn) | exact lg_cmp_n0 h_10) ?_
      exact v_lret G hQ dX6_lowest_44 (vDet.of (by first | (rw [hz _ h_10, lN_div (by omega) (by omega), lowN, if_pos h_33]; done) | (rw [hz _ h_10, lN_div (by omega) (by omega), lowN, if_neg h_33]; done) | (rw [hz (b + 1) (by rw [euS_last ha hb]; decide), lN_div (by omega) (by omega), lowN, if_pos h_33]; done) | (rw [hz (b + 1) (by rw [euS_last ha hb]; decide), lN_div (by omega) (by omega), lowN, if_neg h_33]; done)) rfl)
    · refine v_lload_11_0 G dX6_lowest_36 ?_
      refine v_goto (tgt := 41) G dX6_lowest_37 rfl ?_
      refine v_lload_11_5 G dX6_lowest_41 ?_
      refine v_ldiv G dX6_lowest_43 (by first | (rw [hz _ h_10]; exact hgn) | (rw [hz (b + 1) (by rw [euS_last ha hb]; decide)]; exact hgn) | exact lg_cmp_n0 h_10) ?_
      exact v_lret G hQ dX6_lowest_44 (vDet.of (by first | (rw [hz _ h_10, lN_div (by omega) (by omega), lowN, if_pos h_33]; done) | (rw [hz _ h_10, lN_div (by omega) (by omega), lowN, if_neg h_33]; done) | (rw [hz (b + 1) (by rw [euS_last ha hb]; decide), lN_div (by omega) (by omega), lowN, if_pos h_33]; done) | (rw [hz (b + 1) (by rw [euS_last ha hb]; decide), lN_div (by omega) (by omega), lowN, if_neg h_33]; done)) rfl)
/-- the jams -/
def jmM (R : Nat → Int32) : Nat → Int32
  | 0 => nI 0
  | i + 1 => jmM R i ||| (if R (15 + i) ≤ 0 then nI 0 else nI 1 <<< (nI i &&& 31))
def jmN (R : Nat → Int32) : Nat → Nat
  | 0 => 1
  | i + 1 => jmN R i * (if R (15 + i) ≤ 0 then 1 else 10)
theorem jmN_le (R : Nat → Int32) : ∀ i, 0 < jmN R i ∧ jmN R i ≤ 10 ^ i
  | 0 => ⟨Nat.zero_lt_one, Nat.le_refl 1⟩
  | i + 1 => by
    obtain ⟨h1, h2⟩ := jmN_le R i
    unfold jmN
    rw [Nat.pow_succ]
    split
    · exact ⟨by omega, by omega⟩
    · exact ⟨by omega, by omega⟩
def jtN (M : Int32) (v S : Nat) : Nat → Nat
  | 0 => 1
  | i + 1 => jtN M v S i * (if M >>> (nI i &&& 31) &&& nI 1 = 0 then 1 else (if nI S >>> (nI i &&& 31) &&& nI 1 = nI 1 then v else 10 - v))
theorem jtN_le {M : Int32} {v S : Nat} (hv : v ≤ 10) : ∀ i, jtN M v S i ≤ 10 ^ i
  | 0 => Nat.le_refl 1
  | i + 1 => by
    have h := jtN_le (M := M) (S := S) hv i
    unfold jtN
    rw [Nat.pow_succ]
    refine Nat.mul_le_mul h ?_
    split
    · omega
    · split
      · exact hv
      · omega
def bitsN (a : Int32) : Nat := if a ≤ 0 then 0 else bN a.toNatClampNeg 31
theorem bitsN_nI (a : Int32) : bitsR a = nI (bitsN a) := by
  unfold bitsR bitsN
  split <;> rfl
theorem bitsN_le (a : Int32) : bitsN a ≤ 31 := by
  unfold bitsN
  split
  · omega
  · exact bN_le _ 31
theorem and1 (a : Int32) : ∃ b, b ≤ 1 ∧ a &&& nI 1 = nI b := by
  obtain ⟨n, hn, e⟩ := wb_of32 a
  refine ⟨n % 2, by omega, ?_⟩
  rw [e, show nI 1 = nI (2 ^ 1 - 1) from rfl, fa_mask]
def bit1 (a : Int32) : Nat := (a &&& nI 1).toNatClampNeg
theorem bit1_nI (a : Int32) : a &&& nI 1 = nI (bit1 a) := by
  obtain ⟨b, hb, e⟩ := and1 a
  rw [bit1, e, nI_clamp (by omega)]
theorem bit1_le (a : Int32) : bit1 a ≤ 1 := by
  obtain ⟨b, hb, e⟩ := and1 a
  rw [bit1, e, nI_clamp (by omega)]
  exact hb
def jcN (x r : Int32) : Nat := if r = -4 then bitsN x else bit1 (x >>> (r &&& 31))
theorem jcN_le (x r : Int32) : jcN x r ≤ 31 := by
  unfold jcN
  split
  · exact bitsN_le x
  · have := bit1_le (x >>> (r &&& 31))
    omega
def jsN (R : Nat → Int32) (n m p v : Nat) (r : Int32) : Nat → Nat
  | 0 => 0
  | S + 1 => if nI S &&& (jmM R n ^^^ -1) = 0 then jsN R n m p v r S + jtN (jmM R n) v S n * jcN (mReachQ R n (nI S) 0 m p) r else jsN R n m p v r S
theorem jsN_le {R : Nat → Int32} {n m p v : Nat} {r : Int32} (hv : v ≤ 10) (hn : n ≤ 5) : ∀ S, jsN R n m p v r S ≤ S * 3100000
  | 0 => Nat.le_refl 0
  | S + 1 => by
    have ih := jsN_le (R := R) (m := m) (p := p) (r := r) hv hn S
    have h1 : jtN (jmM R n) v S n ≤ 100000 := Nat.le_trans (jtN_le hv n) (Nat.pow_le_pow_right (show 0 < 10 by decide) hn)
    have h2 : jtN (jmM R n) v S n * jcN (mReachQ R n (nI S) 0 m p) r ≤ 100000 * 31 := Nat.mul_le_mul h1 (jcN_le _ _)
    unfold jsN
    split
    · rw [Nat.succ_mul]
      exact Nat.add_le_add ih h2
    · exact Nat.le_trans ih (Nat.mul_le_mul_right _ (Nat.le_succ S))
def jmW (σ : vW) (M : Int32) : Nat → vW
  | 0 => σ
  | S + 1 => if nI S &&& (M ^^^ -1) = 0 then vset σ 75 20 (nI S) else jmW σ M S
theorem vset_same2 {σ : vW} {r i : Nat} {u v : Int32} : vset (vset σ r i u) r i v = vset σ r i v := by
  funext a j
  simp only [vset]
  split <;> rfl
theorem vset_id {σ : vW} {r i : Nat} : vset σ r i (σ r i) = σ := by
  funext a j
  simp only [vset]
  split
  · rename_i h
    rw [h.1, h.2]
  · rfl
theorem jmW_set {σ : vW} {M v : Int32} : ∀ S, vset (jmW σ M S) 75 20 v = vset σ 75 20 v
  | 0 => rfl
  | S + 1 => by
    unfold jmW
    split
    · exact vset_same2
    · exact jmW_set S
theorem jmW_n {σ : vW} {M : Int32} {i : Nat} (hi : i ≠ 20) : ∀ S, (jmW σ M S) 75 i = σ 75 i
  | 0 => rfl
  | S + 1 => by
    unfold jmW
    split
    · exact vset_oth hi
    · exact jmW_n hi S
def jamR (R : Nat → Int32) (n m p v : Nat) (r k : Int32) : Int64 := lowN (jsN R n m p v r 32) (jmN R n) k
set_option maxHeartbeats 4000000 in
theorem C_X6_byJams {σ : vW} {f : Nat → Int32} {n m p v : Nat} {r k : Int32} (hp : pOK σ n m 0) (hJ : σ 75 20 = nI 0) (hp5 : p < 5) (hv : v ≤ 10) : Ctr mX6_byJams 4 [.ref 75, .int (nI v), .int (nI p), .int r, .int k] (vrow σ 81 f) (vFar (some (.long (jamR (σ 76) n m p v r k))) σ) := by
  have hn := hp.1.1
  have hn5 := hp.1.2.1
  have hns : ∀ M S, (jmW σ M S) 75 1 = nI n := fun M S => (jmW_n (by decide) S).trans hn
  have hn5' : 10 ^ n ≤ 100000 := Nat.pow_le_pow_right (show 0 < 10 by decide) hn5
  have hrow : ∀ S M, (jmW σ M S) 76 = σ 76 := fun S M => by
    induction S with
    | zero => rfl
    | succ S ih =>
      unfold jmW
      split
      · exact vset_ne (by decide)
      · exact ih
  have hpJ : ∀ S, pOK (vset σ 75 20 (nI S)) n m 0 := fun S => pOK_fld hp (by decide)
  have hend : ∀ M S, vset (jmW σ M S) 75 20 (nI 0) = σ := fun M S => by rw [jmW_set, ← hJ, vset_id]
  have hb1 : jsN (σ 76) n m p v r 32 < 2 ^ 62 := by have := jsN_le (R := σ 76) (m := m) (p := p) (r := r) hv hn5 32; omega
  have hb2 := jmN_le (σ 76) n
  have hv10 : nI 10 - nI v = nI (10 - v) := by
    rw [show nI 10 = nI (10 - v) + nI v from (congrArg nI (show 10 = (10 - v) + v by omega)).trans (nI_add _ _).symm]
    exact Int32.add_sub_cancel _ _
  refine Ctr.intro (by decide) (fun α => Nat.le_of_ble_eq_true rfl) (fun x G hQ => ?_)
  have G : vG x RX6 cX6_byJams 14 (some .long) 4 := G
  show V x 0 [some (.ref 75), some (.int (nI v)), some (.int (nI p)), some (.int r), some (.int k), none, none, none, none, none, none, none, none, none] [] (vrow σ 81 f)
  refine v_lconst (v := lN 0) G dX6_byJams_0 (by decide) ?_
  refine v_lstore_14_5 G dX6_byJams_1 rfl ?_
  refine v_lconst (v := lN 1) G dX6_byJams_3 (by decide) ?_
  refine v_lstore_14_7 G dX6_byJams_4 rfl ?_
  refine v_iconst (v := nI 0) G dX6_byJams_6 (by decide) ?_
  refine v_istore_14_9 G dX6_byJams_7 rfl ?_
  refine v_iconst (v := nI 0) G dX6_byJams_9 (by decide) ?_
  refine v_istore_14_10 G dX6_byJams_10 rfl ?_
  refine v_for (pc := 12) (n) (fun i => ([some (.ref 75), some (.int (nI v)), some (.int (nI p)), some (.int r), some (.int k), some (.long (lN 0)), none, some (.long (lN (jmN (σ 76) i))), none, some (.int (jmM (σ 76) i)), some (.int (nI i)), none, none, none], (vrow (σ) 81 f))) (fun i hi ih => ?_) ?_
  · show V x 12 [some (.ref 75), some (.int (nI v)), some (.int (nI p)), some (.int r), some (.int k), some (.long (lN 0)), none, some (.long (lN (jmN (σ 76) i))), none, some (.int (jmM (σ 76) i)), some (.int (nI i)), none, none, none] [] (vrow (σ) 81 f)
    have ih : V x 12 [some (.ref 75), some (.int (nI v)), some (.int (nI p)), some (.int r), some (.int k), some (.long (lN 0)), none, some (.long (lN (jmN (σ 76) (i + 1)))), none, some (.int (jmM (σ 76) (i + 1))), some (.int (nI (i + 1))), none, none, none] [] (vrow (σ) 81 f) := ih
    refine v_iload_14_10 G dX6_byJams_12 ?_
    refine v_aload_14_0 G dX6_byJams_14 ?_
    refine m_getI G (by decide) vc_6 lk_X6_144 fs_X6_1 dX6_byJams_15 ?_
    refine v_icmp_ge (tgt := 78) G dX6_byJams_18 rfl (fun h_18 => absurd h_18 (by rw [hn]; exact nI_ge hi (by omega))) (fun h_18 => ?_)
    refine v_iload_14_9 G dX6_byJams_21 ?_
    refine v_aload_14_0 G dX6_byJams_23 ?_
    refine v_getR G vc_6 lk_X6_7 (fs_X6_0) dX6_byJams_24 ?_
    refine v_bipush (v := nI 15) G dX6_byJams_27 (by decide) ?_
    refine v_iload_14_10 G dX6_byJams_29 ?_
    refine v_iaddN G dX6_byJams_31 ?_
    refine m_ialdN G (by decide) (as_X6_0) (by first | assumption | omega | exact oneB_in (by assumption) | exact wallB_in (by assumption) | exact oneB_m1 (by assumption) | decide) (by decide) dX6_byJams_32 ?_
    refine v_if_le (tgt := 43) G dX6_byJams_33 rfl (fun h_33 => ?_) (fun h_33 => ?_)
    · refine v_iconst (v := nI 0) G dX6_byJams_43 (by decide) ?_
      refine v_ior G dX6_byJams_44 ?_
      refine v_istore_14_9 G dX6_byJams_45 rfl ?_
      refine v_lload_14_7 G dX6_byJams_47 ?_
      refine v_aload_14_0 G dX6_byJams_49 ?_
      refine v_getR G vc_6 lk_X6_7 (fs_X6_0) dX6_byJams_50 ?_
      refine v_bipush (v := nI 15) G dX6_byJams_53 (by decide) ?_
      refine v_iload_14_10 G dX6_byJams_55 ?_
      refine v_iaddN G dX6_byJams_57 ?_
      refine m_ialdN G (by decide) (as_X6_0) (by first | assumption | omega | exact oneB_in (by assumption) | exact wallB_in (by assumption) | exact oneB_m1 (by assumption) | decide) (by decide) dX6_byJams_58 ?_
      refine v_if_le (tgt := 68) G dX6_byJams_59 rfl (fun h_59 => ?_) (fun h_59 => ?_)
      · refine v_lconst (v := lN 1) G dX6_byJams_68 (by decide) ?_
        refine v_lmul G dX6_byJams_69 ?_
        refine v_lstore_14_7 G dX6_byJams_70 rfl ?_
        refine v_iincN_14_10 G dX6_byJams_72 rfl ?_
        refine v_goto (tgt := 12) G dX6_byJams_75 rfl ?_
        first
          | contradiction
          | (rw [jmM, jmN, if_pos h_33, if_pos h_33] at ih; rw [lN_mul]; exact ih)
          | (rw [jmM, jmN, if_neg h_33, if_neg h_33] at ih; rw [show (10 : Int64) = lN 10 from rfl, lN_mul]; exact ih)
      · refine v_ldc2 G ct_X6_240 dX6_byJams_62 ?_
        refine v_goto (tgt := 69) G dX6_byJams_65 rfl ?_
        refine v_lmul G dX6_byJams_69 ?_
        refine v_lstore_14_7 G dX6_byJams_70 rfl ?_
        refine v_iincN_14_10 G dX6_byJams_72 rfl ?_
        refine v_goto (tgt := 12) G dX6_byJams_75 rfl ?_
        first
          | contradiction
          | (rw [jmM, jmN, if_pos h_33, if_pos h_33] at ih; rw [lN_mul]; exact ih)
          | (rw [jmM, jmN, if_neg h_33, if_neg h_33] at ih; rw [show (10 : Int64) = lN 10 from rfl, lN_mul]; exact ih)
    · refine v_iconst (v := nI 1) G dX6_byJams_36 (by decide) ?_
      refine v_iload_14_10 G dX6_byJams_37 ?_
      refine v_ishl G dX6_byJams_39 ?_
      refine v_goto (tgt := 44) G dX6_byJams_40 rfl ?_
      refine v_ior G dX6_byJams_44 ?_
      refine v_istore_14_9 G dX6_byJams_45 rfl ?_
      refine v_lload_14_7 G dX6_byJams_47 ?_
      refine v_aload_14_0 G dX6_byJams_49 ?_
      refine v_getR G vc_6 lk_X6_7 (fs_X6_0) dX6_byJams_50 ?_
      refine v_bipush (v := nI 15) G dX6_byJams_53 (by decide) ?_
      refine v_iload_14_10 G dX6_byJams_55 ?_
      refine v_iaddN G dX6_byJams_57 ?_
      refine m_ialdN G (by decide) (as_X6_0) (by first | assumption | omega | exact oneB_in (by assumption) | exact wallB_in (by assumption) | exact oneB_m1 (by assumption) | decide) (by decide) dX6_byJams_58 ?_
      refine v_if_le (tgt := 68) G dX6_byJams_59 rfl (fun h_59 => ?_) (fun h_59 => ?_)
      · refine v_lconst (v := lN 1) G dX6_byJams_68 (by decide) ?_
        refine v_lmul G dX6_byJams_69 ?_
        refine v_lstore_14_7 G dX6_byJams_70 rfl ?_
        refine v_iincN_14_10 G dX6_byJams_72 rfl ?_
        refine v_goto (tgt := 12) G dX6_byJams_75 rfl ?_
        first
          | contradiction
          | (rw [jmM, jmN, if_pos h_33, if_pos h_33] at ih; rw [lN_mul]; exact ih)
          | (rw [jmM, jmN, if_neg h_33, if_neg h_33] at ih; rw [show (10 : Int64) = lN 10 from rfl, lN_mul]; exact ih)
      · refine v_ldc2 G ct_X6_240 dX6_byJams_62 ?_
        refine v_goto (tgt := 69) G dX6_byJams_65 rfl ?_
        refine v_lmul G dX6_byJams_69 ?_
        refine v_lstore_14_7 G dX6_byJams_70 rfl ?_
        refine v_iincN_14_10 G dX6_byJams_72 rfl ?_
        refine v_goto (tgt := 12) G dX6_byJams_75 rfl ?_
        first
          | contradiction
          | (rw [jmM, jmN, if_pos h_33, if_pos h_33] at ih; rw [lN_mul]; exact ih)
          | (rw [jmM, jmN, if_neg h_33, if_neg h_33] at ih; rw [show (10 : Int64) = lN 10 from rfl, lN_mul]; exact ih)
  · show V x 12 [some (.ref 75), some (.int (nI v)), some (.int (nI p)), some (.int r), some (.int k), some (.long (lN 0)), none, some (.long (lN (jmN (σ 76) n))), none, some (.int (jmM (σ 76) n)), some (.int (nI n)), none, none, none] [] (vrow (σ) 81 f)
    refine v_iload_14_10 G dX6_byJams_12 ?_
    refine v_aload_14_0 G dX6_byJams_14 ?_
    refine m_getI G (by decide) vc_6 lk_X6_144 fs_X6_1 dX6_byJams_15 ?_
    refine v_icmp_ge (tgt := 78) G dX6_byJams_18 rfl (fun h_18 => ?_) (fun h_18 => absurd (by rw [hn]; exact nI_le (Nat.le_refl _) (by omega)) h_18)
    refine v_iconst (v := nI 0) G dX6_byJams_78 (by decide) ?_
    refine v_istore_14_10 G dX6_byJams_79 rfl ?_
    refine v_forF (pc := 81) (32) (fun S => ([some (.ref 75), some (.int (nI v)), some (.int (nI p)), some (.int r), some (.int k), some (.long (lN (jsN (σ 76) n m p v r S))), none, some (.long (lN (jmN (σ 76) n))), none, some (.int (jmM (σ 76) n)), some (.int (nI S)), none, none, none], jmW σ (jmM (σ 76) n) S)) (fun S hS ihS f => ?_) (fun f => ?_) f
    · show V x 81 [some (.ref 75), some (.int (nI v)), some (.int (nI p)), some (.int r), some (.int k), some (.long (lN (jsN (σ 76) n m p v r S))), none, some (.long (lN (jmN (σ 76) n))), none, some (.int (jmM (σ 76) n)), some (.int (nI S)), none, none, none] [] (vrow (jmW σ (jmM (σ 76) n) S) 81 f)
      have ihS : ∀ f, V x 81 [some (.ref 75), some (.int (nI v)), some (.int (nI p)), some (.int r), some (.int k), some (.long (lN (jsN (σ 76) n m p v r (S + 1)))), none, some (.long (lN (jmN (σ 76) n))), none, some (.int (jmM (σ 76) n)), some (.int (nI (S + 1))), none, none, none] [] (vrow (jmW σ (jmM (σ 76) n) (S + 1)) 81 f) := ihS
      refine v_iload_14_10 G dX6_byJams_81 ?_
      refine v_bipush (v := nI 32) G dX6_byJams_83 (by decide) ?_
      refine v_icmp_ge (tgt := 208) G dX6_byJams_85 rfl (fun h_85 => absurd h_85 (by exact nI_ge hS (by omega))) (fun h_85 => ?_)
      refine v_iload_14_10 G dX6_byJams_88 ?_
      refine v_iload_14_9 G dX6_byJams_90 ?_
      refine v_iconst (v := (-1)) G dX6_byJams_92 (by decide) ?_
      refine v_ixor G dX6_byJams_93 ?_
      refine v_iand G dX6_byJams_94 ?_
      refine v_if_ne (tgt := 202) G dX6_byJams_95 rfl (fun h_95 => ?_) (fun h_95 => ?_)
      · refine v_iincN_14_10 G dX6_byJams_202 rfl ?_
        refine v_goto (tgt := 81) G dX6_byJams_205 rfl ?_
        simp only [jsN, jmW, if_neg h_95] at ihS
        exact V.drop (by simp only [vsubP, and_self]) (ihS _)
      · refine v_lconst (v := lN 1) G dX6_byJams_98 (by decide) ?_
        refine v_lstore_14_11 G dX6_byJams_99 rfl ?_
        refine v_iconst (v := nI 0) G dX6_byJams_101 (by decide) ?_
        refine v_istore_14_13 G dX6_byJams_102 rfl ?_
        refine v_for (pc := 104) (n) (fun i => ([some (.ref 75), some (.int (nI v)), some (.int (nI p)), some (.int r), some (.int k), some (.long (lN (jsN (σ 76) n m p v r S))), none, some (.long (lN (jmN (σ 76) n))), none, some (.int (jmM (σ 76) n)), some (.int (nI S)), some (.long (lN (jtN (jmM (σ 76) n) v S i))), none, some (.int (nI i))], (vrow (jmW σ (jmM (σ 76) n) S) 81 f))) (fun i hi ihi => ?_) ?_
        · show V x 104 [some (.ref 75), some (.int (nI v)), some (.int (nI p)), some (.int r), some (.int k), some (.long (lN (jsN (σ 76) n m p v r S))), none, some (.long (lN (jmN (σ 76) n))), none, some (.int (jmM (σ 76) n)), some (.int (nI S)), some (.long (lN (jtN (jmM (σ 76) n) v S i))), none, some (.int (nI i))] [] (vrow (jmW σ (jmM (σ 76) n) S) 81 f)
          have ihi : V x 104 [some (.ref 75), some (.int (nI v)), some (.int (nI p)), some (.int r), some (.int k), some (.long (lN (jsN (σ 76) n m p v r S))), none, some (.long (lN (jmN (σ 76) n))), none, some (.int (jmM (σ 76) n)), some (.int (nI S)), some (.long (lN (jtN (jmM (σ 76) n) v S (i + 1)))), none, some (.int (nI (i + 1)))] [] (vrow (jmW σ (jmM (σ 76) n) S) 81 f) := ihi
          refine v_iload_14_13 G dX6_byJams_104 ?_
          refine v_aload_14_0 G dX6_byJams_106 ?_
          refine m_getI G (by decide) vc_6 lk_X6_144 fs_X6_1 dX6_byJams_107 ?_
          refine v_icmp_ge (tgt := 159) G dX6_byJams_110 rfl (fun h_110 => absurd h_110 (by rw [(hns _ _)]; exact nI_ge hi (by omega))) (fun h_110 => ?_)
          refine v_lload_14_11 G dX6_byJams_113 ?_
          refine v_iload_14_9 G dX6_byJams_115 ?_
          refine v_iload_14_13 G dX6_byJams_117 ?_
          refine v_ishr G dX6_byJams_119 ?_
          refine v_iconst (v := nI 1) G dX6_byJams_120 (by decide) ?_
          refine v_iand G dX6_byJams_121 ?_
          refine v_if_ne (tgt := 129) G dX6_byJams_122 rfl (fun h_122 => ?_) (fun h_122 => ?_)
          · refine v_iload_14_10 G dX6_byJams_129 ?_
            refine v_iload_14_13 G dX6_byJams_131 ?_
            refine v_ishr G dX6_byJams_133 ?_
            refine v_iconst (v := nI 1) G dX6_byJams_134 (by decide) ?_
            refine v_iand G dX6_byJams_135 ?_
            refine v_iconst (v := nI 1) G dX6_byJams_136 (by decide) ?_
            refine v_icmp_ne (tgt := 145) G dX6_byJams_137 rfl (fun h_137 => ?_) (fun h_137 => ?_)
            · refine v_bipush (v := nI 10) G dX6_byJams_145 (by decide) ?_
              refine v_iload_14_1 G dX6_byJams_147 ?_
              refine v_isub G dX6_byJams_148 ?_
              rw [hv10]
              refine v_i2l G dX6_byJams_149 ?_
              refine v_lmul G dX6_byJams_150 ?_
              refine v_lstore_14_11 G dX6_byJams_151 rfl ?_
              refine v_iincN_14_13 G dX6_byJams_153 rfl ?_
              refine v_goto (tgt := 104) G dX6_byJams_156 rfl ?_
              first
                | (rw [jtN, if_neg h_122, if_pos h_137] at ihi; rw [nI_l (by omega), lN_mul]; exact ihi)
                | (rw [jtN, if_neg h_122, if_neg h_137] at ihi; rw [nI_l (by omega), lN_mul]; exact ihi)
                | (rw [jtN, if_pos h_122] at ihi; rw [lN_mul]; exact ihi)
            · refine v_iload_14_1 G dX6_byJams_140 ?_
              refine v_i2l G dX6_byJams_141 ?_
              refine v_goto (tgt := 150) G dX6_byJams_142 rfl ?_
              refine v_lmul G dX6_byJams_150 ?_
              refine v_lstore_14_11 G dX6_byJams_151 rfl ?_
              refine v_iincN_14_13 G dX6_byJams_153 rfl ?_
              refine v_goto (tgt := 104) G dX6_byJams_156 rfl ?_
              first
                | (rw [jtN, if_neg h_122, if_pos h_137] at ihi; rw [nI_l (by omega), lN_mul]; exact ihi)
                | (rw [jtN, if_neg h_122, if_neg h_137] at ihi; rw [nI_l (by omega), lN_mul]; exact ihi)
                | (rw [jtN, if_pos h_122] at ihi; rw [lN_mul]; exact ihi)
          · refine v_lconst (v := lN 1) G dX6_byJams_125 (by decide) ?_
            refine v_goto (tgt := 150) G dX6_byJams_126 rfl ?_
            refine v_lmul G dX6_byJams_150 ?_
            refine v_lstore_14_11 G dX6_byJams_151 rfl ?_
            refine v_iincN_14_13 G dX6_byJams_153 rfl ?_
            refine v_goto (tgt := 104) G dX6_byJams_156 rfl ?_
            first
              | (rw [jtN, if_neg h_122, if_pos h_137] at ihi; rw [nI_l (by omega), lN_mul]; exact ihi)
              | (rw [jtN, if_neg h_122, if_neg h_137] at ihi; rw [nI_l (by omega), lN_mul]; exact ihi)
              | (rw [jtN, if_pos h_122] at ihi; rw [lN_mul]; exact ihi)
        · show V x 104 [some (.ref 75), some (.int (nI v)), some (.int (nI p)), some (.int r), some (.int k), some (.long (lN (jsN (σ 76) n m p v r S))), none, some (.long (lN (jmN (σ 76) n))), none, some (.int (jmM (σ 76) n)), some (.int (nI S)), some (.long (lN (jtN (jmM (σ 76) n) v S n))), none, some (.int (nI n))] [] (vrow (jmW σ (jmM (σ 76) n) S) 81 f)
          refine v_iload_14_13 G dX6_byJams_104 ?_
          refine v_aload_14_0 G dX6_byJams_106 ?_
          refine m_getI G (by decide) vc_6 lk_X6_144 fs_X6_1 dX6_byJams_107 ?_
          refine v_icmp_ge (tgt := 159) G dX6_byJams_110 rfl (fun h_110 => ?_) (fun h_110 => absurd (by rw [(hns _ _)]; exact nI_le (Nat.le_refl _) (by omega)) h_110)
          refine v_aload_14_0 G dX6_byJams_159 ?_
          refine v_iload_14_10 G dX6_byJams_160 ?_
          refine m_putI G (by decide) vc_6 vt_6 lk_X6_156 fs_X6_20 (ft_X6_20 _) dX6_byJams_162 ?_
          rw [jmW_set]
          refine v_aload_14_0 G dX6_byJams_165 ?_
          refine v_iconst (v := nI 0) G dX6_byJams_166 (by decide) ?_
          refine v_iload_14_2 G dX6_byJams_167 ?_
          refine v_cX2 G (C_X6_reachesOn (g := 0) (hpJ S) hp5) (by decide) md_X6_reachesOn in_X6_reachesOn (rv_X6 rfl) ml_X6_169 (Nat.le_of_ble_eq_true rfl) dX6_byJams_168 (fun f hf => ?_)
          rw [show (vset σ 75 20 (nI S)) 76 = σ 76 from vset_ne (by decide), vset_at]
          refine v_istore_14_13 G dX6_byJams_171 rfl ?_
          refine v_lload_14_5 G dX6_byJams_173 ?_
          refine v_lload_14_11 G dX6_byJams_175 ?_
          refine v_iload_14_3 G dX6_byJams_177 ?_
          refine v_bipush (v := (-4)) G dX6_byJams_178 (by decide) ?_
          refine v_icmp_ne (tgt := 191) G dX6_byJams_180 rfl (fun h_180 => ?_) (fun h_180 => ?_)
          · refine v_iload_14_13 G dX6_byJams_191 ?_
            refine v_iload_14_3 G dX6_byJams_193 ?_
            refine v_ishr G dX6_byJams_194 ?_
            refine v_iconst (v := nI 1) G dX6_byJams_195 (by decide) ?_
            refine v_iand G dX6_byJams_196 ?_
            refine v_i2l G dX6_byJams_197 ?_
            refine v_lmul G dX6_byJams_198 ?_
            refine v_ladd G dX6_byJams_199 ?_
            refine v_lstore_14_5 G dX6_byJams_200 rfl ?_
            refine v_iincN_14_10 G dX6_byJams_202 rfl ?_
            refine v_goto (tgt := 81) G dX6_byJams_205 rfl ?_
            simp only [jsN, jmW, if_pos h_95] at ihS
            first
              | (rw [show jcN (mReachQ (σ 76) n (nI S) 0 m p) r = bitsN (mReachQ (σ 76) n (nI S) 0 m p) from if_pos h_180] at ihS; rw [bitsN_nI, nI_l (Nat.lt_of_le_of_lt (bitsN_le _) (by decide)), lN_mul, lN_add]; exact V.drop (by simp only [vsubP, and_self]) (ihS _))
              | (rw [show jcN (mReachQ (σ 76) n (nI S) 0 m p) r = bit1 (mReachQ (σ 76) n (nI S) 0 m p >>> (r &&& 31)) from if_neg h_180] at ihS; rw [bit1_nI, nI_l (Nat.lt_of_le_of_lt (bit1_le _) (by decide)), lN_mul, lN_add]; exact V.drop (by simp only [vsubP, and_self]) (ihS _))
          · refine v_iload_14_13 G dX6_byJams_183 ?_
            refine v_cS1 G (C_X6_bitsOf) (by decide) md_X6_bitsOf st_X6_bitsOf ml_X6_172 (Nat.le_of_ble_eq_true rfl) dX6_byJams_185 ?_
            refine v_goto (tgt := 197) G dX6_byJams_188 rfl ?_
            refine v_i2l G dX6_byJams_197 ?_
            refine v_lmul G dX6_byJams_198 ?_
            refine v_ladd G dX6_byJams_199 ?_
            refine v_lstore_14_5 G dX6_byJams_200 rfl ?_
            refine v_iincN_14_10 G dX6_byJams_202 rfl ?_
            refine v_goto (tgt := 81) G dX6_byJams_205 rfl ?_
            simp only [jsN, jmW, if_pos h_95] at ihS
            first
              | (rw [show jcN (mReachQ (σ 76) n (nI S) 0 m p) r = bitsN (mReachQ (σ 76) n (nI S) 0 m p) from if_pos h_180] at ihS; rw [bitsN_nI, nI_l (Nat.lt_of_le_of_lt (bitsN_le _) (by decide)), lN_mul, lN_add]; exact V.drop (by simp only [vsubP, and_self]) (ihS _))
              | (rw [show jcN (mReachQ (σ 76) n (nI S) 0 m p) r = bit1 (mReachQ (σ 76) n (nI S) 0 m p >>> (r &&& 31)) from if_neg h_180] at ihS; rw [bit1_nI, nI_l (Nat.lt_of_le_of_lt (bit1_le _) (by decide)), lN_mul, lN_add]; exact V.drop (by simp only [vsubP, and_self]) (ihS _))
    · show V x 81 [some (.ref 75), some (.int (nI v)), some (.int (nI p)), some (.int r), some (.int k), some (.long (lN (jsN (σ 76) n m p v r 32))), none, some (.long (lN (jmN (σ 76) n))), none, some (.int (jmM (σ 76) n)), some (.int (nI 32)), none, none, none] [] (vrow (jmW σ (jmM (σ 76) n) 32) 81 f)
      refine v_iload_14_10 G dX6_byJams_81 ?_
      refine v_bipush (v := nI 32) G dX6_byJams_83 (by decide) ?_
      refine v_icmp_ge (tgt := 208) G dX6_byJams_85 rfl (fun h_85 => ?_) (fun h_85 => absurd (by exact nI_le (Nat.le_refl _) (by omega)) h_85)
      refine v_aload_14_0 G dX6_byJams_208 ?_
      refine v_iconst (v := nI 0) G dX6_byJams_209 (by decide) ?_
      refine m_putI G (by decide) vc_6 vt_6 lk_X6_156 fs_X6_20 (ft_X6_20 _) dX6_byJams_210 ?_
      rw [hend]
      refine v_lload_14_5 G dX6_byJams_213 ?_
      refine v_lload_14_7 G dX6_byJams_215 ?_
      refine v_iload_14_4 G dX6_byJams_217 ?_
      refine v_cS3 G (C_X6_lowest hb1 (by omega) hb2.1) (by decide) md_X6_lowest st_X6_lowest ml_X6_242 (Nat.le_of_ble_eq_true rfl) dX6_byJams_219 ?_
      exact v_lret G hQ dX6_byJams_222 vFar.mk
def mLuckR (R : Nat → Int32) (n m : Nat) (v p r k : Int32) : Int64 := if inZ v 11 = true then (if inZ p n = true then (if inZ r 8 = true then (if inZ k 2 = true then jamR R n m p.toNatClampNeg v.toNatClampNeg r k else -1) else -1) else -1) else -1
set_option maxHeartbeats 4000000 in
theorem C_X6_luck {σ : vW} {f : Nat → Int32} {n m : Nat} {v p r k : Int32} (hp : pOK σ n m 0) (hJ : σ 75 20 = nI 0) : Ctr mX6_luck 5 [.ref 75, .int v, .int p, .int r, .int k] (vrow σ 81 f) (vFar (some (.long (mLuckR (σ 76) n m v p r k))) σ) := by
  have hn := hp.1.1
  have hn5 := hp.1.2.1
  refine Ctr.intro (by decide) (fun α => Nat.le_of_ble_eq_true rfl) (fun x G hQ => ?_)
  have G : vG x RX6 cX6_luck 5 (some .long) 5 := G
  show V x 0 [some (.ref 75), some (.int v), some (.int p), some (.int r), some (.int k)] [] (vrow σ 81 f)
  refine v_iload_5_1 G dX6_luck_0 ?_
  refine v_i2l G dX6_luck_1 ?_
  refine v_lconst (v := lN 0) G dX6_luck_2 (by decide) ?_
  refine v_ldc2 G ct_X6_240 dX6_luck_3 ?_
  refine v_cS3 G (C_inK 11 (by decide)) (by decide) md_X6_in st_X6_in ml_X6_49 (Nat.le_of_ble_eq_true rfl) dX6_luck_6 ?_
  refine v_ifB_eq (tgt := 50) G dX6_luck_9 rfl (fun h_9 => ?_) (fun h_9 => ?_)
  · refine v_ldc2 G ct_X6_250 dX6_luck_50 ?_
    exact v_lret G hQ dX6_luck_53 (vFar.of (by simp only [mLuckR, bI, h_9, if_true, if_false, Bool.false_eq_true, reduceIte] <;> try rfl) rfl)
  · obtain ⟨v0, hv0, rfl⟩ := inZ_ex h_9 (by omega)
    have cv0 : (nI v0).toNatClampNeg = v0 := nI_clamp (by omega)
    refine v_aload_5_0 G dX6_luck_12 ?_
    refine v_iload_5_2 G dX6_luck_13 ?_
    refine v_cV1 G (C_X6_isOne (by first | assumption | omega | exact oneB_in (by assumption) | exact wallB_in (by assumption) | exact oneB_m1 (by assumption) | decide) (by first | assumption | omega | exact oneB_in (by assumption) | exact wallB_in (by assumption) | exact oneB_m1 (by assumption) | decide)) (by decide) md_X6_isOne in_X6_isOne (rv_X6 rfl) ml_X6_185 (Nat.le_of_ble_eq_true rfl) dX6_luck_14 ?_
    refine v_ifB_eq (tgt := 50) G dX6_luck_17 rfl (fun h_17 => ?_) (fun h_17 => ?_)
    · refine v_ldc2 G ct_X6_250 dX6_luck_50 ?_
      exact v_lret G hQ dX6_luck_53 (vFar.of (by simp only [mLuckR, bI, h_9, cv0, h_17, if_true, if_false, Bool.false_eq_true, reduceIte] <;> try rfl) rfl)
    · obtain ⟨p0, hp0, rfl⟩ := inZ_ex h_17 (by omega)
      have cp0 : (nI p0).toNatClampNeg = p0 := nI_clamp (by omega)
      refine v_iload_5_3 G dX6_luck_20 ?_
      refine v_cS1 G (C_X6_isRoom) (by decide) md_X6_isRoom st_X6_isRoom ml_X6_197 (Nat.le_of_ble_eq_true rfl) dX6_luck_21 ?_
      refine v_ifB_eq (tgt := 50) G dX6_luck_24 rfl (fun h_24 => ?_) (fun h_24 => ?_)
      · refine v_ldc2 G ct_X6_250 dX6_luck_50 ?_
        exact v_lret G hQ dX6_luck_53 (vFar.of (by simp only [mLuckR, bI, h_9, cv0, h_17, cp0, h_24, if_true, if_false, Bool.false_eq_true, reduceIte] <;> try rfl) rfl)
      · refine v_iload_5_4 G dX6_luck_27 ?_
        refine v_i2l G dX6_luck_29 ?_
        refine v_lconst (v := lN 0) G dX6_luck_30 (by decide) ?_
        refine v_lconst (v := lN 1) G dX6_luck_31 (by decide) ?_
        refine v_cS3 G (C_inK 2 (by decide)) (by decide) md_X6_in st_X6_in ml_X6_49 (Nat.le_of_ble_eq_true rfl) dX6_luck_32 ?_
        refine v_ifB_eq (tgt := 50) G dX6_luck_35 rfl (fun h_35 => ?_) (fun h_35 => ?_)
        · refine v_ldc2 G ct_X6_250 dX6_luck_50 ?_
          exact v_lret G hQ dX6_luck_53 (vFar.of (by simp only [mLuckR, bI, h_9, cv0, h_17, cp0, h_24, h_35, if_true, if_false, Bool.false_eq_true, reduceIte] <;> try rfl) rfl)
        · refine v_aload_5_0 G dX6_luck_38 ?_
          refine v_iload_5_1 G dX6_luck_39 ?_
          refine v_iload_5_2 G dX6_luck_40 ?_
          refine v_iload_5_3 G dX6_luck_41 ?_
          refine v_iload_5_4 G dX6_luck_42 ?_
          refine v_cE4 G (C_X6_byJams hp hJ (by omega) (by omega)) (by decide) md_X6_byJams in_X6_byJams (rv_X6 rfl) ml_X6_246 (Nat.le_of_ble_eq_true rfl) dX6_luck_44 (fun f => ?_)
          refine v_goto (tgt := 53) G dX6_luck_47 rfl ?_
          exact v_lret G hQ dX6_luck_53 (vFar.of (by simp only [mLuckR, bI, h_9, cv0, h_17, cp0, h_24, h_35, if_true, if_false, Bool.false_eq_true, reduceIte] <;> try rfl) rfl)
def mMeanR (R : Nat → Int32) (n m : Nat) (v p k : Int32) : Int64 := if inZ v 11 = true then (if inZ p n = true then (if inZ k 2 = true then jamR R n m p.toNatClampNeg v.toNatClampNeg (-4) k else -1) else -1) else -1
set_option maxHeartbeats 4000000 in
theorem C_X6_mean {σ : vW} {f : Nat → Int32} {n m : Nat} {v p k : Int32} (hp : pOK σ n m 0) (hJ : σ 75 20 = nI 0) : Ctr mX6_mean 5 [.ref 75, .int v, .int p, .int k] (vrow σ 81 f) (vFar (some (.long (mMeanR (σ 76) n m v p k))) σ) := by
  have hn := hp.1.1
  have hn5 := hp.1.2.1
  refine Ctr.intro (by decide) (fun α => Nat.le_of_ble_eq_true rfl) (fun x G hQ => ?_)
  have G : vG x RX6 cX6_mean 4 (some .long) 5 := G
  show V x 0 [some (.ref 75), some (.int v), some (.int p), some (.int k)] [] (vrow σ 81 f)
  refine v_iload_4_1 G dX6_mean_0 ?_
  refine v_i2l G dX6_mean_1 ?_
  refine v_lconst (v := lN 0) G dX6_mean_2 (by decide) ?_
  refine v_ldc2 G ct_X6_240 dX6_mean_3 ?_
  refine v_cS3 G (C_inK 11 (by decide)) (by decide) md_X6_in st_X6_in ml_X6_49 (Nat.le_of_ble_eq_true rfl) dX6_mean_6 ?_
  refine v_ifB_eq (tgt := 42) G dX6_mean_9 rfl (fun h_9 => ?_) (fun h_9 => ?_)
  · refine v_ldc2 G ct_X6_250 dX6_mean_42 ?_
    exact v_lret G hQ dX6_mean_45 (vFar.of (by simp only [mMeanR, bI, h_9, if_true, if_false, Bool.false_eq_true, reduceIte] <;> try rfl) rfl)
  · obtain ⟨v0, hv0, rfl⟩ := inZ_ex h_9 (by omega)
    have cv0 : (nI v0).toNatClampNeg = v0 := nI_clamp (by omega)
    refine v_aload_4_0 G dX6_mean_12 ?_
    refine v_iload_4_2 G dX6_mean_13 ?_
    refine v_cV1 G (C_X6_isOne (by first | assumption | omega | exact oneB_in (by assumption) | exact wallB_in (by assumption) | exact oneB_m1 (by assumption) | decide) (by first | assumption | omega | exact oneB_in (by assumption) | exact wallB_in (by assumption) | exact oneB_m1 (by assumption) | decide)) (by decide) md_X6_isOne in_X6_isOne (rv_X6 rfl) ml_X6_185 (Nat.le_of_ble_eq_true rfl) dX6_mean_14 ?_
    refine v_ifB_eq (tgt := 42) G dX6_mean_17 rfl (fun h_17 => ?_) (fun h_17 => ?_)
    · refine v_ldc2 G ct_X6_250 dX6_mean_42 ?_
      exact v_lret G hQ dX6_mean_45 (vFar.of (by simp only [mMeanR, bI, h_9, cv0, h_17, if_true, if_false, Bool.false_eq_true, reduceIte] <;> try rfl) rfl)
    · obtain ⟨p0, hp0, rfl⟩ := inZ_ex h_17 (by omega)
      have cp0 : (nI p0).toNatClampNeg = p0 := nI_clamp (by omega)
      refine v_iload_4_3 G dX6_mean_20 ?_
      refine v_i2l G dX6_mean_21 ?_
      refine v_lconst (v := lN 0) G dX6_mean_22 (by decide) ?_
      refine v_lconst (v := lN 1) G dX6_mean_23 (by decide) ?_
      refine v_cS3 G (C_inK 2 (by decide)) (by decide) md_X6_in st_X6_in ml_X6_49 (Nat.le_of_ble_eq_true rfl) dX6_mean_24 ?_
      refine v_ifB_eq (tgt := 42) G dX6_mean_27 rfl (fun h_27 => ?_) (fun h_27 => ?_)
      · refine v_ldc2 G ct_X6_250 dX6_mean_42 ?_
        exact v_lret G hQ dX6_mean_45 (vFar.of (by simp only [mMeanR, bI, h_9, cv0, h_17, cp0, h_27, if_true, if_false, Bool.false_eq_true, reduceIte] <;> try rfl) rfl)
      · refine v_aload_4_0 G dX6_mean_30 ?_
        refine v_iload_4_1 G dX6_mean_31 ?_
        refine v_iload_4_2 G dX6_mean_32 ?_
        refine v_bipush (v := (-4)) G dX6_mean_33 (by decide) ?_
        refine v_iload_4_3 G dX6_mean_35 ?_
        refine v_cE4 G (C_X6_byJams hp hJ (by omega) (by omega)) (by decide) md_X6_byJams in_X6_byJams (rv_X6 rfl) ml_X6_246 (Nat.le_of_ble_eq_true rfl) dX6_mean_36 (fun f => ?_)
        refine v_goto (tgt := 45) G dX6_mean_39 rfl ?_
        exact v_lret G hQ dX6_mean_45 (vFar.of (by simp only [mMeanR, bI, h_9, cv0, h_17, cp0, h_27, if_true, if_false, Bool.false_eq_true, reduceIte] <;> try rfl) rfl)
