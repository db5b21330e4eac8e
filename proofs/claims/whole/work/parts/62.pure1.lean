/-! The pure part: doors and their owners -/
theorem fstP_hit {P : Nat → Bool} : ∀ n k, fstP P n k < k + n → P (fstP P n k) = true
  | 0, k, h => by
    unfold fstP at h
    omega
  | n + 1, k, h => by
    unfold fstP at h ⊢
    split
    · assumption
    · rename_i hk
      rw [if_neg hk] at h
      exact fstP_hit n (k + 1) (by omega)
theorem fstP_min {P : Nat → Bool} : ∀ n k j, k ≤ j → j < k + n → P j = true → fstP P n k ≤ j
  | 0, k, j, h1, h2, _ => by omega
  | n + 1, k, j, h1, h2, h3 => by
    unfold fstP
    split
    · exact h1
    · rename_i hk
      by_cases e : k = j
      · subst e
        exact absurd h3 hk
      · exact fstP_min n (k + 1) j (by omega) (by omega) h3
/-- the doors of a town at t and of a page at g -/
def dOK (s : vW) (R : Nat → Int32) (t g n m : Nat) : Prop := (∀ p, p < n → (s (t + 4) p = -1 ∧ R (g + 15 + p) = nI 0 ∧ R (g + 20 + p) = nI 0) ∨ (s (t + 4) p = -2 ∧ R (g + 15 + p) = nI 0 ∧ R (g + 20 + p) = nI 1) ∨ ∃ w, w < m ∧ s (t + 4) p = nI w ∧ R (g + 15 + p) = nI (w + 1) ∧ R (g + 20 + p) = nI 0) ∧
  (∀ w, w < 9 → s (t + 7) w = -1 ∨ ∃ p, p < n ∧ s (t + 7) w = nI p ∧ s (t + 4) p = nI w) ∧ ∀ p w, p < n → w < 9 → s (t + 4) p = nI w → s (t + 7) w = nI p
theorem dOK_cell {s : vW} {R : Nat → Int32} {t g n m p w : Nat} (h : dOK s R t g n m) (hm : m ≤ 9) (hp : p < n) (hw : w < 9) : R (g + 15 + p) = nI w + nI 1 ↔ s (t + 4) p = nI w := by
  rw [nI_add]
  rcases h.1 p hp with ⟨a, b, _⟩ | ⟨a, b, _⟩ | ⟨v, hv, a, b, _⟩
  · rw [a, b]
    exact ⟨fun e => by have := nI_eqN (by omega) (by omega) e; omega, fun e => absurd e.symm (nI_nm1 (by omega))⟩
  · rw [a, b]
    exact ⟨fun e => by have := nI_eqN (by omega) (by omega) e; omega, fun e => by
      have h2 := congrArg Int32.toInt e
      rw [nI_toInt (by omega)] at h2
      have h3 : ((-2 : Int32)).toInt = -2 := by decide
      omega⟩
  · rw [a, b]
    exact ⟨fun e => by
      have := nI_eqN (by omega) (by omega) e
      rw [show v = w by omega], fun e => by
      have := nI_eqN (by omega) (by omega) e
      rw [show v = w by omega]⟩
/-- the door on a wall is its owner's -/
theorem dOK_door {s : vW} {R : Nat → Int32} {t g n m w : Nat} (h : dOK s R t g n m) (hm : m ≤ 9) (hn : n ≤ 5) (hw : w < 9) : (s (t + 7) w = -1 ∧ mDoor R n g (nI w) = -4) ∨ ∃ p, p < n ∧ s (t + 7) w = nI p ∧ mDoor R n g (nI w) = nI p := by
  have hB : ∀ p, mDrB R g (nI w) p = true ↔ R (g + 15 + p) = nI w + nI 1 := fun p => by
    unfold mDrB
    split
    · exact ⟨fun _ => by assumption, fun _ => rfl⟩
    · exact ⟨fun q => absurd q Bool.false_ne_true, fun q => absurd q (by assumption)⟩
  have hle := fstP_le (mDrB R g (nI w)) n 0
  by_cases hf : fstP (mDrB R g (nI w)) n 0 < n
  · have h1 := (hB _).mp (fstP_hit n 0 (by omega))
    have h2 := (dOK_cell h hm hf hw).mp h1
    refine Or.inr ⟨_, hf, h.2.2 _ w hf hw h2, ?_⟩
    rw [mDoor, if_pos hf]
  · have hno : ∀ p, p < n → ¬ s (t + 4) p = nI w := fun p hp q => by
      have h1 := (hB p).mpr ((dOK_cell h hm hp hw).mpr q)
      have h2 := fstP_min n 0 p (by omega) (by omega) h1
      omega
    refine Or.inl ⟨?_, by rw [mDoor, if_neg hf]⟩
    rcases h.2.1 w hw with q | ⟨p, hp, _, q⟩
    · exact q
    · exact absurd q (hno p hp)
theorem oneB_nI {n p : Nat} (hn : n ≤ 5) (hp : p < n) : oneB (nI n) (nI p) = true := by
  rw [oneB_inZ hn, inZ_nI (by omega), decide_eq_true hp]
theorem oneB_neg1 {n : Int32} : oneB n (-1) = false := by
  unfold oneB
  rw [if_pos (by decide)]
/-- whom a door lets through -/
theorem lets_eq {s : vW} {R : Nat → Int32} {t g n o p : Nat} (hn : s t 10 = nI n) (hn5 : n ≤ 5) (ho : o < n) (hp : p < n) (hk : ∀ i, i < n → s (t + 1) i = R (g + i)) (hh : ∀ i, i < n → s (t + 2) i = R (g + 5 + i)) : letsB s t (nI o) (nI p) = mLet R g o p := by
  unfold letsB
  rw [hn, if_pos (oneB_nI hn5 ho), if_pos (oneB_nI hn5 hp), nI_clamp (by omega), nI_clamp (by omega), hk o ho, hh o ho, hh p hp]
  unfold mLet mSame
  by_cases e : o = p
  · subst e
    simp only [if_true, Bool.true_eq_false, if_false]
  · have e1 : ¬ nI o = nI p := fun q => e (nI_eqN (by omega) (by omega) q)
    have e2 : ¬ nI p = nI o := fun q => e1 q.symm
    simp only [if_neg e1, if_neg e2]
    by_cases h5 : R (g + 5 + o) = R (g + 5 + p)
    · simp only [h5, if_true]
    · have h6 : ¬ R (g + 5 + p) = R (g + 5 + o) := fun q => h5 q.symm
      simp only [if_neg h5, if_neg h6, Bool.false_eq_true, if_false]
theorem letsB_none {s : vW} {t : Nat} {p : Int32} : letsB s t (-1) p = false := by
  unfold letsB
  rw [oneB_neg1, if_neg Bool.false_ne_true]
/-- through which walls one may go: none jammed -/
theorem pass_eq {s : vW} {R : Nat → Int32} {t g n m w q : Nat} (hn : s t 10 = nI n) (hn5 : n ≤ 5) (hm : m ≤ 9) (hw : w < 9) (hq : q < n) (hd : dOK s R t g n m) (hk : ∀ i, i < n → s (t + 1) i = R (g + i)) (hh : ∀ i, i < n → s (t + 2) i = R (g + 5 + i)) : letsB s t (s (t + 7) w) (nI q) = mPass R n (nI 0) g w q := by
  rcases dOK_door hd hm hn5 hw with ⟨a, b⟩ | ⟨p, hp, a, b⟩
  · rw [a, letsB_none, mPass, if_pos b]
  · rw [a, mPass, if_neg (show ¬ mDoor R n g (nI w) = -4 by rw [b]; exact nI_nm4 (by omega)), b, if_pos ((sar0_bt (m := nI 0) (show p < 32 by omega)).mpr (b_0 p)), nI_clamp (by omega)]
    exact lets_eq hn hn5 hp hq hk hh
theorem bt_bit {k i : Nat} (hk : k < 32) (hi : i < 32) : bt (nI 1 <<< (nI k &&& 31)) i = decide (i = k) := by
  rw [b_shl k hk _ hi]
  by_cases h : k ≤ i
  · rw [decide_eq_true h, Bool.true_and, bt_1 (by omega)]
    congr 1
    apply propext
    constructor <;> intro q <;> omega
  · rw [decide_eq_false h, Bool.false_and, decide_eq_false (by omega)]
/-- the mask of those walls, bit by bit -/
theorem passTo_bt {s : vW} {t : Nat} {p : Int32} {i : Nat} (hi : i < 32) : ∀ k, k ≤ 32 → bt (passTo s t p k) i = (decide (i < k) && letsB s t (s (t + 7) i) p)
  | 0, _ => by
    show bt (nI 0) i = _
    rw [show nI 0 = 0 from rfl, b_0, decide_eq_false (Nat.not_lt_zero i), Bool.false_and]
  | k + 1, hk => by
    have ih := passTo_bt (s := s) (t := t) (p := p) hi k (by omega)
    unfold passTo
    by_cases e : i = k
    · subst e
      split
      · rename_i h
        rw [b_or, bt_bit (by omega) hi, decide_eq_true rfl, Bool.or_true, decide_eq_true (by omega), h, Bool.true_and]
      · rename_i h
        rw [ih, decide_eq_false (by omega), Bool.false_and, Bool.eq_false_iff.mpr h, Bool.and_false]
    · have e2 : decide (i < k + 1) = decide (i < k) := by
        congr 1
        apply propext
        constructor <;> intro q <;> omega
      split
      · rw [b_or, bt_bit (by omega) hi, decide_eq_false e, Bool.or_false, ih, e2]
      · rw [ih, e2]
