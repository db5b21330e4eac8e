/-! Bridges: the program's tests of numbers are the model's -/
theorem inZ_iff {a : Int32} {k : Nat} : inZ a k = true ↔ 0 ≤ a.toInt ∧ a.toInt < (k : Int) := decide_eq_true_iff
theorem inZ_of {a : Int32} {k : Nat} {b : Bool} (h : b = true ↔ 0 ≤ a.toInt ∧ a.toInt < (k : Int)) : b = inZ a k := by
  rw [Bool.eq_iff_iff, h, inZ_iff]
theorem oneB_inZ {n : Nat} {a : Int32} (hn : n ≤ 5) : oneB (nI n) a = inZ a n := by
  apply inZ_of
  unfold oneB
  simp only [lt_toInt, le_toInt, nI_toInt (show n < 2 ^ 31 by omega), nI_toInt (show 5 < 2 ^ 31 by decide), Int32.toInt_zero]
  split
  · exact ⟨fun h => absurd h Bool.false_ne_true, fun h => by omega⟩
  · split
    · exact ⟨fun h => absurd h Bool.false_ne_true, fun h => by omega⟩
    · split
      · exact ⟨fun h => absurd h Bool.false_ne_true, fun h => by omega⟩
      · exact ⟨fun _ => by omega, fun _ => rfl⟩
theorem wallB_inZ {n : Nat} {a : Int32} (hn : n ≤ 9) : wallB (nI n) a = inZ a n := by
  apply inZ_of
  unfold wallB
  simp only [lt_toInt, le_toInt, nI_toInt (show n < 2 ^ 31 by omega), nI_toInt (show 9 < 2 ^ 31 by decide), Int32.toInt_zero]
  split
  · exact ⟨fun h => absurd h Bool.false_ne_true, fun h => by omega⟩
  · split
    · exact ⟨fun h => absurd h Bool.false_ne_true, fun h => by omega⟩
    · split
      · exact ⟨fun h => absurd h Bool.false_ne_true, fun h => by omega⟩
      · exact ⟨fun _ => by omega, fun _ => rfl⟩
theorem roomB_inZ {a : Int32} : roomB a = inZ a 8 := by
  apply inZ_of
  unfold roomB
  simp only [lt_toInt, le_toInt, nI_toInt (show 8 < 2 ^ 31 by decide), Int32.toInt_zero]
  split
  · exact ⟨fun h => absurd h Bool.false_ne_true, fun h => by omega⟩
  · split
    · exact ⟨fun h => absurd h Bool.false_ne_true, fun h => by omega⟩
    · exact ⟨fun _ => by omega, fun _ => rfl⟩
theorem upToB_inZ {k : Nat} {a : Int32} (hk : k < 1000) : upToB a (nI k) = inZ a (k + 1) := by
  apply inZ_of
  unfold upToB
  simp only [lt_toInt, nI_toInt (show k < 2 ^ 31 by omega), Int32.toInt_zero]
  split
  · exact ⟨fun h => absurd h Bool.false_ne_true, fun h => by omega⟩
  · split
    · exact ⟨fun h => absurd h Bool.false_ne_true, fun h => by omega⟩
    · exact ⟨fun _ => by omega, fun _ => rfl⟩
theorem and1_bt {a : Int32} : a &&& nI 1 = nI 1 ↔ bt a 0 = true := by
  constructor
  · intro h
    have h2 := congrArg (fun x => bt x 0) h
    simp only [b_and, bt_1 (show 0 < 32 by decide), decide_true, Bool.and_true] at h2
    exact h2
  · intro h
    apply b_ext
    intro i hi
    rw [b_and, bt_1 hi]
    by_cases e : i = 0
    · subst e
      rw [h]
      rfl
    · rw [decide_eq_false e, Bool.and_false]
theorem and0_bt {a : Int32} : a &&& nI 1 = 0 ↔ bt a 0 = false := by
  obtain ⟨b, hb, e⟩ := and1 a
  have h1 := and1_bt (a := a)
  rw [e] at h1 ⊢
  rcases (show b = 0 ∨ b = 1 by omega) with rfl | rfl
  · have n : ¬ nI 0 = nI 1 := by decide
    have h2 : ¬ bt a 0 = true := fun q => n (h1.mpr q)
    exact ⟨fun _ => Bool.eq_false_iff.mpr h2, fun _ => rfl⟩
  · have n : ¬ nI 1 = 0 := by decide
    exact ⟨fun q => absurd q n, fun q => by rw [h1.mp rfl] at q; exact absurd q (by decide)⟩
theorem sar_bt {m : Int32} {i : Nat} (hi : i < 32) : m >>> (nI i &&& 31) &&& nI 1 = nI 1 ↔ bt m i = true := by
  rw [and1_bt, b_sshr i hi m (show 0 < 32 by decide), Nat.add_zero, if_pos hi]
theorem sar0_bt {m : Int32} {i : Nat} (hi : i < 32) : m >>> (nI i &&& 31) &&& nI 1 = 0 ↔ bt m i = false := by
  rw [and0_bt, b_sshr i hi m (show 0 < 32 by decide), Nat.add_zero, if_pos hi]
theorem bitB_bt {m : Int32} {i : Nat} (hi : i < 32) : bitB m (nI i) = bt m i := by
  have h : ushr m (nI i) &&& nI 1 = nI 1 ↔ bt m i = true := by
    rw [and1_bt]
    unfold ushr
    rw [b_ushr i hi m 0, Nat.add_zero]
  unfold bitB
  rw [if_neg (nI_pos (by omega)), if_neg (nI_ge hi (by omega))]
  by_cases e : bt m i = true
  · rw [if_pos (h.mpr e), e]
  · rw [if_neg (fun q => e (h.mp q)), Bool.eq_false_iff.mpr e]
