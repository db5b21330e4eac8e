/-! Bridges: the program's tests of numbers are the model's -/
theorem inZ_iff {a : Int32} {k : Nat} : inZ a k = true ↔ 0 ≤ a.toInt ∧ a.toInt < (k : Int) := decide_eq_true_iff
theorem inZ_of {a : Int32} {k : Nat} {b : Bool} (h : b = true ↔ 0 ≤ a.toInt ∧ a.toInt < (k : Int)) : b = inZ a k := by
  rw [Bool.eq_iff_iff, h, inZ_iff]
theorem oneB_inZ {n : Nat} {a : Int32} (hn : n ≤ 5) : oneB (nI n) a = inZ a n := by
  apply inZ_of
  unfold oneB
  simp only [lt_toInt, le_toInt, nI_toInt (show n < 2 ^ 31 by omega), nI_toInt (show 5 < 2 ^ 31 by decide), Int32.toInt_zero]
  split
  · exact ⟨fun h => absurd h Bool.false_ne_true, fun h => by omega⟩
  · split
    · exact ⟨fun h => absurd h Bool.false_ne_true, fun h => by omega⟩
    · split
      · exact ⟨fun h => absurd h Bool.false_ne_true, fun h => by omega⟩
      · exact ⟨fun _ => by omega, fun _ => rfl⟩
theorem wallB_inZ {n : Nat} {a : Int32} (hn : n ≤ 9) : wallB (nI n) a = inZ a n := by
  apply inZ_of
  unfold wallB
  simp only [lt_toInt, le_toInt, nI_toInt (show n < 2 ^ 31 by omega), nI_toInt (show 9 < 2 ^ 31 by decide), Int32.toInt_zero]
  split
  · exact ⟨fun h => absurd h Bool.false_ne_true, fun h => by omega⟩
  · split
    · exact ⟨fun h => absurd h Bool.false_ne_true, fun h => by omega⟩
    · split
      · exact ⟨fun h => absurd h Bool.false_ne_true, fun h => by omega⟩
      · exact ⟨fun _ => by omega, fun _ => rfl⟩
theorem roomB_inZ {a : Int32} : roomB a = inZ a 8 := by
  apply inZ_of
  unfold roomB
  simp only [lt_toInt, le_toInt, nI_toInt (show 8 < 2 ^ 31 by decide), Int32.toInt_zero]
  split
  · exact ⟨fun h => absurd h Bool.false_ne_true, fun h => by omega⟩
  · split
    · exact ⟨fun h => absurd h Bool.false_ne_true, fun h => by omega⟩
    · exact ⟨fun _ => by omega, fun _ => rfl⟩
theorem upToB_inZ {k : Nat} {a : Int32} (hk : k < 1000) : upToB a (nI k) = inZ a (k + 1) := by
  apply inZ_of
  unfold upToB
  simp only [lt_toInt, nI_toInt (show k < 2 ^ 31 by omega), Int32.toInt_zero]
  split
  · exact ⟨fun h => absurd h Bool.false_ne_true, fun h => by omega⟩
  · split
    · exact ⟨fun h => absurd h Bool.false_ne_true, fun h => by omega⟩
    · exact ⟨fun _ => by omega, fun _ => rfl⟩
