/-! Loops, switches of the plain machine; small facts -/
section VL
variable {x : vX} {own : String} {cc : ByteArray} {nL dd : Nat} {ret : Option FieldType} {pc : Nat} {L : List (Option Value)} {st : List Value} {σ : vW}
/-- n rounds at the head pc, from the state S 0 to S n -/
theorem v_for (n : Nat) (S : Nat → List (Option Value) × vW) (hs : ∀ k, k < n → V x pc (S (k + 1)).1 [] (S (k + 1)).2 → V x pc (S k).1 [] (S k).2) (he : V x pc (S n).1 [] (S n).2) : V x pc (S 0).1 [] (S 0).2 := by
  have h : ∀ j, j ≤ n → V x pc (S (n - j)).1 [] (S (n - j)).2 := by
    intro j
    induction j with
    | zero => intro _; exact he
    | succ j ih =>
      intro hj
      have h1 := hs (n - (j + 1)) (by omega)
      rw [show n - (j + 1) + 1 = n - j by omega] at h1
      exact h1 (ih (by omega))
  have h2 := h n (Nat.le_refl n)
  rwa [Nat.sub_self] at h2
/-- rounds that may end early: P k tells that round k is come to -/
theorem v_forP (n : Nat) (P : Nat → Prop) (S : Nat → List (Option Value) × vW) (h0 : P 0) (hs : ∀ k, k < n → P k → (P (k + 1) → V x pc (S (k + 1)).1 [] (S (k + 1)).2) → V x pc (S k).1 [] (S k).2) (he : P n → V x pc (S n).1 [] (S n).2) : V x pc (S 0).1 [] (S 0).2 := by
  have h : ∀ j, j ≤ n → P (n - j) → V x pc (S (n - j)).1 [] (S (n - j)).2 := by
    intro j
    induction j with
    | zero => intro _; exact he
    | succ j ih =>
      intro hj hp
      have h1 := hs (n - (j + 1)) (by omega) hp
      rw [show n - (j + 1) + 1 = n - j by omega] at h1
      exact h1 (ih (by omega))
  have h2 := h n (Nat.le_refl n)
  rw [Nat.sub_self] at h2
  exact h2 h0
theorem v_tabC {dflt hi : Int} {offs : Array Int} {len : Nat} {a : Int32} {off : Int} {tgt i : Nat} (G : vG x own cc nL ret dd) (dg : decode cc pc = .ok (.tableswitch dflt 0 hi offs, len)) (ho : offs[i]? = some off) (ht : (pc : Int) + off = (tgt : Int)) (h1 : (i : Int) ≤ hi) (h2 : i < 100) (kt : a = nI i → V x tgt L st σ) (kf : ¬ a = nI i → V x pc L (.int a :: st) σ) : V x pc L (.int a :: st) σ := by
  by_cases h : a = nI i
  · have e : a.toInt = (i : Int) := by rw [h]; exact nI_toInt (by omega)
    exact v_tabIn G dg (by omega) (by omega) (by rw [e]; simpa using ho) ht (kt h)
  · exact kf h
theorem v_tabE {dflt hi : Int} {offs : Array Int} {len : Nat} {a : Int32} {tgt n : Nat} (G : vG x own cc nL ret dd) (dg : decode cc pc = .ok (.tableswitch dflt 0 hi offs, len)) (h : ∀ i, i < n → ¬ a = nI i) (ht : (pc : Int) + dflt = (tgt : Int)) (hn : hi + 1 = (n : Int)) (h2 : n < 100) (k : V x tgt L st σ) : V x pc L (.int a :: st) σ := by
  refine v_tabOut G dg ?_ ht k
  rcases Int.lt_or_le a.toInt 0 with q | q
  · exact Or.inl q
  · right
    rcases Int.lt_or_le hi a.toInt with r | r
    · exact r
    · exfalso
      refine h a.toInt.toNat (by omega) ?_
      rw [← Int32.toInt_inj, nI_toInt (by omega)]
      omega
end VL
theorem lt_toInt {a b : Int32} : a < b ↔ a.toInt < b.toInt := Int32.lt_iff_toInt_lt
theorem le_toInt {a b : Int32} : a ≤ b ↔ a.toInt ≤ b.toInt := Int32.le_iff_toInt_le
theorem nI_nm4 {n : Nat} (h : n < 2147483648) : ¬ nI n = -4 := by
  intro e
  have h1 := congrArg Int32.toInt e
  rw [nI_toInt (by omega)] at h1
  have h2 : ((-4 : Int32)).toInt = -4 := by decide
  omega
theorem nI_nm1 {n : Nat} (h : n < 2147483648) : ¬ nI n = -1 := by
  intro e
  have h1 := congrArg Int32.toInt e
  rw [nI_toInt (by omega)] at h1
  have h2 : ((-1 : Int32)).toInt = -1 := by decide
  omega
