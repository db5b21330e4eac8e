/-! The pure part: numbers, signs; what is told so far -/
section L1
variable {P M P' M' : vW} {l n m K : Nat}
theorem pk_nh1 {σ : vW} : pkS (nh1 σ) σ := by
  unfold nh1
  split
  · split
    · exact pkS_refl σ
    · exact pk_rf
  · exact pkS_refl σ
theorem pk_nh2 {σ : vW} {mx : Int32} : pkS (nh2 σ mx) σ := by
  unfold nh2
  split
  · split
    · exact pkS_refl σ
    · exact pk_rf
  · exact pkS_refl σ
theorem L_num (h : OKT P M l) {mx : Nat} (hmx : mx ≤ 99) : FF (nhW P (nI mx)) (ot2 (ot1 M) (nI 0) (nI mx)) l ∨ (nhW P (nI mx) = P ∧ ot2 (ot1 M) (nI 0) (nI mx) = M ∧ P 2 2 = nI 2 ∧ M 75 16 = nI 2 ∧ ∃ v, v ≤ mx ∧ nhR P (nI mx) = nI v ∧ M 75 17 = nI v) := by
  obtain ⟨h1, p0, m0, q, e, h4, h5, h6, h7, h8, h9, ht⟩ := h
  have hh : OKT P M l := ⟨h1, p0, m0, q, e, h4, h5, h6, h7, h8, h9, ht⟩
  have hno : ¬ P 2 2 = nI 2 → ¬ M 75 16 = nI 2 → FF (nhW P (nI mx)) (ot2 (ot1 M) (nI 0) (nI mx)) l := by
    intro a b
    have e1 : nh1 P = rfW P (nI 2) := by rw [nh1, if_pos p0, if_neg a]
    have e2 : ot1 M = failW M (nI 2) := by rw [ot1, if_pos m0, if_neg b]
    have hF := FF_fail (c := 2) hh (by omega) (by omega)
    rw [← e1, ← e2] at hF
    exact hF.keep pk_nh2 mk_ot2
  rcases ht with ⟨a, b, _⟩ | ⟨a, b⟩ | ⟨a, b, v, hv, c, d⟩ | ⟨a, b⟩
  · exact Or.inl (hno (by rw [a]; decide) (by rw [b]; decide))
  · exact Or.inl (hno (by rw [a]; decide) (by rw [b]; decide))
  · have e1 : nh1 P = P := by rw [nh1, if_pos p0, if_pos a]
    have e2 : ot1 M = M := by rw [ot1, if_pos m0, if_pos b]
    have hin : inL (M 75 17).toInt64 (nI 0).toInt64 (nI mx).toInt64 = decide (v ≤ mx) := by
      unfold inL
      rw [d, Int32.toInt_toInt64, Int32.toInt_toInt64, Int32.toInt_toInt64, nI_toInt (by omega), nI_toInt (by omega), nI_toInt (by omega)]
      exact decide_eq_decide.mpr (by omega)
    by_cases g : v ≤ mx
    · have f1 : nhW P (nI mx) = P := by rw [nhW, e1, nh2, if_pos p0, c, if_pos (nI_le g (by omega))]
      have f2 : ot2 (ot1 M) (nI 0) (nI mx) = M := by rw [e2, ot2, if_pos m0, hin, if_pos (decide_eq_true g)]
      exact Or.inr ⟨f1, f2, a, b, v, g, by rw [nhR, f1, if_pos p0, c], d⟩
    · have f1 : nhW P (nI mx) = rfW P (nI 3) := by rw [nhW, e1, nh2, if_pos p0, c, if_neg (nI_ge (by omega) (by omega))]
      have f2 : ot2 (ot1 M) (nI 0) (nI mx) = failW M (nI 3) := by rw [e2, ot2, if_pos m0, hin, decide_eq_false g, if_neg Bool.false_ne_true]
      rw [f1, f2]
      exact Or.inl (FF_fail hh (by omega) (by omega))
  · exact Or.inl (hno (by rw [a]; decide) (by rw [b]; decide))
/-- a number, and the token behind it -/
theorem num_nt (h : OKT P M l) {mx : Nat} (hmx : mx ≤ 99) : FF (ntW (nhW P (nI mx))) (otW M (nI 0) (nI mx) (nI 0)) l ∨ ∃ v, v ≤ mx ∧ nhW P (nI mx) = P ∧ nhR P (nI mx) = nI v ∧ otR M (nI 0) (nI mx) (nI 0) = nI v ∧ otW M (nI 0) (nI mx) (nI 0) = stp M ∧ P 2 2 = nI 2 ∧ M 75 16 = nI 2 ∧ M 75 17 = nI v ∧ (FF (ntW P) (stp M) l ∨ OKT (ntW P) (stp M) l) := by
  rcases L_num h hmx with hF | ⟨f1, f2, a, b, v, hv, c, d⟩
  · exact Or.inl (hF.keep pk_nt (mk_stp.tr mk_ot3))
  · have m0 := h.2.2.1
    have f3 : otA M (nI 0) (nI mx) (nI 0) = M := by
      rw [otA, f2, ot3, if_pos m0]
      exact if_pos rfl
    exact Or.inr ⟨v, hv, f1, c, by rw [otR, f3, if_pos m0, d], by rw [otW, f3], a, b, d, L_nt h.pre⟩
theorem L_sign (h : OKT P M l) : FF (tsW P) (ln5 M) l ∨ (tsW P = P ∧ ln5 M = M) := by
  obtain ⟨h1, p0, m0, q, e, h4, h5, h6, h7, h8, h9, ht⟩ := h
  have hh : OKT P M l := ⟨h1, p0, m0, q, e, h4, h5, h6, h7, h8, h9, ht⟩
  have hno : ¬ P 2 2 = nI 3 → ¬ M 75 16 = nI 3 → FF (tsW P) (ln5 M) l := by
    intro a b
    have e1 : tsW P = rfW P (nI 2) := by rw [tsW, if_pos p0, if_neg a]
    have e2 : ln5 M = failW M (nI 2) := by rw [ln5, if_pos m0, if_neg b]
    rw [e1, e2]
    exact FF_fail hh (by omega) (by omega)
  rcases ht with ⟨a, b, _⟩ | ⟨a, b⟩ | ⟨a, b, _⟩ | ⟨a, b⟩
  · exact Or.inl (hno (by rw [a]; decide) (by rw [b]; decide))
  · exact Or.inl (hno (by rw [a]; decide) (by rw [b]; decide))
  · exact Or.inl (hno (by rw [a]; decide) (by rw [b]; decide))
  · exact Or.inr ⟨by rw [tsW, if_pos p0, if_pos a], by rw [ln5, if_pos m0, if_pos b]⟩
theorem mk_ln5 {σ : vW} : mkS (ln5 σ) σ := by
  unfold ln5
  split
  · split
    · exact mkS_refl σ
    · exact mk_fail
  · exact mkS_refl σ
/-- what has been told: the program's town at 10, the model's page at 77 -/
def TX (P M : vW) (n m K : Nat) : Prop :=
  ((P 10 10 = nI n ∧ n ≤ 5 ∧ M 75 3 = nI n) ∧ (P 10 11 = nI m ∧ m ≤ 9 ∧ M 77 25 = nI m) ∧ P 10 12 = nI K ∧ K ≤ 6 ∧ M 77 52 = nI K) ∧
  ((∀ p, p < n → P 11 p = M 77 p ∧ P 12 p = M 77 (5 + p) ∧ P 13 p = M 77 (10 + p)) ∧ (∀ p, p < 5 → M 77 (20 + p) = nI 0 ∧ ∃ r, r < 8 ∧ M 77 (10 + p) = nI r)) ∧
  ((∀ p, p < n → (P 14 p = -1 ∧ M 77 (15 + p) = nI 0) ∨ ∃ w, w < 9 ∧ P 14 p = nI w ∧ M 77 (15 + p) = nI (w + 1) ∧ P 17 w = nI p) ∧ (∀ p, n ≤ p → p < 5 → M 77 (15 + p) = nI 0) ∧
    (∀ w, w < 9 → P 17 w = -1 ∨ ∃ p, p < n ∧ P 17 w = nI p ∧ P 14 p = nI w) ∧ ∀ w, w < 9 → (bt (M 75 4) w = true ↔ ¬ P 17 w = -1)) ∧
  (∀ w, w < m → P 15 w = M 77 (26 + w) ∧ P 16 w = M 77 (35 + w) ∧ ∃ a b, a < 8 ∧ b < 8 ∧ M 77 (26 + w) = nI a ∧ M 77 (35 + w) = nI b) ∧
  ((∀ r, r < 8 → P 18 r = M 77 (44 + r) ∧ ∃ v, v < 100 ∧ M 77 (44 + r) = nI v) ∧ P 1 5 = M 75 5) ∧
  ((∀ i, i < K → P 19 i = M 77 (53 + i) ∧ P 20 i = M 77 (59 + i) ∧ (∃ p, p < 5 ∧ P 19 i = nI p) ∧ ∃ w, w < 9 ∧ P 20 i = nI w) ∧ P 1 6 = M 75 6 ∧ ((P 1 6 = nI 0 ∧ K = 0) ∨ P 1 6 = nI 1)) ∧
  (∀ c, c < 10 → (nI c ≤ M 75 7 ↔ ∃ i, i < K ∧ ∃ p, c ≤ p ∧ p < 5 ∧ P 19 i = nI p)) ∧
  ∀ c, c < 10 → (nI c ≤ M 75 8 ↔ (∃ w, c ≤ w ∧ w < 9 ∧ ¬ P 17 w = -1) ∨ ∃ i, i < K ∧ ∃ w, c ≤ w ∧ w < 9 ∧ P 20 i = nI w)
theorem TX.mv (h : TX P M n m K) (hP : ∀ r, 10 ≤ r → r ≤ 20 → P' r = P r) (h5 : P' 1 5 = P 1 5) (h6 : P' 1 6 = P 1 6) (hM : M' 77 = M 77) (hF : ∀ i, 3 ≤ i → i ≤ 8 → M' 75 i = M 75 i) : TX P' M' n m K := by
  unfold TX
  rw [hP 10 (by omega) (by omega), hP 11 (by omega) (by omega), hP 12 (by omega) (by omega), hP 13 (by omega) (by omega), hP 14 (by omega) (by omega), hP 15 (by omega) (by omega), hP 16 (by omega) (by omega), hP 17 (by omega) (by omega), hP 18 (by omega) (by omega), hP 19 (by omega) (by omega), hP 20 (by omega) (by omega), h5, h6, hM, hF 3 (by omega) (by omega), hF 4 (by omega) (by omega), hF 5 (by omega) (by omega), hF 6 (by omega) (by omega), hF 7 (by omega) (by omega), hF 8 (by omega) (by omega)]
  exact h
theorem TX.sc (h : TX P M n m K) (hP : scR P' P) (hM : scT M' M) : TX P' M' n m K := h.mv (fun r _ _ => hP.1 r (by omega) (by omega)) (hP.2.1 5 (by decide) (by decide)) (hP.2.1 6 (by decide) (by decide)) (hM.1 77 (by decide)) (fun i _ _ => hM.2 i (by omega))
/-- a line's first part, where no bound is met -/
theorem lnA_id {nm : Int32} {k m' : Nat} (h : TX P M n m K) (h6 : ¬ nm = nI 6) (h1 : ln1 M nm k m' = M) : lnA M nm k m' = M := by
  have e6 : M 75 6 = nI 0 ∨ M 75 6 = nI 1 := by
    obtain ⟨_, _, _, _, _, ⟨_, q1, q2⟩, _⟩ := h
    rw [← q1]
    rcases q2 with ⟨z, _⟩ | z
    · exact Or.inl z
    · exact Or.inr z
  have z1 : ¬ nI 1 = 0 := by decide
  rw [lnA, h1, ln2, if_neg h6, ln3, if_neg h6]
  have : (if M 75 6 = 0 then nI 0 else nI 1) = M 75 6 := by
    rcases e6 with z | z
    · rw [z]
      exact if_pos rfl
    · rw [z, if_neg z1]
  rw [this, vset_id]
theorem ln1_id {nm : Int32} {k m' : Nat} (h : (nI 3 < nm → nm = nI 4 → m' < 9) ∧ (¬ nI 3 < nm → k < 5)) (hk : k ≤ 5) (hm : m' ≤ 9) : ln1 M nm k m' = M := by
  rw [ln1]
  by_cases g : nI 3 < nm
  · rw [if_pos g]
    by_cases g2 : nm = nI 4
    · have := h.1 g g2
      rw [if_pos g2, if_neg (fun z => by have := nI_eqN (by omega) (by omega) z; omega)]
    · rw [if_neg g2]
  · have := h.2 g
    rw [if_neg g, if_neg (fun z => by have := nI_eqN (by omega) (by omega) z; omega)]
/-- a line whose bound is met: fault 5 -/
theorem line_5 {nm : Int32} {k m' K' : Nat} (h : OKT P M l) (hz : inZ nm 7 = true) (h1 : ln1 M nm k m' = failW M (nI 5)) : FF (rfW P (nI 5)) (lnZ M nm k m' K') l := by
  have hF := FF_fail (c := 5) h (by omega) (by omega)
  have hx : mkS (lnB M nm k m') (failW M (nI 5)) := by
    rw [lnB, lnA, h1]
    refine mk_stp.tr ((mk_75 (by omega)).tr ?_)
    unfold ln2
    split
    · split
      · exact mkS_refl _
      · exact mk_fail
    · exact mkS_refl _
  have hB := hF.keep (pkS_refl _) hx
  obtain ⟨_, c, c1, c2, c3, c4, c5⟩ := hB
  rw [lnZ, if_pos hz, if_neg (by rw [c4, le_toInt, nI_toInt (by omega), Int32.toInt_zero]; omega)]
  exact hF.keep (pkS_refl _) hx
theorem FF.nle (h : FF P M l) : ¬ M 75 12 ≤ 0 := by
  obtain ⟨_, c, c1, c2, c3, c4, c5⟩ := h
  rw [c4, le_toInt, nI_toInt (by omega), Int32.toInt_zero]
  omega
theorem FF.pne (h : FF P M l) : ¬ P 1 3 = 0 := by
  obtain ⟨_, c, c1, c2, c3, c4, c5⟩ := h
  rw [c3]
  intro z
  have := nI_eqN (b := 0) (by omega) (by omega) z
  omega
end L1
