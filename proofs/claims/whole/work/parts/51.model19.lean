/-! The model's reader: it goes on -/
def gz (s : Nat) (W : vW) : Prop := W 75 12 = 0 → s ≤ (W 75 15).toNatClampNeg ∧ (W 75 15).toNatClampNeg ≤ (W 75 14).toNatClampNeg ∧ (W 75 16 = nI 3 → (W 75 15).toNatClampNeg < (W 75 14).toNatClampNeg)
theorem gz_fail {s : Nat} {W : vW} {c : Int32} (hc : ¬ c = 0) : gz s (failW W c) := fun h => absurd h (failW_12 hc)
theorem gz_row {s r i : Nat} {v : Int32} {W : vW} (h : gz s W) (hr : r ≠ 75) : gz s (vset W r i v) := by
  have e : (vset W r i v) 75 = W 75 := vset_ne (Ne.symm hr)
  intro h0
  rw [e] at h0 ⊢
  exact h h0
theorem gz_fld {s i : Nat} {v : Int32} {W : vW} (h : gz s W) (hi : ¬ (12 ≤ i ∧ i ≤ 16)) : gz s (vset W 75 i v) := by
  have e : ∀ j, 12 ≤ j → j ≤ 16 → (vset W 75 i v) 75 j = W 75 j := fun j h1 h2 => vset_oth (by omega)
  intro h0
  rw [e 12 (by omega) (by omega)] at h0
  rw [e 14 (by omega) (by omega), e 15 (by omega) (by omega), e 16 (by omega) (by omega)]
  exact h h0
theorem stW_at2 {σ : vW} {l p : Nat} (hpl : p ≤ l) (hb : σ 75 12 ≤ 0) : ∃ q e, p ≤ q ∧ q ≤ e ∧ e ≤ l ∧ (stW σ l p) 75 15 = nI q ∧ (stW σ l p) 75 14 = nI e ∧ ((stW σ l p) 75 16 = nI 3 → q < e) := by
  obtain ⟨hq1, hq2⟩ := skB_le (σ := σ) hpl
  rw [stW, if_pos hb]
  generalize skB σ l p = q at hq1 hq2
  have a15 : (stW0 σ q) 75 15 = nI q := by rw [stW0, vset_oth (by decide), vset_at]
  have a14 : (stW0 σ q) 75 14 = nI q := by rw [stW0, vset_oth (by decide), vset_oth (by decide), vset_at]
  have n0 : ¬ nI 0 = nI 3 := by decide
  have n1 : ¬ nI 1 = nI 3 := by decide
  have n2 : ¬ nI 2 = nI 3 := by decide
  unfold stW1
  split
  · exact ⟨q, q, hq1, Nat.le_refl q, hq2, by rw [vset_oth (by decide)]; exact a15, by rw [vset_oth (by decide)]; exact a14, fun e => absurd (by rw [← e, vset_at]) n0⟩
  · have hql : q < l := by
      rename_i hne
      rcases Nat.lt_or_ge q l with h | h
      · exact h
      · exact absurd (by rw [mByte, if_neg (by omega)]) hne
    split
    · have h := skL_le (σ := σ) hq2
      exact ⟨q, skL σ l q, hq1, h.1, h.2, by rw [vset_oth (by decide), vset_oth (by decide)]; exact a15, by rw [vset_oth (by decide), vset_at], fun e => absurd (by rw [← e, vset_at]) n1⟩
    · split
      · have h := skD_le (σ := σ) hq2
        split
        · exact ⟨q, skD σ l q, hq1, h.1, h.2, by rw [vset_oth (by decide), vset_oth (by decide), vset_oth (by decide)]; exact a15, by rw [vset_oth (by decide), vset_at], fun e => absurd (by rw [← e, vset_at]) n2⟩
        · exact ⟨q, skD σ l q, hq1, h.1, h.2, by rw [failW_oth (by decide) (by decide), vset_oth (by decide), vset_oth (by decide), vset_oth (by decide)]; exact a15, by rw [failW_oth (by decide) (by decide), vset_oth (by decide), vset_at], fun e => absurd (by rw [← e, failW_oth (by decide) (by decide), vset_at]) n2⟩
      · split
        · exact ⟨q, q + 1, hq1, by omega, hql, by rw [vset_oth (by decide), vset_oth (by decide)]; exact a15, by rw [vset_at], fun _ => by omega⟩
        · exact ⟨q, q + 1, hq1, by omega, hql, by rw [failW_oth (by decide) (by decide), vset_oth (by decide), vset_oth (by decide)]; exact a15, by rw [failW_oth (by decide) (by decide), vset_at], fun _ => by omega⟩
theorem stW_12 {σ : vW} {l p : Nat} (h : (stW σ l p) 75 12 = 0) : σ 75 12 = 0 := by
  have a12 : ∀ q, (stW0 σ q) 75 12 = σ 75 12 := fun q => by rw [stW0, vset_oth (by decide), vset_oth (by decide), vset_oth (by decide)]
  have n1 : ¬ nI 1 = 0 := by decide
  unfold stW stW1 at h
  split at h
  · split at h
    · rw [vset_oth (by decide), a12] at h
      exact h
    · split at h
      · rw [vset_oth (by decide), vset_oth (by decide), a12] at h
        exact h
      · split at h
        · split at h
          · rw [vset_oth (by decide), vset_oth (by decide), vset_oth (by decide), a12] at h
            exact h
          · exact absurd h (failW_12 n1)
        · split at h
          · rw [vset_oth (by decide), vset_oth (by decide), a12] at h
            exact h
          · exact absurd h (failW_12 n1)
  · exact h
theorem stp_0 {σ : vW} (h : (stp σ) 75 12 = 0) : σ 75 12 = 0 := stW_12 h
/-- after a step one stands no nearer -/
theorem gz_step {s : Nat} {W : vW} (ht : tpH W) (h : W 75 12 = 0 → s ≤ (W 75 14).toNatClampNeg) : gz s (stp W) := by
  intro h0
  have h1 := stp_0 h0
  obtain ⟨l, q, p, k1, k2, k3, k4, k5, k6⟩ := ht
  have h2 := h h1
  rw [k6, nI_clamp (by omega)] at h2
  obtain ⟨a, b, c1, c2, c6, c3, c4, c5⟩ := stW_at2 (σ := W) k3 (by rw [h1]; decide)
  have e : stp W = stW W l p := by rw [stp, k4, k6, nI_clamp (by omega), nI_clamp (by omega)]
  rw [e, c3, c4, nI_clamp (by omega), nI_clamp (by omega)]
  exact ⟨by omega, c2, c5⟩
theorem gz_stp {s : Nat} {W : vW} (ht : tpH W) (h : gz s W) : gz s (stp W) := gz_step ht (fun h0 => by
  have := h h0
  omega)
theorem gz_ot {s : Nat} {W : vW} {lo hi mk : Int32} (ht : tpH W) (h : gz s W) : gz s (otW W lo hi mk) := by
  have g1 : gz s (ot1 W) := by
    unfold ot1
    split
    · split
      · exact h
      · exact gz_fail (by decide)
    · exact h
  have g2 : gz s (ot2 (ot1 W) lo hi) := by
    unfold ot2
    split
    · split
      · exact g1
      · exact gz_fail (by decide)
    · exact g1
  have g3 : gz s (ot3 (ot2 (ot1 W) lo hi) mk) := by
    unfold ot3
    split
    · split
      · exact g2
      · split
        · exact gz_fail (by decide)
        · exact g2
    · exact g2
  exact gz_stp (ot3_H (ot2_H (ot1_H ht))) g3
theorem gz_wh {s : Nat} {W : vW} {mk : Int32} (ht : tpH W) (h : gz s W) : gz s (whW W mk) := gz_fld (gz_ot ht h) (by decide)
theorem gz_ro {s k : Nat} {W : vW} {kd : Int32} (ht : tpH W) (h : gz s W) : gz s (roW W k kd) := by
  have t1 : tpH (vset W 77 k kd) := tpH_row ht (by decide)
  have g1 : gz s (vset W 77 k kd) := gz_row h (by decide)
  have g2 : gz s (ro2 (vset W 77 k kd) k) := gz_row (gz_ot t1 g1) (by decide)
  have g3 : gz s (ro3 (ro2 (vset W 77 k kd) k) k) := gz_row (gz_ot (ro2_H t1) g2) (by decide)
  have t3 := ro3_H (k := k) (ro2_H (k := k) t1)
  refine gz_fld ?_ (by decide)
  unfold ro4
  split
  · split
    · exact gz_row (gz_fld (gz_wh t3 g3) (by decide)) (by decide)
    · exact g3
  · exact g3
theorem gz_rw {s m : Nat} {W : vW} (ht : tpH W) (h : gz s W) : gz s (rwW W m) := by
  have g2 : gz s (rw2 W m) := gz_row (gz_ot ht h) (by decide)
  have g3 : gz s (rw3 (rw2 W m) m) := by
    unfold rw3
    split
    · split
      · split
        · exact gz_fail (by decide)
        · exact g2
      · exact g2
    · exact g2
  exact gz_row (gz_row (gz_ot (rw3_H (rw2_H ht)) g3) (by decide)) (by decide)
theorem gz_rp {s : Nat} : ∀ j (W : vW) (K : Nat), tpH W → gz s W → gz s (rpG j W K)
  | 0, _, _, _, h => h
  | j + 1, W, K, ht, h => by
    unfold rpG
    split
    · split
      · split
        · exact gz_fail (by decide)
        · exact gz_rp j _ _ (rpN1_H ht) (gz_row (gz_row (gz_wh (rpB_H ht) (gz_row (gz_fld (gz_ot ht h) (by decide)) (by decide))) (by decide)) (by decide))
      · exact h
    · exact h
theorem gz_rr {s : Nat} {W : vW} (ht : tpH W) (h : gz s W) : gz s (rrW W) := gz_row (gz_ot (rr1_H ht) (gz_fld (gz_ot ht h) (by decide))) (by decide)
theorem gz_rmo {s k m K : Nat} {W : vW} {kd : Int32} (ht : tpH W) (h : gz s W) : gz s (rmoW W kd k m K) := by
  unfold rmoW
  split
  · split
    · exact gz_rw ht h
    · split
      · exact gz_rr ht h
      · exact gz_rp _ _ _ ht h
  · exact gz_ro ht h
/-- a line read without fault takes one on -/
theorem lnW_on {W : vW} {k m K : Nat} (ht : tpH W) (h0 : (lnW W k m K) 75 12 = 0) : (W 75 14).toNatClampNeg < ((lnW W k m K) 75 14).toNatClampNeg := by
  unfold lnW at h0 ⊢
  generalize nmQ W = nm at h0 ⊢
  unfold lnZ at h0 ⊢
  split
  · rename_i hin
    rw [if_pos hin] at h0
    split
    · rename_i hb
      rw [if_pos hb] at h0
      have hA := lnA_H (nm := nm) (k := k) (m := m) ht
      have e14 : (lnA W nm k m) 75 12 = 0 → (lnA W nm k m) 75 14 = W 75 14 := by
        intro h1
        have f1 : ∀ (V0 : vW) (c : Int32), (failW V0 c) 75 14 = V0 75 14 := fun V0 c => failW_oth (by decide) (by decide)
        have e1 : (ln1 W nm k m) 75 14 = W 75 14 := by
          unfold ln1
          split
          · split
            · split
              · exact f1 _ _
              · rfl
            · rfl
          · split
            · exact f1 _ _
            · rfl
        have e2 : (ln2 (ln1 W nm k m) nm) 75 14 = W 75 14 := by
          unfold ln2
          split
          · split
            · exact e1
            · rw [f1]
              exact e1
          · exact e1
        rw [lnA, ln3, vset_oth (by decide)]
        exact e2
      have gB : gz (W 75 14).toNatClampNeg (lnB W nm k m) := gz_step hA (fun h1 => by rw [e14 h1]; exact Nat.le_refl _)
      have tB : tpH (lnB W nm k m) := tpH_stp hA
      have gC : gz (W 75 14).toNatClampNeg (lnC W nm k m K) := gz_rmo tB gB
      have tC : tpH (lnC W nm k m K) := rmoW_H tB
      have h5 : (ln5 (lnC W nm k m K)) 75 12 = 0 → (W 75 14).toNatClampNeg + 1 ≤ ((ln5 (lnC W nm k m K)) 75 14).toNatClampNeg := by
        intro h1
        unfold ln5 at h1 ⊢
        split at h1
        · rename_i c0
          rw [if_pos c0]
          split at h1
          · rename_i c3
            rw [if_pos c3]
            have g := gC h1
            have g3 := g.2.2 c3
            omega
          · exact absurd h1 (failW_12 (by decide))
        · rename_i c0
          exact absurd h1 c0
      have g := gz_step (ln5_H tC) h5 h0
      omega
    · rename_i hb
      rw [if_neg hb] at h0
      exact absurd (by rw [h0]; decide) hb
  · rename_i hin
    rw [if_neg hin] at h0
    exact absurd h0 (failW_12 (by decide))
