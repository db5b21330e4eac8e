/-! The model's text -/
def kp (b σ : vW) : Prop := b 75 3 = σ 75 3 ∧ b 77 25 = σ 77 25 ∧ b 77 52 = σ 77 52 ∧ b 79 = σ 79
theorem kp_refl (σ : vW) : kp σ σ := ⟨rfl, rfl, rfl, rfl⟩
theorem kp_trans {a b c : vW} (h : kp a b) (k : kp b c) : kp a c := ⟨h.1.trans k.1, h.2.1.trans k.2.1, h.2.2.1.trans k.2.2.1, h.2.2.2.trans k.2.2.2⟩
theorem kp_sc {b σ : vW} (h : scT b σ) : kp b σ := ⟨h.2 3 (by omega), by rw [h.1 77 (by decide)], by rw [h.1 77 (by decide)], h.1 79 (by decide)⟩
theorem kp_77 {b σ : vW} {i : Nat} {v : Int32} (h : kp b σ) (h1 : i ≠ 25) (h2 : i ≠ 52) : kp (vset b 77 i v) σ := ⟨by rw [vset_ne (by decide)]; exact h.1, by rw [vset_oth (Ne.symm h1)]; exact h.2.1, by rw [vset_oth (Ne.symm h2)]; exact h.2.2.1, by rw [vset_ne (by decide)]; exact h.2.2.2⟩
theorem kp_75 {b σ : vW} {i : Nat} {v : Int32} (h : kp b σ) (h1 : i ≠ 3) : kp (vset b 75 i v) σ := ⟨by rw [vset_oth (Ne.symm h1)]; exact h.1, by rw [vset_ne (by decide)]; exact h.2.1, by rw [vset_ne (by decide)]; exact h.2.2.1, by rw [vset_ne (by decide)]; exact h.2.2.2⟩
theorem kp_fail {σ : vW} {c : Int32} : kp (failW σ c) σ := kp_sc (scT_fail (scT_refl σ))
theorem kp_wh {σ : vW} {mk : Int32} : kp (whW σ mk) σ := kp_75 (kp_sc otW_sc) (by decide)
theorem kp_ro4 {σ : vW} {k : Nat} (hk : k < 5) : kp (ro4 σ k) σ := by
  unfold ro4
  split
  · split
    · exact kp_77 (kp_75 kp_wh (by decide)) (by omega) (by omega)
    · exact kp_refl σ
  · exact kp_refl σ
theorem roW_f {σ : vW} {k : Nat} {kd : Int32} (hk : k < 5) : (roW σ k kd) 75 3 = nI (k + 1) ∧ (roW σ k kd) 77 25 = σ 77 25 ∧ (roW σ k kd) 77 52 = σ 77 52 ∧ (roW σ k kd) 79 = σ 79 := by
  have h1 : kp (vset σ 77 k kd) σ := kp_77 (kp_refl σ) (by omega) (by omega)
  have h2 : kp (ro2 (vset σ 77 k kd) k) σ := kp_trans (kp_77 (kp_sc otW_sc) (by omega) (by omega)) h1
  have h3 : kp (ro3 (ro2 (vset σ 77 k kd) k) k) σ := kp_trans (kp_77 (kp_sc otW_sc) (by omega) (by omega)) h2
  have h4 : kp (ro4 (ro3 (ro2 (vset σ 77 k kd) k) k) k) σ := kp_trans (kp_ro4 hk) h3
  exact ⟨by rw [roW, vset_at], by rw [roW, vset_ne (by decide)]; exact h4.2.1, by rw [roW, vset_ne (by decide)]; exact h4.2.2.1, by rw [roW, vset_ne (by decide)]; exact h4.2.2.2⟩
theorem rwW_f {σ : vW} {m : Nat} (hm : m < 9) : (rwW σ m) 75 3 = σ 75 3 ∧ (rwW σ m) 77 25 = nI (m + 1) ∧ (rwW σ m) 77 52 = σ 77 52 ∧ (rwW σ m) 79 = σ 79 := by
  have h2 : kp (rw2 σ m) σ := kp_77 (kp_sc otW_sc) (by omega) (by omega)
  have h3 : kp (rw3 (rw2 σ m) m) σ := kp_trans (kp_sc rw3_sc) h2
  have h4 : kp (rw4 (rw3 (rw2 σ m) m) m) σ := kp_trans (kp_77 (kp_sc otW_sc) (by omega) (by omega)) h3
  exact ⟨by rw [rwW, vset_ne (by decide)]; exact h4.1, by rw [rwW, vset_at], by rw [rwW, vset_oth (by decide)]; exact h4.2.2.1, by rw [rwW, vset_ne (by decide)]; exact h4.2.2.2⟩
theorem rrW_kp {σ : vW} : kp (rrW σ) σ := by
  obtain ⟨r0, hr0, er⟩ := otR_ex (σ := σ) (mk := σ 75 5) (k := 7) (by omega)
  have h1 : kp (rr1 σ) σ := kp_75 (kp_sc otW_sc) (by decide)
  have er' : otR σ (nI 0) (nI 7) (σ 75 5) = nI r0 := er
  rw [rrW, er', nI_clamp (by omega)]
  exact kp_trans (kp_77 (kp_sc otW_sc) (by omega) (by omega)) h1
theorem rpG_f : ∀ j (σ : vW) (K : Nat), K + j = 7 → σ 77 52 = nI K → (rpG j σ K) 75 3 = σ 75 3 ∧ (rpG j σ K) 77 25 = σ 77 25 ∧ (∃ K', K' ≤ 7 ∧ (K' = 7 → K = 7) ∧ (rpG j σ K) 77 52 = nI K') ∧ (rpG j σ K) 79 = σ 79
  | 0, σ, K, hK, h => ⟨rfl, rfl, ⟨K, by omega, fun e => e, h⟩, rfl⟩
  | j + 1, σ, K, hK, h => by
    unfold rpG
    split
    · split
      · split
        · have q := kp_fail (σ := σ) (c := nI 5)
          exact ⟨q.1, q.2.1, ⟨K, by omega, fun e => e, q.2.2.1.trans h⟩, q.2.2.2⟩
        · rename_i hne
          have h1 : kp (rpB σ K) σ := kp_77 (kp_75 (kp_sc otW_sc) (by decide)) (by omega) (by omega)
          have h2 : kp (vset (whW (rpB σ K) (nI 0)) 77 (59 + K) (otR (rpB σ K) (nI 0) (nI 8) (nI 0))) σ := kp_trans (kp_77 kp_wh (by omega) (by omega)) h1
          have e1 : (rpN1 σ K) 75 3 = σ 75 3 := by rw [rpN1, rpC, vset_ne (by decide)]; exact h2.1
          have e2 : (rpN1 σ K) 77 25 = σ 77 25 := by rw [rpN1, rpC, vset_oth (by decide)]; exact h2.2.1
          have e3 : (rpN1 σ K) 79 = σ 79 := by rw [rpN1, rpC, vset_ne (by decide)]; exact h2.2.2.2
          obtain ⟨a, b, ⟨K', c1, c2, c3⟩, d⟩ := rpG_f j (rpN1 σ K) (K + 1) (by omega) (by rw [rpN1, rpC, vset_at])
          exact ⟨a.trans e1, b.trans e2, ⟨K', c1, fun e => by
            have := c2 e
            have e6 : K = 6 := by omega
            exact absurd (congrArg nI e6) hne, c3⟩, d.trans e3⟩
      · exact ⟨rfl, rfl, ⟨K, by omega, fun e => e, h⟩, rfl⟩
    · exact ⟨rfl, rfl, ⟨K, by omega, fun e => e, h⟩, rfl⟩
/-- what holds between two lines -/
def tIV (W : vW) : Prop := tpH W ∧ cutOK W ∧ (∃ k, k ≤ 5 ∧ W 75 3 = nI k) ∧ (∃ m, m ≤ 9 ∧ W 77 25 = nI m) ∧ ∃ K, K ≤ 6 ∧ W 77 52 = nI K
theorem tIV_kp {b σ : vW} (h : tIV σ) (hb : tpH b) (k : kp b σ) : tIV b := ⟨hb, fun i hi => by rw [k.2.2.2]; exact h.2.1 i hi, by rw [k.1]; exact h.2.2.1, by rw [k.2.1]; exact h.2.2.2.1, by rw [k.2.2.1]; exact h.2.2.2.2⟩
theorem tIV_rmo {W : vW} {kd : Int32} {k m K : Nat} (h : tIV W) (hk : W 75 3 = nI k) (hk5 : k ≤ 5) (hk5' : ¬ nI 3 < kd → k < 5) (hm : W 77 25 = nI m) (hm9 : m ≤ 9) (hm9' : kd = nI 4 → m < 9) (hK : W 77 52 = nI K) (hK6 : K ≤ 6) : tIV (rmoW W kd k m K) := by
  have hH := rmoW_H (kd := kd) (k := k) (m := m) (K := K) h.1
  unfold rmoW at hH ⊢
  split
  · rename_i h3
    rw [if_pos h3] at hH
    split
    · rename_i h4
      rw [if_pos h4] at hH
      have q := rwW_f (σ := W) (hm9' h4)
      have := hm9' h4
      exact ⟨hH, fun i hi => by rw [q.2.2.2]; exact h.2.1 i hi, ⟨k, hk5, q.1.trans hk⟩, ⟨m + 1, by omega, q.2.1⟩, ⟨K, hK6, q.2.2.1.trans hK⟩⟩
    · rename_i h4
      rw [if_neg h4] at hH
      split
      · rename_i h5
        rw [if_pos h5] at hH
        exact tIV_kp h hH rrW_kp
      · rename_i h5
        rw [if_neg h5] at hH
        obtain ⟨a, b, ⟨K', c1, c2, c3⟩, d⟩ := rpG_f (7 - K) W K (by omega) hK
        exact ⟨hH, fun i hi => by rw [rpW, d]; exact h.2.1 i hi, ⟨k, hk5, a.trans hk⟩, ⟨m, hm9, b.trans hm⟩, ⟨K', by omega, c3⟩⟩
  · rename_i h3
    rw [if_neg h3] at hH
    have q := roW_f (σ := W) (kd := kd) (hk5' h3)
    have := hk5' h3
    exact ⟨hH, fun i hi => by rw [q.2.2.2]; exact h.2.1 i hi, ⟨k + 1, by omega, q.1⟩, ⟨m, hm9, q.2.1.trans hm⟩, ⟨K, hK6, q.2.2.1.trans hK⟩⟩
theorem ln5_sc {σ : vW} : scT (ln5 σ) σ := by
  unfold ln5
  split
  · split
    · exact scT_refl σ
    · exact scT_fail (scT_refl σ)
  · exact scT_refl σ
theorem tIV_line {W : vW} {k m K : Nat} (h : tIV W) (h0 : W 75 12 = 0) (hk : W 75 3 = nI k) (hk5 : k ≤ 5) (hm : W 77 25 = nI m) (hm9 : m ≤ 9) (hK : W 77 52 = nI K) (hK6 : K ≤ 6) : tIV (lnW W k m K) := by
  unfold lnW
  generalize nmQ W = nm
  have hB : tpH (lnB W nm k m) := tpH_stp (lnA_H h.1)
  have kB : kp (lnB W nm k m) W := ⟨lnB_fld (by omega) (by decide), by rw [lnB_row (by decide)], by rw [lnB_row (by decide)], lnB_row (by decide)⟩
  have iB : tIV (lnB W nm k m) := tIV_kp h hB kB
  unfold lnZ
  split
  · split
    · rename_i hb
      have hk5' : ¬ nI 3 < nm → k < 5 := by
        intro h3
        rcases Nat.lt_or_eq_of_le hk5 with q | q
        · exact q
        · exact absurd hb (lnB_5 (by rw [ln1, if_neg h3, if_pos (congrArg nI q)]; exact fail_12 h0))
      have hm9' : nm = nI 4 → m < 9 := by
        intro h3
        rcases Nat.lt_or_eq_of_le hm9 with q | q
        · exact q
        · exact absurd hb (lnB_5 (by rw [ln1, if_pos (by rw [h3]; decide), if_pos h3, if_pos (congrArg nI q)]; exact fail_12 h0))
      have iC : tIV (lnC W nm k m K) := tIV_rmo iB (kB.1.trans hk) hk5 hk5' (kB.2.1.trans hm) hm9 hm9' (kB.2.2.1.trans hK) hK6
      exact tIV_kp iC (tpH_stp (ln5_H iC.1)) (kp_sc (scT_trans stp_sc ln5_sc))
    · exact iB
  · exact tIV_kp h (tpH_fail h.1) kp_fail
