/-! The pure part: calls that change the town -/
section C1
variable {s s' a b : vW} {R R' : Nat → Int32} {t g n m K k l : Nat}
theorem vset76 {u : vW} {i : Nat} {v : Int32} : (vset u 76 i v) 76 = upd (u 76) i v := by rw [vset_row, vrow_at]
theorem inZ_no {w : Int32} {N : Nat} (h : ¬ inZ w N = true) (hN : N < 1000) : ∀ j, j < N → ¬ w = nI j := fun j hj z => h (by rw [z, inZ_nI (by omega), decide_eq_true hj])
/-- people's cells changed -/
theorem TP.ones (h : TP s R t g n m K) (hs : ∀ i, i ≤ 10 → ¬ (1 ≤ i ∧ i ≤ 3) → s' (t + i) = s (t + i)) (hR : ∀ i, i < 65 → 15 ≤ i → R' (g + i) = R (g + i)) (h1 : ∀ p, p < n → s' (t + 1) p = R' (g + p) ∧ s' (t + 2) p = R' (g + 5 + p) ∧ s' (t + 3) p = R' (g + 10 + p)) (h8 : ∀ q, q < 5 → ∃ r, r < 8 ∧ R' (g + 10 + q) = nI r) : TP s' R' t g n m K := by
  have n5 := h.n5
  have m9 := h.m9
  have K6 := h.K6
  have hd := h.door
  have e0 : s' t = s t := hs 0 (by omega) (by omega)
  have r : ∀ c i, c + i < 65 → 15 ≤ c + i → R' (g + c + i) = R (g + c + i) := fun c i hi hn => by
    rw [Nat.add_assoc]
    exact hR _ hi hn
  refine ⟨⟨by rw [e0]; exact h.hn, n5, by rw [e0]; exact h.hm, m9, by rw [e0]; exact h.hK, K6, by rw [hR 25 (by omega) (by omega)]; exact h.gm, by rw [hR 52 (by omega) (by omega)]; exact h.gK⟩, h1, h8, ⟨fun p hp => ?_, ?_, ?_⟩, fun w hw => ⟨?_, ?_⟩, fun w hw => ?_, fun i hi => ?_, fun i hi => ?_⟩
  · rw [hs 4 (by omega) (by omega), r 15 p (by omega) (by omega), r 20 p (by omega) (by omega)]
    exact hd.1 p hp
  · rw [hs 4 (by omega) (by omega), hs 7 (by omega) (by omega)]
    exact hd.2.1
  · rw [hs 4 (by omega) (by omega), hs 7 (by omega) (by omega)]
    exact hd.2.2
  · rw [hs 5 (by omega) (by omega), r 26 w (by omega) (by omega)]
    exact (h.wall hw).1
  · rw [hs 6 (by omega) (by omega), r 35 w (by omega) (by omega)]
    exact (h.wall hw).2
  · rw [r 26 w (by omega) (by omega), r 35 w (by omega) (by omega)]
    exact h.wOK w hw
  · rw [hs 8 (by omega) (by omega), r 44 i (by omega) (by omega)]
    exact h.wor9 hi
  · rw [hs 9 (by omega) (by omega), hs 10 (by omega) (by omega), r 53 i (by omega) (by omega), r 59 i (by omega) (by omega)]
    exact h.act hi
/-- one cell of one of the people -/
theorem TP.one1 (h : TP s R t g n m K) {c q : Nat} {v : Int32} (hc : c < 3) (hq : q < n) (hv : c = 2 → ∃ r, r < 8 ∧ v = nI r) : TP (vset s (t + (c + 1)) q v) (upd R (g + (5 * c + q)) v) t g n m K := by
  have n5 := h.n5
  refine h.ones (fun i hi hn => vset_ne (by omega)) (fun i hi h15 => upd_ne (by omega)) (fun p hp => ⟨?_, ?_, ?_⟩) (fun p hp => ?_)
  · rw [vset_row]
    by_cases e : c = 0 ∧ p = q
    · obtain ⟨rfl, rfl⟩ := e
      rw [vrow_at, upd_at, show g + p = g + (5 * 0 + p) by omega, upd_at]
    · rw [upd_ne (show g + p ≠ g + (5 * c + q) by omega)]
      by_cases e2 : c = 0
      · subst e2
        rw [vrow_at, upd_ne (by omega)]
        exact h.kind hp
      · rw [vrow_ne (by omega)]
        exact h.kind hp
  · rw [vset_row]
    by_cases e : c = 1 ∧ p = q
    · obtain ⟨rfl, rfl⟩ := e
      rw [vrow_at, upd_at, show g + 5 + p = g + (5 * 1 + p) by omega, upd_at]
    · rw [upd_ne (show g + 5 + p ≠ g + (5 * c + q) by omega)]
      by_cases e2 : c = 1
      · subst e2
        rw [vrow_at, upd_ne (by omega)]
        exact h.hous hp
      · rw [vrow_ne (by omega)]
        exact h.hous hp
  · rw [vset_row]
    by_cases e : c = 2 ∧ p = q
    · obtain ⟨rfl, rfl⟩ := e
      rw [vrow_at, upd_at, show g + 10 + p = g + (5 * 2 + p) by omega, upd_at]
    · rw [upd_ne (show g + 10 + p ≠ g + (5 * c + q) by omega)]
      by_cases e2 : c = 2
      · subst e2
        rw [vrow_at, upd_ne (by omega)]
        exact h.home hp
      · rw [vrow_ne (by omega)]
        exact h.home hp
  · by_cases e : c = 2 ∧ p = q
    · obtain ⟨rfl, rfl⟩ := e
      rw [show g + 10 + p = g + (5 * 2 + p) by omega, upd_at]
      exact hv rfl
    · rw [upd_ne (show g + 10 + p ≠ g + (5 * c + q) by omega)]
      exact h.hom8 hp
theorem repl_in {f : Nat → Int32} {q N M : Nat} {v : Int32} (hq : q < N) (hN : N < 100) (hM : M < 1000) : replR f N (nI q) v (nI M) = if inZ v (M + 1) = true then f q else -1 := by
  rw [replR, if_neg (nI_pos (by omega)), if_neg (nI_ge hq (by omega)), upToB_inZ hM, nI_clamp (by omega)]
theorem replW_in {σ : vW} {r q N M : Nat} {v : Int32} (hq : q < N) (hN : N < 100) (hM : M < 1000) : replW σ r N (nI q) v (nI M) = if inZ v (M + 1) = true then vset σ r q v else σ := by
  rw [replW, if_neg (nI_pos (by omega)), if_neg (nI_ge hq (by omega)), upToB_inZ hM, nI_clamp (by omega)]
/-- one cell of page 0, one row of the town -/
theorem Rel.cell {m' K' c i r q : Nat} {v w : Int32} (h : Rel a b n m K k l) (hr : 21 ≤ r ∧ r ≤ 31) (hi : i < 65) (ht : TP (vset a r q v) (upd (b 76) i w) 21 0 n m' K') : Rel (vset a r q v) (vset b 76 i w) n m' K' k l := by
  refine h.town ⟨by rw [vset76]; exact ht, by rw [vset_ne (by decide)]; exact h.1.2.1, by rw [vset_ne (by decide)]; exact h.1.2.2⟩ (fun r hr => vset_ne (by omega)) (fun r h1 _ => vset_ne h1) (fun j hj => by rw [vset_oth (by omega)])
theorem alter_eq (h : Rel a b n m K k l) {p w v : Int32} : alterR a p w v = (if mAltB n p w v = true then b 76 (5 * w.toNatClampNeg + p.toNatClampNeg) else -1) ∧ Rel (alterW a p w v) (if mAltB n p w v = true then vset b 76 (5 * w.toNatClampNeg + p.toNatClampNeg) v else b) n m K k l := by
  have n5 := h.1.1.n5
  have hT := h.1.1
  rw [alterR, alterW, mAltB, hT.one]
  by_cases q : inZ p n = true
  · obtain ⟨j, hj, rfl⟩ := inZ_ex q (by omega)
    have e0 := hT.kind hj
    have e1 := hT.hous hj
    have e2 := hT.home hj
    rw [if_pos q, if_pos q, if_pos q, nI_clamp (by omega), repl_in (by omega) (by omega) (by omega), repl_in (by omega) (by omega) (by omega), repl_in (by omega) (by omega) (by omega), replW_in (by omega) (by omega) (by omega), replW_in (by omega) (by omega) (by omega), replW_in (by omega) (by omega) (by omega)]
    by_cases qw : inZ w 3 = true
    · obtain ⟨c, hc, rfl⟩ := inZ_ex qw (by omega)
      have z1 : ¬ nI 1 = 0 := by decide
      have z2 : ¬ nI 2 = 0 := by decide
      have z3 : ¬ nI 2 = nI 1 := by decide
      have z4 : ¬ nI 1 = nI 0 := by decide
      have z5 : ¬ nI 2 = nI 0 := by decide
      rw [if_pos qw]
      rcases (show c = 0 ∨ c = 1 ∨ c = 2 by omega) with rfl | rfl | rfl
      · rw [if_pos rfl, if_pos rfl, if_pos (show nI 0 = 0 from rfl), nI_clamp (by omega), e0]
        by_cases qv : inZ v 4 = true
        · (repeat rw [if_pos qv])
          exact ⟨by rw [show 5 * 0 + j = 0 + j by omega], h.cell (c := 0) (by omega) (by omega) (by rw [show 5 * 0 + j = 0 + (5 * 0 + j) by omega]; exact hT.one1 (by omega) hj (fun q => by omega))⟩
        · (repeat rw [if_neg qv])
          exact ⟨rfl, h⟩
      · rw [if_neg z4, if_neg z4, if_neg z1, if_pos rfl, if_pos rfl, if_pos rfl, nI_clamp (by omega), e1]
        by_cases qv : inZ v 4 = true
        · (repeat rw [if_pos qv])
          exact ⟨rfl, h.cell (c := 0) (by omega) (by omega) (by rw [show 5 * 1 + j = 0 + (5 * 1 + j) by omega]; exact hT.one1 (by omega) hj (fun q => by omega))⟩
        · (repeat rw [if_neg qv])
          exact ⟨rfl, h⟩
      · rw [if_neg z5, if_neg z5, if_neg z2, if_neg z3, if_neg z3, if_neg z3, if_pos rfl, if_pos rfl, nI_clamp (by omega), e2]
        by_cases qv : inZ v 8 = true
        · (repeat rw [if_pos qv])
          exact ⟨rfl, h.cell (c := 0) (by omega) (by omega) (by rw [show 5 * 2 + j = 0 + (5 * 2 + j) by omega]; exact hT.one1 (by omega) hj (fun _ => inZ_ex qv (by omega)))⟩
        · (repeat rw [if_neg qv])
          exact ⟨rfl, h⟩
    · have ne := inZ_no qw (by omega)
      rw [if_neg qw, if_neg (ne 0 (by omega)), if_neg (ne 1 (by omega)), if_neg (ne 2 (by omega)), if_neg (ne 0 (by omega)), if_neg (ne 1 (by omega)), if_neg (ne 2 (by omega)), if_neg Bool.false_ne_true, if_neg Bool.false_ne_true]
      exact ⟨rfl, h⟩
  · rw [if_neg q, if_neg q, if_neg q, if_neg Bool.false_ne_true, if_neg Bool.false_ne_true]
    exact ⟨rfl, h⟩
theorem TP.wor1 (h : TP s R t g n m K) {i : Nat} {v : Int32} (hi : i < 8) (hv : ∃ w, w < 100 ∧ v = nI w) : TP (vset s (t + 8) i v) (upd R (g + 44 + i) v) t g n m K := by
  have n5 := h.n5
  have m9 := h.m9
  have K6 := h.K6
  have hd := h.door
  have hs : ∀ j, j ≠ 8 → j ≤ 10 → (vset s (t + 8) i v) (t + j) = s (t + j) := fun j hj _ => vset_ne (by omega)
  have e0 : (vset s (t + 8) i v) t = s t := vset_ne (by omega)
  have r : ∀ j, j < g + 44 ∨ g + 52 ≤ j → (upd R (g + 44 + i) v) j = R j := fun j hj => upd_ne (by omega)
  refine ⟨⟨by rw [e0]; exact h.hn, n5, by rw [e0]; exact h.hm, m9, by rw [e0]; exact h.hK, K6, by rw [r _ (by omega)]; exact h.gm, by rw [r _ (by omega)]; exact h.gK⟩, fun p hp => ?_, fun q hq => ?_, ⟨fun p hp => ?_, ?_, ?_⟩, fun w hw => ?_, fun w hw => ?_, fun j hj => ?_, fun j hj => ?_⟩
  · rw [hs 1 (by omega) (by omega), hs 2 (by omega) (by omega), hs 3 (by omega) (by omega), r _ (by omega), r _ (by omega), r _ (by omega)]
    exact h.2.1 p hp
  · rw [r _ (by omega)]
    exact h.hom8 hq
  · rw [hs 4 (by omega) (by omega), r _ (by omega), r _ (by omega)]
    exact hd.1 p hp
  · rw [hs 4 (by omega) (by omega), hs 7 (by omega) (by omega)]
    exact hd.2.1
  · rw [hs 4 (by omega) (by omega), hs 7 (by omega) (by omega)]
    exact hd.2.2
  · rw [hs 5 (by omega) (by omega), hs 6 (by omega) (by omega), r _ (by omega), r _ (by omega)]
    exact h.wall hw
  · rw [r _ (by omega), r _ (by omega)]
    exact h.wOK w hw
  · rw [vset_row, vrow_at]
    by_cases e : j = i
    · rw [e, upd_at, upd_at]
      exact ⟨rfl, hv⟩
    · rw [upd_ne e, upd_ne (by omega)]
      exact h.wor9 hj
  · rw [hs 9 (by omega) (by omega), hs 10 (by omega) (by omega), r _ (by omega), r _ (by omega)]
    exact h.act hj
theorem price_eq (h : Rel a b n m K k l) {i v : Int32} : replR (a (21 + 8)) 8 i v (nI 99) = (if inZ i 8 = true then (if inZ v 100 = true then b 76 (44 + i.toNatClampNeg) else -1) else -1) ∧ Rel (replW a (21 + 8) 8 i v (nI 99)) (if inZ i 8 = true then (if inZ v 100 = true then vset b 76 (44 + i.toNatClampNeg) v else b) else b) n m K k l := by
  have hT := h.1.1
  by_cases q : inZ i 8 = true
  · obtain ⟨j, hj, rfl⟩ := inZ_ex q (by omega)
    have e := hT.wor hj
    rw [repl_in hj (by omega) (by omega), replW_in hj (by omega) (by omega), if_pos q, if_pos q, nI_clamp (by omega), e]
    by_cases qv : inZ v 100 = true
    · (repeat rw [if_pos qv])
      exact ⟨rfl, h.cell (c := 0) (by omega) (by omega) (by rw [show 44 + j = 0 + 44 + j by omega]; exact hT.wor1 hj (inZ_ex qv (by omega)))⟩
    · (repeat rw [if_neg qv])
      exact ⟨rfl, h⟩
  · have hr : ∀ v mx, replR (a (21 + 8)) 8 i v mx = -1 ∧ replW a (21 + 8) 8 i v mx = a := fun v mx => by
      unfold replR replW
      by_cases h1 : i < 0
      · rw [if_pos h1, if_pos h1]
        exact ⟨rfl, rfl⟩
      · rw [if_neg h1, if_neg h1]
        by_cases h2 : nI 8 ≤ i
        · rw [if_pos h2, if_pos h2]
          exact ⟨rfl, rfl⟩
        · exfalso
          apply q
          rw [inZ_iff]
          simp only [lt_toInt, le_toInt, nI_toInt (show 8 < 2 ^ 31 by decide), Int32.toInt_zero] at h1 h2
          omega
    rw [(hr v (nI 99)).1, (hr v (nI 99)).2, if_neg q, if_neg q]
    exact ⟨rfl, h⟩
end C1
