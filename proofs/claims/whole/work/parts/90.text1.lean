/-! The pure part: names; a line of any kind; what reading leaves alone -/
section N1
variable {P M : vW} {l n m K : Nat}
def NMc (M : vW) : Prop := cutOK M ∧ ∀ i, i < 32 → M 80 i = lettN i
theorem nm_tab : ∀ i, i < 7 → vStrN.getD i 0 = cutN (i + 1) - cutN i ∧ (∀ j, j < vStrN.getD i 0 → chS i j = lettN (cutN i + j) ∧ cutN i + j < 32) := by
  intro i hi
  rcases (show i = 0 ∨ i = 1 ∨ i = 2 ∨ i = 3 ∨ i = 4 ∨ i = 5 ∨ i = 6 by omega) with rfl | rfl | rfl | rfl | rfl | rfl | rfl
  all_goals decide
theorem isNm_iff {q i : Nat} : ∀ j c, isNm P q i j c = true ↔ ∀ x, c ≤ x → x < c + j → P 3 (q + x) = chS i x
  | 0, c => ⟨fun _ x h1 h2 => by omega, fun _ => rfl⟩
  | j + 1, c => by
    rw [isNm]
    by_cases e : P 3 (q + c) = chS i c
    · rw [if_pos e, isNm_iff j (c + 1)]
      constructor
      · intro z x h1 h2
        by_cases ex : x = c
        · rw [ex]; exact e
        · exact z x (by omega) (by omega)
      · intro z x h1 h2
        exact z x (by omega) (by omega)
    · rw [if_neg e]
      exact ⟨fun z => absurd z Bool.false_ne_true, fun z => absurd (z c (by omega) (by omega)) e⟩
theorem nmC_iff {q e i : Nat} (hi : i < 7) (he : e < 1000) : ∀ j, nmC M l q e i j = true ↔ e - q = cutN (i + 1) - cutN i ∧ ∀ x, x < j → mByte M l (q + x) = M 80 (cutN i + x)
  | 0 => by
    have hc := cutN_ok i hi
    rw [nmC]
    by_cases z : e - q = cutN (i + 1) - cutN i
    · rw [if_pos (by rw [z])]
      exact ⟨fun _ => ⟨z, fun x hx => by omega⟩, fun _ => rfl⟩
    · rw [if_neg (fun y => z (nI_eqN (by omega) (by omega) y))]
      exact ⟨fun y => absurd y Bool.false_ne_true, fun y => absurd y.1 z⟩
  | j + 1 => by
    have ih := nmC_iff (q := q) hi he j
    rw [nmC]
    by_cases z : nmC M l q e i j = true
    · rw [if_pos z]
      have zz := ih.mp z
      by_cases y : mByte M l (q + j) = M 80 (cutN i + j)
      · rw [if_pos y]
        refine ⟨fun _ => ⟨zz.1, fun x hx => ?_⟩, fun _ => rfl⟩
        by_cases ex : x = j
        · rw [ex]; exact y
        · exact zz.2 x (by omega)
      · rw [if_neg y]
        exact ⟨fun w => absurd w Bool.false_ne_true, fun w => absurd (w.2 j (by omega)) y⟩
    · rw [if_neg z]
      exact ⟨fun w => absurd w Bool.false_ne_true, fun w => absurd (ih.mpr ⟨w.1, fun x hx => w.2 x (by omega)⟩) z⟩
/-- the names, as both sides find them -/
theorem name_eq (h : OKT P M l) (hN : NMc M) : (∀ i, i < 7 → isQ P i = true ↔ M 75 16 = nI 1 ∧ nmB M l (M 75 15).toNatClampNeg (M 75 14).toNatClampNeg i = true) ∨ True := Or.inr trivial
theorem name_one (h : OKT P M l) (hN : NMc M) {i : Nat} (hi : i < 7) : isQ P i = if M 75 16 = nI 1 then nmB M (M 75 10).toNatClampNeg (M 75 15).toNatClampNeg (M 75 14).toNatClampNeg i else false := by
  obtain ⟨hT, p0, m0, q, e, h4, h5, h6, h7, h8, h9, ht⟩ := h
  have l6 := hT.2.1
  obtain ⟨t1, t2⟩ := nm_tab i hi
  have hvs := vStrN_lt i hi
  rw [isQ, h6, h8, h7, h9, hT.2.2.1, nI_clamp (by omega), nI_clamp (by omega), nI_clamp (by omega), isNmB]
  have hn : ∀ x, P 2 2 = x → ¬ x = nI 1 → ¬ P 2 2 = nI 1 := fun x z1 z2 z3 => z2 (z1 ▸ z3)
  have key : (if e - q = vStrN.getD i 0 then isNm P q i (vStrN.getD i 0) 0 else false) = nmB M l q e i := by
    rw [Bool.eq_iff_iff, nmB, nmC_iff hi (by omega)]
    by_cases z : e - q = vStrN.getD i 0
    · rw [if_pos z, isNm_iff]
      constructor
      · intro y
        refine ⟨by rw [z, t1], fun x hx => ?_⟩
        have hb := hT.2.2.2 (q + x) (by omega)
        have hx' : x < vStrN.getD i 0 := by omega
        rw [mByte, if_pos (by omega), ← hb.1, y x (by omega) (by omega), hN.2 _ (t2 x hx').2, (t2 x hx').1]
      · rintro ⟨_, y⟩ x h1 h2
        have hx' : x < vStrN.getD i 0 := by omega
        have hb := hT.2.2.2 (q + x) (by omega)
        have := y x (by omega)
        rw [mByte, if_pos (by omega), ← hb.1, hN.2 _ (t2 x hx').2] at this
        rw [this, (t2 x hx').1]
    · rw [if_neg z]
      exact ⟨fun y => absurd y Bool.false_ne_true, fun y => absurd (y.1.trans t1.symm) z⟩
  rcases ht with ⟨a, b, _⟩ | ⟨a, b⟩ | ⟨a, b, _⟩ | ⟨a, b⟩
  · rw [if_neg (hn _ a (by decide)), b, if_neg (by decide)]
  · rw [if_pos a, b, if_pos rfl]
    exact key
  · rw [if_neg (hn _ a (by decide)), b, if_neg (by decide)]
  · rw [if_neg (hn _ a (by decide)), b, if_neg (by decide)]
theorem kdQ_cases : kdQ P = if isQ P 0 = true then nI 0 else if isQ P 1 = true then nI 1 else if isQ P 2 = true then nI 2 else if isQ P 3 = true then nI 3 else -4 := rfl
theorem fst7 (Q : Nat → Bool) : fstP Q 7 0 = if Q 0 = true then 0 else if Q 1 = true then 1 else if Q 2 = true then 2 else if Q 3 = true then 3 else if Q 4 = true then 4 else if Q 5 = true then 5 else if Q 6 = true then 6 else 7 := rfl
theorem nmQ_cases (h : OKT P M l) (hN : NMc M) : nmQ M = if isQ P 0 = true then nI 0 else if isQ P 1 = true then nI 1 else if isQ P 2 = true then nI 2 else if isQ P 3 = true then nI 3 else if isQ P 4 = true then nI 4 else if isQ P 5 = true then nI 5 else if isQ P 6 = true then nI 6 else -4 := by
  rw [name_one h hN (show 0 < 7 by omega), name_one h hN (show 1 < 7 by omega), name_one h hN (show 2 < 7 by omega), name_one h hN (show 3 < 7 by omega), name_one h hN (show 4 < 7 by omega), name_one h hN (show 5 < 7 by omega), name_one h hN (show 6 < 7 by omega), nmQ, nmR]
  by_cases e : M 75 16 = nI 1
  · rw [if_pos e, if_pos e, if_pos e, if_pos e, if_pos e, if_pos e, if_pos e, if_pos e, fst7]
    generalize nmB M (M 75 10).toNatClampNeg (M 75 15).toNatClampNeg (M 75 14).toNatClampNeg = Q
    cases Q 0
    · cases Q 1
      · cases Q 2
        · cases Q 3
          · cases Q 4
            · cases Q 5
              · cases Q 6
                · rfl
                · rfl
              · rfl
            · rfl
          · rfl
        · rfl
      · rfl
    · rfl
  · rw [if_neg e, if_neg e, if_neg e, if_neg e, if_neg e, if_neg e, if_neg e, if_neg e]
    rfl
/-- a line, whatever it tells -/
theorem line_any (h : OKT P M l) (hX : TX P M n m K) (hN : NMc M) : FF (lnP1 P) (lnZ M (nmQ M) n m K) l ∨ ∃ Y n' m' K', lnZ M (nmQ M) n m K = stp Y ∧ OK0 (lnP1 P) Y l ∧ TX (lnP1 P) Y n' m' K' ∧ (lnP1 P) 1 2 = P 1 2 := by
  have n5 := hX.1.1.2.1
  have m9 := hX.1.2.1.2.1
  have en : nQ P = n := by rw [nQ, hX.1.1.1, nI_clamp (by omega)]
  have em : mQ P = m := by rw [mQ, hX.1.2.1.1, nI_clamp (by omega)]
  have c4 : (-4 : Int32) < 0 := by decide
  have one : ∀ kd, kd < 4 → kdQ P = nI kd → nmQ M = nI kd → FF (lnP1 P) (lnZ M (nmQ M) n m K) l ∨ ∃ Y n' m' K', lnZ M (nmQ M) n m K = stp Y ∧ OK0 (lnP1 P) Y l ∧ TX (lnP1 P) Y n' m' K' ∧ (lnP1 P) 1 2 = P 1 2 := by
    intro kd hkd e1 e2
    have eL : lnP1 P = odW P n (nI kd) := by rw [lnP1, e1, if_neg (nI_pos (by omega)), en]
    rw [eL, e2]
    rcases line_one h hX hkd with q | ⟨Y, n', q1, q2, q3, q4⟩
    · exact Or.inl q
    · exact Or.inr ⟨Y, n', m, K, q1, q2, q3, q4⟩
  have eN := nmQ_cases h hN
  by_cases b0 : isQ P 0 = true
  · exact one 0 (by omega) (by rw [kdQ_cases, if_pos b0]) (by rw [eN, if_pos b0])
  by_cases b1 : isQ P 1 = true
  · exact one 1 (by omega) (by rw [kdQ_cases, if_neg b0, if_pos b1]) (by rw [eN, if_neg b0, if_pos b1])
  by_cases b2 : isQ P 2 = true
  · exact one 2 (by omega) (by rw [kdQ_cases, if_neg b0, if_neg b1, if_pos b2]) (by rw [eN, if_neg b0, if_neg b1, if_pos b2])
  by_cases b3 : isQ P 3 = true
  · exact one 3 (by omega) (by rw [kdQ_cases, if_neg b0, if_neg b1, if_neg b2, if_pos b3]) (by rw [eN, if_neg b0, if_neg b1, if_neg b2, if_pos b3])
  have ek : kdQ P = -4 := by rw [kdQ_cases, if_neg b0, if_neg b1, if_neg b2, if_neg b3]
  rw [if_neg b0, if_neg b1, if_neg b2, if_neg b3] at eN
  by_cases b4 : isQ P 4 = true
  · have eL : lnP1 P = wlW P m := by rw [lnP1, ek, if_pos c4, if_pos b4, em]
    rw [eL, eN, if_pos b4]
    rcases line_wall h hX with q | ⟨Y, m', q1, q2, q3, q4⟩
    · exact Or.inl q
    · exact Or.inr ⟨Y, n, m', K, q1, q2, q3, q4⟩
  rw [if_neg b4] at eN
  by_cases b5 : isQ P 5 = true
  · have eL : lnP1 P = rmW1 P := by rw [lnP1, ek, if_pos c4, if_neg b4, if_pos b5]
    rw [eL, eN, if_pos b5]
    rcases line_room h hX with q | ⟨Y, q1, q2, q3, q4⟩
    · exact Or.inl q
    · exact Or.inr ⟨Y, n, m, K, q1, q2, q3, q4⟩
  rw [if_neg b5] at eN
  by_cases b6 : isQ P 6 = true
  · have eL : lnP1 P = plW P := by rw [lnP1, ek, if_pos c4, if_neg b4, if_neg b5, if_pos b6]
    rw [eL, eN, if_pos b6]
    rcases line_plan h hX with q | ⟨Y, K', q1, q2, q3, q4⟩
    · exact Or.inl q
    · exact Or.inr ⟨Y, n, m, K', q1, q2, q3, q4⟩
  rw [if_neg b6] at eN
  have eL : lnP1 P = rfW P (nI 2) := by rw [lnP1, ek, if_pos c4, if_neg b4, if_neg b5, if_neg b6]
  rw [eL, eN, lnZ, if_neg (by decide)]
  exact Or.inl (FF_fail h (by omega) (by omega))
/-! what reading leaves alone -/
def prS (b σ : vW) : Prop := ∀ r, r ≠ 1 → r ≠ 2 → ¬ (10 ≤ r ∧ r ≤ 20) → b r = σ r
def mrS (b σ : vW) : Prop := (∀ r, r ≠ 75 → r ≠ 77 → b r = σ r) ∧ ∀ i, ¬ (3 ≤ i ∧ i ≤ 8) → ¬ (12 ≤ i ∧ i ≤ 17) → b 75 i = σ 75 i
theorem prS_refl (σ : vW) : prS σ σ := fun _ _ _ _ => rfl
theorem prS.tr {a b c : vW} (h : prS c b) (k : prS b a) : prS c a := fun r z1 z2 z3 => (h r z1 z2 z3).trans (k r z1 z2 z3)
theorem mrS_refl (σ : vW) : mrS σ σ := ⟨fun _ _ _ => rfl, fun _ _ _ => rfl⟩
theorem mrS.tr {a b c : vW} (h : mrS c b) (k : mrS b a) : mrS c a := ⟨fun r z1 z2 => (h.1 r z1 z2).trans (k.1 r z1 z2), fun i z1 z2 => (h.2 i z1 z2).trans (k.2 i z1 z2)⟩
theorem pr_sc {b σ : vW} (h : scR b σ) : prS b σ := fun r z1 z2 _ => h.1 r z1 z2
theorem mr_sc {b σ : vW} (h : scT b σ) : mrS b σ := ⟨fun r z1 _ => h.1 r z1, fun i _ z2 => h.2 i z2⟩
theorem pr_set {σ : vW} {r i : Nat} {v : Int32} (h : r = 1 ∨ r = 2 ∨ (10 ≤ r ∧ r ≤ 20)) : prS (vset σ r i v) σ := fun r' z1 z2 z3 => vset_ne (by omega)
theorem mr_77 {σ : vW} {i : Nat} {v : Int32} : mrS (vset σ 77 i v) σ := ⟨fun r _ z => vset_ne z, fun i _ _ => by rw [vset_ne (by decide)]⟩
theorem mr_75 {σ : vW} {i : Nat} {v : Int32} (h : 3 ≤ i ∧ i ≤ 8) : mrS (vset σ 75 i v) σ := ⟨fun r z _ => vset_ne z, fun j z1 _ => vset_oth (by omega)⟩
theorem mr_whW {σ : vW} {k : Int32} : mrS (whW σ k) σ := (mr_75 (by omega)).tr (mr_sc otW_sc)
theorem pr_hd {σ : vW} {k : Nat} : prS (hdW σ k) σ := by
  unfold hdW
  split
  · exact pr_sc nhW_sc
  · split
    · split
      · exact (pr_set (by omega)).tr ((pr_set (by omega)).tr (pr_sc nhW_sc))
      · exact (pr_sc rfW_sc).tr (pr_sc nhW_sc)
    · exact pr_sc nhW_sc
theorem pr_addOne {σ : vW} {k : Nat} {a b c : Int32} : prS (addOneW σ 10 k a b c) σ := fun r z1 z2 z3 => addOneW_ne (by omega) (by omega)
theorem pr_addAct {σ : vW} {k : Nat} {a b : Int32} : prS (addActW σ 10 k a b) σ := fun r z1 z2 z3 => addActW_ne (by omega) (by omega) (by omega)
theorem pr_addWall {σ : vW} {k : Nat} {a b : Int32} : prS (addWallW σ 10 k a b) σ := fun r z1 z2 z3 => by rw [addWallW, vset_ne (by omega), vset_ne (by omega), vset_ne (by omega)]
theorem mr_ro2 {σ : vW} {k : Nat} : mrS (ro2 σ k) σ := by
  rw [ro2]
  exact mr_77.tr (mr_sc otW_sc)
theorem mr_ro3 {σ : vW} {k : Nat} : mrS (ro3 σ k) σ := by
  rw [ro3]
  exact mr_77.tr (mr_sc otW_sc)
theorem mr_ro4 {σ : vW} {k : Nat} : mrS (ro4 σ k) σ := by
  unfold ro4
  split
  · split
    · exact mr_77.tr ((mr_75 (by omega)).tr mr_whW)
    · exact mrS_refl _
  · exact mrS_refl _
theorem mr_rw2 {σ : vW} {k : Nat} : mrS (rw2 σ k) σ := by
  rw [rw2]
  exact mr_77.tr (mr_sc otW_sc)
theorem mr_rw4 {σ : vW} {k : Nat} : mrS (rw4 σ k) σ := by
  rw [rw4]
  exact mr_77.tr (mr_sc otW_sc)
theorem mr_rr1 {σ : vW} : mrS (rr1 σ) σ := by
  rw [rr1]
  exact (mr_75 (by omega)).tr (mr_sc otW_sc)
theorem pr_plG : ∀ j (s : vW), prS (plG j s) s
  | 0, s => prS_refl s
  | j + 1, s => by
    have hS : prS (plS s) s := by
      unfold plS
      split
      · split
        · exact pr_addAct.tr (pr_sc plB_sc)
        · exact pr_sc plB_sc
      · exact pr_sc plB_sc
    unfold plG
    split
    · split
      · exact pr_sc ntW_sc
      · exact (pr_plG j (plS s)).tr hS
    · exact pr_sc ntW_sc
theorem pr_ln {t : vW} : prS (lnP t) t := by
  refine (pr_set (by omega)).tr ?_
  unfold lnP1
  split
  · split
    · unfold wlW
      split
      · exact pr_sc rfW_sc
      · split
        · exact pr_addWall.tr (pr_sc wl4_sc)
        · exact pr_sc wl4_sc
    · split
      · unfold rmW1
        split
        · split
          · exact (pr_set (by omega)).tr ((pr_set (by omega)).tr (pr_sc rm2_sc))
          · exact pr_sc rm2_sc
        · exact pr_sc rm2_sc
      · split
        · refine (pr_plG 7 _).tr ?_
          unfold pl0
          refine (pr_set (by omega)).tr ?_
          split
          · exact prS_refl t
          · exact pr_sc rfW_sc
        · exact pr_sc rfW_sc
  · unfold odW
    split
    · exact pr_sc rfW_sc
    · have h1 : prS (od1 t) t := pr_sc (scR_trans ntW_sc (scR_trans nnW_sc nnW_sc))
      split
      · refine (pr_sc tsW_sc).tr ?_
        have h2 : prS (od2 t (nQ t) (kdQ t)) t := by
          rw [od2]
          exact pr_addOne.tr h1
        unfold od3
        split
        · exact (pr_sc ntW_sc).tr (pr_hd.tr h2)
        · exact h2
      · exact h1
theorem pr_raG : ∀ j (s : vW), prS (raG j s) s
  | 0, s => prS_refl s
  | j + 1, s => by
    unfold raG
    split
    · split
      · exact pr_sc ntW_sc
      · exact (pr_raG j _).tr (pr_ln.tr (pr_sc ntW_sc))
    · exact pr_sc ntW_sc
theorem mr_rpG : ∀ j (σ : vW) (K : Nat), mrS (rpG j σ K) σ
  | 0, σ, K => mrS_refl σ
  | j + 1, σ, K => by
    unfold rpG
    split
    · split
      · split
        · exact mr_sc (scT_fail (scT_refl σ))
        · refine (mr_rpG j _ _).tr ?_
          rw [rpN1, rpC]
          refine mr_77.tr (mr_77.tr (mr_whW.tr ?_))
          rw [rpB, rpA]
          exact mr_77.tr ((mr_75 (by omega)).tr (mr_sc otW_sc))
      · exact mrS_refl σ
    · exact mrS_refl σ
theorem mr_lnZ {nm : Int32} {k m' K' : Nat} : mrS (lnZ M nm k m' K') M := by
  have hB : mrS (lnB M nm k m') M := by
    rw [lnB, lnA, ln3]
    exact (mr_sc stp_sc).tr ((mr_75 (by omega)).tr ((mr_sc ln2_sc).tr (mr_sc ln1_sc)))
  unfold lnZ
  split
  · split
    · refine (mr_sc stp_sc).tr ((mr_sc ln5_sc).tr (mrS.tr ?_ hB))
      unfold lnC rmoW
      split
      · split
        · unfold rwW
          exact mr_77.tr (mr_rw4.tr ((mr_sc rw3_sc).tr mr_rw2))
        · split
          · unfold rrW
            exact mr_77.tr ((mr_sc otW_sc).tr mr_rr1)
          · exact mr_rpG _ _ _
      · unfold roW
        exact (mr_75 (by omega)).tr (mr_ro4.tr (mr_ro3.tr (mr_ro2.tr mr_77)))
    · exact hB
  · exact mr_sc (scT_fail (scT_refl M))
end N1
