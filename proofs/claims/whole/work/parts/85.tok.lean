/-! The pure part: tokens, the same on both sides -/
def tpR (P M : vW) (l : Nat) : Prop := P 2 1 = nI l ∧ l ≤ 160 ∧ M 75 10 = nI l ∧ ∀ j, j < l → P 3 j = M 78 j ∧ ∃ c, c < 128 ∧ M 78 j = nI c
def FF (P M : vW) (l : Nat) : Prop := tpR P M l ∧ ∃ c, 1 ≤ c ∧ c < 10 ∧ P 1 3 = nI c ∧ M 75 12 = nI c ∧ P 1 4 = M 75 13
def OK0 (P M : vW) (l : Nat) : Prop := tpR P M l ∧ P 1 3 = 0 ∧ M 75 12 = 0 ∧ ∃ p, p ≤ l ∧ P 2 5 = nI p ∧ M 75 14 = nI p
def tkE (P M : vW) (l : Nat) : Prop := ∃ q e, q ≤ e ∧ e ≤ l ∧ P 2 3 = nI q ∧ M 75 15 = nI q ∧ P 2 5 = nI e ∧ M 75 14 = nI e ∧
  ((P 2 2 = nI 4 ∧ M 75 16 = nI 0 ∧ q = l) ∨ (P 2 2 = nI 1 ∧ M 75 16 = nI 1) ∨ (P 2 2 = nI 2 ∧ M 75 16 = nI 2 ∧ ∃ v, v ≤ 99 ∧ P 2 4 = nI v ∧ M 75 17 = nI v) ∨ (P 2 2 = nI 3 ∧ M 75 16 = nI 3))
def OKT (P M : vW) (l : Nat) : Prop := tpR P M l ∧ P 1 3 = 0 ∧ M 75 12 = 0 ∧ tkE P M l
section TK
variable {P M P' M' : vW} {l : Nat}
theorem tpR.mv (h : tpR P M l) (h1 : P' 2 1 = P 2 1) (h2 : P' 3 = P 3) (h3 : M' 75 10 = M 75 10) (h4 : M' 78 = M 78) : tpR P' M' l := by
  unfold tpR
  rw [h1, h2, h3, h4]
  exact h
theorem OKT.mv (h : OKT P M l) (h1 : P' 1 3 = P 1 3) (h2 : P' 2 = P 2) (h3 : P' 3 = P 3) (h4 : ∀ i, 10 ≤ i → i ≤ 17 → M' 75 i = M 75 i) (h5 : M' 78 = M 78) : OKT P' M' l := by
  refine ⟨h.1.mv (by rw [h2]) h3 (h4 10 (by omega) (by omega)) h5, h1.trans h.2.1, (h4 12 (by omega) (by omega)).trans h.2.2.1, ?_⟩
  unfold tkE
  rw [h2, h4 14 (by omega) (by omega), h4 15 (by omega) (by omega), h4 16 (by omega) (by omega), h4 17 (by omega) (by omega)]
  exact h.2.2.2
theorem OKT.pre (h : OKT P M l) : OK0 P M l := by
  obtain ⟨h1, h2, h3, q, e, h4, h5, h6, h7, h8, h9, _⟩ := h
  exact ⟨h1, h2, h3, e, h5, h8, h9⟩
/-- what a side keeps: its fault, once it has one; its tape -/
def pkS (b σ : vW) : Prop := (¬ σ 1 3 = 0 → b 1 3 = σ 1 3 ∧ b 1 4 = σ 1 4) ∧ b 2 1 = σ 2 1 ∧ b 3 = σ 3
def mkS (b σ : vW) : Prop := (¬ σ 75 12 ≤ 0 → b 75 12 = σ 75 12 ∧ b 75 13 = σ 75 13) ∧ b 75 10 = σ 75 10 ∧ b 78 = σ 78
theorem pkS_refl (σ : vW) : pkS σ σ := ⟨fun _ => ⟨rfl, rfl⟩, rfl, rfl⟩
theorem mkS_refl (σ : vW) : mkS σ σ := ⟨fun _ => ⟨rfl, rfl⟩, rfl, rfl⟩
theorem pkS.tr {a b c : vW} (h : pkS c b) (k : pkS b a) : pkS c a := ⟨fun z => by
  obtain ⟨k1, k2⟩ := k.1 z
  obtain ⟨h1, h2⟩ := h.1 (by rw [k1]; exact z)
  exact ⟨h1.trans k1, h2.trans k2⟩, h.2.1.trans k.2.1, h.2.2.trans k.2.2⟩
theorem mkS.tr {a b c : vW} (h : mkS c b) (k : mkS b a) : mkS c a := ⟨fun z => by
  obtain ⟨k1, k2⟩ := k.1 z
  obtain ⟨h1, h2⟩ := h.1 (by rw [k1]; exact z)
  exact ⟨h1.trans k1, h2.trans k2⟩, h.2.1.trans k.2.1, h.2.2.trans k.2.2⟩
theorem FF.keep (h : FF P M l) (hp : pkS P' P) (hm : mkS M' M) : FF P' M' l := by
  obtain ⟨h1, c, c1, c2, c3, c4, c5⟩ := h
  have z1 : ¬ P 1 3 = 0 := by
    rw [c3]
    intro z
    have := nI_eqN (b := 0) (by omega) (by omega) z
    omega
  have z2 : ¬ M 75 12 ≤ 0 := by
    rw [c4, le_toInt, nI_toInt (by omega), Int32.toInt_zero]
    omega
  obtain ⟨p1, p2⟩ := hp.1 z1
  obtain ⟨m1, m2⟩ := hm.1 z2
  exact ⟨h1.mv hp.2.1 hp.2.2 hm.2.1 hm.2.2, c, c1, c2, p1.trans c3, m1.trans c4, by rw [p2, m2]; exact c5⟩
theorem pk_of {b σ : vW} (h1 : b 1 3 = σ 1 3) (h2 : b 1 4 = σ 1 4) (h3 : b 2 1 = σ 2 1) (h4 : b 3 = σ 3) : pkS b σ := ⟨fun _ => ⟨h1, h2⟩, h3, h4⟩
theorem pk_row {σ : vW} {r i : Nat} {v : Int32} (h : 10 ≤ r) : pkS (vset σ r i v) σ := pk_of (by rw [vset_ne (by omega)]) (by rw [vset_ne (by omega)]) (by rw [vset_ne (by omega)]) (vset_ne (by omega))
theorem pk_fld {σ : vW} {i : Nat} {v : Int32} (h : i ≠ 3 ∧ i ≠ 4) : pkS (vset σ 1 i v) σ := pk_of (vset_oth (Ne.symm h.1)) (vset_oth (Ne.symm h.2)) (by rw [vset_ne (by decide)]) (vset_ne (by decide))
theorem pk_rf {σ : vW} {c : Int32} : pkS (rfW σ c) σ := by
  refine ⟨fun z => ?_, by rw [rfW_2], rfW_sc.1 3 (by decide) (by decide)⟩
  rw [rfW, if_neg z]
  exact ⟨rfl, rfl⟩
theorem pk_nt {σ : vW} : pkS (ntW σ) σ := by
  refine ⟨fun z => ?_, ntW_sc.2.2 1 (by omega), ntW_sc.1 3 (by decide) (by decide)⟩
  rw [ntW, if_neg z]
  exact ⟨rfl, rfl⟩
theorem pk_nh {σ : vW} {mx : Int32} : pkS (nhW σ mx) σ := by
  refine ⟨fun z => ?_, by rw [nhW_2], nhW_sc.1 3 (by decide) (by decide)⟩
  rw [nhW, nh1, if_neg z, nh2, if_neg z]
  exact ⟨rfl, rfl⟩
theorem pk_ts {σ : vW} : pkS (tsW σ) σ := by
  unfold tsW
  split
  · split
    · exact pkS_refl σ
    · exact pk_rf
  · exact pkS_refl σ
theorem nnW_eq {σ : vW} {mx : Int32} : nnW σ mx = nhW (ntW σ) mx := by
  rw [nnW]
  split
  · rfl
  · rename_i z
    have e : ¬ (ntW σ) 1 3 = 0 := fun q => z (by rw [ntB, if_pos q])
    rw [nhW, nh1, if_neg e, nh2, if_neg e]
theorem nnR_eq {σ : vW} {mx : Int32} : nnR σ mx = nhR (ntW σ) mx := by
  rw [nnR]
  split
  · rfl
  · rename_i z
    have e : ¬ (ntW σ) 1 3 = 0 := fun q => z (by rw [ntB, if_pos q])
    rw [nhR, nhW, nh1, if_neg e, nh2, if_neg e, if_neg e]
theorem pk_nn {σ : vW} {mx : Int32} : pkS (nnW σ mx) σ := by
  rw [nnW_eq]
  exact pk_nh.tr pk_nt
theorem le0 {v : Int32} (h : v = 0) : v ≤ 0 := by
  rw [h]
  decide
theorem mk_fail {σ : vW} {c : Int32} : mkS (failW σ c) σ := by
  refine ⟨fun z => ?_, failW_oth (by decide) (by decide), (scT_fail (scT_refl σ)).1 78 (by decide)⟩
  rw [failW, if_neg (fun q => z (le0 q))]
  exact ⟨rfl, rfl⟩
theorem mk_stp {σ : vW} : mkS (stp σ) σ := by
  refine ⟨fun z => ?_, stp_sc.2 10 (by omega), stp_sc.1 78 (by decide)⟩
  rw [stp_id z]
  exact ⟨rfl, rfl⟩
theorem mk_77 {σ : vW} {i : Nat} {v : Int32} : mkS (vset σ 77 i v) σ := ⟨fun _ => ⟨by rw [vset_ne (by decide)], by rw [vset_ne (by decide)]⟩, by rw [vset_ne (by decide)], vset_ne (by decide)⟩
theorem mk_75 {σ : vW} {i : Nat} {v : Int32} (h : ¬ (10 ≤ i ∧ i ≤ 17)) : mkS (vset σ 75 i v) σ := ⟨fun _ => ⟨vset_oth (by omega), vset_oth (by omega)⟩, vset_oth (by omega), vset_ne (by decide)⟩
theorem mk_ot1 {σ : vW} : mkS (ot1 σ) σ := by
  unfold ot1
  split
  · split
    · exact mkS_refl σ
    · exact mk_fail
  · exact mkS_refl σ
theorem mk_ot2 {σ : vW} {lo hi : Int32} : mkS (ot2 σ lo hi) σ := by
  unfold ot2
  split
  · split
    · exact mkS_refl σ
    · exact mk_fail
  · exact mkS_refl σ
theorem mk_ot3 {σ : vW} {k : Int32} : mkS (ot3 σ k) σ := by
  unfold ot3
  split
  · split
    · exact mkS_refl σ
    · split
      · exact mk_fail
      · exact mkS_refl σ
  · exact mkS_refl σ
theorem mk_otA {σ : vW} {lo hi k : Int32} : mkS (otA σ lo hi k) σ := mk_ot3.tr (mk_ot2.tr mk_ot1)
theorem mk_otW {σ : vW} {lo hi k : Int32} : mkS (otW σ lo hi k) σ := mk_stp.tr mk_otA
theorem mk_whW {σ : vW} {k : Int32} : mkS (whW σ k) σ := (mk_75 (by omega)).tr mk_otW
/-- a fault told by both -/
theorem FF_fail {c : Nat} (h : OKT P M l) (h1 : 1 ≤ c) (h2 : c < 10) : FF (rfW P (nI c)) (failW M (nI c)) l := by
  obtain ⟨k1, k2, k3, q, e, k4, k5, k6, k7, k8, k9, _⟩ := h
  refine ⟨k1.mv (by rw [rfW_2]) (rfW_sc.1 3 (by decide) (by decide)) (failW_oth (by decide) (by decide)) ((scT_fail (scT_refl M)).1 78 (by decide)), c, h1, h2, ?_, ?_, ?_⟩
  · rw [rfW, if_pos k2, vset_oth (by decide), vset_at]
  · rw [failW, if_pos k3, vset_oth (by decide), vset_at]
  · rw [rfW, if_pos k2, vset_at, failW, if_pos k3, vset_at, k6, k7]
theorem byt_cl (h : tpR P M l) {j : Nat} (hj : j < 1000) : (j < l ∧ ∃ c, c < 128 ∧ bC P l j = nI c ∧ mByte M l j = nI c) ∨ (l ≤ j ∧ bC P l j = -1 ∧ mByte M l j = -4) := by
  rcases Nat.lt_or_ge j l with q | q
  · obtain ⟨e1, c, hc, e2⟩ := h.2.2.2 j q
    exact Or.inl ⟨q, c, hc, by rw [bC, if_pos q, e1, e2], by rw [mByte, if_pos q, e2]⟩
  · exact Or.inr ⟨q, by rw [bC, if_neg (by omega)], by rw [mByte, if_neg (by omega)]⟩
theorem cls_all : ∀ c, c < 128 → (isLow (nI c) = decide (tokOf (nI c) = nI 1)) ∧ (isDig (nI c) = decide (tokOf (nI c) = nI 2)) ∧ (decide (nI c = nI 59) = decide (tokOf (nI c) = nI 3)) ∧ ¬ nI c = -4 ∧ (tokOf (nI c) = nI 0 ∨ tokOf (nI c) = nI 1 ∨ tokOf (nI c) = nI 2 ∨ tokOf (nI c) = nI 3) ∧ (tokOf (nI c) = nI 2 → 48 ≤ c ∧ c ≤ 57) := by decide +kernel
theorem sk_eq (h : tpR P M l) {p : Nat} (hp : p ≤ l) : rkB P l p = skB M l p := by
  have h6 := h.2.1
  refine fstP_ext (l - p) p (fun j h1 h2 => ?_)
  rcases byt_cl h (j := j) (by omega) with ⟨_, c, hc, e1, e2⟩ | ⟨z, _⟩
  · rw [e1, e2]
  · omega
theorem skL_eq (h : tpR P M l) {q : Nat} (hq : q < l) (ht : tokOf (bC P l q) = nI 1) : rkT P l q = skL M l q := by
  have h6 := h.2.1
  refine fstP_ext (l - q) q (fun j h1 h2 => ?_)
  rcases byt_cl h (j := j) (by omega) with ⟨_, c, hc, e1, e2⟩ | ⟨z, _⟩
  · rw [e1, e2, ht, (cls_all c hc).1]
    by_cases z : tokOf (nI c) = nI 1
    · rw [if_pos z, decide_eq_true z, if_pos rfl]
    · rw [if_neg z, decide_eq_false z, if_neg Bool.false_ne_true]
  · omega
theorem skD_eq (h : tpR P M l) {q : Nat} (hq : q < l) (ht : tokOf (bC P l q) = nI 2) : rkT P l q = skD M l q := by
  have h6 := h.2.1
  refine fstP_ext (l - q) q (fun j h1 h2 => ?_)
  rcases byt_cl h (j := j) (by omega) with ⟨_, c, hc, e1, e2⟩ | ⟨z, _⟩
  · rw [e1, e2, ht, (cls_all c hc).2.1]
    by_cases z : tokOf (nI c) = nI 2
    · rw [if_pos z, decide_eq_true z, if_pos rfl]
    · rw [if_neg z, decide_eq_false z, if_neg Bool.false_ne_true]
  · omega
theorem fstP_not {Q : Nat → Bool} : ∀ n k j, k ≤ j → j < fstP Q n k → Q j = false
  | 0, k, j, h1, h2 => by
    unfold fstP at h2
    omega
  | n + 1, k, j, h1, h2 => by
    unfold fstP at h2
    split at h2
    · omega
    · rename_i z
      by_cases e : j = k
      · rw [e]
        exact Bool.eq_false_iff.mpr z
      · exact fstP_not n (k + 1) j (by omega) h2
/-- the value of a number of one or two digits -/
theorem num_val (h : tpR P M l) {q d : Nat} (hd : d ≤ 2) (hqd : q + d ≤ l) (hdig : ∀ j, q ≤ j → j < q + d → ∃ c, 48 ≤ c ∧ c ≤ 57 ∧ P 3 j = nI c ∧ mByte M l j = nI c) : ∃ v, v ≤ 99 ∧ rkV P q d = nI v ∧ dgV M l q d = nI v := by
  have one : ∀ v c : Nat, 48 ≤ c → c ≤ 57 → v ≤ 9 → nI v * nI 10 + nI c - nI 48 = nI (v * 10 + (c - 48)) ∧ nI 10 * nI v + nI c - nI 48 = nI (v * 10 + (c - 48)) := fun v c h1 h2 h3 => by
    rw [nI_mul, nI_mul, nI_add, nI_add, nI_subN (by omega), nI_subN (by omega)]
    exact ⟨congrArg nI (by omega), congrArg nI (by omega)⟩
  rcases (show d = 0 ∨ d = 1 ∨ d = 2 by omega) with rfl | rfl | rfl
  · exact ⟨0, by omega, rfl, rfl⟩
  · obtain ⟨c, c1, c2, c3, c4⟩ := hdig q (by omega) (by omega)
    obtain ⟨o1, o2⟩ := one 0 c c1 c2 (by omega)
    refine ⟨0 * 10 + (c - 48), by omega, ?_, ?_⟩
    · rw [rkV, rkV, Nat.add_zero, c3]
      exact o1
    · rw [dgV, dgV, if_neg (by decide), Nat.add_zero, c4]
      exact o2
  · obtain ⟨c, c1, c2, c3, c4⟩ := hdig q (by omega) (by omega)
    obtain ⟨c', d1, d2, d3, d4⟩ := hdig (q + 1) (by omega) (by omega)
    obtain ⟨o1, o2⟩ := one 0 c c1 c2 (by omega)
    obtain ⟨u1, u2⟩ := one (0 * 10 + (c - 48)) c' d1 d2 (by omega)
    refine ⟨(0 * 10 + (c - 48)) * 10 + (c' - 48), by omega, ?_, ?_⟩
    · rw [rkV, rkV, rkV, Nat.add_zero, c3, d3, o1]
      exact u1
    · rw [dgV, dgV, dgV, if_neg (by decide), if_neg (by decide), Nat.add_zero, c4, d4, o2]
      exact u2
/-- one token further: both sides -/
theorem L_nt (h : OK0 P M l) : FF (ntW P) (stp M) l ∨ OKT (ntW P) (stp M) l := by
  obtain ⟨hT, p0, m0, p, hp, p5, m14⟩ := h
  have l6 := hT.2.1
  have hTn : tpR (ntW P) (stp M) l := hT.mv pk_nt.2.1 pk_nt.2.2 mk_stp.2.1 mk_stp.2.2
  have eM : stp M = stW1 M l (skB M l p) := by rw [stp, hT.2.2.1, m14, nI_clamp (by omega), nI_clamp (by omega), stW, if_pos (le0 m0)]
  have eR : rkQ P = rkW1 P l (skB M l p) := by rw [rkQ, hT.1, p5, nI_clamp (by omega), nI_clamp (by omega), rkW, sk_eq hT hp]
  have hb := skB_le (σ := M) hp
  generalize skB M l p = q at eM eR hb
  -- the program's cells
  have r1 : ∀ i, (rkW1 P l q) 1 i = P 1 i := fun i => by rw [← eR, rkQ_1]
  have a2 : (rk0 P l q) 2 2 = tokOf (bC P l q) := by rw [rk0, vset_at]
  have a3 : (rk0 P l q) 2 3 = nI q := by rw [rk0, vset_oth (by decide), vset_oth (by decide), vset_at]
  have a5 : (rk0 P l q) 2 5 = nI q := by rw [rk0, vset_oth (by decide), vset_oth (by decide), vset_oth (by decide), vset_at]
  have b2 : (rk1 P l q) 2 2 = tokOf (bC P l q) := by rw [rk1, vset_oth (by decide), vset_oth (by decide)]; exact a2
  have b3 : (rk1 P l q) 2 3 = nI q := by rw [rk1, vset_oth (by decide), vset_oth (by decide)]; exact a3
  have b5 : (rk1 P l q) 2 5 = nI (rkT P l q) := by rw [rk1, vset_at]
  have b4 : (rk1 P l q) 2 4 = rkV P q (rkT P l q - q) := by rw [rk1, vset_oth (by decide), vset_at]
  -- the model's
  have s12 : (stW0 M q) 75 12 = 0 := by rw [stW0, vset_oth (by decide), vset_oth (by decide), vset_oth (by decide)]; exact m0
  have s15 : (stW0 M q) 75 15 = nI q := by rw [stW0, vset_oth (by decide), vset_at]
  have s14 : (stW0 M q) 75 14 = nI q := by rw [stW0, vset_oth (by decide), vset_oth (by decide), vset_at]
  -- a token that is none
  have hbad : (rkW1 P l q) 2 2 = 0 → (rkW1 P l q) 2 3 = nI q → (∃ S, stW1 M l q = failW S (nI 1) ∧ S 75 12 = 0 ∧ S 75 15 = nI q) → FF (ntW P) (stp M) l := by
    rintro z z3 ⟨S, e, eS, eS5⟩
    have eN : ntW P = rfW (rkW1 P l q) (nI 1) := by rw [ntW, if_pos p0, eR, if_pos z]
    have r0 : (rkW1 P l q) 1 3 = 0 := by rw [r1, p0]
    refine ⟨hTn, 1, by omega, by omega, ?_, ?_, ?_⟩
    · rw [eN, rfW, if_pos r0, vset_oth (by decide), vset_at]
    · rw [eM, e, failW, if_pos eS, vset_oth (by decide), vset_at]
    · rw [eN, rfW, if_pos r0, vset_at, eM, e, failW, if_pos eS, vset_at, z3, eS5]
  have hgood : ¬ (rkW1 P l q) 2 2 = 0 → (stW1 M l q) 75 12 = 0 → tkE (rkW1 P l q) (stW1 M l q) l → OKT (ntW P) (stp M) l := by
    intro z z2 ht
    have eN : ntW P = rkW1 P l q := by rw [ntW, if_pos p0, eR, if_neg z]
    refine ⟨hTn, by rw [eN, r1, p0], by rw [eM, z2], ?_⟩
    rw [eN, eM]
    exact ht
  have z14 : ¬ nI 4 = 0 := by decide
  have z11 : ¬ nI 1 = 0 := by decide
  have z12 : ¬ nI 2 = 0 := by decide
  have z13 : ¬ nI 3 = 0 := by decide
  rcases byt_cl hT (j := q) (by omega) with ⟨hql, c, hc, e1, e2⟩ | ⟨hql, e1, e2⟩
  · obtain ⟨k1, k2, k3, k4, k5, k6⟩ := cls_all c hc
    have n4 : ¬ mByte M l q = -4 := by rw [e2]; exact k4
    rcases k5 with t | t | t | t
    · -- none
      have et : tokOf (bC P l q) = nI 0 := by rw [e1]; exact t
      have eRk : rkW1 P l q = rk0 P l q := by
        rw [rkW1, et, if_neg (by decide), if_neg (by decide), if_neg (by decide)]
      left
      apply hbad
      · rw [eRk, a2, et]
        rfl
      · rw [eRk, a3]
      · refine ⟨vset (vset (stW0 M q) 75 16 (nI 3)) 75 14 (nI (q + 1)), ?_, ?_, ?_⟩
        · have x3 : ¬ mByte M l q = nI 59 := by
            rw [e2]
            intro z
            rw [decide_eq_true z, t] at k3
            exact absurd k3 (by decide)
          rw [stW1, if_neg n4, e2, k1, t, if_neg (by decide), k2, t, if_neg (by decide), if_neg (by rw [← e2]; exact x3)]
        · rw [vset_oth (by decide), vset_oth (by decide)]
          exact s12
        · rw [vset_oth (by decide), vset_oth (by decide)]
          exact s15
    · -- a name
      have et : tokOf (bC P l q) = nI 1 := by rw [e1]; exact t
      have eRk : rkW1 P l q = rk1 P l q := by rw [rkW1, et, if_neg (by decide), if_pos rfl]
      have eSt : stW1 M l q = vset (vset (stW0 M q) 75 14 (nI (skL M l q))) 75 16 (nI 1) := by
        rw [stW1, if_neg n4, e2, k1, t, if_pos (by decide)]
      have hs := skL_le (σ := M) hb.2
      right
      apply hgood
      · rw [eRk, b2, et]
        exact z11
      · rw [eSt, vset_oth (by decide), vset_oth (by decide)]
        exact s12
      · rw [eRk, eSt]
        refine ⟨q, skL M l q, hs.1, hs.2, b3, by rw [vset_oth (by decide), vset_oth (by decide)]; exact s15, by rw [b5, skL_eq hT hql et], by rw [vset_oth (by decide), vset_at], Or.inr (Or.inl ⟨b2.trans et, vset_at⟩)⟩
    · -- a number
      have et : tokOf (bC P l q) = nI 2 := by rw [e1]; exact t
      have hs := skD_le (σ := M) hb.2
      have eT := skD_eq hT hql et
      have eSt : stW1 M l q = if nI (skD M l q - q) ≤ nI 2 then vset (vset (vset (stW0 M q) 75 17 (dgV M l q (skD M l q - q))) 75 14 (nI (skD M l q))) 75 16 (nI 2) else failW (vset (vset (vset (stW0 M q) 75 17 (dgV M l q (skD M l q - q))) 75 14 (nI (skD M l q))) 75 16 (nI 2)) (nI 1) := by
        rw [stW1, if_neg n4, e2, k1, t, if_neg (by decide), k2, t, if_pos (by decide)]
      have c12 : (vset (vset (vset (stW0 M q) 75 17 (dgV M l q (skD M l q - q))) 75 14 (nI (skD M l q))) 75 16 (nI 2)) 75 12 = 0 := by
        rw [vset_oth (by decide), vset_oth (by decide), vset_oth (by decide)]
        exact s12
      have c15 : (vset (vset (vset (stW0 M q) 75 17 (dgV M l q (skD M l q - q))) 75 14 (nI (skD M l q))) 75 16 (nI 2)) 75 15 = nI q := by
        rw [vset_oth (by decide), vset_oth (by decide), vset_oth (by decide)]
        exact s15
      by_cases g : nI (skD M l q - q) ≤ nI 2
      · have eRk : rkW1 P l q = rk1 P l q := by rw [rkW1, et, if_neg (by decide), if_neg (by decide), if_pos rfl, eT, if_pos g]
        rw [if_pos g] at eSt
        have hd := nIle (by omega) (by omega) g
        have hnot := fstP_not (Q := fun k => if isDig (mByte M l k) = true then false else true) (l - q) q
        obtain ⟨v, hv, v1, v2⟩ := num_val hT (q := q) (d := skD M l q - q) hd (by omega) (fun j h1 h2 => by
          have hj : j < skD M l q := by omega
          have := hnot j h1 hj
          rcases byt_cl hT (j := j) (by omega) with ⟨hjl, c', hc', f1, f2⟩ | ⟨z, _⟩
          · have g1 : isDig (mByte M l j) = true := by
              apply Classical.byContradiction
              intro z
              simp only [if_neg z] at this
              exact Bool.false_ne_true this.symm
            rw [f2, (cls_all c' hc').2.1, decide_eq_true_iff] at g1
            have := (cls_all c' hc').2.2.2.2.2 g1
            refine ⟨c', this.1, this.2, ?_, f2⟩
            rw [bC, if_pos hjl] at f1
            exact f1
          · omega)
        right
        apply hgood
        · rw [eRk, b2, et]
          exact z12
        · rw [eSt]
          exact c12
        · rw [eRk, eSt]
          refine ⟨q, skD M l q, hs.1, hs.2, b3, c15, by rw [b5, eT], by rw [vset_oth (by decide), vset_at], Or.inr (Or.inr (Or.inl ⟨b2.trans et, vset_at, v, hv, by rw [b4, eT]; exact v1, by rw [vset_oth (by decide), vset_oth (by decide), vset_at]; exact v2⟩))⟩
      · have eRk : rkW1 P l q = vset (rk1 P l q) 2 2 (nI 0) := by rw [rkW1, et, if_neg (by decide), if_neg (by decide), if_pos rfl, eT, if_neg g]
        rw [if_neg g] at eSt
        left
        apply hbad
        · rw [eRk, vset_at]
          rfl
        · rw [eRk, vset_oth (by decide)]
          exact b3
        · exact ⟨_, eSt, c12, c15⟩
    · -- a sign
      have et : tokOf (bC P l q) = nI 3 := by rw [e1]; exact t
      have eRk : rkW1 P l q = vset (rk0 P l q) 2 5 (nI (q + 1)) := by rw [rkW1, et, if_pos rfl]
      have x3 : mByte M l q = nI 59 := by
        rw [e2]
        rw [t, decide_eq_true (show nI 3 = nI 3 from rfl)] at k3
        exact of_decide_eq_true k3
      have eSt : stW1 M l q = vset (vset (stW0 M q) 75 16 (nI 3)) 75 14 (nI (q + 1)) := by
        rw [stW1, if_neg n4, e2, k1, t, if_neg (by decide), k2, t, if_neg (by decide), if_pos (by rw [← e2]; exact x3)]
      right
      apply hgood
      · rw [eRk, vset_oth (by decide), a2, et]
        exact z13
      · rw [eSt, vset_oth (by decide), vset_oth (by decide)]
        exact s12
      · rw [eRk, eSt]
        refine ⟨q, q + 1, by omega, hql, by rw [vset_oth (by decide)]; exact a3, by rw [vset_oth (by decide), vset_oth (by decide)]; exact s15, vset_at, vset_at, Or.inr (Or.inr (Or.inr ⟨by rw [vset_oth (by decide), a2]; exact et, by rw [vset_oth (by decide), vset_at]⟩))⟩
  · -- the end
    have et : tokOf (bC P l q) = nI 4 := by
      rw [e1]
      decide
    have eRk : rkW1 P l q = rk0 P l q := by rw [rkW1, et, if_neg (by decide), if_neg (by decide), if_neg (by decide)]
    have eSt : stW1 M l q = vset (stW0 M q) 75 16 (nI 0) := by rw [stW1, if_pos e2]
    right
    apply hgood
    · rw [eRk, a2, et]
      exact z14
    · rw [eSt, vset_oth (by decide)]
      exact s12
    · rw [eRk, eSt]
      exact ⟨q, q, Nat.le_refl q, hb.2, a3, by rw [vset_oth (by decide)]; exact s15, a5, by rw [vset_oth (by decide)]; exact s14, Or.inl ⟨a2.trans et, vset_at, by omega⟩⟩
end TK
