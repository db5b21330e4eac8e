/-! The pure part: hangings read from a sheet -/
section RS
variable {a b S : vW} {n m K k l : Nat}
theorem hgV_76 {u : vW} {x y : Int32} : ∀ i, ¬ (15 ≤ i ∧ i < 20) → n ≤ 5 → (hgV u n m x y) 76 i = u 76 i := by
  intro i hi n5
  unfold hgV
  split
  · rename_i h1
    obtain ⟨p, hp, rfl⟩ := inZ_ex h1 (by omega)
    split
    · rw [nI_clamp (by omega), mHgW_76, hgR_c (by omega)]
    · rfl
  · rfl
theorem rmW_76 {u : vW} {q c i : Nat} (hi : ¬ (15 ≤ i ∧ i < 20)) (n5 : n ≤ 5) : ∀ j, (rmW u n m q c j) 76 i = (cpW u 0 195) 76 i
  | 0 => rfl
  | j + 1 => by rw [rmW, hgV_76 i hi n5, rmW_76 hi n5 j]
/-- the fault of a cell, both ways -/
theorem rf_eq (h : hR a b) {q t : Nat} (hq : q < 4) (ht : t < 1000) {v f : Int32} : rfC b q v f t = if b 85 q = -4 then nI 1 else if b 85 q = v then (if 0 ≤ f.toInt + t ∧ f.toInt + t < (b 86 q).toInt then nI 0 else nI 2) else nI 3 := by
  obtain ⟨e, he, e6⟩ := h.2 q hq
  rw [rfC, e6, nI_toInt (by omega)]
  have hx : inL (f.toInt64 + (nI t).toInt64) (lN 0) (nI e - nI 1).toInt64 = true ↔ 0 ≤ f.toInt + t ∧ f.toInt + t < e := by
    constructor
    · exact inL_rd ht he
    · intro z
      have h2 := inK_1 (n := e) (by omega)
      have h3 : (f.toInt64 + (nI t).toInt64).toInt = f.toInt + t := by
        rw [Int64.toInt_add, Int32.toInt_toInt64, Int32.toInt_toInt64, nI_toInt (by omega)]
        have a1 := f.toInt_lt
        have a2 := f.le_toInt
        exact Int.bmod_eq_of_le (by omega) (by omega)
      unfold inL
      rw [decide_eq_true_iff, h3, lN0_toInt]
      omega
  by_cases z : 0 ≤ f.toInt + t ∧ f.toInt + t < (e : Int)
  · rw [if_pos (hx.mpr z), if_pos z]
  · rw [if_neg (fun w => z (hx.mp w)), if_neg z]
theorem fa_rf (h : hR a b) (hS : ∀ r, 67 ≤ r → r ≤ 74 → S r = a r) {q i : Nat} (hq : q < 4) (hi : i < 100) {v f : Int32} : fltA S (shP q) v (f.toInt64 + 2 * (nI i).toInt64) = rfC b q v f (2 * i) ∧ fltA S (shP q) v (f.toInt64 + 2 * (nI i).toInt64 + lN 1) = rfC b q v f (2 * i + 1) := by
  have hP := shP_v hq
  have hh : hR S b := h.mv hS rfl rfl rfl
  have e1 := first_toInt (f := f) hi
  have e3 : (f.toInt64 + 2 * (nI i).toInt64 + lN 1).toInt = f.toInt + (2 * i : Nat) + 1 := by
    have a1 := f.toInt_lt
    have a2 := f.le_toInt
    rw [fb_addL, e1, show (lN 1).toInt = 1 by decide]
    · rw [e1, show (lN 1).toInt = 1 by decide]; omega
    · rw [e1, show (lN 1).toInt = 1 by decide]; omega
  rw [flt_eq hh hq, flt_eq hh hq, rf_eq h hq (by omega), rf_eq h hq (by omega), e1, e3]
  refine ⟨rfl, ?_⟩
  rw [show f.toInt + (2 * i : Nat) + 1 = f.toInt + (2 * i + 1 : Nat) by omega]
theorem mrG_s {u : vW} {q : Nat} {v f : Int32} (r t : Nat) : mrG u n m q v f (r + 1) t = if rfC u q v f t = nI 0 then
      (if t % 2 = 1 then (if 0 ≤ hgA (rmW u n m q f.toNatClampNeg (t / 2)) n m (rdP0 u q f.toNatClampNeg (t / 2)) (rdP1 u q f.toNatClampNeg (t / 2)) then mrG u n m q v f r (t + 1) else (-20 - nI (t / 2), cpW (rmW u n m q f.toNatClampNeg (t / 2 + 1)) 195 0)) else mrG u n m q v f r (t + 1))
    else (nI (t / 2), vset (rmW u n m q f.toNatClampNeg (t / 2)) 75 31 (rfC u q v f t)) := rfl
/-- the ends of a reading -/
theorem Rel.rdEnd {S' : vW} {q c i : Nat} {v : Int32} (h : Rel a b n m K k l) (hT : TP S ((rmW b n m q c i) 76) 32 0 n m K) (hS : ∀ r, ¬ (32 ≤ r ∧ r ≤ 42) → S r = a r) : Rel (rdE S v) (vset (rmW b n m q c i) 75 31 v) n m K k l := by
  obtain ⟨h1, h2, h3, h4, h5, h6⟩ := h
  have n5 := hT.n5
  have e : ∀ r, ¬ (21 ≤ r ∧ r ≤ 42) → r ≠ 0 → (rdE S v) r = a r := fun r z1 z2 => by
    show (vset (becW S 21 32) 0 9 v) r = a r
    rw [vset_ne z2, becW_ne (by omega), hS r (by omega)]
  have e0 : ∀ j, (rdE S v) 0 j = if j = 9 then v else a 0 j := fun j => by
    show (vset (becW S 21 32) 0 9 v) 0 j = _
    rw [vset_row, vrow_at, becW_ne (by omega), hS 0 (by omega)]
    rfl
  have r : ∀ x, x ≠ 75 → x ≠ 76 → (vset (rmW b n m q c i) 75 31 v) x = b x := fun x z1 z2 => by rw [vset_ne z1, rmW_ne z2]
  have f : ∀ x, (vset (rmW b n m q c i) 75 31 v) 75 x = if x = 31 then v else b 75 x := fun x => by
    rw [vset_row, vrow_at, rmW_ne (by decide)]
    rfl
  have c76 : (vset (rmW b n m q c i) 75 31 v) 76 = (rmW b n m q c i) 76 := vset_ne (by decide)
  have cc : ∀ x, 65 ≤ x → x < 195 → (vset (rmW b n m q c i) 75 31 v) 76 x = b 76 x := fun x z1 z2 => by rw [c76, rmW_76 (by omega) n5, cpW_off (by omega)]
  refine ⟨⟨?_, by rw [f, if_neg (by decide)]; exact h1.2.1, by rw [f, if_neg (by decide)]; exact h1.2.2⟩, h2.mv (fun x _ _ => e x (by omega) (by omega)) (by rw [f, if_neg (by decide)]) (r 82 (by decide) (by decide)), h3.mv (fun x _ _ => e x (by omega) (by omega)) (e 9 (by omega) (by omega)) (r 84 (by decide) (by decide)) cc, h4.mv (by rw [e 2 (by omega) (by omega)]) (e 3 (by omega) (by omega)) (by rw [f, if_neg (by decide)]) (r 78 (by decide) (by decide)), h5.mv (fun x _ _ => e x (by omega) (by omega)) (r 85 (by decide) (by decide)) (r 86 (by decide) (by decide)) (r 87 (by decide) (by decide)), ⟨?_, ?_, ?_, ?_⟩⟩
  · rw [c76]
    have := hT.copy (t := 21) (g' := 0) (R' := (rmW b n m q c i) 76) (by omega) (fun _ _ => rfl)
    exact this.mv0 (fun x z1 z2 => by show (vset (becW S 21 32) 0 9 v) x = _; rw [vset_ne (by omega)]) (fun _ _ _ => rfl)
  · rw [e0, f, if_neg (by decide), if_neg (by decide)]
    exact h6.1
  · rw [e0, f, if_pos rfl, if_pos rfl]
  · unfold cutOK
    rw [r 79 (by decide) (by decide)]
    exact h6.2.2.1
  · rw [r 80 (by decide) (by decide)]
    exact h6.2.2.2
theorem Rel.rdX {q c i : Nat} (h : Rel a b n m K k l) (hS : ∀ r, ¬ (32 ≤ r ∧ r ≤ 42) → S r = a r) : Rel S (cpW (rmW b n m q c i) 195 0) n m K k l := by
  have n5 := h.1.1.n5
  obtain ⟨h1, h2, h3, h4, h5, h6⟩ := h
  have r : ∀ x, x ≠ 76 → (cpW (rmW b n m q c i) 195 0) x = b x := fun x z => by rw [cpW_ne z, rmW_ne z]
  have f : ∀ x, (cpW (rmW b n m q c i) 195 0) 75 x = b 75 x := fun x => by rw [r 75 (by decide)]
  have c0 : ∀ x, x < 65 → (cpW (rmW b n m q c i) 195 0) 76 x = b 76 x := fun x hx => by
    have := cpW_to (σ := rmW b n m q c i) (a := 195) (b := 0) hx
    rw [Nat.zero_add] at this
    rw [this, rmW_76 (by omega) n5, cpW_to hx, Nat.zero_add]
  have cc : ∀ x, 65 ≤ x → x < 195 → (cpW (rmW b n m q c i) 195 0) 76 x = b 76 x := fun x z1 z2 => by rw [cpW_off (by omega), rmW_76 (by omega) n5, cpW_off (by omega)]
  exact ⟨h1.mv (fun x _ _ => hS x (by omega)) c0 (f 1) (f 20), h2.mv (fun x _ _ => hS x (by omega)) (f 25) (r 82 (by decide)), h3.mv (fun x _ _ => hS x (by omega)) (hS 9 (by omega)) (r 84 (by decide)) cc, h4.mv (by rw [hS 2 (by omega)]) (hS 3 (by omega)) (f 10) (r 78 (by decide)), h5.mv (fun x _ _ => hS x (by omega)) (r 85 (by decide)) (r 86 (by decide)) (r 87 (by decide)), h6.mv (by rw [hS 0 (by omega)]) (by rw [hS 0 (by omega)]) (f 11) (f 31) (r 79 (by decide)) (r 80 (by decide))⟩
theorem rd_step (h : Rel a b n m K k l) {q : Nat} (hq : q < 4) {v f : Int32} : ∀ (c i : Nat) (S : vW), c + i ≤ 20 → TP S ((rmW b n m q f.toNatClampNeg i) 76) 32 0 n m K → (∀ r, ¬ (32 ≤ r ∧ r ≤ 42) → S r = a r) → (0 < i → 0 ≤ f.toInt) → (rdG (shP q) v f c i S).1 = (mrG b n m q v f (2 * c) (2 * i)).1 ∧ Rel (rdG (shP q) v f c i S).2 (mrG b n m q v f (2 * c) (2 * i)).2 n m K k l
  | 0, i, S, hc, hT, hS, hf => by
    rw [rdG, show 2 * 0 = 0 from rfl, mrG, show 2 * i / 2 = i by omega]
    exact ⟨rfl, h.rdEnd (S' := S) hT hS⟩
  | c + 1, i, S, hc, hT, hS, hf => by
    have n5 := hT.n5
    have m9 := hT.m9
    have h5 := h.2.2.2.2.1
    obtain ⟨f1, f2⟩ := fa_rf h5 (S := S) (fun r h1 h2 => hS r (by omega)) hq (show i < 100 by omega) (v := v) (f := f)
    have z0 : (0 : Int32) = nI 0 := rfl
    rw [rdG_s, show 2 * (c + 1) = (2 * c + 1) + 1 by omega, mrG_s, mrG_s, fltB, f1, f2, z0, show (2 * i + 1) / 2 = i by omega, show 2 * i / 2 = i by omega, show (2 * i + 1) % 2 = 1 by omega]
    have ne2 : ¬ 2 * i % 2 = 1 := by omega
    rw [if_neg ne2, if_pos (show (1 : Nat) = 1 from rfl)]
    by_cases g1 : rfC b q v f (2 * i) = nI 0
    · rw [if_pos g1, if_pos g1]
      by_cases g2 : rfC b q v f (2 * i + 1) = nI 0
      · rw [if_pos g2, if_pos g2]
        -- both cells are there
        obtain ⟨e, he, e6⟩ := h5.2 q hq
        have n14 : ¬ nI 1 = nI 0 := by decide
        have n24 : ¬ nI 2 = nI 0 := by decide
        have n34 : ¬ nI 3 = nI 0 := by decide
        have hin : ∀ t, t < 1000 → rfC b q v f t = nI 0 → 0 ≤ f.toInt + t ∧ f.toInt + t < e ∧ ¬ b 85 q = -4 := fun t ht z => by
          rw [rf_eq h5 hq ht, e6, nI_toInt (by omega)] at z
          by_cases x1 : b 85 q = -4
          · rw [if_pos x1] at z
            exact absurd z n14
          · rw [if_neg x1] at z
            by_cases x2 : b 85 q = v
            · rw [if_pos x2] at z
              by_cases x3 : 0 ≤ f.toInt + t ∧ f.toInt + t < (e : Int)
              · exact ⟨x3.1, x3.2, x1⟩
              · rw [if_neg x3] at z
                exact absurd z n24
            · rw [if_neg x2] at z
              exact absurd z n34
        have i1 := hin (2 * i) (by omega) g1
        have i2 := hin (2 * i + 1) (by omega) g2
        have hf0 : 0 ≤ f.toInt := by
          rcases Nat.eq_zero_or_pos i with y | y
          · rw [y] at i1
            omega
          · exact hf y
        have efn := f_nI hf0
        have efc := f_cl hf0
        generalize f.toNatClampNeg = c0 at efn efc hT ⊢
        have hP := shP_v hq
        have hcell : ∀ j, j < 40 → a (shP q + 1) j = b 87 (40 * q + j) := by
          rcases h5.1 q hq with ⟨_, y⟩ | ⟨_, _, _, _, _, y⟩
          · exact absurd y i1.2.2
          · exact y
        have eP : rdP S (shP q) f i = rdP0 b q c0 i := by
          rw [rdP, rdP0, hS _ (by omega), efn, nI_add, nI_clamp (by omega), hcell _ (by omega)]
          congr 1
          omega
        have eQ : rdQ S (shP q) f i = rdP1 b q c0 i := by
          rw [rdQ, rdP1, hS _ (by omega), efn, nI_add, nI_add, nI_clamp (by omega), hcell _ (by omega)]
          congr 1
          omega
        rw [eP, eQ]
        by_cases hcb : canB S 32 (rdP0 b q c0 i) (rdP1 b q c0 i) = true
        · obtain ⟨p, w, hp, hw, e1, e2⟩ := hT.canN hcb
          rw [if_pos hcb]
          rw [e1, e2] at hcb ⊢
          have ec := hT.can hp hw
          have hTn := hT.hang hp hw hcb
          have hx : 0 ≤ hgA (rmW b n m q c0 i) n m (nI p) (nI w) := by
            rw [hgA, inZ_nI (by omega), inZ_nI (by omega), decide_eq_true hp, decide_eq_true hw, if_pos rfl, if_pos rfl, nI_clamp (by omega), mHangsR, if_pos (ec ▸ hcb), mHgW_76]
            obtain ⟨z, hz, ez⟩ := msk_nI (x := mReachQ (hgR ((rmW b n m q c0 i) 76) n 0 p (nI w)) n ((rmW b n m q c0 i) 75 20) 0 m p) (k := 8) (by omega) (fun j h1 h2 => reach_8 hTn.wOK (hTn.hom8 (by omega)) h1 h2)
            rw [ez, show (0 : Int32) = nI 0 from rfl]
            exact nI_le (Nat.zero_le z) (by omega)
          have z0' : (nI 0 ≤ hgA (rmW b n m q c0 i) n m (nI p) (nI w)) := hx
          rw [if_pos z0']
          have ih := rd_step h hq (v := v) (f := f) c (i + 1) (hangW S 32 (nI p) (nI w)) (by omega) (by
            have ecl : f.toNatClampNeg = c0 := by rw [efn, nI_clamp (by omega)]
            rw [ecl, rmW, e1, e2, hgV, inZ_nI (by omega), inZ_nI (by omega), decide_eq_true hp, decide_eq_true hw, if_pos rfl, if_pos rfl, nI_clamp (by omega), mHgW_76]
            exact hTn) (fun r hr => by rw [hangW_ne (by omega) (by omega)]; exact hS r hr) (fun _ => hf0)
          rw [show 2 * (i + 1) = 2 * i + 1 + 1 by omega] at ih
          exact ih
        · rw [if_neg hcb]
          have hx : ¬ (nI 0 ≤ hgA (rmW b n m q c0 i) n m (rdP0 b q c0 i) (rdP1 b q c0 i)) := by
            rw [hgA]
            by_cases y1 : inZ (rdP0 b q c0 i) n = true
            · rw [if_pos y1]
              by_cases y2 : inZ (rdP1 b q c0 i) m = true
              · rw [if_pos y2]
                obtain ⟨p, hp, e1⟩ := inZ_ex y1 (by omega)
                obtain ⟨w, hw, e2⟩ := inZ_ex y2 (by omega)
                rw [e1, e2] at hcb ⊢
                have ec := hT.can hp hw
                rw [nI_clamp (by omega), mHangsR, if_neg (fun z => hcb (ec.trans z))]
                decide
              · rw [if_neg y2]
                decide
            · rw [if_neg y1]
              decide
          rw [if_neg hx]
          exact ⟨rfl, h.rdX hS⟩
      · rw [if_neg g2, if_neg g2]
        exact ⟨rfl, h.rdEnd (S' := S) hT hS⟩
    · rw [if_neg g1, if_neg g1, if_neg g1]
      exact ⟨rfl, h.rdEnd (S' := S) hT hS⟩
theorem read_eq (h : Rel a b n m K k l) {x v f c : Int32} : readR a x v f c = mReadR b n m x v f c ∧ Rel (readW a x v f c) (mReadW b n m x v f c) n m K k l := by
  have hT := h.1.1
  rw [readR, readW, mReadR, mReadW, readOk, upToB_inZ (by omega), upToB_inZ (by omega), upToB_inZ (by omega)]
  by_cases q1 : inZ x 4 = true
  · (repeat rw [if_pos q1])
    by_cases q2 : inZ v 3 = true
    · (repeat rw [if_pos q2])
      by_cases q3 : inZ c 21 = true
      · (repeat rw [if_pos q3])
        rw [if_pos rfl, if_pos rfl]
        obtain ⟨q, hq, rfl⟩ := inZ_ex q1 (by omega)
        obtain ⟨c0, hc0, rfl⟩ := inZ_ex q3 (by omega)
        rw [nI_clamp (by omega), nI_clamp (by omega)]
        have h0 : TP (becW a 32 21) ((rmW b n m q f.toNatClampNeg 0) 76) 32 0 n m K := hT.copy (by omega) (fun i hi => by
          show (cpW b 0 195) 76 (0 + i) = b 76 (0 + i)
          rw [cpW_off (by omega)])
        exact rd_step h hq c0 0 (becW a 32 21) (by omega) h0 (fun r hr => becW_ne (by omega)) (fun z => by omega)
      · (repeat rw [if_neg q3])
        rw [if_neg Bool.false_ne_true, if_neg Bool.false_ne_true]
        exact ⟨rfl, h⟩
    · (repeat rw [if_neg q2])
      rw [if_neg Bool.false_ne_true, if_neg Bool.false_ne_true]
      exact ⟨rfl, h⟩
  · (repeat rw [if_neg q1])
    rw [if_neg Bool.false_ne_true, if_neg Bool.false_ne_true]
    exact ⟨rfl, h⟩
end RS
