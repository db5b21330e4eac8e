/-! The pure part: luck. Sums over sets -/
def addB (A : Nat → Bool) (x : Nat) : Nat → Bool := fun i => if i = x then true else A i
def sSB (h : Nat → Bool) (G : (Nat → Bool) → Nat) : Nat → (Nat → Bool) → Nat
  | 0, A => G A
  | m + 1, A => sSB h G m A + (if h m = true then sSB h G m (addB A m) else 0)
theorem sSB_ext {h h' : Nat → Bool} {G : (Nat → Bool) → Nat} : ∀ m A, (∀ i, i < m → h i = h' i) → sSB h G m A = sSB h' G m A
  | 0, A, _ => rfl
  | m + 1, A, e => by rw [sSB, sSB, sSB_ext m A (fun i hi => e i (by omega)), sSB_ext m (addB A m) (fun i hi => e i (by omega)), e m (by omega)]
theorem sSB_none {h : Nat → Bool} {G : (Nat → Bool) → Nat} {A : Nat → Bool} : ∀ m, (∀ i, i < m → h i = false) → sSB h G m A = G A
  | 0, _ => rfl
  | m + 1, e => by rw [sSB, sSB_none m (fun i hi => e i (by omega)), e m (by omega), if_neg Bool.false_ne_true, Nat.add_zero]
theorem sSB_more {h : Nat → Bool} {G : (Nat → Bool) → Nat} {A : Nat → Bool} {m : Nat} : ∀ j, (∀ i, m ≤ i → i < m + j → h i = false) → sSB h G (m + j) A = sSB h G m A
  | 0, _ => rfl
  | j + 1, e => by
    show sSB h G (m + j) A + (if h (m + j) = true then sSB h G (m + j) (addB A (m + j)) else 0) = _
    rw [sSB_more j (fun i h1 h2 => e i h1 (by omega)), e (m + j) (by omega) (by omega), if_neg Bool.false_ne_true, Nat.add_zero]
theorem addB_comm (A : Nat → Bool) (x y : Nat) : addB (addB A x) y = addB (addB A y) x := by
  funext i
  unfold addB
  by_cases e1 : i = x
  · by_cases e2 : i = y
    · rw [if_pos e2, if_pos e1]
    · rw [if_neg e2, if_pos e1, if_pos e1]
  · by_cases e2 : i = y
    · rw [if_pos e2, if_neg e1, if_pos e2]
    · rw [if_neg e2, if_neg e1, if_neg e1, if_neg e2]
/-- one place more among those that one chooses from -/
theorem sSB_split {h : Nat → Bool} {G : (Nat → Bool) → Nat} {x : Nat} (hx : h x = false) : ∀ m B, x < m → sSB (addB h x) G m B = sSB h G m B + sSB h G m (addB B x)
  | 0, B, q => by omega
  | m + 1, B, q => by
    by_cases e : x = m
    · subst e
      have e1 : ∀ B, sSB (addB h x) G x B = sSB h G x B := fun B => sSB_ext x B (fun i hi => by unfold addB; rw [if_neg (by omega)])
      have e2 : addB h x x = true := by unfold addB; rw [if_pos rfl]
      have e3 : ∀ B, sSB h G (x + 1) B = sSB h G x B := fun B => by rw [sSB, hx, if_neg Bool.false_ne_true, Nat.add_zero]
      rw [sSB, e1, e1, e2, if_pos rfl, e3, e3]
    · have e2 : addB h x m = h m := by unfold addB; rw [if_neg (fun z => e z.symm)]
      rw [sSB, sSB, sSB, e2, sSB_split hx m B (by omega), sSB_split hx m (addB B m) (by omega), addB_comm B m x]
      by_cases g : h m = true
      · rw [if_pos g, if_pos g, if_pos g]
        omega
      · rw [if_neg g, if_neg g, if_neg g]
        omega
def pSm (h0 : Nat) (f : Nat → Nat) (B : Nat) : Nat → Nat
  | 0 => 0
  | k + 1 => pSm h0 f B k + (if (B + k) &&& h0 = B + k then f (B + k) else 0)
theorem pSm_add {h0 : Nat} {f : Nat → Nat} {B x : Nat} : ∀ y, pSm h0 f B (x + y) = pSm h0 f B x + pSm h0 f (B + x) y
  | 0 => rfl
  | y + 1 => by
    have e : B + x + y = B + (x + y) := Nat.add_assoc B x y
    have s1 : pSm h0 f B (x + (y + 1)) = pSm h0 f B (x + y) + (if (B + (x + y)) &&& h0 = B + (x + y) then f (B + (x + y)) else 0) := rfl
    have s2 : pSm h0 f (B + x) (y + 1) = pSm h0 f (B + x) y + (if (B + x + y) &&& h0 = B + x + y then f (B + x + y) else 0) := rfl
    rw [s1, s2, pSm_add y, e, Nat.add_assoc]
theorem pSm_0 {h0 : Nat} {f : Nat → Nat} {B : Nat} : ∀ y, (∀ k, k < y → ¬ (B + k) &&& h0 = B + k) → pSm h0 f B y = 0
  | 0, _ => rfl
  | y + 1, e => by rw [pSm, pSm_0 y (fun k hk => e k (by omega)), if_neg (e y (by omega))]
theorem tb_up {c m k : Nat} (hk : k < 2 ^ m) (i : Nat) : (2 ^ (m + 1) * c + (2 ^ m + k)).testBit i = if i < m + 1 then (2 ^ m + k).testBit i else c.testBit (i - (m + 1)) := Nat.testBit_two_pow_mul_add c (by rw [Nat.pow_succ]; omega) i
theorem pSm_sSB {h0 : Nat} {G : (Nat → Bool) → Nat} : ∀ m c, subS (2 ^ m * c) h0 → pSm h0 (fun k => G k.testBit) (2 ^ m * c) (2 ^ m) = sSB h0.testBit G m (2 ^ m * c).testBit
  | 0, c, hs => by
    show 0 + (if (2 ^ 0 * c + 0) &&& h0 = 2 ^ 0 * c + 0 then G (2 ^ 0 * c + 0).testBit else 0) = _
    rw [Nat.add_zero, if_pos (and_sub.mpr hs), Nat.zero_add]
    rfl
  | m + 1, c, hs => by
    have e1 : 2 ^ (m + 1) * c = 2 ^ m * (2 * c) := by rw [Nat.pow_succ, Nat.mul_assoc]
    have e2 : 2 ^ (m + 1) = 2 ^ m + 2 ^ m := by rw [Nat.pow_succ]; omega
    have e3 : 2 ^ (m + 1) * c + 2 ^ m = 2 ^ m * (2 * c + 1) := by rw [e1, Nat.mul_add, Nat.mul_one]
    have hz : (2 ^ (m + 1) * c).testBit = fun i => if i < m + 1 then false else c.testBit (i - (m + 1)) := by
      funext i
      have := Nat.testBit_two_pow_mul_add c (show 0 < 2 ^ (m + 1) from Nat.two_pow_pos _) i
      rw [Nat.add_zero] at this
      rw [this, Nat.zero_testBit]
    have hb : (2 ^ (m + 1) * c + 2 ^ m).testBit = addB (2 ^ (m + 1) * c).testBit m := by
      funext i
      have := Nat.testBit_two_pow_mul_add c (show 2 ^ m < 2 ^ (m + 1) by rw [Nat.pow_succ]; have := Nat.two_pow_pos m; omega) i
      rw [this, hz]
      unfold addB
      by_cases e : i = m
      · rw [if_pos e, if_pos (by omega), e, Nat.testBit_two_pow_self]
      · rw [if_neg e]
        show _ = if i < m + 1 then false else c.testBit (i - (m + 1))
        by_cases g : i < m + 1
        · rw [if_pos g, if_pos g, Nat.testBit_two_pow_of_ne (fun z => e z.symm)]
        · rw [if_neg g, if_neg g]
    rw [sSB]
    have i1 := pSm_sSB (h0 := h0) (G := G) m (2 * c) (by rw [← e1]; exact hs)
    rw [← e1] at i1
    rw [e2, pSm_add, ← e2, i1]
    congr 1
    by_cases g : h0.testBit m = true
    · have i2 := pSm_sSB (h0 := h0) (G := G) m (2 * c + 1) (by
        rw [← e3]
        intro i hi
        rw [hb] at hi
        unfold addB at hi
        by_cases e : i = m
        · rw [e]
          exact g
        · rw [if_neg e] at hi
          exact hs i hi)
      rw [← e3] at i2
      rw [i2, hb, if_pos g]
    · rw [if_neg g]
      refine pSm_0 _ (fun k hk z => g ?_)
      refine and_sub.mp z m ?_
      rw [Nat.add_assoc, tb_up hk, if_pos (by omega), Nat.testBit_eq_decide_div_mod_eq, Nat.add_div_left _ (Nat.two_pow_pos m), Nat.div_eq_of_lt hk]
      rfl
/-- a set as a mask -/
def mkM (B : Nat → Bool) : Nat → Int32
  | 0 => nI 0
  | k + 1 => if B k = true then mkM B k ||| nI 1 <<< (nI k &&& 31) else mkM B k
theorem mkM_bt {B : Nat → Bool} {i k : Nat} (hi : i < 32) (hk : k ≤ 32) : bt (mkM B k) i = (decide (i < k) && B i) := orM_bt (f := mkM B) (P := B) rfl (fun _ _ => rfl) hi k hk
theorem mkM_nI {S k : Nat} (hk : k ≤ 32) (hS : S < 2 ^ k) : mkM S.testBit k = nI S := by
  apply b_ext
  intro i hi
  rw [mkM_bt hi hk, bt_nIi (Nat.lt_of_lt_of_le hS (Nat.pow_le_pow_right (by decide) hk))]
  by_cases e : i < k
  · rw [decide_eq_true e, Bool.true_and]
  · rw [decide_eq_false e, Bool.false_and, Nat.testBit_lt_two_pow (Nat.lt_of_lt_of_le hS (Nat.pow_le_pow_right (by decide) (by omega)))]
section LK
variable {a b s : vW} {R : Nat → Int32} {t g n m K k l : Nat}
/-- the walls in which those of A have their doors -/
def imB (s : vW) (t n : Nat) (A : Nat → Bool) (w : Nat) : Bool := if w < 9 then decide (fstP (fun p => decide (s (t + 4) p = nI w) && A p) n 0 < n) else false
theorem imB_iff {A : Nat → Bool} {w : Nat} (hw : w < 9) : imB s t n A w = true ↔ ∃ p, p < n ∧ s (t + 4) p = nI w ∧ A p = true := by
  rw [imB, if_pos hw, decide_eq_true_iff, fst_all]
  constructor
  · rintro ⟨p, h1, h2⟩
    rw [Bool.and_eq_true, decide_eq_true_iff] at h2
    exact ⟨p, h1, h2.1, h2.2⟩
  · rintro ⟨p, h1, h2, h3⟩
    exact ⟨p, h1, by rw [Bool.and_eq_true, decide_eq_true_iff]; exact ⟨h2, h3⟩⟩
/-- the people whose doors hang -/
def hpB (s : vW) (t m p : Nat) : Bool := decide (fstP (fun w => decide (s (t + 4) p = nI w)) m 0 < m)
theorem hpB_iff {p : Nat} : hpB s t m p = true ↔ ∃ w, w < m ∧ s (t + 4) p = nI w := by
  rw [hpB, decide_eq_true_iff, fst_all]
  constructor
  · rintro ⟨w, h1, h2⟩
    exact ⟨w, h1, of_decide_eq_true h2⟩
  · rintro ⟨w, h1, h2⟩
    exact ⟨w, h1, decide_eq_true h2⟩
def subP (s : vW) (t m n : Nat) (A : Nat → Bool) : Prop := ∀ p, A p = true → p < n ∧ hpB s t m p = true
theorem TP.uniq (h : TP s R t g n m K) {p q w : Nat} (hp : p < n) (hq : q < n) (hw : w < 9) (e1 : s (t + 4) p = nI w) (e2 : s (t + 4) q = nI w) : p = q := by
  have n5 := h.n5
  have x1 := h.door.2.2 p w hp hw e1
  have x2 := h.door.2.2 q w hq hw e2
  exact nI_eqN (by omega) (by omega) (x1.symm.trans x2)
/-- as many walls as people -/
theorem im_nB (h : TP s R t g n m K) {A : Nat → Bool} (hA : subP s t m n A) : nB (imB s t n A) 9 = nB A n := by
  have n5 := h.n5
  have m9 := h.m9
  have k1 : nB (imB s t n A) 9 = nS (fun w => nB (fun p => decide (s (t + 4) p = nI w) && A p) n) 9 := by
    rw [← nS_nB]
    apply nS_ext
    intro w hw
    by_cases e : imB s t n A w = true
    · obtain ⟨p, hp, e1, e2⟩ := (imB_iff hw).mp e
      rw [if_pos e, nB_one (p := p) (by rw [Bool.and_eq_true, decide_eq_true_iff]; exact ⟨e1, e2⟩) n hp (fun i hi q => by
        rw [Bool.and_eq_true, decide_eq_true_iff] at q
        exact h.uniq hi hp hw q.1 e1)]
    · rw [if_neg e, nB_none n (fun p hp => Bool.eq_false_iff.mpr (fun q => by
        rw [Bool.and_eq_true, decide_eq_true_iff] at q
        exact e ((imB_iff hw).mpr ⟨p, hp, q.1, q.2⟩)))]
  have k2 : nB A n = nS (fun p => nB (fun w => decide (s (t + 4) p = nI w) && A p) 9) n := by
    rw [← nS_nB]
    apply nS_ext
    intro p hp
    by_cases e : A p = true
    · obtain ⟨w, hw, e1⟩ := hpB_iff.mp (hA p e).2
      rw [if_pos e, nB_one (p := w) (by rw [Bool.and_eq_true, decide_eq_true_iff]; exact ⟨e1, e⟩) 9 (by omega) (fun i hi q => by
        rw [Bool.and_eq_true, decide_eq_true_iff] at q
        exact nI_eqN (by omega) (by omega) (q.1.symm.trans e1))]
    · rw [if_neg e, nB_none 9 (fun w hw => by rw [Bool.eq_false_iff.mpr e, Bool.and_false])]
  rw [k1, k2]
  exact nS_swap 9
theorem imB_add (h : TP s R t g n m K) {A : Nat → Bool} {j w0 : Nat} (hj : j < n) (hw0 : w0 < m) (e0 : s (t + 4) j = nI w0) : imB s t n (addB A j) = addB (imB s t n A) w0 := by
  have m9 := h.m9
  funext w
  rw [Bool.eq_iff_iff]
  by_cases hw : w < 9
  · unfold addB
    rw [imB_iff hw]
    constructor
    · rintro ⟨p, hp, e1, e2⟩
      by_cases e : w = w0
      · rw [if_pos e]
      · rw [if_neg e]
        refine (imB_iff hw).mpr ⟨p, hp, e1, ?_⟩
        by_cases ej : p = j
        · rw [ej, e0] at e1
          exact absurd (nI_eqN (by omega) (by omega) e1).symm e
        · rw [if_neg ej] at e2
          exact e2
    · intro q
      by_cases e : w = w0
      · exact ⟨j, hj, by rw [e]; exact e0, by rw [if_pos rfl]⟩
      · rw [if_neg e] at q
        obtain ⟨p, hp, e1, e2⟩ := (imB_iff hw).mp q
        refine ⟨p, hp, e1, ?_⟩
        split
        · rfl
        · exact e2
  · unfold addB
    rw [imB, if_neg hw, if_neg (show ¬ w = w0 by omega), imB, if_neg hw]
/-- sums over walls are sums over people -/
theorem sSB_im (h : TP s R t g n m K) {Gw Gp : (Nat → Bool) → Nat} (hG : ∀ A, subP s t m n A → Gw (imB s t n A) = Gp A) : ∀ j, j ≤ n → ∀ A, subP s t m n A → sSB (hpB s t m) Gp j A = sSB (imB s t n (fun p => decide (p < j) && hpB s t m p)) Gw 9 (imB s t n A)
  | 0, _, A, hA => by
    rw [sSB, sSB_none 9 (fun w hw => Bool.eq_false_iff.mpr (fun q => by
      obtain ⟨p, _, _, e⟩ := (imB_iff hw).mp q
      rw [decide_eq_false (Nat.not_lt_zero p), Bool.false_and] at e
      exact Bool.false_ne_true e)), hG A hA]
  | j + 1, hj, A, hA => by
    have m9 := h.m9
    have ih := sSB_im h hG j (by omega)
    rw [sSB, ih A hA]
    by_cases e : hpB s t m j = true
    · obtain ⟨w0, hw0, e0⟩ := hpB_iff.mp e
      have hA2 : subP s t m n (addB A j) := fun p hp => by
        unfold addB at hp
        by_cases ep : p = j
        · rw [ep]
          exact ⟨by omega, e⟩
        · rw [if_neg ep] at hp
          exact hA p hp
      have e1 : imB s t n (fun p => decide (p < j + 1) && hpB s t m p) = addB (imB s t n (fun p => decide (p < j) && hpB s t m p)) w0 := by
        rw [← imB_add h (show j < n by omega) hw0 e0]
        congr 1
        funext p
        unfold addB
        by_cases ep : p = j
        · rw [if_pos ep, ep, e, decide_eq_true (by omega)]
          rfl
        · rw [if_neg ep]
          congr 1
          exact decide_eq_decide.mpr (by omega)
      have e2 : imB s t n (fun p => decide (p < j) && hpB s t m p) w0 = false := Bool.eq_false_iff.mpr (fun q => by
        obtain ⟨p, hp, q1, q2⟩ := (imB_iff (by omega)).mp q
        rw [Bool.and_eq_true, decide_eq_true_iff] at q2
        have := h.uniq hp (show j < n by omega) (by omega) q1 e0
        omega)
      rw [if_pos e, ih _ hA2, e1, sSB_split e2 9 _ (by omega), imB_add h (show j < n by omega) hw0 e0]
    · have e1 : imB s t n (fun p => decide (p < j + 1) && hpB s t m p) = imB s t n (fun p => decide (p < j) && hpB s t m p) := by
        congr 1
        funext p
        by_cases ep : p = j
        · rw [ep, Bool.eq_false_iff.mpr e, Bool.and_false, Bool.and_false]
        · congr 1
          exact decide_eq_decide.mpr (by omega)
      rw [if_neg e, e1, Nat.add_zero]
end LK
