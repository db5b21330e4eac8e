/-! The pure part: ways over walls, by levels -/
def wl (E : Nat → Nat → Prop) (r : Nat) : Nat → Nat → Prop
  | 0, i => i = r
  | d + 1, i => wl E r d i ∨ ∃ j, wl E r d j ∧ E j i
theorem wl_add {E : Nat → Nat → Prop} {r d i : Nat} (h : wl E r d i) : ∀ k, wl E r (d + k) i
  | 0 => h
  | k + 1 => Or.inl (wl_add h k)
theorem wl_mono {E : Nat → Nat → Prop} {r d e i : Nat} (h : wl E r d i) (hd : d ≤ e) : wl E r e i := by
  have := wl_add h (e - d)
  rwa [show d + (e - d) = e by omega] at this
theorem wl_head {E : Nat → Nat → Prop} {r : Nat} : ∀ d i, wl E r (d + 1) i ↔ wl E r d i ∨ ∃ j, E r j ∧ wl E j d i
  | 0, i => by
    constructor
    · rintro (h | ⟨j, h1, h2⟩)
      · exact Or.inl h
      · have h1 : j = r := h1
        subst h1
        exact Or.inr ⟨i, h2, rfl⟩
    · rintro (h | ⟨j, h1, h2⟩)
      · exact Or.inl h
      · have h2 : i = j := h2
        subst h2
        exact Or.inr ⟨r, rfl, h1⟩
  | d + 1, i => by
    constructor
    · rintro (h | ⟨j, h1, h2⟩)
      · exact Or.inl h
      · rcases (wl_head d j).mp h1 with h | ⟨k, h3, h4⟩
        · exact Or.inl (Or.inr ⟨j, h, h2⟩)
        · exact Or.inr ⟨k, h3, Or.inr ⟨j, h4, h2⟩⟩
    · rintro (h | ⟨k, h1, h2 | ⟨j, h3, h4⟩⟩)
      · exact Or.inl h
      · exact Or.inl ((wl_head d i).mpr (Or.inr ⟨k, h1, h2⟩))
      · exact Or.inr ⟨j, (wl_head d j).mpr (Or.inr ⟨k, h1, h3⟩), h4⟩
theorem wl_symm {E : Nat → Nat → Prop} (hs : ∀ a b, E a b → E b a) : ∀ (d r i : Nat), wl E r d i → wl E i d r
  | 0, _, _, h => Eq.symm h
  | d + 1, r, i, h => by
    rcases h with h | ⟨j, h1, h2⟩
    · exact Or.inl (wl_symm hs d r i h)
    · exact (wl_head d r).mpr (Or.inr ⟨j, hs _ _ h2, wl_symm hs d r j h1⟩)
theorem wl_lt {E : Nat → Nat → Prop} (hE : ∀ a b, E a b → b < 8) {r : Nat} (hr : r < 8) : ∀ d i, wl E r d i → i < 8
  | 0, i, h => by
    have h : i = r := h
    omega
  | d + 1, i, h => by
    rcases h with h | ⟨j, _, h2⟩
    · exact wl_lt hE hr d i h
    · exact hE _ _ h2
noncomputable def cNt (f : Nat → Prop) : Nat → Nat
  | 0 => 0
  | k + 1 => cNt f k + @ite Nat (f k) (Classical.propDecidable (f k)) 1 0
theorem cNt_le {f : Nat → Prop} : ∀ k, cNt f k ≤ k
  | 0 => Nat.le_refl 0
  | k + 1 => by
    have := cNt_le (f := f) k
    unfold cNt
    split <;> omega
theorem cNt_mono {f g : Nat → Prop} : ∀ k, (∀ i, i < k → f i → g i) → cNt f k ≤ cNt g k
  | 0, _ => Nat.le_refl 0
  | k + 1, h => by
    have := cNt_mono (f := f) (g := g) k (fun i hi => h i (by omega))
    unfold cNt
    split
    · rename_i q
      rw [if_pos (h k (by omega) q)]
      omega
    · split <;> omega
theorem cNt_lt {f g : Nat → Prop} {i : Nat} (hf : ¬ f i) (hg : g i) : ∀ k, i < k → (∀ i, i < k → f i → g i) → cNt f k < cNt g k
  | 0, h, _ => by omega
  | k + 1, h, hm => by
    by_cases e : i = k
    · subst e
      have := cNt_mono (f := f) (g := g) i (fun j hj => hm j (by omega))
      unfold cNt
      rw [if_neg hf, if_pos hg]
      omega
    · have := cNt_lt (f := f) (g := g) hf hg k (by omega) (fun j hj => hm j (by omega))
      unfold cNt
      split
      · rename_i q
        rw [if_pos (hm k (by omega) q)]
        omega
      · split <;> omega
theorem wl_stab {E : Nat → Nat → Prop} {r c : Nat} (h : ∀ i, wl E r (c + 1) i → wl E r c i) : ∀ k i, wl E r (c + k) i → wl E r c i
  | 0, _, q => q
  | k + 1, i, q => by
    rcases q with q | ⟨j, h1, h2⟩
    · exact wl_stab h k i q
    · exact h i (Or.inr ⟨j, wl_stab h k j h1, h2⟩)
/-- seven steps go as far as any -/
theorem wl_full {E : Nat → Nat → Prop} (hE : ∀ a b, E a b → b < 8) {r : Nat} (hr : r < 8) {e i : Nat} (h : wl E r e i) : wl E r 7 i := by
  have key : ∀ d, (∃ c, c < d ∧ ∀ i, wl E r (c + 1) i → wl E r c i) ∨ d + 1 ≤ cNt (wl E r d) 8 := by
    intro d
    induction d with
    | zero =>
      right
      have := cNt_lt (f := fun _ => False) (g := wl E r 0) (i := r) (fun q => q) rfl 8 hr (fun i _ q => absurd q (fun q => q))
      omega
    | succ d ih =>
      rcases ih with ⟨c, h1, h2⟩ | h1
      · exact Or.inl ⟨c, by omega, h2⟩
      · by_cases hs : ∀ i, wl E r (d + 1) i → wl E r d i
        · exact Or.inl ⟨d, by omega, hs⟩
        · right
          have hs2 : ∃ i, wl E r (d + 1) i ∧ ¬ wl E r d i := by
            apply Classical.byContradiction
            intro hn
            exact hs (fun i q => Classical.byContradiction (fun q2 => hn ⟨i, q, q2⟩))
          obtain ⟨i, q1, q2⟩ := hs2
          have := cNt_lt (f := wl E r d) (g := wl E r (d + 1)) q2 q1 8 (wl_lt hE hr _ _ q1) (fun i _ q => Or.inl q)
          omega
  rcases key 8 with ⟨c, h1, h2⟩ | h1
  · by_cases hc : e ≤ c
    · exact wl_mono (wl_mono h hc) (by omega)
    · have := wl_stab h2 (e - c) i (by rwa [show c + (e - c) = e by omega])
      exact wl_mono this (by omega)
  · have := cNt_le (f := wl E r 8) 8
    omega
/-- the walls that one may go through -/
def edg (A B : Nat → Int32) (m : Nat) (P : Nat → Bool) (a b : Nat) : Prop := a < 8 ∧ b < 8 ∧ ∃ w, w < m ∧ P w = true ∧ ((A w = nI a ∧ B w = nI b) ∨ (A w = nI b ∧ B w = nI a))
theorem edg_symm {A B : Nat → Int32} {m : Nat} {P : Nat → Bool} (a b : Nat) (h : edg A B m P a b) : edg A B m P b a := by
  obtain ⟨h1, h2, w, h3, h4, h5⟩ := h
  exact ⟨h2, h1, w, h3, h4, h5.symm⟩
theorem edg_lt {A B : Nat → Int32} {m : Nat} {P : Nat → Bool} (a b : Nat) (h : edg A B m P a b) : b < 8 := h.2.1
theorem edg_ext {A A' B B' : Nat → Int32} {m : Nat} {P P' : Nat → Bool} (h : ∀ w, w < m → A w = A' w ∧ B w = B' w ∧ P w = P' w) : edg A B m P = edg A' B' m P' := by
  funext a b
  apply propext
  constructor
  · rintro ⟨h1, h2, w, h3, h4, h5⟩
    obtain ⟨e1, e2, e3⟩ := h w h3
    exact ⟨h1, h2, w, h3, by rw [← e3]; exact h4, by rw [← e1, ← e2]; exact h5⟩
  · rintro ⟨h1, h2, w, h3, h4, h5⟩
    obtain ⟨e1, e2, e3⟩ := h w h3
    exact ⟨h1, h2, w, h3, by rw [e3]; exact h4, by rw [e1, e2]; exact h5⟩
/-- how far one is -/
def farS (E : Nat → Nat → Prop) (r : Nat) (v : Int32) (i : Nat) : Prop := (v = -4 ∧ ∀ e, ¬ wl E r e i) ∨ ∃ e, e < 8 ∧ v = nI e ∧ wl E r e i ∧ ∀ e', e' < e → ¬ wl E r e' i
theorem farS_eq {E : Nat → Nat → Prop} {r i : Nat} {v v' : Int32} (h : farS E r v i) (h' : farS E r v' i) : v = v' := by
  rcases h with ⟨h1, h2⟩ | ⟨e, h1, h2, h3, h4⟩
  · rcases h' with ⟨k1, k2⟩ | ⟨e', k1, k2, k3, k4⟩
    · rw [h1, k1]
    · exact absurd k3 (h2 _)
  · rcases h' with ⟨k1, k2⟩ | ⟨e', k1, k2, k3, k4⟩
    · exact absurd h3 (k2 _)
    · have : e = e' := by
        rcases Nat.lt_trichotomy e e' with q | q | q
        · exact absurd h3 (k4 _ q)
        · exact q
        · exact absurd k3 (h4 _ q)
      rw [h2, k2, this]
theorem farS_symm {E : Nat → Nat → Prop} (hs : ∀ a b, E a b → E b a) {r i : Nat} {v : Int32} (h : farS E r v i) : farS E i v r := by
  rcases h with ⟨h1, h2⟩ | ⟨e, h1, h2, h3, h4⟩
  · exact Or.inl ⟨h1, fun e q => h2 e (wl_symm hs _ _ _ q)⟩
  · exact Or.inr ⟨e, h1, h2, wl_symm hs _ _ _ h3, fun e' he q => h4 e' he (wl_symm hs _ _ _ q)⟩
/-! The program's spreading -/
def sdOK (A B : Nat → Int32) (m : Nat) : Prop := ∀ w, w < m → ∃ a b, a < 8 ∧ b < 8 ∧ A w = nI a ∧ B w = nI b
theorem bt_bitI {k i : Nat} (hk : k < 32) (hi : i < 32) : bt (nI 1 <<< (nI k &&& 31)) i = true ↔ i = k := by
  rw [bt_bit hk hi]
  exact decide_eq_true_iff
theorem or_iff {x y : Int32} {i : Nat} : bt (x ||| y) i = true ↔ bt x i = true ∨ bt y i = true := by
  rw [b_or, Bool.or_eq_true]
theorem nextTo_bt {σ : vW} {t m : Nat} {rm opn : Int32} (hm9 : m ≤ 9) (hs : sdOK (σ (t + 5)) (σ (t + 6)) m) {i : Nat} (hi : i < 32) : ∀ k, k ≤ m → (bt (nextTo σ t rm opn k) i = true ↔ ∃ w, w < k ∧ bt opn w = true ∧ ∃ a b, a < 8 ∧ b < 8 ∧ σ (t + 5) w = nI a ∧ σ (t + 6) w = nI b ∧ ((bt rm a = true ∧ i = b) ∨ (bt rm b = true ∧ i = a)))
  | 0, _ => by
    constructor
    · intro h
      rw [show nextTo σ t rm opn 0 = 0 from rfl, b_0] at h
      exact absurd h Bool.false_ne_true
    · rintro ⟨w, h, _⟩
      omega
  | k + 1, hk => by
    have ih := nextTo_bt (rm := rm) (opn := opn) hm9 hs hi k (by omega)
    obtain ⟨a, b, ha, hb, ea, eb⟩ := hs k (by omega)
    have hstep : (∃ w, w < k + 1 ∧ bt opn w = true ∧ ∃ a b, a < 8 ∧ b < 8 ∧ σ (t + 5) w = nI a ∧ σ (t + 6) w = nI b ∧ ((bt rm a = true ∧ i = b) ∨ (bt rm b = true ∧ i = a))) ↔ (bt (nextTo σ t rm opn k) i = true ∨ (bt opn k = true ∧ ((bt rm a = true ∧ i = b) ∨ (bt rm b = true ∧ i = a)))) := by
      rw [ih]
      constructor
      · rintro ⟨w, h1, h2, a', b', h3, h4, h5, h6, h7⟩
        by_cases e : w = k
        · subst e
          have q1 := nI_eqN (by omega) (by omega) (ea.symm.trans h5)
          have q2 := nI_eqN (by omega) (by omega) (eb.symm.trans h6)
          subst q1 q2
          exact Or.inr ⟨h2, h7⟩
        · exact Or.inl ⟨w, by omega, h2, a', b', h3, h4, h5, h6, h7⟩
      · rintro (⟨w, h1, h2⟩ | ⟨h1, h2⟩)
        · exact ⟨w, by omega, h2⟩
        · exact ⟨k, by omega, h1, a, b, ha, hb, ea, eb, h2⟩
    rw [hstep, nextTo, bitB_bt (by omega), ea, eb, bitB_bt (by omega), bitB_bt (by omega)]
    generalize bt rm a = x
    generalize bt rm b = y
    generalize bt opn k = z
    have e1 := bt_bitI (k := a) (i := i) (by omega) hi
    have e2 := bt_bitI (k := b) (i := i) (by omega) hi
    cases z <;> cases x <;> cases y <;> simp only [if_true, if_false, Bool.false_eq_true, or_iff, e1, e2, false_and, true_and, or_false, false_or, or_assoc, reduceIte]
theorem stepS_bt {σ : vW} {t m : Nat} {rm opn : Int32} (hm9 : m ≤ 9) (hs : sdOK (σ (t + 5)) (σ (t + 6)) m) {i : Nat} (hi : i < 32) : bt (stepS σ t m opn rm) i = true ↔ bt rm i = true ∨ ∃ j, bt rm j = true ∧ edg (σ (t + 5)) (σ (t + 6)) m (bt opn) j i := by
  rw [stepS, or_iff, nextTo_bt hm9 hs hi m (Nat.le_refl m)]
  apply or_congr Iff.rfl
  constructor
  · rintro ⟨w, h1, h2, a, b, h3, h4, h5, h6, ⟨h7, h8⟩ | ⟨h7, h8⟩⟩
    · subst h8
      exact ⟨a, h7, h3, h4, w, h1, h2, Or.inl ⟨h5, h6⟩⟩
    · subst h8
      exact ⟨b, h7, h4, h3, w, h1, h2, Or.inr ⟨h5, h6⟩⟩
  · rintro ⟨j, h1, h2, h3, w, h4, h5, ⟨h6, h7⟩ | ⟨h6, h7⟩⟩
    · exact ⟨w, h4, h5, j, i, h2, h3, h6, h7, Or.inl ⟨h1, rfl⟩⟩
    · exact ⟨w, h4, h5, i, j, h3, h2, h6, h7, Or.inr ⟨h1, rfl⟩⟩
theorem itS_lv {σ : vW} {t m r : Nat} {opn : Int32} (hm9 : m ≤ 9) (hs : sdOK (σ (t + 5)) (σ (t + 6)) m) (hr : r < 8) : ∀ d i, i < 32 → (bt (itS (stepS σ t m opn) d (nI 1 <<< (nI r &&& 31))) i = true ↔ wl (edg (σ (t + 5)) (σ (t + 6)) m (bt opn)) r d i)
  | 0, i, hi => bt_bitI (by omega) hi
  | d + 1, i, hi => by
    rw [itS, stepS_bt hm9 hs hi, itS_lv hm9 hs hr d i hi]
    apply or_congr Iff.rfl
    constructor
    · rintro ⟨j, h1, h2⟩
      have := h2.1
      exact ⟨j, (itS_lv hm9 hs hr d j (by omega)).mp h1, h2⟩
    · rintro ⟨j, h1, h2⟩
      have := h2.1
      exact ⟨j, (itS_lv hm9 hs hr d j (by omega)).mpr h1, h2⟩
theorem spread_lv {σ : vW} {t m r : Nat} {opn : Int32} (hm9 : m ≤ 9) (hs : sdOK (σ (t + 5)) (σ (t + 6)) m) (hr : r < 8) {i : Nat} (hi : i < 32) : bt (spreadW σ t m opn (nI r)) i = true ↔ wl (edg (σ (t + 5)) (σ (t + 6)) m (bt opn)) r 7 i := by
  rw [spreadW, itS_lv hm9 hs hr 8 i hi]
  exact ⟨fun h => wl_full edg_lt hr h, fun h => Or.inl h⟩
theorem distG_S {f : Int32 → Int32} {r0 : Int32} {E : Nat → Nat → Prop} {r i : Nat} (hi : i < 8) (hb : ∀ d, bt (itS f d r0) i = true ↔ wl E r d i) : ∀ n s, n + s = 8 → (∀ e, e < s → ¬ wl E r e i) → (distG f (nI i) n s (itS f s r0) = -4 ∧ ∀ e, e < 8 → ¬ wl E r e i) ∨ ∃ e, e < 8 ∧ distG f (nI i) n s (itS f s r0) = nI e ∧ wl E r e i ∧ ∀ e', e' < e → ¬ wl E r e' i
  | 0, s, hs, h => Or.inl ⟨rfl, fun e he => h e (by omega)⟩
  | n + 1, s, hs, h => by
    unfold distG
    rw [bitB_bt (by omega)]
    by_cases hl : wl E r s i
    · exact Or.inr ⟨s, by omega, by rw [if_pos ((hb s).mpr hl)], hl, h⟩
    · rw [if_neg (fun q => hl ((hb s).mp q))]
      exact distG_S hi hb n (s + 1) (by omega) (fun e he => by
        rcases Nat.lt_or_ge e s with q | q
        · exact h e q
        · rw [show e = s by omega]
          exact hl)
theorem dist_farS {σ : vW} {t m r i : Nat} {opn : Int32} (hm9 : m ≤ 9) (hs : sdOK (σ (t + 5)) (σ (t + 6)) m) (hr : r < 8) (hi : i < 8) : farS (edg (σ (t + 5)) (σ (t + 6)) m (bt opn)) r (distW σ t m opn (nI r) (nI i)) i := by
  rcases distG_S (f := stepS σ t m opn) (r0 := nI 1 <<< (nI r &&& 31)) hi (fun d => itS_lv hm9 hs hr d i (by omega)) 8 0 rfl (fun e he => by omega) with ⟨h1, h2⟩ | h
  · exact Or.inl ⟨h1, fun e q => h2 7 (by omega) (wl_full edg_lt hr q)⟩
  · exact Or.inr h
