/-! The pure part: the model's distances are the same -/
theorem upd_at (f : Nat → Int32) (i : Nat) (v : Int32) : upd f i v i = v := by simp only [upd, if_true]
theorem upd_ne {f : Nat → Int32} {i j : Nat} {v : Int32} (h : j ≠ i) : upd f i v j = f j := by simp only [upd, if_neg h]
theorem upF_iff (F : Nat → Int32) (i b : Nat) (v : Int32) : upF F b v i = if i = b then v else F i := rfl
theorem mgF_at {F : Nat → Int32} {a b d i : Nat} (hd : d < 100) : mgF F a b d i = if i = b ∧ F a = nI d ∧ F b = -4 then nI (d + 1) else if i = a ∧ F b = nI d ∧ F a = -4 then nI (d + 1) else F i := by
  have n4 : ¬ nI d = -4 := nI_nm4 (by omega)
  have hx : ∀ c, F c = nI d → ¬ F c = -4 := fun c h1 h2 => n4 (h1.symm.trans h2)
  unfold mgF
  by_cases h1 : F a = nI d
  · have q2 : ¬ (i = a ∧ F b = nI d ∧ F a = -4) := fun q => hx a h1 q.2.2
    rw [if_pos h1, if_neg q2]
    by_cases h3 : F b = -4
    · rw [if_pos h3, upF_iff]
      by_cases h4 : i = b
      · rw [if_pos h4, if_pos ⟨h4, h1, h3⟩]
      · rw [if_neg h4, if_neg (fun q : i = b ∧ F a = nI d ∧ F b = -4 => h4 q.1)]
    · rw [if_neg h3, if_neg (fun q : i = b ∧ F a = nI d ∧ F b = -4 => h3 q.2.2)]
      split
      · rw [if_neg (hx a h1)]
      · rfl
  · have q1 : ¬ (i = b ∧ F a = nI d ∧ F b = -4) := fun q => h1 q.2.1
    rw [if_neg h1, if_neg q1]
    by_cases h3 : F b = nI d
    · rw [if_pos h3]
      by_cases h4 : F a = -4
      · rw [if_pos h4, upF_iff]
        by_cases h5 : i = a
        · rw [if_pos h5, if_pos ⟨h5, h3, h4⟩]
        · rw [if_neg h5, if_neg (fun q : i = a ∧ F b = nI d ∧ F a = -4 => h5 q.1)]
      · rw [if_neg h4, if_neg (fun q : i = a ∧ F b = nI d ∧ F a = -4 => h4 q.2.2)]
    · rw [if_neg h3, if_neg (fun q : i = a ∧ F b = nI d ∧ F a = -4 => h3 q.2.1)]
/-- reached by the first k walls in round d -/
def wlk (A B : Nat → Int32) (m : Nat) (P : Nat → Bool) (r d k i : Nat) : Prop := wl (edg A B m P) r d i ∨ ∃ j, wl (edg A B m P) r d j ∧ edg A B k P j i
/-- what round d knows behind k walls -/
def rnd (A B : Nat → Int32) (m : Nat) (P : Nat → Bool) (r d k : Nat) (F : Nat → Int32) : Prop := ∀ i, i < 8 → (F i = -4 ∧ ¬ wlk A B m P r d k i) ∨ (∃ e, e ≤ d ∧ F i = nI e ∧ wl (edg A B m P) r e i ∧ ∀ e', e' < e → ¬ wl (edg A B m P) r e' i) ∨ (F i = nI (d + 1) ∧ ¬ wl (edg A B m P) r d i ∧ wlk A B m P r d k i)
theorem edg_le {A B : Nat → Int32} {m k : Nat} {P : Nat → Bool} {a b : Nat} (hk : k ≤ m) (h : edg A B k P a b) : edg A B m P a b := by
  obtain ⟨h1, h2, w, h3, h4, h5⟩ := h
  exact ⟨h1, h2, w, by omega, h4, h5⟩
theorem edg_s {A B : Nat → Int32} {k a b : Nat} {P : Nat → Bool} (ha : a < 8) (hb : b < 8) (ea : A k = nI a) (eb : B k = nI b) {j i : Nat} : edg A B (k + 1) P j i ↔ edg A B k P j i ∨ (P k = true ∧ ((j = a ∧ i = b) ∨ (j = b ∧ i = a))) := by
  constructor
  · rintro ⟨h1, h2, w, h3, h4, h5⟩
    by_cases e : w = k
    · subst e
      rcases h5 with ⟨q1, q2⟩ | ⟨q1, q2⟩
      · exact Or.inr ⟨h4, Or.inl ⟨nI_eqN (by omega) (by omega) (q1.symm.trans ea), nI_eqN (by omega) (by omega) (q2.symm.trans eb)⟩⟩
      · exact Or.inr ⟨h4, Or.inr ⟨nI_eqN (by omega) (by omega) (q2.symm.trans eb), nI_eqN (by omega) (by omega) (q1.symm.trans ea)⟩⟩
    · exact Or.inl ⟨h1, h2, w, by omega, h4, h5⟩
  · rintro (⟨h1, h2, w, h3, h4, h5⟩ | ⟨h1, ⟨rfl, rfl⟩ | ⟨rfl, rfl⟩⟩)
    · exact ⟨h1, h2, w, by omega, h4, h5⟩
    · exact ⟨ha, hb, k, by omega, h1, Or.inl ⟨ea, eb⟩⟩
    · exact ⟨hb, ha, k, by omega, h1, Or.inr ⟨ea, eb⟩⟩
theorem rnd_known {A B : Nat → Int32} {m : Nat} {P : Nat → Bool} {r d k i : Nat} {F : Nat → Int32} (h : rnd A B m P r d k F) (hd : d < 100) (hi : i < 8) : F i = nI d ↔ wl (edg A B m P) r d i ∧ ∀ e', e' < d → ¬ wl (edg A B m P) r e' i := by
  have n4 : ¬ nI d = -4 := nI_nm4 (by omega)
  rcases h i hi with ⟨h1, h2⟩ | ⟨e, h1, h2, h3, h4⟩ | ⟨h1, h2, h3⟩
  · exact ⟨fun q => absurd (q.symm.trans h1) n4, fun q => absurd (Or.inl q.1) h2⟩
  · constructor
    · intro q
      have := nI_eqN (by omega) (by omega) (h2.symm.trans q)
      subst this
      exact ⟨h3, h4⟩
    · rintro ⟨q1, q2⟩
      rcases Nat.lt_or_eq_of_le h1 with q | q
      · exact absurd h3 (q2 e q)
      · rw [h2, q]
  · constructor
    · intro q
      have := nI_eqN (by omega) (by omega) (h1.symm.trans q)
      omega
    · exact fun q => absurd q.1 h2
theorem rnd_none {A B : Nat → Int32} {m : Nat} {P : Nat → Bool} {r d k i : Nat} {F : Nat → Int32} (h : rnd A B m P r d k F) (hd : d < 100) (hi : i < 8) : F i = -4 ↔ ¬ wlk A B m P r d k i := by
  rcases h i hi with ⟨h1, h2⟩ | ⟨e, h1, h2, h3, h4⟩ | ⟨h1, h2, h3⟩
  · exact ⟨fun _ => h2, fun _ => h1⟩
  · exact ⟨fun q => absurd (h2.symm.trans q) (nI_nm4 (by omega)), fun q => absurd (Or.inl (wl_mono h3 h1)) q⟩
  · exact ⟨fun q => absurd (h1.symm.trans q) (nI_nm4 (by omega)), fun q => absurd h3 q⟩
theorem rnd_s {A B : Nat → Int32} {m : Nat} {P : Nat → Bool} {r d k a b : Nat} {F : Nat → Int32} (h : rnd A B m P r d k F) (hd : d < 100) (hk : k < m) (ha : a < 8) (hb : b < 8) (ea : A k = nI a) (eb : B k = nI b) (hP : P k = true) : rnd A B m P r d (k + 1) (mgF F a b d) := by
  have hw : ∀ i, wlk A B m P r d (k + 1) i ↔ wlk A B m P r d k i ∨ (wl (edg A B m P) r d a ∧ i = b) ∨ (wl (edg A B m P) r d b ∧ i = a) := by
    intro i
    unfold wlk
    constructor
    · rintro (q | ⟨j, q1, q2⟩)
      · exact Or.inl (Or.inl q)
      · rcases (edg_s ha hb ea eb).mp q2 with q | ⟨_, ⟨rfl, rfl⟩ | ⟨rfl, rfl⟩⟩
        · exact Or.inl (Or.inr ⟨j, q1, q⟩)
        · exact Or.inr (Or.inl ⟨q1, rfl⟩)
        · exact Or.inr (Or.inr ⟨q1, rfl⟩)
    · rintro ((q | ⟨j, q1, q2⟩) | ⟨q1, rfl⟩ | ⟨q1, rfl⟩)
      · exact Or.inl q
      · exact Or.inr ⟨j, q1, (edg_s ha hb ea eb).mpr (Or.inl q2)⟩
      · exact Or.inr ⟨a, q1, (edg_s ha hb ea eb).mpr (Or.inr ⟨hP, Or.inl ⟨rfl, rfl⟩⟩)⟩
      · exact Or.inr ⟨b, q1, (edg_s ha hb ea eb).mpr (Or.inr ⟨hP, Or.inr ⟨rfl, rfl⟩⟩)⟩
  have eab : edg A B m P a b := ⟨ha, hb, k, hk, hP, Or.inl ⟨ea, eb⟩⟩
  have eba : edg A B m P b a := edg_symm _ _ eab
  -- a neighbour of what is reached, and itself not yet known, is a neighbour of what was reached just now
  have just : ∀ u v, u < 8 → v < 8 → edg A B m P u v → wl (edg A B m P) r d u → ¬ wl (edg A B m P) r d v → F u = nI d := by
    intro u v hu hv he h1 h2
    refine (rnd_known h hd hu).mpr ⟨h1, fun e' q1 q2 => h2 (wl_mono (d := e' + 1) (Or.inr ⟨u, q2, he⟩) (by omega))⟩
  intro i hi
  rw [mgF_at hd]
  have hia := rnd_none h hd ha
  have hib := rnd_none h hd hb
  split
  · rename_i q
    obtain ⟨rfl, q1, q2⟩ := q
    have q3 := (rnd_known h hd ha).mp q1
    exact Or.inr (Or.inr ⟨rfl, fun q4 => (hib.mp q2) (Or.inl q4), (hw i).mpr (Or.inr (Or.inl ⟨q3.1, rfl⟩))⟩)
  · rename_i n1
    split
    · rename_i q
      obtain ⟨rfl, q1, q2⟩ := q
      have q3 := (rnd_known h hd hb).mp q1
      exact Or.inr (Or.inr ⟨rfl, fun q4 => (hia.mp q2) (Or.inl q4), (hw i).mpr (Or.inr (Or.inr ⟨q3.1, rfl⟩))⟩)
    · rename_i n2
      rcases h i hi with ⟨h1, h2⟩ | h1 | ⟨h1, h2, h3⟩
      · refine Or.inl ⟨h1, fun q => ?_⟩
        rcases (hw i).mp q with q | ⟨q, rfl⟩ | ⟨q, rfl⟩
        · exact h2 q
        · exact n1 ⟨rfl, just a i ha hb eab q (fun q2 => h2 (Or.inl q2)), h1⟩
        · exact n2 ⟨rfl, just b i hb ha eba q (fun q2 => h2 (Or.inl q2)), h1⟩
      · exact Or.inr (Or.inl h1)
      · exact Or.inr (Or.inr ⟨h1, h2, (hw i).mpr (Or.inl h3)⟩)
theorem rnd_sn {A B : Nat → Int32} {m : Nat} {P : Nat → Bool} {r d k : Nat} {F : Nat → Int32} (h : rnd A B m P r d k F) (hP : ¬ P k = true) : rnd A B m P r d (k + 1) F := by
  have hw : ∀ i, wlk A B m P r d (k + 1) i ↔ wlk A B m P r d k i := by
    intro i
    apply or_congr Iff.rfl
    constructor
    · rintro ⟨j, q1, q2, q3, w, q4, q5, q6⟩
      refine ⟨j, q1, q2, q3, w, ?_, q5, q6⟩
      rcases Nat.lt_or_ge w k with q | q
      · exact q
      · rw [show w = k by omega] at q5
        exact absurd q5 hP
    · rintro ⟨j, q1, q2⟩
      exact ⟨j, q1, edg_le (Nat.le_succ k) q2⟩
  intro i hi
  rw [hw]
  exact h i hi
theorem rnd_0 {A B : Nat → Int32} {m : Nat} {P : Nat → Bool} {r d : Nat} {F : Nat → Int32} (h : rnd A B m P r d m F) : rnd A B m P r (d + 1) 0 F := by
  have hw : ∀ i, wlk A B m P r (d + 1) 0 i ↔ wlk A B m P r d m i := by
    intro i
    constructor
    · rintro (q | ⟨j, _, _, _, w, q, _⟩)
      · exact q
      · omega
    · exact fun q => Or.inl q
  intro i hi
  rcases h i hi with ⟨h1, h2⟩ | ⟨e, h1, h2, h3, h4⟩ | ⟨h1, h2, h3⟩
  · exact Or.inl ⟨h1, fun q => h2 ((hw i).mp q)⟩
  · exact Or.inr (Or.inl ⟨e, by omega, h2, h3, h4⟩)
  · exact Or.inr (Or.inl ⟨d + 1, by omega, h1, h3, fun e' he q => h2 (wl_mono q (by omega))⟩)
/-- the mask is of what is known -/
def mskOK (s : Int32 × (Nat → Int32)) : Prop := (∀ i, i < 8 → (bt s.1 i = true ↔ s.2 i ≠ -4)) ∧ ∀ i, 8 ≤ i → i < 32 → bt s.1 i = false
theorem mskOK_X {a b d : Nat} {s : Int32 × (Nat → Int32)} (h : mskOK s) (ha : a < 8) (hb : b < 8) (hd : d < 100) : mskOK (mgX a b d s) := by
  have hbit : ∀ (F : Nat → Int32) c i, c < 8 → i < 32 → (bt (if F c = -4 then nI 0 else nI 1 <<< (nI c &&& 31)) i = true ↔ F c ≠ -4 ∧ i = c) := by
    intro F c i hc hi
    split
    · rename_i q
      constructor
      · intro e
        rw [show nI 0 = 0 from rfl, b_0] at e
        exact absurd e Bool.false_ne_true
      · exact fun e => absurd q e.1
    · rename_i q
      rw [bt_bitI (by omega) hi]
      exact ⟨fun e => ⟨q, e⟩, fun e => e.2⟩
  have hm : ∀ i, i < 32 → (bt (mgX a b d s).1 i = true ↔ bt s.1 i = true ∨ (mgF s.2 a b d a ≠ -4 ∧ i = a) ∨ (mgF s.2 a b d b ≠ -4 ∧ i = b)) := by
    intro i hi
    show bt (mgM (mgF s.2 a b d) a b s.1) i = true ↔ _
    rw [mgM, or_iff, or_iff, hbit _ a i ha hi, hbit _ b i hb hi, or_assoc]
  have n4 : ¬ nI (d + 1) = -4 := nI_nm4 (by omega)
  constructor
  · intro i hi
    rw [hm i (by omega)]
    show _ ↔ mgF s.2 a b d i ≠ -4
    constructor
    · rintro (q | ⟨q, rfl⟩ | ⟨q, rfl⟩)
      · have := (h.1 i hi).mp q
        rw [mgF_at hd]
        split
        · exact n4
        · split
          · exact n4
          · exact this
      · exact q
      · exact q
    · intro q
      by_cases e1 : i = a
      · subst e1
        exact Or.inr (Or.inl ⟨q, rfl⟩)
      · by_cases e2 : i = b
        · subst e2
          exact Or.inr (Or.inr ⟨q, rfl⟩)
        · rw [mgF_at hd, if_neg (fun z => e2 z.1), if_neg (fun z => e1 z.1)] at q
          exact Or.inl ((h.1 i hi).mpr q)
  · intro i h8 h32
    apply Bool.eq_false_iff.mpr
    intro q
    rcases (hm i h32).mp q with q | ⟨_, q⟩ | ⟨_, q⟩
    · rw [h.2 i h8 h32] at q
      exact Bool.false_ne_true q
    · omega
    · omega
theorem mgW_rnd {R : Nat → Int32} {n m g q d r : Nat} {J : Int32} {s : Int32 × (Nat → Int32)} (hE : wOK R g m) (hd : d < 100) (h : rnd (fun w => R (g + 26 + w)) (fun w => R (g + 35 + w)) m (fun w => mPass R n J g w q) r d 0 s.2) (hm : mskOK s) : ∀ k, k ≤ m → rnd (fun w => R (g + 26 + w)) (fun w => R (g + 35 + w)) m (fun w => mPass R n J g w q) r d k (mgW R n J g q d s k).2 ∧ mskOK (mgW R n J g q d s k)
  | 0, _ => ⟨h, hm⟩
  | k + 1, hk => by
    obtain ⟨ih, ihm⟩ := mgW_rnd hE hd h hm k (by omega)
    obtain ⟨a, b, ha, hb, ea, eb⟩ := hE k (by omega)
    unfold mgW mgS
    split
    · rename_i hP
      rw [ea, eb, nI_clamp (by omega), nI_clamp (by omega)]
      exact ⟨rnd_s ih hd (by omega) ha hb ea eb hP, mskOK_X ihm ha hb hd⟩
    · rename_i hP
      exact ⟨rnd_sn ih hP, ihm⟩
theorem mgD_rnd {R : Nat → Int32} {n m g q r : Nat} {J : Int32} {s : Int32 × (Nat → Int32)} (hE : wOK R g m) (h : rnd (fun w => R (g + 26 + w)) (fun w => R (g + 35 + w)) m (fun w => mPass R n J g w q) r 0 0 s.2) (hm : mskOK s) : ∀ d, d < 100 → rnd (fun w => R (g + 26 + w)) (fun w => R (g + 35 + w)) m (fun w => mPass R n J g w q) r d 0 (mgD R n J g q m s d).2 ∧ mskOK (mgD R n J g q m s d)
  | 0, _ => ⟨h, hm⟩
  | d + 1, hd => by
    obtain ⟨ih, ihm⟩ := mgD_rnd hE h hm d (by omega)
    obtain ⟨k1, k2⟩ := mgW_rnd hE (show d < 100 by omega) ih ihm m (Nat.le_refl m)
    exact ⟨rnd_0 k1, k2⟩
def mEdg (R : Nat → Int32) (n : Nat) (J : Int32) (g m q : Nat) : Nat → Nat → Prop := edg (fun w => R (g + 26 + w)) (fun w => R (g + 35 + w)) m (fun w => mPass R n J g w q)
theorem mgA_rnd {R : Nat → Int32} {n m g q r : Nat} {J : Int32} {f : Nat → Int32} (hE : wOK R g m) (hr : r < 8) : (∀ i, i < 8 → farS (mEdg R n J g m q) r ((mgA R n J g q m r f).2 i) i) ∧ mskOK (mgA R n J g q m r f) := by
  have n0 : ¬ nI 0 = -4 := by decide
  have hI : ∀ i, i < 8 → mgI r f 8 i = if i = r then nI 0 else -4 := by
    intro i hi
    rw [mgI]
    simp only [if_pos hi]
    by_cases e : i = r
    · rw [if_pos e, if_pos (by rw [e])]
    · rw [if_neg e, if_neg (fun z => e (nI_eqN (by omega) (by omega) z))]
  have h0 : rnd (fun w => R (g + 26 + w)) (fun w => R (g + 35 + w)) m (fun w => mPass R n J g w q) r 0 0 (mgI r f 8) := by
    intro i hi
    rw [hI i hi]
    by_cases e : i = r
    · rw [if_pos e]
      exact Or.inr (Or.inl ⟨0, Nat.le_refl 0, rfl, e, fun e' z => by omega⟩)
    · rw [if_neg e]
      refine Or.inl ⟨rfl, ?_⟩
      rintro (z | ⟨j, _, _, _, w, z, _⟩)
      · exact e z
      · omega
  have hm0 : mskOK (nI 1 <<< (nI r &&& 31), mgI r f 8) := by
    constructor
    · intro i hi
      rw [bt_bitI (by omega) (by omega)]
      show _ ↔ mgI r f 8 i ≠ -4
      rw [hI i hi]
      constructor
      · intro e
        rw [if_pos e]
        exact n0
      · intro e
        apply Classical.byContradiction
        intro z
        exact e (if_neg z)
    · intro i h8 h32
      apply Bool.eq_false_iff.mpr
      intro z
      have := (bt_bitI (by omega) h32).mp z
      omega
  obtain ⟨k1, k2⟩ := mgD_rnd (n := n) (J := J) (q := q) hE h0 hm0 7 (by omega)
  refine ⟨fun i hi => ?_, k2⟩
  rcases k1 i hi with ⟨h1, h2⟩ | ⟨e, h1, h2, h3, h4⟩ | ⟨h1, h2, h3⟩
  · exact Or.inl ⟨h1, fun e z => h2 (Or.inl (wl_full edg_lt hr z))⟩
  · exact Or.inr ⟨e, by omega, h2, h3, h4⟩
  · rcases h3 with z | ⟨j, _, _, _, w, z, _⟩
    · exact absurd z h2
    · omega
/-- who is told to reach which rooms: the same masks -/
theorem reach_eq {σ : vW} {R : Nat → Int32} {t n m g q r : Nat} {J opn : Int32} (hm9 : m ≤ 9) (hr : r < 8) (hE : wOK R g m) (h : ∀ w, w < m → σ (t + 5) w = R (g + 26 + w) ∧ σ (t + 6) w = R (g + 35 + w) ∧ bt opn w = mPass R n J g w q) : spreadW σ t m opn (nI r) = mReach R n J g m q r := by
  have hs : sdOK (σ (t + 5)) (σ (t + 6)) m := fun w hw => by
    obtain ⟨a, b, ha, hb, ea, eb⟩ := hE w hw
    exact ⟨a, b, ha, hb, (h w hw).1.trans ea, (h w hw).2.1.trans eb⟩
  have he : edg (σ (t + 5)) (σ (t + 6)) m (bt opn) = mEdg R n J g m q := edg_ext h
  obtain ⟨k1, k2⟩ := mgA_rnd (n := n) (J := J) (q := q) (f := fun _ => 0) hE hr
  apply b_ext
  intro i hi
  rw [Bool.eq_iff_iff, spread_lv hm9 hs hr hi, he]
  unfold mReach
  by_cases h8 : i < 8
  · rw [k2.1 i h8]
    rcases k1 i h8 with ⟨z1, z2⟩ | ⟨e, z1, z2, z3, z4⟩
    · exact ⟨fun z => absurd z (z2 7), fun z => absurd z1 z⟩
    · refine ⟨fun _ => ?_, fun _ => wl_mono z3 (by omega)⟩
      rw [z2]
      exact nI_nm4 (by omega)
  · rw [k2.2 i (by omega) hi]
    exact ⟨fun z => absurd (wl_lt edg_lt hr _ _ z) h8, fun z => absurd z Bool.false_ne_true⟩
/-- how far: the same numbers -/
theorem dist_eq {σ : vW} {R : Nat → Int32} {t n m g q r i : Nat} {J opn : Int32} (hm9 : m ≤ 9) (hr : r < 8) (hi : i < 8) (hE : wOK R g m) (h : ∀ w, w < m → σ (t + 5) w = R (g + 26 + w) ∧ σ (t + 6) w = R (g + 35 + w) ∧ bt opn w = mPass R n J g w q) : distW σ t m opn (nI r) (nI i) = mFar R n J g m q r i := by
  have hs : sdOK (σ (t + 5)) (σ (t + 6)) m := fun w hw => by
    obtain ⟨a, b, ha, hb, ea, eb⟩ := hE w hw
    exact ⟨a, b, ha, hb, (h w hw).1.trans ea, (h w hw).2.1.trans eb⟩
  have he : edg (σ (t + 5)) (σ (t + 6)) m (bt opn) = mEdg R n J g m q := edg_ext h
  have k := dist_farS (opn := opn) hm9 hs hr hi
  rw [he] at k
  exact farS_eq k ((mgA_rnd (n := n) (J := J) (q := q) (f := fun _ => 0) hE hr).1 i hi)
/-- and from there to here as far as from here to there -/
theorem mFar_symm {R : Nat → Int32} {n m g q r i : Nat} {J : Int32} (hr : r < 8) (hi : i < 8) (hE : wOK R g m) : mFar R n J g m q r i = mFar R n J g m q i r :=
  farS_eq (farS_symm edg_symm ((mgA_rnd (n := n) (J := J) (q := q) (f := fun _ => 0) hE hr).1 i hi)) ((mgA_rnd (n := n) (J := J) (q := q) (f := fun _ => 0) hE hi).1 r hr)
