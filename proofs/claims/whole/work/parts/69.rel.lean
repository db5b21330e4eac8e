/-! The pure part: what holds of both sides between two calls: a the program's world, b the model's -/
def tR (a b : vW) (n m K : Nat) : Prop := TP a (b 76) 21 0 n m K ∧ b 75 1 = nI n ∧ b 75 20 = nI 0
def sR (a b : vW) (n k : Nat) : Prop := a 4 3 = nI k ∧ k ≤ 6 ∧ b 75 25 = nI k ∧ ∀ i, i < k → ∃ p r, p < n ∧ r < 8 ∧ a 5 i = nI p ∧ a 6 i = nI r ∧ (a 7 i = 0 ∨ a 7 i = 1) ∧ b 82 (3 * i) = nI p ∧ b 82 (3 * i + 1) = nI r ∧ b 82 (3 * i + 2) = a 7 i
def kR (a b : vW) (n : Nat) : Prop := ∀ i, i < 2 → a 9 i = b 84 i ∧ (b 84 i = 0 ∨ (b 84 i = 1 ∧ ∃ m K, TP a (b 76) (imgP i) (65 * (i + 1)) n m K))
def pR (a b : vW) (l : Nat) : Prop := a 2 1 = nI l ∧ l ≤ 160 ∧ b 75 10 = nI l ∧ ∀ j, j < l → a 3 j = b 78 j ∧ ∃ c, c < 128 ∧ b 78 j = nI c
def hR (a b : vW) : Prop := (∀ q, q < 4 → (a (shP q) 2 < 0 ∧ b 85 q = -4) ∨ (∃ l, l < 3 ∧ a (shP q) 1 = nI l ∧ b 85 q = nI l ∧ a (shP q) 2 = b 86 q ∧ ∀ i, i < 40 → a (shP q + 1) i = b 87 (40 * q + i))) ∧ ∀ q, q < 4 → ∃ e, e ≤ 40 ∧ b 86 q = nI e
/-- the letters of the words, as the model keeps them -/
def lettN (i : Nat) : Int32 := ([111, 119, 110, 104, 111, 117, 115, 101, 115, 116, 114, 97, 110, 103, 101, 114, 103, 97, 111, 108, 119, 97, 108, 108, 114, 111, 111, 109, 112, 108, 97, 110] : List Int32).getD i 0
def fR (a b : vW) : Prop := a 0 8 = b 75 11 ∧ a 0 9 = b 75 31 ∧ cutOK b ∧ ∀ i, i < 32 → b 80 i = lettN i
def Rel (a b : vW) (n m K k l : Nat) : Prop := tR a b n m K ∧ sR a b n k ∧ kR a b n ∧ pR a b l ∧ hR a b ∧ fR a b
section RL
variable {a b a' b' : vW} {n m K k l : Nat}
theorem TP.mv0 {R R' : Nat → Int32} {t g : Nat} (h : TP a R t g n m K) (ha : ∀ r, t ≤ r → r ≤ t + 10 → a' r = a r) (hR : ∀ i, g ≤ i → i < g + 65 → R' i = R i) : TP a' R' t g n m K :=
  h.mv (fun j _ _ => by rw [ha t (by omega) (by omega)]) (fun i j _ _ _ => by rw [ha (t + i) (by omega) (by omega)]) (fun i j _ _ _ => by rw [ha (t + i) (by omega) (by omega)]) (fun j _ => by rw [ha (t + 8) (by omega) (by omega)]) (fun i j _ _ _ => by rw [ha (t + i) (by omega) (by omega)]) (fun i hi => hR _ (by omega) (by omega))
theorem tR.mv (h : tR a b n m K) (ha : ∀ r, 21 ≤ r → r ≤ 31 → a' r = a r) (hR : ∀ i, i < 65 → b' 76 i = b 76 i) (h1 : b' 75 1 = b 75 1) (h2 : b' 75 20 = b 75 20) : tR a' b' n m K := ⟨h.1.mv0 ha (fun i _ hi => hR i (by omega)), h1.trans h.2.1, h2.trans h.2.2⟩
theorem sR.mv (h : sR a b n k) (ha : ∀ r, 4 ≤ r → r ≤ 7 → a' r = a r) (h1 : b' 75 25 = b 75 25) (h2 : b' 82 = b 82) : sR a' b' n k := by
  unfold sR
  rw [ha 4 (by omega) (by omega), ha 5 (by omega) (by omega), ha 6 (by omega) (by omega), ha 7 (by omega) (by omega), h1, h2]
  exact h
theorem kR.mv (h : kR a b n) (ha : ∀ r, 43 ≤ r → r ≤ 64 → a' r = a r) (h9 : a' 9 = a 9) (h1 : b' 84 = b 84) (hR : ∀ i, 65 ≤ i → i < 195 → b' 76 i = b 76 i) : kR a' b' n := by
  intro i hi
  obtain ⟨q1, q2⟩ := h i hi
  refine ⟨by rw [h9, h1]; exact q1, ?_⟩
  rw [h1]
  rcases q2 with q | ⟨q, m, K, q2⟩
  · exact Or.inl q
  · refine Or.inr ⟨q, m, K, q2.mv0 (fun r h1 h2 => ?_) (fun j h1 h2 => hR j (by omega) (by omega))⟩
    rcases (show i = 0 ∨ i = 1 by omega) with rfl | rfl
    · exact ha r (by show 43 ≤ r; exact Nat.le_trans (by decide) h1) (by have h2 : r ≤ 53 := h2; omega)
    · exact ha r (by have h1 : 54 ≤ r := h1; omega) (by have h2 : r ≤ 64 := h2; omega)
theorem pR.mv (h : pR a b l) (h1 : a' 2 1 = a 2 1) (h2 : a' 3 = a 3) (h3 : b' 75 10 = b 75 10) (h4 : b' 78 = b 78) : pR a' b' l := by
  unfold pR
  rw [h1, h2, h3, h4]
  exact h
theorem hR.mv (h : hR a b) (ha : ∀ r, 67 ≤ r → r ≤ 74 → a' r = a r) (h5 : b' 85 = b 85) (h6 : b' 86 = b 86) (h7 : b' 87 = b 87) : hR a' b' := by
  unfold hR
  rw [h5, h6, h7]
  refine ⟨fun q hq => ?_, h.2⟩
  have e : a' (shP q) = a (shP q) ∧ a' (shP q + 1) = a (shP q + 1) := by
    rcases (show q = 0 ∨ q = 1 ∨ q = 2 ∨ q = 3 by omega) with rfl | rfl | rfl | rfl
    all_goals exact ⟨ha _ (by decide) (by decide), ha _ (by decide) (by decide)⟩
  rw [e.1, e.2]
  exact h.1 q hq
theorem fR.mv (h : fR a b) (h1 : a' 0 8 = a 0 8) (h2 : a' 0 9 = a 0 9) (h3 : b' 75 11 = b 75 11) (h4 : b' 75 31 = b 75 31) (h5 : b' 79 = b 79) (h6 : b' 80 = b 80) : fR a' b' := by
  unfold fR cutOK
  rw [h1, h2, h3, h4, h5, h6]
  exact h
/-- worlds that tell the same between calls -/
def aSame (a' a : vW) : Prop := ∀ r, r < 75 → ¬ (10 ≤ r ∧ r ≤ 20) → ¬ (32 ≤ r ∧ r ≤ 42) → r ≠ 66 → r ≠ 1 → a' r = a r
theorem Rel.qry (h : Rel a b n m K k l) (ha : aSame a' a) (hb : scr b' b) : Rel a' b' n m K k l := by
  obtain ⟨h1, h2, h3, h4, h5, h6⟩ := h
  have f : ∀ i, i ≠ 22 → i ≠ 23 → b' 75 i = b 75 i := hb.2.1
  have r : ∀ r, r ≠ 75 → r ≠ 76 → r ≠ 81 → r ≠ 83 → b' r = b r := hb.1
  have c : ∀ i, ¬ (260 ≤ i ∧ i < 325) → b' 76 i = b 76 i := hb.2.2
  refine ⟨h1.mv (fun r _ _ => ha r (by omega) (by omega) (by omega) (by omega) (by omega)) (fun i hi => c i (by omega)) (f 1 (by decide) (by decide)) (f 20 (by decide) (by decide)),
    h2.mv (fun r _ _ => ha r (by omega) (by omega) (by omega) (by omega) (by omega)) (f 25 (by decide) (by decide)) (r 82 (by decide) (by decide) (by decide) (by decide)),
    h3.mv (fun r _ _ => ha r (by omega) (by omega) (by omega) (by omega) (by omega)) (ha 9 (by decide) (by decide) (by decide) (by decide) (by decide)) (r 84 (by decide) (by decide) (by decide) (by decide)) (fun i _ _ => c i (by omega)),
    h4.mv (by rw [ha 2 (by decide) (by decide) (by decide) (by decide) (by decide)]) (ha 3 (by decide) (by decide) (by decide) (by decide) (by decide)) (f 10 (by decide) (by decide)) (r 78 (by decide) (by decide) (by decide) (by decide)),
    h5.mv (fun r _ _ => ha r (by omega) (by omega) (by omega) (by omega) (by omega)) (r 85 (by decide) (by decide) (by decide) (by decide)) (r 86 (by decide) (by decide) (by decide) (by decide)) (r 87 (by decide) (by decide) (by decide) (by decide)),
    h6.mv (by rw [ha 0 (by decide) (by decide) (by decide) (by decide) (by decide)]) (by rw [ha 0 (by decide) (by decide) (by decide) (by decide) (by decide)]) (f 11 (by decide) (by decide)) (f 31 (by decide) (by decide)) (r 79 (by decide) (by decide) (by decide) (by decide)) (r 80 (by decide) (by decide) (by decide) (by decide))⟩
/-- another town, all else as it was -/
theorem Rel.town {m' K' : Nat} (h : Rel a b n m K k l) (ht : tR a' b' n m' K') (ha : ∀ r, ¬ (21 ≤ r ∧ r ≤ 31) → a' r = a r) (hb : ∀ r, r ≠ 76 → r ≠ 81 → b' r = b r) (hc : ∀ i, 65 ≤ i → b' 76 i = b 76 i) : Rel a' b' n m' K' k l := by
  obtain ⟨h1, h2, h3, h4, h5, h6⟩ := h
  have f : ∀ i, b' 75 i = b 75 i := fun i => by rw [hb 75 (by decide) (by decide)]
  exact ⟨ht, h2.mv (fun r _ _ => ha r (by omega)) (f 25) (hb 82 (by decide) (by decide)), h3.mv (fun r _ _ => ha r (by omega)) (ha 9 (by decide)) (hb 84 (by decide) (by decide)) (fun i h1 _ => hc i h1),
    h4.mv (by rw [ha 2 (by decide)]) (ha 3 (by decide)) (f 10) (hb 78 (by decide) (by decide)), h5.mv (fun r _ _ => ha r (by omega)) (hb 85 (by decide) (by decide)) (hb 86 (by decide) (by decide)) (hb 87 (by decide) (by decide)),
    h6.mv (by rw [ha 0 (by decide)]) (by rw [ha 0 (by decide)]) (f 11) (f 31) (hb 79 (by decide) (by decide)) (hb 80 (by decide) (by decide))⟩
/-- all that the walks over the model's pages want -/
theorem Rel.pOK (h : Rel a b n m K k l) : pOK b n m 0 := ⟨⟨h.1.2.1, h.1.1.n5, by omega⟩, ⟨h.1.1.gm, h.1.1.m9, h.1.1.wOK⟩, fun _ hq => h.1.1.hom8 hq⟩
theorem Rel.plOK (h : Rel a b n m K k l) : plOK b K := by
  have n5 := h.1.1.n5
  refine ⟨h.1.1.gK, h.1.1.K6, fun i hi => ?_⟩
  obtain ⟨q1, q2, ⟨p, hp, q3⟩, q4⟩ := h.1.1.act hi
  exact ⟨p, by omega, by rw [show 53 + i = 0 + 53 + i by omega, ← q1]; exact q3⟩
theorem Rel.seOK (h : Rel a b n m K k l) : seOK b k := by
  have n5 := h.1.1.n5
  refine ⟨h.2.1.2.2.1, h.2.1.2.1, fun i hi => ?_⟩
  obtain ⟨p, r, hp, hr, e1, e2, e3, e4, e5, e6⟩ := h.2.1.2.2.2 i hi
  exact ⟨p, by omega, e4⟩
/-- the two halves of one world -/
theorem Rel.glue (h : Rel a b n m K k l) (ha : ∀ r, r < 75 → a' r = a r) (hb : ∀ r, 75 ≤ r → b' r = b r) : Rel a' b' n m K k l := by
  obtain ⟨h1, h2, h3, h4, h5, h6⟩ := h
  exact ⟨h1.mv (fun r _ _ => ha r (by omega)) (fun i _ => by rw [hb 76 (by omega)]) (by rw [hb 75 (by omega)]) (by rw [hb 75 (by omega)]),
    h2.mv (fun r _ _ => ha r (by omega)) (by rw [hb 75 (by omega)]) (hb 82 (by omega)), h3.mv (fun r _ _ => ha r (by omega)) (ha 9 (by omega)) (hb 84 (by omega)) (fun i _ _ => by rw [hb 76 (by omega)]),
    h4.mv (by rw [ha 2 (by omega)]) (ha 3 (by omega)) (by rw [hb 75 (by omega)]) (hb 78 (by omega)), h5.mv (fun r _ _ => ha r (by omega)) (hb 85 (by omega)) (hb 86 (by omega)) (hb 87 (by omega)),
    h6.mv (by rw [ha 0 (by omega)]) (by rw [ha 0 (by omega)]) (by rw [hb 75 (by omega)]) (by rw [hb 75 (by omega)]) (hb 79 (by omega)) (hb 80 (by omega))⟩
end RL
