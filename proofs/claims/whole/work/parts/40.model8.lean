/-! The model: which way one goes, wall by wall -/
/-- what the distances tell: a room that is far has a nearer one behind a wall -/
def farOK (P : Nat → Bool) (R : Nat → Int32) (g m r : Nat) (F : Nat → Int32) : Prop := ∀ v, v < 8 → F v = -4 ∨ (F v = nI 0 ∧ v = r) ∨ ∃ d w u, d < 8 ∧ w < m ∧ u < 8 ∧ P w = true ∧ F v = nI (d + 1) ∧ F u = nI d ∧ ((R (g + 26 + w) = nI u ∧ R (g + 35 + w) = nI v) ∨ (R (g + 26 + w) = nI v ∧ R (g + 35 + w) = nI u))
theorem farOK_up {P : Nat → Bool} {R : Nat → Int32} {g m r d w a b : Nat} {F : Nat → Int32} (h : farOK P R g m r F) (hd : d < 8) (hw : w < m) (hP : P w = true) (ha : a < 8) (he : (R (g + 26 + w) = nI a ∧ R (g + 35 + w) = nI b) ∨ (R (g + 26 + w) = nI b ∧ R (g + 35 + w) = nI a)) (h1 : F a = nI d) (h2 : F b = -4) : farOK P R g m r (upF F b (nI (d + 1))) := by
  have hab : a ≠ b := fun e => by
    rw [e, h2] at h1
    exact nI_nm4 (by omega) h1.symm
  have hup : ∀ i, i ≠ b → upF F b (nI (d + 1)) i = F i := fun i hi => by simp only [upF, upd, if_neg hi]
  intro v hv
  by_cases hvb : v = b
  · subst hvb
    refine Or.inr (Or.inr ⟨d, w, a, hd, hw, ha, hP, by simp only [upF, upd, if_true], by rw [hup a hab]; exact h1, he⟩)
  · rw [hup v hvb]
    rcases h v hv with q | q | ⟨d', w', u, q1, q2, q3, q4, q5, q6, q7⟩
    · exact Or.inl q
    · exact Or.inr (Or.inl q)
    · refine Or.inr (Or.inr ⟨d', w', u, q1, q2, q3, q4, q5, ?_, q7⟩)
      rw [hup u (fun e => by rw [e, h2] at q6; exact nI_nm4 (by omega) q6.symm)]
      exact q6
theorem farOK_F {P : Nat → Bool} {R : Nat → Int32} {g m r d w a b : Nat} {F : Nat → Int32} (h : farOK P R g m r F) (hd : d < 8) (hw : w < m) (hP : P w = true) (ha : a < 8) (hb : b < 8) (ea : R (g + 26 + w) = nI a) (eb : R (g + 35 + w) = nI b) : farOK P R g m r (mgF F a b d) := by
  unfold mgF
  split
  · split
    · exact farOK_up h hd hw hP ha (Or.inl ⟨ea, eb⟩) (by assumption) (by assumption)
    · split
      · split
        · exact farOK_up h hd hw hP hb (Or.inr ⟨ea, eb⟩) (by assumption) (by assumption)
        · exact h
      · exact h
  · split
    · split
      · exact farOK_up h hd hw hP hb (Or.inr ⟨ea, eb⟩) (by assumption) (by assumption)
      · exact h
    · exact h
theorem farOK_W {R : Nat → Int32} {n g m q r d : Nat} {J : Int32} {s : Int32 × (Nat → Int32)} (hE : wOK R g m) (hd : d < 8) (h : farOK (fun w => mPass R n J g w q) R g m r s.2) : ∀ w, w ≤ m → farOK (fun w => mPass R n J g w q) R g m r (mgW R n J g q d s w).2
  | 0, _ => h
  | w + 1, hw => by
    have ih := farOK_W hE hd h w (by omega)
    obtain ⟨a, b, ha, hb, ea, eb⟩ := hE w (by omega)
    unfold mgW mgS
    split
    · rw [ea, eb, nI_clamp (by omega), nI_clamp (by omega)]
      exact farOK_F ih hd (by omega) (by assumption) ha hb ea eb
    · exact ih
theorem farOK_D {R : Nat → Int32} {n g m q r : Nat} {J : Int32} {s : Int32 × (Nat → Int32)} (hE : wOK R g m) (h : farOK (fun w => mPass R n J g w q) R g m r s.2) : ∀ d, d ≤ 7 → farOK (fun w => mPass R n J g w q) R g m r (mgD R n J g q m s d).2
  | 0, _ => h
  | d + 1, hd => farOK_W hE (by omega) (farOK_D hE h d (by omega)) m (Nat.le_refl m)
theorem farOK_A {R : Nat → Int32} {n g m q r : Nat} {J : Int32} (hE : wOK R g m) (hr : r < 8) : farOK (fun w => mPass R n J g w q) R g m r (mFar R n J g m q r) := by
  refine farOK_D hE ?_ 7 (Nat.le_refl 7)
  intro v hv
  simp only [mgI, if_pos hv]
  by_cases e : v = r
  · subst e
    exact Or.inr (Or.inl ⟨by rw [if_pos rfl], rfl⟩)
  · exact Or.inl (by rw [if_neg (fun q => e (nI_eqN (by omega) (by omega) q))])
