/-! The pure part: the way, wall by wall -/
section WY
variable {a b : vW} {n m K k l : Nat}
theorem fstP_ext {P Q : Nat → Bool} : ∀ j i, (∀ x, i ≤ x → x < i + j → P x = Q x) → fstP P j i = fstP Q j i
  | 0, _, _ => rfl
  | j + 1, i, h => by rw [fstP, fstP, h i (by omega) (by omega), fstP_ext j (i + 1) (fun x h1 h2 => h x (by omega) (by omega))]
def wyT (R F : Nat → Int32) (P : Nat → Bool) (here D : Int32) (w : Nat) : Bool := if P w = true then (if wyO R here w = -4 then false else if F (wyO R here w).toNatClampNeg = D - nI 1 then true else false) else false
theorem wyG_first {R F : Nat → Int32} {P : Nat → Bool} {here D wall : Int32} : ∀ j, j ≤ m → wyG R F P m here D wall j = if fstP (wyT R F P here D) j (m - j) < m then (nI (fstP (wyT R F P here D) j (m - j)), wyO R here (fstP (wyT R F P here D) j (m - j))) else (wall, -4)
  | 0, _ => by rw [wyG, fstP, if_neg (by omega)]
  | j + 1, hj => by
    have ih := wyG_first (R := R) (F := F) (P := P) (here := here) (D := D) (wall := wall) j (by omega)
    have em : m - 1 - j = m - (j + 1) := by omega
    have e2 : m - (j + 1) + 1 = m - j := by omega
    rw [wyG, em, fstP, e2, ih]
    generalize m - (j + 1) = w at *
    by_cases h1 : wyO R here w = -4
    · have ht : wyT R F P here D w = false := by
        rw [wyT, if_pos h1]
        exact ite_self _
      rw [if_pos h1, ht, if_neg Bool.false_ne_true]
    · rw [if_neg h1]
      by_cases h2 : P w = true
      · rw [if_pos h2]
        by_cases h3 : F (wyO R here w).toNatClampNeg = D - nI 1
        · have ht : wyT R F P here D w = true := by rw [wyT, if_pos h2, if_neg h1, if_pos h3]
          rw [if_pos h3, ht, if_pos rfl, if_pos (by omega)]
        · have ht : wyT R F P here D w = false := by rw [wyT, if_pos h2, if_neg h1, if_neg h3]
          rw [if_neg h3, ht, if_neg Bool.false_ne_true]
      · have ht : wyT R F P here D w = false := by rw [wyT, if_neg h2]
        rw [if_neg h2, ht, if_neg Bool.false_ne_true]
theorem wyO_v {R : Nat → Int32} {u w : Nat} (hE : wOK R 0 m) (hw : w < m) : wyO R (nI u) w = -4 ∨ ∃ v, v < 8 ∧ wyO R (nI u) w = nI v := by
  obtain ⟨x, y, hx, hy, ex, ey⟩ := hE w hw
  rw [Nat.zero_add] at ex ey
  by_cases h1 : nI x = nI u
  · exact Or.inr ⟨y, hy, wyO_1 ex ey h1⟩
  · by_cases h2 : nI y = nI u
    · exact Or.inr ⟨x, hx, wyO_2 ex ey h1 h2⟩
    · exact Or.inl (wyO_3 ex ey h1 h2)
/-- the first step, told by both -/
theorem first_eq (h : TP a (b 76) 21 0 n m K) {p r u : Nat} (hp : p < n) (hr : r < 8) (hu : u < 8) : (distW a 21 m (passTo a 21 (nI p) m) (nI u) (nI r) = mFar (b 76) n (nI 0) 0 m p r u) ∧ ∀ w, w < m → otherS a 21 w (nI u) = wyO (b 76) (nI u) w ∧ towP a 21 m (nI u) (nI r) (passTo a 21 (nI p) m) (mFar (b 76) n (nI 0) 0 m p r u) w = wyT (b 76) (mFar (b 76) n (nI 0) 0 m p r) (mWayP (b 76) n (nI 0) p) (nI u) (mFar (b 76) n (nI 0) 0 m p r u) w := by
  have m9 := h.m9
  have hdist : ∀ u, u < 8 → distW a 21 m (passTo a 21 (nI p) m) (nI u) (nI r) = mFar (b 76) n (nI 0) 0 m p r u := fun u hu => by
    rw [mFar_symm hr hu h.wOK]
    exact dist_eq m9 hu hr h.wOK (fun w hw => h.opn hp hw)
  refine ⟨hdist u hu, fun w hw => ?_⟩
  have hO : otherS a 21 w (nI u) = wyO (b 76) (nI u) w := by
    have := h.wall hw
    rw [Nat.zero_add, Nat.zero_add] at this
    rw [otherS, wyO, this.1, this.2]
  refine ⟨hO, ?_⟩
  rw [towP, wyT, hO, bitB_bt (by omega), (h.opn hp hw).2.2]
  show (if mPass (b 76) n (nI 0) 0 w p = true then _ else _) = if mPass (b 76) n (nI 0) 0 w p = true then _ else _
  rcases wyO_v (u := u) h.wOK hw with e | ⟨v, hv, e⟩
  · rw [e, if_pos (show (-4 : Int32) < 0 by decide), if_pos rfl]
  · rw [e, if_neg (nI_pos (by omega)), if_neg (nI_nm4 (by omega)), nI_clamp (by omega), hdist v hv]
theorem way_step (h : TP a (b 76) 21 0 n m K) {p r u d : Nat} {wall : Int32} (hp : p < n) (hr : r < 8) (hu : u < 8) (hd : d < 8) (hF : mFar (b 76) n (nI 0) 0 m p r u = nI (d + 1)) : ∃ w, w < m ∧ firstT a 21 m (nI u) (nI r) (passTo a 21 (nI p) m) = nI w ∧ wyG (b 76) (mFar (b 76) n (nI 0) 0 m p r) (mWayP (b 76) n (nI 0) p) m (nI u) (mFar (b 76) n (nI 0) 0 m p r u) wall m = (nI w, otherS a 21 w (nI u)) := by
  have m9 := h.m9
  obtain ⟨h1, h2⟩ := first_eq h hp hr hu
  have hpos : ¬ nI (d + 1) ≤ 0 := by
    rw [le_toInt, nI_toInt (by omega), Int32.toInt_zero]
    omega
  have hx := fstP_ext (P := towP a 21 m (nI u) (nI r) (passTo a 21 (nI p) m) (mFar (b 76) n (nI 0) 0 m p r u)) (Q := wyT (b 76) (mFar (b 76) n (nI 0) 0 m p r) (mWayP (b 76) n (nI 0) p) (nI u) (mFar (b 76) n (nI 0) 0 m p r u)) m 0 (fun w _ hw => (h2 w (by omega)).2)
  have hG := wyG_first (R := b 76) (F := mFar (b 76) n (nI 0) 0 m p r) (P := mWayP (b 76) n (nI 0) p) (here := nI u) (D := mFar (b 76) n (nI 0) 0 m p r u) (wall := wall) m (Nat.le_refl m)
  rw [Nat.sub_self] at hG
  have hlt : fstP (wyT (b 76) (mFar (b 76) n (nI 0) 0 m p r) (mWayP (b 76) n (nI 0) p) (nI u) (mFar (b 76) n (nI 0) 0 m p r u)) m 0 < m := by
    rcases Nat.lt_or_ge (fstP (wyT (b 76) (mFar (b 76) n (nI 0) 0 m p r) (mWayP (b 76) n (nI 0) p) (nI u) (mFar (b 76) n (nI 0) 0 m p r u)) m 0) m with q | q
    · exact q
    · exfalso
      rw [if_neg (by omega)] at hG
      rcases wyG_ok (F := mFar (b 76) n (nI 0) 0 m p r) (P := mWayP (b 76) n (nI 0) p) (wall := wall) h.wOK hu (by omega) hF m (Nat.le_refl m) with ⟨v, hv, q1, _⟩ | ⟨_, q2⟩
      · rw [hG] at q1
        exact nI_nm4 (by omega) q1.symm
      · rcases farOK_A (n := n) (q := p) (J := nI 0) h.wOK hr u hu with z | ⟨z, _⟩ | ⟨d', w, v, p1, p2, p3, p4, p5, p6, p7⟩
        · rw [hF] at z
          exact nI_nm4 (by omega) z
        · rw [hF] at z
          have := nI_eqN (by omega) (by omega) z
          omega
        · have e4 : d' = d := by
            have := nI_eqN (by omega) (by omega) (hF.symm.trans p5)
            omega
          rw [e4] at p6
          simp only [Nat.zero_add] at p7
          have hne : ¬ nI v = nI u := fun q => by
            have e5 := nI_eqN (by omega) (by omega) q
            rw [e5, hF] at p6
            have := nI_eqN (by omega) (by omega) p6
            omega
          rcases p7 with ⟨a1, a2⟩ | ⟨a1, a2⟩
          · exact q2 w (by omega) p2 p4 v p3 (wyO_2 a1 a2 hne rfl) p6
          · exact q2 w (by omega) p2 p4 v p3 (wyO_1 a1 a2 rfl) p6
  refine ⟨_, hlt, ?_, ?_⟩
  · rw [firstT, h1, hF, if_neg hpos, ← hF, hx, if_pos hlt]
  · rw [hG, if_pos hlt, (h2 _ hlt).1]
theorem way_eq (h : Rel a b n m K k l) {x r i : Int32} : wayR a m x r i = mWayR b n m x r i := by
  have hT := h.1.1
  have n5 := hT.n5
  have m9 := hT.m9
  rw [wayR, mWayR, wayOk, hT.one, roomB_inZ, upToB_inZ (by omega), h.1.2.2]
  by_cases q : inZ x n = true
  · obtain ⟨p, hp, rfl⟩ := inZ_ex q (by omega)
    rw [if_pos q, if_pos q, nI_clamp (by omega)]
    by_cases q2 : inZ r 8 = true
    · obtain ⟨j, hj, rfl⟩ := inZ_ex q2 (by omega)
      rw [if_pos q2, if_pos q2, nI_clamp (by omega)]
      by_cases q3 : inZ i 7 = true
      · obtain ⟨s, hs, rfl⟩ := inZ_ex q3 (by omega)
        rw [if_pos q3, if_pos q3, if_pos rfl, nI_clamp (by omega)]
        obtain ⟨y, hy, e1, e2⟩ := hT.home2 hp
        rw [Nat.zero_add] at e2
        rw [wayW, mWayG, e1, e2, nI_clamp (by omega)]
        have hnone : ∀ u, u < 8 → (mFar (b 76) n (nI 0) 0 m p j u = -4 ∨ mFar (b 76) n (nI 0) 0 m p j u = nI 0) → firstT a 21 m (nI u) (nI j) (passTo a 21 (nI p) m) = -4 := fun u hu hz => by
          obtain ⟨h1, _⟩ := first_eq hT hp hj hu
          rw [firstT, h1, if_pos]
          rcases hz with z | z
          · rw [z]
            decide
          · rw [z]
            decide
        have hval : mFar (b 76) n (nI 0) 0 m p j y = -4 ∨ ∃ d, d < 8 ∧ mFar (b 76) n (nI 0) 0 m p j y = nI d := by
          rcases (mgA_rnd (n := n) (J := nI 0) (q := p) (f := fun _ => 0) hT.wOK hj).1 y hy with ⟨z, _⟩ | ⟨d, hd, z, _⟩
          · exact Or.inl z
          · exact Or.inr ⟨d, hd, z⟩
        rcases hval with hd | ⟨d, hd, eF⟩
        · rw [if_pos hd, wayG, if_pos (hnone y hy (Or.inl hd))]
        · have hA := wyA_ok (P := mWayP (b 76) n (nI 0) p) hT.wOK (farOK_A (n := n) (q := p) (J := nI 0) hT.wOK hj) hy (show d < 100 by omega) eF
          have hstep : ∀ c, c < d → ∃ w, w < m ∧ firstT a 21 m (wyA (b 76) (mFar (b 76) n (nI 0) 0 m p j) (mWayP (b 76) n (nI 0) p) m (nI y) c).1 (nI j) (passTo a 21 (nI p) m) = nI w ∧ wyA (b 76) (mFar (b 76) n (nI 0) 0 m p j) (mWayP (b 76) n (nI 0) p) m (nI y) (c + 1) = (otherS a 21 w (wyA (b 76) (mFar (b 76) n (nI 0) 0 m p j) (mWayP (b 76) n (nI 0) p) m (nI y) c).1, nI w) := fun c hc => by
            obtain ⟨u, hu, u1, u2⟩ := hA c (by omega)
            have u3 : mFar (b 76) n (nI 0) 0 m p j u = nI ((d - c - 1) + 1) := by rw [u2, show d - c - 1 + 1 = d - c by omega]
            obtain ⟨w, hw, w1, w2⟩ := way_step (wall := (wyA (b 76) (mFar (b 76) n (nI 0) 0 m p j) (mWayP (b 76) n (nI 0) p) m (nI y) c).2) hT hp hj hu (by omega) u3
            refine ⟨w, hw, by rw [u1]; exact w1, ?_⟩
            rw [wyA, u1, nI_clamp (by omega), w2]
          have key1 : ∀ e c, c + e ≤ d → wayG a 21 m (nI j) (passTo a 21 (nI p) m) e (wyA (b 76) (mFar (b 76) n (nI 0) 0 m p j) (mWayP (b 76) n (nI 0) p) m (nI y) c).1 (wyA (b 76) (mFar (b 76) n (nI 0) 0 m p j) (mWayP (b 76) n (nI 0) p) m (nI y) c).2 = (wyA (b 76) (mFar (b 76) n (nI 0) 0 m p j) (mWayP (b 76) n (nI 0) p) m (nI y) (c + e)).2 := by
            intro e
            induction e with
            | zero => intro c _; rfl
            | succ e ih =>
              intro c hc
              obtain ⟨w, hw, w1, w2⟩ := hstep c (by omega)
              have := ih (c + 1) (by omega)
              rw [w2] at this
              rw [wayG, w1, if_neg (nI_nm4 (by omega)), nI_clamp (by omega), this, show c + 1 + e = c + (e + 1) by omega]
          have key2 : ∀ e c wl, c ≤ d → d < c + e → wayG a 21 m (nI j) (passTo a 21 (nI p) m) e (wyA (b 76) (mFar (b 76) n (nI 0) 0 m p j) (mWayP (b 76) n (nI 0) p) m (nI y) c).1 wl = -4 := by
            intro e
            induction e with
            | zero => intro c _ h1 h2; omega
            | succ e ih =>
              intro c wl h1 h2
              by_cases ec : c = d
              · obtain ⟨u, hu, u1, u2⟩ := hA c h1
                rw [ec, Nat.sub_self] at u2
                rw [wayG, u1, if_pos (hnone u hu (Or.inr u2))]
              · obtain ⟨w, hw, w1, w2⟩ := hstep c (by omega)
                have := ih (c + 1) (nI w) (by omega) (by omega)
                rw [w2] at this
                rw [wayG, w1, if_neg (nI_nm4 (by omega)), nI_clamp (by omega), this]
          rw [if_neg (by rw [eF]; exact nI_nm4 (by omega)), eF]
          by_cases hsd : s < d
          · have k1 := key1 (s + 1) 0 (by omega)
            rw [Nat.zero_add] at k1
            rw [if_pos (nI_lt hsd (by omega))]
            exact k1
          · rw [if_neg (nI_nlt (by omega) (by omega))]
            exact key2 (s + 1) 0 (-4) (by omega) (by omega)
      · rw [if_neg q3, if_neg q3, if_neg Bool.false_ne_true]
    · rw [if_neg q2, if_neg q2, if_neg Bool.false_ne_true]
  · rw [if_neg q, if_neg q, if_neg Bool.false_ne_true]
end WY
