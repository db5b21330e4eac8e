/-! The pure part: what was seen; kinds -/
section SE
variable {a b s : vW} {R R' : Nat → Int32} {t g n m K k l : Nat}
theorem fst_all {P : Nat → Bool} {j : Nat} : fstP P j 0 < j ↔ ∃ i, i < j ∧ P i = true := by
  constructor
  · intro h
    exact ⟨_, h, fstP_hit j 0 (by omega)⟩
  · rintro ⟨i, hi, h⟩
    have := fstP_min j 0 i (by omega) (by omega) h
    omega
theorem sar_val {x : Int32} {i : Nat} (hi : i < 32) : x >>> (nI i &&& 31) &&& nI 1 = bI (bt x i) := by
  by_cases e : bt x i = true
  · rw [(sar_bt hi).mpr e, e]
    rfl
  · have e2 := Bool.eq_false_iff.mpr e
    rw [(sar0_bt hi).mpr e2, e2]
    rfl
/-- all that was seen would be so: both sides -/
theorem hold_eq (h : TP s R t g n m K) {u : vW} (h5 : s 5 = a 5) (h6 : s 6 = a 6) (h7 : s 7 = a 7) (hS : sR a u n k) : holdB s t m k = asG R n (nI 0) m g (u 82) k := by
  have n5 := h.n5
  have hA : ∀ j, asG R n (nI 0) m g (u 82) j = true ↔ ∀ i, i < j → mReachQ R n (nI 0) g m (u 82 (3 * i)).toNatClampNeg >>> (u 82 (3 * i + 1) &&& 31) &&& nI 1 = u 82 (3 * i + 2) := by
    intro j
    induction j with
    | zero => exact ⟨fun _ i hi => by omega, fun _ => rfl⟩
    | succ j ih =>
      rw [asG]
      by_cases e : asG R n (nI 0) m g (u 82) j = true
      · rw [if_pos e]
        by_cases e2 : mReachQ R n (nI 0) g m (u 82 (3 * j)).toNatClampNeg >>> (u 82 (3 * j + 1) &&& 31) &&& nI 1 = u 82 (3 * j + 2)
        · rw [if_pos e2]
          refine ⟨fun _ i hi => ?_, fun _ => rfl⟩
          by_cases ei : i = j
          · rw [ei]
            exact e2
          · exact ih.mp e i (by omega)
        · rw [if_neg e2]
          exact ⟨fun z => absurd z Bool.false_ne_true, fun z => absurd (z j (by omega)) e2⟩
      · rw [if_neg e]
        exact ⟨fun z => absurd z Bool.false_ne_true, fun z => absurd (ih.mpr (fun i hi => z i (by omega))) e⟩
  have hM : ∀ i, i < k → (missH s t m i = true ↔ ¬ mReachQ R n (nI 0) g m (u 82 (3 * i)).toNatClampNeg >>> (u 82 (3 * i + 1) &&& 31) &&& nI 1 = u 82 (3 * i + 2)) := by
    intro i hi
    obtain ⟨p, r, hp, hr, e1, e2, e3, e4, e5, e6⟩ := hS.2.2.2 i hi
    rw [missH, h5, h6, h7, e1, e2, e4, e5, e6, h.one, inZ_nI (by omega), decide_eq_true hp, if_pos rfl, nI_clamp (by omega), h.reach hp, bitB_bt (by omega), sar_val (by omega)]
    by_cases e : bI (bt (mReachQ R n (nI 0) g m p) r) = a 7 i
    · rw [if_pos e]
      exact ⟨fun z => absurd z Bool.false_ne_true, fun z => absurd e z⟩
    · rw [if_neg e]
      exact ⟨fun _ => e, fun _ => rfl⟩
  rw [holdB, Bool.eq_iff_iff, hA k]
  by_cases e : fstP (missH s t m) k 0 < k
  · rw [if_pos e]
    obtain ⟨i, hi, z⟩ := fst_all.mp e
    exact ⟨fun q => absurd q Bool.false_ne_true, fun q => absurd (q i hi) ((hM i hi).mp z)⟩
  · rw [if_neg e]
    refine ⟨fun _ i hi => ?_, fun _ => rfl⟩
    apply Classical.byContradiction
    intro z
    exact e (fst_all.mpr ⟨i, hi, (hM i hi).mpr z⟩)
theorem kinds_eq (h : Rel a b n m K k l) {x : Int32} : kindsR a m k x = mKindsR b n m k x := by
  have hT := h.1.1
  have n5 := hT.n5
  rw [kindsR, mKindsR, hT.one]
  by_cases q : inZ x n = true
  · obtain ⟨p, hp, rfl⟩ := inZ_ex q (by omega)
    rw [if_pos q, if_pos q, nI_clamp (by omega)]
    have key : ∀ i, kndB a m k p i = kdG b n m k p i := by
      intro i
      induction i with
      | zero => rfl
      | succ i ih =>
        have hh := hold_eq (kind_tr hT hp (i + 1)) (a := a) (u := b) (k := k) (by rw [kdW_ne (by decide), becW_ne (by decide)]) (by rw [kdW_ne (by decide), becW_ne (by decide)]) (by rw [kdW_ne (by decide), becW_ne (by decide)]) h.2.1
        rw [kndB, kdG, ih, hh, kdA, h.1.2.2]
        split
        · rfl
        · rw [or_0]
    exact key 4
  · rw [if_neg q, if_neg q]
/-- who reaches what is not told by the doors that are gone -/
theorem reach_ext {R' : Nat → Int32} {g' q : Nat} {J : Int32} (hn : n ≤ 5) (hm : m ≤ 9) (hq : q < 5) (hE : wOK R g m) (hh : ∃ r, r < 8 ∧ R (g + 10 + q) = nI r) (hqn : q < n ∨ True) (hR : ∀ i, i < 65 → ¬ (20 ≤ i ∧ i < 25) → R' (g' + i) = R (g + i)) : mReachQ R' n J g' m q = mReachQ R n J g m q := by
  have r : ∀ c i, c + i < 65 → ¬ (20 ≤ c + i ∧ c + i < 25) → R' (g' + c + i) = R (g + c + i) := fun c i h1 h2 => by
    rw [Nat.add_assoc, Nat.add_assoc]
    exact hR _ h1 h2
  have hE' : wOK R' g' m := fun w hw => by
    rw [r 26 w (by omega) (by omega), r 35 w (by omega) (by omega)]
    exact hE w hw
  obtain ⟨x, hx, ex⟩ := hh
  have ex' : R' (g' + 10 + q) = nI x := by
    rw [r 10 q (by omega) (by omega)]
    exact ex
  have hD : ∀ w, mDoor R' n g' w = mDoor R n g w := fun w => by
    have : fstP (mDrB R' g' w) n 0 = fstP (mDrB R g w) n 0 := fstP_ext n 0 (fun p _ hp => by
      rw [mDrB, mDrB, r 15 p (by omega) (by omega)])
    rw [mDoor, mDoor, this]
  have hP : ∀ w, mPass R' n J g' w q = mPass R n J g w q := fun w => by
    rw [mPass, mPass, hD]
    by_cases e : mDoor R n g (nI w) = -4
    · rw [if_pos e, if_pos e]
    · rw [if_neg e, if_neg e]
      have hlt : ∃ p, p < n ∧ mDoor R n g (nI w) = nI p := by
        unfold mDoor at e ⊢
        split
        · rename_i z
          exact ⟨_, z, rfl⟩
        · rename_i z
          rw [if_neg z] at e
          exact absurd rfl e
      obtain ⟨p, hp, ep⟩ := hlt
      rw [ep, nI_clamp (by omega), mLet, mLet, mSame, mSame, hR p (by omega) (by omega), r 5 p (by omega) (by omega), r 5 q (by omega) (by omega)]
  have he : mEdg R' n J g' m q = mEdg R n J g m q := edg_ext (fun w hw => ⟨r 26 w (by omega) (by omega), r 35 w (by omega) (by omega), hP w⟩)
  obtain ⟨k1, k2⟩ := mgA_rnd (n := n) (J := J) (q := q) (f := fun _ => 0) hE hx
  obtain ⟨j1, j2⟩ := mgA_rnd (n := n) (J := J) (q := q) (f := fun _ => 0) hE' hx
  rw [mReachQ, mReachQ, ex, ex', nI_clamp (by omega)]
  apply b_ext
  intro i hi
  unfold mReach
  by_cases h8 : i < 8
  · have e1 := j1 i h8
    rw [he] at e1
    have e2 := farS_eq e1 (k1 i h8)
    rw [Bool.eq_iff_iff, j2.1 i h8, k2.1 i h8, e2]
  · rw [j2.2 i (by omega) hi, k2.2 i (by omega) hi]
end SE
