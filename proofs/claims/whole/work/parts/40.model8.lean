/-! The model: which way one goes, wall by wall -/
/-- what the distances tell: a room that is far has a nearer one behind a wall -/
def farOK (P : Nat → Bool) (R : Nat → Int32) (g m r : Nat) (F : Nat → Int32) : Prop := ∀ v, v < 8 → F v = -4 ∨ (F v = nI 0 ∧ v = r) ∨ ∃ d w u, d < 8 ∧ w < m ∧ u < 8 ∧ P w = true ∧ F v = nI (d + 1) ∧ F u = nI d ∧ ((R (g + 26 + w) = nI u ∧ R (g + 35 + w) = nI v) ∨ (R (g + 26 + w) = nI v ∧ R (g + 35 + w) = nI u))
theorem farOK_up {P : Nat → Bool} {R : Nat → Int32} {g m r d w a b : Nat} {F : Nat → Int32} (h : farOK P R g m r F) (hd : d < 8) (hw : w < m) (hP : P w = true) (ha : a < 8) (he : (R (g + 26 + w) = nI a ∧ R (g + 35 + w) = nI b) ∨ (R (g + 26 + w) = nI b ∧ R (g + 35 + w) = nI a)) (h1 : F a = nI d) (h2 : F b = -4) : farOK P R g m r (upF F b (nI (d + 1))) := by
  have hab : a ≠ b := fun e => by
    rw [e, h2] at h1
    exact nI_nm4 (by omega) h1.symm
  have hup : ∀ i, i ≠ b → upF F b (nI (d + 1)) i = F i := fun i hi => by simp only [upF, upd, if_neg hi]
  intro v hv
  by_cases hvb : v = b
  · subst hvb
    refine Or.inr (Or.inr ⟨d, w, a, hd, hw, ha, hP, by simp only [upF, upd, if_true], by rw [hup a hab]; exact h1, he⟩)
  · rw [hup v hvb]
    rcases h v hv with q | q | ⟨d', w', u, q1, q2, q3, q4, q5, q6, q7⟩
    · exact Or.inl q
    · exact Or.inr (Or.inl q)
    · refine Or.inr (Or.inr ⟨d', w', u, q1, q2, q3, q4, q5, ?_, q7⟩)
      rw [hup u (fun e => by rw [e, h2] at q6; exact nI_nm4 (by omega) q6.symm)]
      exact q6
theorem farOK_F {P : Nat → Bool} {R : Nat → Int32} {g m r d w a b : Nat} {F : Nat → Int32} (h : farOK P R g m r F) (hd : d < 8) (hw : w < m) (hP : P w = true) (ha : a < 8) (hb : b < 8) (ea : R (g + 26 + w) = nI a) (eb : R (g + 35 + w) = nI b) : farOK P R g m r (mgF F a b d) := by
  unfold mgF
  split
  · split
    · exact farOK_up h hd hw hP ha (Or.inl ⟨ea, eb⟩) (by assumption) (by assumption)
    · split
      · split
        · exact farOK_up h hd hw hP hb (Or.inr ⟨ea, eb⟩) (by assumption) (by assumption)
        · exact h
      · exact h
  · split
    · split
      · exact farOK_up h hd hw hP hb (Or.inr ⟨ea, eb⟩) (by assumption) (by assumption)
      · exact h
    · exact h
theorem farOK_W {R : Nat → Int32} {n g m q r d : Nat} {J : Int32} {s : Int32 × (Nat → Int32)} (hE : wOK R g m) (hd : d < 8) (h : farOK (fun w => mPass R n J g w q) R g m r s.2) : ∀ w, w ≤ m → farOK (fun w => mPass R n J g w q) R g m r (mgW R n J g q d s w).2
  | 0, _ => h
  | w + 1, hw => by
    have ih := farOK_W hE hd h w (by omega)
    obtain ⟨a, b, ha, hb, ea, eb⟩ := hE w (by omega)
    unfold mgW mgS
    split
    · rw [ea, eb, nI_clamp (by omega), nI_clamp (by omega)]
      exact farOK_F ih hd (by omega) (by assumption) ha hb ea eb
    · exact ih
theorem farOK_D {R : Nat → Int32} {n g m q r : Nat} {J : Int32} {s : Int32 × (Nat → Int32)} (hE : wOK R g m) (h : farOK (fun w => mPass R n J g w q) R g m r s.2) : ∀ d, d ≤ 7 → farOK (fun w => mPass R n J g w q) R g m r (mgD R n J g q m s d).2
  | 0, _ => h
  | d + 1, hd => farOK_W hE (by omega) (farOK_D hE h d (by omega)) m (Nat.le_refl m)
theorem farOK_A {R : Nat → Int32} {n g m q r : Nat} {J : Int32} (hE : wOK R g m) (hr : r < 8) : farOK (fun w => mPass R n J g w q) R g m r (mFar R n J g m q r) := by
  refine farOK_D hE ?_ 7 (Nat.le_refl 7)
  intro v hv
  simp only [mgI, if_pos hv]
  by_cases e : v = r
  · subst e
    exact Or.inr (Or.inl ⟨by rw [if_pos rfl], rfl⟩)
  · exact Or.inl (by rw [if_neg (fun q => e (nI_eqN (by omega) (by omega) q))])
theorem nI_prd (d : Nat) : nI (d + 1) - nI 1 = nI d := by
  rw [← nI_add]
  exact Int32.add_sub_cancel _ _
def wyO (R : Nat → Int32) (here : Int32) (w : Nat) : Int32 := if R (26 + w) = here then R (35 + w) else if R (35 + w) = here then R (26 + w) else -4
theorem wyO_1 {R : Nat → Int32} {w a b h : Nat} (ea : R (26 + w) = nI a) (eb : R (35 + w) = nI b) (h1 : nI a = nI h) : wyO R (nI h) w = nI b := by rw [wyO, ea, eb, if_pos h1]
theorem wyO_2 {R : Nat → Int32} {w a b h : Nat} (ea : R (26 + w) = nI a) (eb : R (35 + w) = nI b) (h1 : ¬ nI a = nI h) (h2 : nI b = nI h) : wyO R (nI h) w = nI a := by rw [wyO, ea, eb, if_neg h1, if_pos h2]
theorem wyO_3 {R : Nat → Int32} {w a b h : Nat} (ea : R (26 + w) = nI a) (eb : R (35 + w) = nI b) (h1 : ¬ nI a = nI h) (h2 : ¬ nI b = nI h) : wyO R (nI h) w = -4 := by rw [wyO, ea, eb, if_neg h1, if_neg h2]
def wyG (R F : Nat → Int32) (P : Nat → Bool) (m : Nat) (here D wall : Int32) : Nat → Int32 × Int32
  | 0 => (wall, -4)
  | k + 1 => if wyO R here (m - 1 - k) = -4 then wyG R F P m here D wall k else if P (m - 1 - k) = true then (if F (wyO R here (m - 1 - k)).toNatClampNeg = D - nI 1 then (nI (m - 1 - k), wyO R here (m - 1 - k)) else wyG R F P m here D wall k) else wyG R F P m here D wall k
def wyA (R F : Nat → Int32) (P : Nat → Bool) (m : Nat) (home : Int32) : Nat → Int32 × Int32
  | 0 => (home, -4)
  | j + 1 => ((wyG R F P m (wyA R F P m home j).1 (F (wyA R F P m home j).1.toNatClampNeg) (wyA R F P m home j).2 m).2, (wyG R F P m (wyA R F P m home j).1 (F (wyA R F P m home j).1.toNatClampNeg) (wyA R F P m home j).2 m).1)
/-- the other side found is a room one step nearer -/
theorem wyG_ok {R F : Nat → Int32} {P : Nat → Bool} {m h d : Nat} {wall : Int32} (hE : wOK R 0 m) (hh : h < 8) (hd : d < 100) (hF : F h = nI (d + 1)) : ∀ k, k ≤ m → (∃ u, u < 8 ∧ (wyG R F P m (nI h) (F h) wall k).2 = nI u ∧ F u = nI d) ∨ ((wyG R F P m (nI h) (F h) wall k).2 = -4 ∧ ∀ w, m - k ≤ w → w < m → P w = true → ∀ u, u < 8 → wyO R (nI h) w = nI u → ¬ F u = nI d)
  | 0, _ => Or.inr ⟨rfl, fun w h1 h2 => by omega⟩
  | k + 1, hk => by
    have ih := wyG_ok (P := P) (wall := wall) hE hh hd hF k (by omega)
    obtain ⟨a, b, ha, hb, ea, eb⟩ := hE (m - 1 - k) (by omega)
    rw [Nat.zero_add] at ea eb
    have hcases : wyO R (nI h) (m - 1 - k) = -4 ∨ ∃ u, u < 8 ∧ wyO R (nI h) (m - 1 - k) = nI u := by
      by_cases h1 : nI a = nI h
      · exact Or.inr ⟨b, hb, wyO_1 ea eb h1⟩
      · by_cases h2 : nI b = nI h
        · exact Or.inr ⟨a, ha, wyO_2 ea eb h1 h2⟩
        · exact Or.inl (wyO_3 ea eb h1 h2)
    have hmore : ∀ (Q : Prop), ((∃ u, u < 8 ∧ (wyG R F P m (nI h) (F h) wall k).2 = nI u ∧ F u = nI d) ∨ ((wyG R F P m (nI h) (F h) wall k).2 = -4 ∧ ∀ w, m - k ≤ w → w < m → P w = true → ∀ u, u < 8 → wyO R (nI h) w = nI u → ¬ F u = nI d)) → (P (m - 1 - k) = true → ∀ u, u < 8 → wyO R (nI h) (m - 1 - k) = nI u → ¬ F u = nI d) → ((∃ u, u < 8 ∧ (wyG R F P m (nI h) (F h) wall k).2 = nI u ∧ F u = nI d) ∨ ((wyG R F P m (nI h) (F h) wall k).2 = -4 ∧ ∀ w, m - (k + 1) ≤ w → w < m → P w = true → ∀ u, u < 8 → wyO R (nI h) w = nI u → ¬ F u = nI d)) := by
      intro _ hi hn
      rcases hi with q | ⟨q1, q2⟩
      · exact Or.inl q
      · refine Or.inr ⟨q1, fun w h1 h2 hp u hu hw => ?_⟩
        by_cases e : w = m - 1 - k
        · subst e
          exact hn hp u hu hw
        · exact q2 w (by omega) h2 hp u hu hw
    unfold wyG
    rcases hcases with e | ⟨u, hu, e⟩
    · rw [if_pos e]
      exact hmore True ih (fun _ u hu hw => by rw [e] at hw; exact absurd hw.symm (nI_nm4 (by omega)))
    · rw [if_neg (show ¬ wyO R (nI h) (m - 1 - k) = -4 by rw [e]; exact nI_nm4 (by omega))]
      by_cases hP : P (m - 1 - k) = true
      · rw [if_pos hP, e, nI_clamp (by omega), hF, nI_prd]
        by_cases hu2 : F u = nI d
        · rw [if_pos hu2]
          exact Or.inl ⟨u, hu, rfl, hu2⟩
        · rw [if_neg hu2, ← hF]
          exact hmore True ih (fun _ u' hu' hw => by
            have e3 : u' = u := nI_eqN (by omega) (by omega) (hw.symm.trans e)
            rw [e3]
            exact hu2)
      · rw [if_neg hP]
        exact hmore True ih (fun q => absurd q hP)
theorem wyA_ok {R F : Nat → Int32} {P : Nat → Bool} {m r h d : Nat} (hE : wOK R 0 m) (hO : farOK P R 0 m r F) (hh : h < 8) (hd : d < 100) (hF : F h = nI d) : ∀ j, j ≤ d → ∃ u, u < 8 ∧ (wyA R F P m (nI h) j).1 = nI u ∧ F u = nI (d - j)
  | 0, _ => ⟨h, hh, rfl, hF⟩
  | j + 1, hj => by
    obtain ⟨u, hu, e1, e2⟩ := wyA_ok hE hO hh hd hF j (by omega)
    have e3 : F u = nI ((d - (j + 1)) + 1) := e2.trans (congrArg nI (by omega))
    have hc : (nI u).toNatClampNeg = u := nI_clamp (by omega)
    unfold wyA
    rw [e1, hc]
    rcases wyG_ok (P := P) (wall := (wyA R F P m (nI h) j).2) hE hu (by omega) e3 m (Nat.le_refl m) with ⟨v, hv, q1, q2⟩ | ⟨q1, q2⟩
    · exact ⟨v, hv, q1, q2⟩
    · exfalso
      rcases hO u hu with p | ⟨p, _⟩ | ⟨d', w, v, p1, p2, p3, p4, p5, p6, p7⟩
      · rw [e3] at p
        exact nI_nm4 (by omega) p
      · rw [e3] at p
        have := nI_eqN (by omega) (by omega) p
        omega
      · have e4 : d' = d - (j + 1) := by
          have := nI_eqN (by omega) (by omega) (e3.symm.trans p5)
          omega
        rw [e4] at p6
        simp only [Nat.zero_add] at p7
        have hne : ¬ nI v = nI u := fun q => by
          have e5 := nI_eqN (by omega) (by omega) q
          rw [e5, e3] at p6
          have := nI_eqN (by omega) (by omega) p6
          omega
        rcases p7 with ⟨a1, a2⟩ | ⟨a1, a2⟩
        · exact q2 w (by omega) p2 p4 v p3 (wyO_2 a1 a2 hne rfl) p6
        · exact q2 w (by omega) p2 p4 v p3 (wyO_1 a1 a2 rfl) p6
def mWayP (R : Nat → Int32) (n : Nat) (J : Int32) (p : Nat) : Nat → Bool := fun w => mPass R n J 0 w p
def mWayG (R : Nat → Int32) (n : Nat) (J : Int32) (m p r i : Nat) : Int32 := if mFar R n J 0 m p r (R (10 + p)).toNatClampNeg = -4 then -4 else if nI i < mFar R n J 0 m p r (R (10 + p)).toNatClampNeg then (wyA R (mFar R n J 0 m p r) (mWayP R n J p) m (R (10 + p)) (i + 1)).2 else -4
def mWayR (σ : vW) (n m : Nat) (a r i : Int32) : Int32 := if inZ a n = true then (if inZ r 8 = true then (if inZ i 7 = true then mWayG (σ 76) n (σ 75 20) m a.toNatClampNeg r.toNatClampNeg i.toNatClampNeg else -1) else -1) else -1
theorem nI_ltN {a b : Nat} (ha : a < 2147483648) (hb : b < 2147483648) (h : nI a < nI b) : a < b := by
  rw [lt_toInt, nI_toInt (by omega), nI_toInt (by omega)] at h
  omega
theorem nI_dec {m k : Nat} : nI (m - 1 - k) + Int32.ofInt (-1) = nI (m - (k + 1)) - nI 1 := by
  rw [show m - 1 - k = m - (k + 1) by omega, Int32.sub_eq_add_neg]
  rfl
theorem farOK_val {P : Nat → Bool} {R : Nat → Int32} {g m r v : Nat} {F : Nat → Int32} (h : farOK P R g m r F) (hv : v < 8) : F v = -4 ∨ ∃ d, d ≤ 8 ∧ F v = nI d := by
  rcases h v hv with q | ⟨q, _⟩ | ⟨d, w, u, h1, _, _, _, q, _⟩
  · exact Or.inl q
  · exact Or.inr ⟨0, by omega, q⟩
  · exact Or.inr ⟨d + 1, by omega, q⟩
set_option maxHeartbeats 4000000 in
theorem C_X6_way {σ : vW} {f : Nat → Int32} {n m : Nat} {a r i : Int32} (hp : pOK σ n m 0) : Ctr mX6_way 3 [.ref 75, .int a, .int r, .int i] (vrow σ 81 f) (vFar (some (.int (mWayR σ n m a r i))) σ) := by
  have hn := hp.1.1
  have hn5 := hp.1.2.1
  have hm : σ 76 25 = nI m := hp.2.1.1
  have hm9 := hp.2.1.2.1
  have hE := hp.2.1.2.2
  have hF : ∀ f q r i, i < 8 → (mgA (σ 76) n (σ 75 20) 0 q m r f).2 i = mFar (σ 76) n (σ 75 20) 0 m q r i := fun f q r i hi => (mgA_agr (n := n) (q := q) (r := r) (J := σ 75 20) (f := f) (f' := fun _ => 0) hE).2 i hi
  refine Ctr.intro (by decide) (fun α => Nat.le_of_ble_eq_true rfl) (fun x G hQ => ?_)
  have G : vG x RX6 cX6_way 13 (some .int) 3 := G
  show V x 0 [some (.ref 75), some (.int a), some (.int r), some (.int i), none, none, none, none, none, none, none, none, none] [] (vrow σ 81 f)
  refine v_aload_13_0 G dX6_way_0 ?_
  refine v_iload_13_1 G dX6_way_1 ?_
  refine v_cV1 G (C_X6_isOne (by first | assumption | omega | exact oneB_in (by assumption) | exact wallB_in (by assumption) | exact oneB_m1 (by assumption) | decide) (by first | assumption | omega | exact oneB_in (by assumption) | exact wallB_in (by assumption) | exact oneB_m1 (by assumption) | decide)) (by decide) md_X6_isOne in_X6_isOne (rv_X6 rfl) ml_X6_185 (Nat.le_of_ble_eq_true rfl) dX6_way_2 ?_
  refine v_ifB_eq (tgt := 27) G dX6_way_5 rfl (fun h_5 => ?_) (fun h_5 => ?_)
  · refine v_iconst (v := (-1)) G dX6_way_27 (by decide) ?_
    exact v_iret G hQ dX6_way_28 (vFar.of (by simp only [mWayR, bI, h_5, if_true, if_false, Bool.false_eq_true, reduceIte] <;> try rfl) rfl)
  · obtain ⟨p0, hp0, rfl⟩ := inZ_ex h_5 (by omega)
    have cp0 : (nI p0).toNatClampNeg = p0 := nI_clamp (by omega)
    refine v_iload_13_2 G dX6_way_8 ?_
    refine v_cS1 G (C_X6_isRoom) (by decide) md_X6_isRoom st_X6_isRoom ml_X6_197 (Nat.le_of_ble_eq_true rfl) dX6_way_9 ?_
    refine v_ifB_eq (tgt := 27) G dX6_way_12 rfl (fun h_12 => ?_) (fun h_12 => ?_)
    · refine v_iconst (v := (-1)) G dX6_way_27 (by decide) ?_
      exact v_iret G hQ dX6_way_28 (vFar.of (by simp only [mWayR, bI, h_5, cp0, h_12, if_true, if_false, Bool.false_eq_true, reduceIte] <;> try rfl) rfl)
    · obtain ⟨r0, hr0, rfl⟩ := inZ_ex h_12 (by omega)
      have cr0 : (nI r0).toNatClampNeg = r0 := nI_clamp (by omega)
      refine v_iload_13_3 G dX6_way_15 ?_
      refine v_i2l G dX6_way_16 ?_
      refine v_lconst (v := lN 0) G dX6_way_17 (by decide) ?_
      refine v_ldc2 G ct_X6_129 dX6_way_18 ?_
      refine v_cS3 G (C_inK 7 (by decide)) (by decide) md_X6_in st_X6_in ml_X6_49 (Nat.le_of_ble_eq_true rfl) dX6_way_21 ?_
      refine v_ifB_ne (tgt := 29) G dX6_way_24 rfl (fun h_24 => ?_) (fun h_24 => ?_)
      · obtain ⟨i0, hi0, rfl⟩ := inZ_ex h_24 (by omega)
        have ci0 : (nI i0).toNatClampNeg = i0 := nI_clamp (by omega)
        refine v_aload_13_0 G dX6_way_29 ?_
        refine v_iconst (v := nI 0) G dX6_way_30 (by decide) ?_
        refine v_iload_13_1 G dX6_way_31 ?_
        refine v_iload_13_2 G dX6_way_32 ?_
        refine v_cV3 G (C_X6_goesFrom (g := 0) hn hn5 (by omega) (by omega) hm hm9 hE hr0) (by decide) md_X6_goesFrom in_X6_goesFrom (rv_X6 rfl) ml_X6_166 (Nat.le_of_ble_eq_true rfl) dX6_way_33 ?_
        refine v_pop G dX6_way_36 rfl ?_
        have hF0 := hF f p0 r0
        generalize (mgA (σ 76) n (σ 75 20) 0 p0 m r0 f).2 = Fx at hF0 ⊢
        have hO := farOK_A (n := n) (q := p0) (J := σ 75 20) hE hr0
        obtain ⟨h0, hh0, eh⟩ := hp.2.2 p0 (by omega)
        have eh : σ 76 (10 + p0) = nI h0 := eh
        have ch : (nI h0).toNatClampNeg = h0 := nI_clamp (by omega)
        have hR : mWayR σ n m (nI p0) (nI r0) (nI i0) = mWayG (σ 76) n (σ 75 20) m p0 r0 i0 := by simp only [mWayR, h_5, cp0, h_12, cr0, h_24, ci0, if_true]
        rw [hR, mWayG, eh, ch] at hQ
        rcases farOK_val hO hh0 with e | ⟨d0, hd0, e⟩
        · refine v_aload_13_0 G dX6_way_37 ?_
          refine v_getR G vc_6 lk_X6_7 (fs_X6_0) dX6_way_38 ?_
          refine v_bipush (v := nI 10) G dX6_way_41 (by decide) ?_
          refine v_iload_13_1 G dX6_way_43 ?_
          refine v_iaddN G dX6_way_44 ?_
          refine m_ialdN G (by decide) (as_X6_0) (by first | assumption | omega | exact oneB_in (by assumption) | exact wallB_in (by assumption) | exact oneB_m1 (by assumption) | decide) (by decide) dX6_way_45 ?_
          rw [eh]
          refine v_istore_13_4 G dX6_way_46 rfl ?_
          refine v_bipush (v := (-4)) G dX6_way_48 (by decide) ?_
          refine v_istore_13_5 G dX6_way_50 rfl ?_
          refine v_aload_13_0 G dX6_way_52 ?_
          refine v_getR G vc_6 lk_X6_25 (fs_X6_21) dX6_way_53 ?_
          refine v_iload_13_4 G dX6_way_56 ?_
          refine m_faldN G (by first | assumption | omega | exact oneB_in (by assumption) | exact wallB_in (by assumption) | exact oneB_m1 (by assumption) | decide) dX6_way_58 ?_
          rw [hF0 _ hh0, e]
          refine v_bipush (v := (-4)) G dX6_way_59 (by decide) ?_
          refine v_icmp_eq (tgt := 75) G dX6_way_61 rfl (fun h_61 => ?_) (fun h_61 => absurd rfl h_61)
          refine v_bipush (v := (-4)) G dX6_way_75 (by decide) ?_
          exact v_iret G hQ dX6_way_77 (vFar.of (by rw [if_pos e]) rfl)
        · rw [if_neg (show ¬ (mFar (σ 76) n (σ 75 20) 0 m p0 r0) h0 = -4 by rw [e]; exact nI_nm4 (by omega)), e] at hQ
          have hW := wyA_ok (r := r0) (P := (mWayP (σ 76) n (σ 75 20) p0)) hE hO hh0 (by omega) e
          refine v_aload_13_0 G dX6_way_37 ?_
          refine v_getR G vc_6 lk_X6_7 (fs_X6_0) dX6_way_38 ?_
          refine v_bipush (v := nI 10) G dX6_way_41 (by decide) ?_
          refine v_iload_13_1 G dX6_way_43 ?_
          refine v_iaddN G dX6_way_44 ?_
          refine m_ialdN G (by decide) (as_X6_0) (by first | assumption | omega | exact oneB_in (by assumption) | exact wallB_in (by assumption) | exact oneB_m1 (by assumption) | decide) (by decide) dX6_way_45 ?_
          rw [eh]
          refine v_istore_13_4 G dX6_way_46 rfl ?_
          refine v_bipush (v := (-4)) G dX6_way_48 (by decide) ?_
          refine v_istore_13_5 G dX6_way_50 rfl ?_
          refine v_aload_13_0 G dX6_way_52 ?_
          refine v_getR G vc_6 lk_X6_25 (fs_X6_21) dX6_way_53 ?_
          refine v_iload_13_4 G dX6_way_56 ?_
          refine m_faldN G (by first | assumption | omega | exact oneB_in (by assumption) | exact wallB_in (by assumption) | exact oneB_m1 (by assumption) | decide) dX6_way_58 ?_
          rw [hF0 _ hh0, e]
          refine v_bipush (v := (-4)) G dX6_way_59 (by decide) ?_
          refine v_icmp_eq (tgt := 75) G dX6_way_61 rfl (fun h_61 => absurd h_61 (nI_nm4 (by omega))) (fun h_61 => ?_)
          refine v_iload_13_3 G dX6_way_64 ?_
          refine v_aload_13_0 G dX6_way_65 ?_
          refine v_getR G vc_6 lk_X6_25 (fs_X6_21) dX6_way_66 ?_
          refine v_iload_13_4 G dX6_way_69 ?_
          refine m_faldN G (by first | assumption | omega | exact oneB_in (by assumption) | exact wallB_in (by assumption) | exact oneB_m1 (by assumption) | decide) dX6_way_71 ?_
          rw [hF0 _ hh0, e]
          refine v_icmp_lt (tgt := 78) G dX6_way_72 rfl (fun h_72 => ?_) (fun h_72 => ?_)
          · refine v_iconst (v := nI 0) G dX6_way_78 (by decide) ?_
            refine v_istore_13_6 G dX6_way_79 rfl ?_
            rw [if_pos h_72] at hQ
            have hid : i0 < d0 := nI_ltN (by omega) (by omega) h_72
            refine v_for (pc := 81) ((i0 + 1)) (fun j => ([some (.ref 75), some (.int (nI p0)), some (.int (nI r0)), some (.int (nI i0)), some (.int (wyA (σ 76) (mFar (σ 76) n (σ 75 20) 0 m p0 r0) (mWayP (σ 76) n (σ 75 20) p0) m (nI h0) j).1), some (.int (wyA (σ 76) (mFar (σ 76) n (σ 75 20) 0 m p0 r0) (mWayP (σ 76) n (σ 75 20) p0) m (nI h0) j).2), some (.int (nI j)), none, none, none, none, none, none], (vrow σ 81 Fx))) (fun j hj ihj => ?_) ?_
            · show V x 81 [some (.ref 75), some (.int (nI p0)), some (.int (nI r0)), some (.int (nI i0)), some (.int (wyA (σ 76) (mFar (σ 76) n (σ 75 20) 0 m p0 r0) (mWayP (σ 76) n (σ 75 20) p0) m (nI h0) j).1), some (.int (wyA (σ 76) (mFar (σ 76) n (σ 75 20) 0 m p0 r0) (mWayP (σ 76) n (σ 75 20) p0) m (nI h0) j).2), some (.int (nI j)), none, none, none, none, none, none] [] (vrow σ 81 Fx)
              have ihj : V x 81 [some (.ref 75), some (.int (nI p0)), some (.int (nI r0)), some (.int (nI i0)), some (.int (wyA (σ 76) (mFar (σ 76) n (σ 75 20) 0 m p0 r0) (mWayP (σ 76) n (σ 75 20) p0) m (nI h0) (j + 1)).1), some (.int (wyA (σ 76) (mFar (σ 76) n (σ 75 20) 0 m p0 r0) (mWayP (σ 76) n (σ 75 20) p0) m (nI h0) (j + 1)).2), some (.int (nI (j + 1))), none, none, none, none, none, none] [] (vrow σ 81 Fx) := ihj
              obtain ⟨h, hh, e1, e2⟩ := hW j (by omega)
              have cj : (nI h).toNatClampNeg = h := nI_clamp (by omega)
              rw [wyA, e1, cj] at ihj
              rw [e1]
              refine v_iload_13_6 G dX6_way_81 ?_
              refine v_iload_13_3 G dX6_way_83 ?_
              refine v_icmp_gt (tgt := 224) G dX6_way_84 rfl (fun h_84 => absurd h_84 (nI_nlt (by omega) (by omega))) (fun h_84 => ?_)
              refine v_aload_13_0 G dX6_way_87 ?_
              refine v_getR G vc_6 lk_X6_25 (fs_X6_21) dX6_way_88 ?_
              refine v_iload_13_4 G dX6_way_91 ?_
              refine m_faldN G (by first | assumption | omega | exact oneB_in (by assumption) | exact wallB_in (by assumption) | exact oneB_m1 (by assumption) | decide) dX6_way_93 ?_
              rw [hF0 _ hh]
              refine v_istore_13_7 G dX6_way_94 rfl ?_
              refine v_bipush (v := (-4)) G dX6_way_96 (by decide) ?_
              refine v_istore_13_8 G dX6_way_98 rfl ?_
              refine v_aload_13_0 G dX6_way_100 ?_
              refine v_getR G vc_6 lk_X6_7 (fs_X6_0) dX6_way_101 ?_
              refine v_bipush (v := nI 25) G dX6_way_104 (by decide) ?_
              refine m_ialdN G (by decide) (as_X6_0) (by first | assumption | omega | exact oneB_in (by assumption) | exact wallB_in (by assumption) | exact oneB_m1 (by assumption) | decide) (by decide) dX6_way_106 ?_
              rw [hm]
              refine v_iconst (v := nI 1) G dX6_way_107 (by decide) ?_
              refine v_isub G dX6_way_108 ?_
              refine v_istore_13_9 G dX6_way_109 rfl ?_
              refine v_for (pc := 111) (m) (fun k => ([some (.ref 75), some (.int (nI p0)), some (.int (nI r0)), some (.int (nI i0)), some (.int (nI h)), some (.int (wyG (σ 76) (mFar (σ 76) n (σ 75 20) 0 m p0 r0) (mWayP (σ 76) n (σ 75 20) p0) m (nI h) ((mFar (σ 76) n (σ 75 20) 0 m p0 r0) h) (wyA (σ 76) (mFar (σ 76) n (σ 75 20) 0 m p0 r0) (mWayP (σ 76) n (σ 75 20) p0) m (nI h0) j).2 k).1), some (.int (nI j)), some (.int ((mFar (σ 76) n (σ 75 20) 0 m p0 r0) h)), some (.int (wyG (σ 76) (mFar (σ 76) n (σ 75 20) 0 m p0 r0) (mWayP (σ 76) n (σ 75 20) p0) m (nI h) ((mFar (σ 76) n (σ 75 20) 0 m p0 r0) h) (wyA (σ 76) (mFar (σ 76) n (σ 75 20) 0 m p0 r0) (mWayP (σ 76) n (σ 75 20) p0) m (nI h0) j).2 k).2), some (.int (nI (m - k) - nI 1)), none, none, none], (vrow σ 81 Fx))) (fun k hk ihk => ?_) ?_
              · show V x 111 [some (.ref 75), some (.int (nI p0)), some (.int (nI r0)), some (.int (nI i0)), some (.int (nI h)), some (.int (wyG (σ 76) (mFar (σ 76) n (σ 75 20) 0 m p0 r0) (mWayP (σ 76) n (σ 75 20) p0) m (nI h) ((mFar (σ 76) n (σ 75 20) 0 m p0 r0) h) (wyA (σ 76) (mFar (σ 76) n (σ 75 20) 0 m p0 r0) (mWayP (σ 76) n (σ 75 20) p0) m (nI h0) j).2 k).1), some (.int (nI j)), some (.int ((mFar (σ 76) n (σ 75 20) 0 m p0 r0) h)), some (.int (wyG (σ 76) (mFar (σ 76) n (σ 75 20) 0 m p0 r0) (mWayP (σ 76) n (σ 75 20) p0) m (nI h) ((mFar (σ 76) n (σ 75 20) 0 m p0 r0) h) (wyA (σ 76) (mFar (σ 76) n (σ 75 20) 0 m p0 r0) (mWayP (σ 76) n (σ 75 20) p0) m (nI h0) j).2 k).2), some (.int (nI (m - k) - nI 1)), none, none, none] [] (vrow σ 81 Fx)
                have ihk : V x 111 [some (.ref 75), some (.int (nI p0)), some (.int (nI r0)), some (.int (nI i0)), some (.int (nI h)), some (.int (wyG (σ 76) (mFar (σ 76) n (σ 75 20) 0 m p0 r0) (mWayP (σ 76) n (σ 75 20) p0) m (nI h) ((mFar (σ 76) n (σ 75 20) 0 m p0 r0) h) (wyA (σ 76) (mFar (σ 76) n (σ 75 20) 0 m p0 r0) (mWayP (σ 76) n (σ 75 20) p0) m (nI h0) j).2 (k + 1)).1), some (.int (nI j)), some (.int ((mFar (σ 76) n (σ 75 20) 0 m p0 r0) h)), some (.int (wyG (σ 76) (mFar (σ 76) n (σ 75 20) 0 m p0 r0) (mWayP (σ 76) n (σ 75 20) p0) m (nI h) ((mFar (σ 76) n (σ 75 20) 0 m p0 r0) h) (wyA (σ 76) (mFar (σ 76) n (σ 75 20) 0 m p0 r0) (mWayP (σ 76) n (σ 75 20) p0) m (nI h0) j).2 (k + 1)).2), some (.int (nI (m - (k + 1)) - nI 1)), none, none, none] [] (vrow σ 81 Fx) := ihk
                obtain ⟨a0, b0, ha0, hb0, ea, eb⟩ := hE (m - 1 - k) (by omega)
                rw [Nat.zero_add] at ea eb
                have ca : (nI a0).toNatClampNeg = a0 := nI_clamp (by omega)
                have cb : (nI b0).toNatClampNeg = b0 := nI_clamp (by omega)
                have na : ¬ nI a0 = -4 := nI_nm4 (by omega)
                have nb : ¬ nI b0 = -4 := nI_nm4 (by omega)
                have ew : nI (m - k) - nI 1 = nI (m - 1 - k) := by rw [show m - k = (m - 1 - k) + 1 by omega]; exact nI_prd _
                rw [ew]
                refine v_iload_13_9 G dX6_way_111 ?_
                refine v_if_lt (tgt := 214) G dX6_way_113 rfl (fun h_113 => absurd h_113 (nI_pos (by omega))) (fun h_113 => ?_)
                refine v_aload_13_0 G dX6_way_116 ?_
                refine v_getR G vc_6 lk_X6_7 (fs_X6_0) dX6_way_117 ?_
                refine v_bipush (v := nI 26) G dX6_way_120 (by decide) ?_
                refine v_iload_13_9 G dX6_way_122 ?_
                refine v_iaddN G dX6_way_124 ?_
                refine m_ialdN G (by decide) (as_X6_0) (by first | assumption | omega | exact oneB_in (by assumption) | exact wallB_in (by assumption) | exact oneB_m1 (by assumption) | decide) (by decide) dX6_way_125 ?_
                rw [ea]
                refine v_istore_13_10 G dX6_way_126 rfl ?_
                refine v_aload_13_0 G dX6_way_128 ?_
                refine v_getR G vc_6 lk_X6_7 (fs_X6_0) dX6_way_129 ?_
                refine v_bipush (v := nI 35) G dX6_way_132 (by decide) ?_
                refine v_iload_13_9 G dX6_way_134 ?_
                refine v_iaddN G dX6_way_136 ?_
                refine m_ialdN G (by decide) (as_X6_0) (by first | assumption | omega | exact oneB_in (by assumption) | exact wallB_in (by assumption) | exact oneB_m1 (by assumption) | decide) (by decide) dX6_way_137 ?_
                rw [eb]
                refine v_istore_13_11 G dX6_way_138 rfl ?_
                refine v_iload_13_10 G dX6_way_140 ?_
                refine v_iload_13_4 G dX6_way_142 ?_
                refine v_icmp_ne (tgt := 152) G dX6_way_144 rfl (fun h_144 => ?_) (fun h_144 => ?_)
                · refine v_iload_13_11 G dX6_way_152 ?_
                  refine v_iload_13_4 G dX6_way_154 ?_
                  refine v_icmp_ne (tgt := 164) G dX6_way_156 rfl (fun h_156 => ?_) (fun h_156 => ?_)
                  · refine v_bipush (v := (-4)) G dX6_way_164 (by decide) ?_
                    refine v_istore_13_12 G dX6_way_166 rfl ?_
                    refine v_iload_13_12 G dX6_way_168 ?_
                    refine v_bipush (v := (-4)) G dX6_way_170 (by decide) ?_
                    refine v_icmp_eq (tgt := 208) G dX6_way_172 rfl (fun h_172 => ?_) (fun h_172 => absurd rfl h_172)
                    refine v_iinc_13_9 G dX6_way_208 rfl ?_
                    refine v_goto (tgt := 111) G dX6_way_211 rfl ?_
                    first
                      | (have eo := wyO_1 ea eb h_144; rw [wyG, eo] at ihk; simp only [mWayP, h_113, h_172, ca, cb, na, nb, if_true, if_false, reduceIte, Bool.false_eq_true] at ihk; rw [nI_dec]; exact V.drop (by simp only [vsubP, and_self]) ihk)
                      | (have eo := wyO_2 ea eb h_144 h_156; rw [wyG, eo] at ihk; simp only [mWayP, h_113, h_172, ca, cb, na, nb, if_true, if_false, reduceIte, Bool.false_eq_true] at ihk; rw [nI_dec]; exact V.drop (by simp only [vsubP, and_self]) ihk)
                      | (have eo := wyO_3 ea eb h_144 h_156; rw [wyG, eo] at ihk; simp only [mWayP, h_113, h_172, ca, cb, na, nb, if_true, if_false, reduceIte, Bool.false_eq_true] at ihk; rw [nI_dec]; exact V.drop (by simp only [vsubP, and_self]) ihk)
                  · refine v_iload_13_10 G dX6_way_159 ?_
                    refine v_goto (tgt := 166) G dX6_way_161 rfl ?_
                    refine v_istore_13_12 G dX6_way_166 rfl ?_
                    refine v_iload_13_12 G dX6_way_168 ?_
                    refine v_bipush (v := (-4)) G dX6_way_170 (by decide) ?_
                    refine v_icmp_eq (tgt := 208) G dX6_way_172 rfl (fun h_172 => ?_) (fun h_172 => ?_)
                    · refine v_iinc_13_9 G dX6_way_208 rfl ?_
                      refine v_goto (tgt := 111) G dX6_way_211 rfl ?_
                      first
                        | (have eo := wyO_1 ea eb h_144; rw [wyG, eo] at ihk; simp only [mWayP, h_113, h_172, ca, cb, na, nb, if_true, if_false, reduceIte, Bool.false_eq_true] at ihk; rw [nI_dec]; exact V.drop (by simp only [vsubP, and_self]) ihk)
                        | (have eo := wyO_2 ea eb h_144 h_156; rw [wyG, eo] at ihk; simp only [mWayP, h_113, h_172, ca, cb, na, nb, if_true, if_false, reduceIte, Bool.false_eq_true] at ihk; rw [nI_dec]; exact V.drop (by simp only [vsubP, and_self]) ihk)
                        | (have eo := wyO_3 ea eb h_144 h_156; rw [wyG, eo] at ihk; simp only [mWayP, h_113, h_172, ca, cb, na, nb, if_true, if_false, reduceIte, Bool.false_eq_true] at ihk; rw [nI_dec]; exact V.drop (by simp only [vsubP, and_self]) ihk)
                    · refine v_aload_13_0 G dX6_way_175 ?_
                      refine v_iconst (v := nI 0) G dX6_way_176 (by decide) ?_
                      refine v_iload_13_9 G dX6_way_177 ?_
                      refine v_iload_13_1 G dX6_way_179 ?_
                      refine v_cV3 G (C_X6_passesOn (g := 0) hn hn5 (by omega) (by omega)) (by decide) md_X6_passesOn in_X6_passesOn (rv_X6 rfl) ml_X6_163 (Nat.le_of_ble_eq_true rfl) dX6_way_180 ?_
                      refine v_ifB_eq (tgt := 208) G dX6_way_183 rfl (fun h_183 => ?_) (fun h_183 => ?_)
                      · refine v_iinc_13_9 G dX6_way_208 rfl ?_
                        refine v_goto (tgt := 111) G dX6_way_211 rfl ?_
                        first
                          | (have eo := wyO_1 ea eb h_144; rw [wyG, eo] at ihk; simp only [mWayP, h_113, h_172, h_183, ca, cb, na, nb, if_true, if_false, reduceIte, Bool.false_eq_true] at ihk; rw [nI_dec]; exact V.drop (by simp only [vsubP, and_self]) ihk)
                          | (have eo := wyO_2 ea eb h_144 h_156; rw [wyG, eo] at ihk; simp only [mWayP, h_113, h_172, h_183, ca, cb, na, nb, if_true, if_false, reduceIte, Bool.false_eq_true] at ihk; rw [nI_dec]; exact V.drop (by simp only [vsubP, and_self]) ihk)
                          | (have eo := wyO_3 ea eb h_144 h_156; rw [wyG, eo] at ihk; simp only [mWayP, h_113, h_172, h_183, ca, cb, na, nb, if_true, if_false, reduceIte, Bool.false_eq_true] at ihk; rw [nI_dec]; exact V.drop (by simp only [vsubP, and_self]) ihk)
                      · refine v_aload_13_0 G dX6_way_186 ?_
                        refine v_getR G vc_6 lk_X6_25 (fs_X6_21) dX6_way_187 ?_
                        refine v_iload_13_12 G dX6_way_190 ?_
                        refine m_faldN G (by first | assumption | omega | exact oneB_in (by assumption) | exact wallB_in (by assumption) | exact oneB_m1 (by assumption) | decide) dX6_way_192 ?_
                        first
                          | rw [hF0 b0 hb0]
                          | rw [hF0 a0 ha0]
                        refine v_iload_13_7 G dX6_way_193 ?_
                        refine v_iconst (v := nI 1) G dX6_way_195 (by decide) ?_
                        refine v_isub G dX6_way_196 ?_
                        refine v_icmp_ne (tgt := 208) G dX6_way_197 rfl (fun h_197 => ?_) (fun h_197 => ?_)
                        · refine v_iinc_13_9 G dX6_way_208 rfl ?_
                          refine v_goto (tgt := 111) G dX6_way_211 rfl ?_
                          first
                            | (have eo := wyO_1 ea eb h_144; rw [wyG, eo] at ihk; simp only [mWayP, h_113, h_172, h_183, h_197, ca, cb, na, nb, if_true, if_false, reduceIte, Bool.false_eq_true] at ihk; rw [nI_dec]; exact V.drop (by simp only [vsubP, and_self]) ihk)
                            | (have eo := wyO_2 ea eb h_144 h_156; rw [wyG, eo] at ihk; simp only [mWayP, h_113, h_172, h_183, h_197, ca, cb, na, nb, if_true, if_false, reduceIte, Bool.false_eq_true] at ihk; rw [nI_dec]; exact V.drop (by simp only [vsubP, and_self]) ihk)
                            | (have eo := wyO_3 ea eb h_144 h_156; rw [wyG, eo] at ihk; simp only [mWayP, h_113, h_172, h_183, h_197, ca, cb, na, nb, if_true, if_false, reduceIte, Bool.false_eq_true] at ihk; rw [nI_dec]; exact V.drop (by simp only [vsubP, and_self]) ihk)
                        · refine v_iload_13_9 G dX6_way_200 ?_
                          refine v_istore_13_5 G dX6_way_202 rfl ?_
                          refine v_iload_13_12 G dX6_way_204 ?_
                          refine v_istore_13_8 G dX6_way_206 rfl ?_
                          refine v_iinc_13_9 G dX6_way_208 rfl ?_
                          refine v_goto (tgt := 111) G dX6_way_211 rfl ?_
                          first
                            | (have eo := wyO_1 ea eb h_144; rw [wyG, eo] at ihk; simp only [mWayP, h_113, h_172, h_183, h_197, ca, cb, na, nb, if_true, if_false, reduceIte, Bool.false_eq_true] at ihk; rw [nI_dec]; exact V.drop (by simp only [vsubP, and_self]) ihk)
                            | (have eo := wyO_2 ea eb h_144 h_156; rw [wyG, eo] at ihk; simp only [mWayP, h_113, h_172, h_183, h_197, ca, cb, na, nb, if_true, if_false, reduceIte, Bool.false_eq_true] at ihk; rw [nI_dec]; exact V.drop (by simp only [vsubP, and_self]) ihk)
                            | (have eo := wyO_3 ea eb h_144 h_156; rw [wyG, eo] at ihk; simp only [mWayP, h_113, h_172, h_183, h_197, ca, cb, na, nb, if_true, if_false, reduceIte, Bool.false_eq_true] at ihk; rw [nI_dec]; exact V.drop (by simp only [vsubP, and_self]) ihk)
                · refine v_iload_13_11 G dX6_way_147 ?_
                  refine v_goto (tgt := 166) G dX6_way_149 rfl ?_
                  refine v_istore_13_12 G dX6_way_166 rfl ?_
                  refine v_iload_13_12 G dX6_way_168 ?_
                  refine v_bipush (v := (-4)) G dX6_way_170 (by decide) ?_
                  refine v_icmp_eq (tgt := 208) G dX6_way_172 rfl (fun h_172 => ?_) (fun h_172 => ?_)
                  · refine v_iinc_13_9 G dX6_way_208 rfl ?_
                    refine v_goto (tgt := 111) G dX6_way_211 rfl ?_
                    first
                      | (have eo := wyO_1 ea eb h_144; rw [wyG, eo] at ihk; simp only [mWayP, h_113, h_172, ca, cb, na, nb, if_true, if_false, reduceIte, Bool.false_eq_true] at ihk; rw [nI_dec]; exact V.drop (by simp only [vsubP, and_self]) ihk)
                      | (have eo := wyO_2 ea eb h_144 h_156; rw [wyG, eo] at ihk; simp only [mWayP, h_113, h_172, ca, cb, na, nb, if_true, if_false, reduceIte, Bool.false_eq_true] at ihk; rw [nI_dec]; exact V.drop (by simp only [vsubP, and_self]) ihk)
                      | (have eo := wyO_3 ea eb h_144 h_156; rw [wyG, eo] at ihk; simp only [mWayP, h_113, h_172, ca, cb, na, nb, if_true, if_false, reduceIte, Bool.false_eq_true] at ihk; rw [nI_dec]; exact V.drop (by simp only [vsubP, and_self]) ihk)
                  · refine v_aload_13_0 G dX6_way_175 ?_
                    refine v_iconst (v := nI 0) G dX6_way_176 (by decide) ?_
                    refine v_iload_13_9 G dX6_way_177 ?_
                    refine v_iload_13_1 G dX6_way_179 ?_
                    refine v_cV3 G (C_X6_passesOn (g := 0) hn hn5 (by omega) (by omega)) (by decide) md_X6_passesOn in_X6_passesOn (rv_X6 rfl) ml_X6_163 (Nat.le_of_ble_eq_true rfl) dX6_way_180 ?_
                    refine v_ifB_eq (tgt := 208) G dX6_way_183 rfl (fun h_183 => ?_) (fun h_183 => ?_)
                    · refine v_iinc_13_9 G dX6_way_208 rfl ?_
                      refine v_goto (tgt := 111) G dX6_way_211 rfl ?_
                      first
                        | (have eo := wyO_1 ea eb h_144; rw [wyG, eo] at ihk; simp only [mWayP, h_113, h_172, h_183, ca, cb, na, nb, if_true, if_false, reduceIte, Bool.false_eq_true] at ihk; rw [nI_dec]; exact V.drop (by simp only [vsubP, and_self]) ihk)
                        | (have eo := wyO_2 ea eb h_144 h_156; rw [wyG, eo] at ihk; simp only [mWayP, h_113, h_172, h_183, ca, cb, na, nb, if_true, if_false, reduceIte, Bool.false_eq_true] at ihk; rw [nI_dec]; exact V.drop (by simp only [vsubP, and_self]) ihk)
                        | (have eo := wyO_3 ea eb h_144 h_156; rw [wyG, eo] at ihk; simp only [mWayP, h_113, h_172, h_183, ca, cb, na, nb, if_true, if_false, reduceIte, Bool.false_eq_true] at ihk; rw [nI_dec]; exact V.drop (by simp only [vsubP, and_self]) ihk)
                    · refine v_aload_13_0 G dX6_way_186 ?_
                      refine v_getR G vc_6 lk_X6_25 (fs_X6_21) dX6_way_187 ?_
                      refine v_iload_13_12 G dX6_way_190 ?_
                      refine m_faldN G (by first | assumption | omega | exact oneB_in (by assumption) | exact wallB_in (by assumption) | exact oneB_m1 (by assumption) | decide) dX6_way_192 ?_
                      first
                        | rw [hF0 b0 hb0]
                        | rw [hF0 a0 ha0]
                      refine v_iload_13_7 G dX6_way_193 ?_
                      refine v_iconst (v := nI 1) G dX6_way_195 (by decide) ?_
                      refine v_isub G dX6_way_196 ?_
                      refine v_icmp_ne (tgt := 208) G dX6_way_197 rfl (fun h_197 => ?_) (fun h_197 => ?_)
                      · refine v_iinc_13_9 G dX6_way_208 rfl ?_
                        refine v_goto (tgt := 111) G dX6_way_211 rfl ?_
                        first
                          | (have eo := wyO_1 ea eb h_144; rw [wyG, eo] at ihk; simp only [mWayP, h_113, h_172, h_183, h_197, ca, cb, na, nb, if_true, if_false, reduceIte, Bool.false_eq_true] at ihk; rw [nI_dec]; exact V.drop (by simp only [vsubP, and_self]) ihk)
                          | (have eo := wyO_2 ea eb h_144 h_156; rw [wyG, eo] at ihk; simp only [mWayP, h_113, h_172, h_183, h_197, ca, cb, na, nb, if_true, if_false, reduceIte, Bool.false_eq_true] at ihk; rw [nI_dec]; exact V.drop (by simp only [vsubP, and_self]) ihk)
                          | (have eo := wyO_3 ea eb h_144 h_156; rw [wyG, eo] at ihk; simp only [mWayP, h_113, h_172, h_183, h_197, ca, cb, na, nb, if_true, if_false, reduceIte, Bool.false_eq_true] at ihk; rw [nI_dec]; exact V.drop (by simp only [vsubP, and_self]) ihk)
                      · refine v_iload_13_9 G dX6_way_200 ?_
                        refine v_istore_13_5 G dX6_way_202 rfl ?_
                        refine v_iload_13_12 G dX6_way_204 ?_
                        refine v_istore_13_8 G dX6_way_206 rfl ?_
                        refine v_iinc_13_9 G dX6_way_208 rfl ?_
                        refine v_goto (tgt := 111) G dX6_way_211 rfl ?_
                        first
                          | (have eo := wyO_1 ea eb h_144; rw [wyG, eo] at ihk; simp only [mWayP, h_113, h_172, h_183, h_197, ca, cb, na, nb, if_true, if_false, reduceIte, Bool.false_eq_true] at ihk; rw [nI_dec]; exact V.drop (by simp only [vsubP, and_self]) ihk)
                          | (have eo := wyO_2 ea eb h_144 h_156; rw [wyG, eo] at ihk; simp only [mWayP, h_113, h_172, h_183, h_197, ca, cb, na, nb, if_true, if_false, reduceIte, Bool.false_eq_true] at ihk; rw [nI_dec]; exact V.drop (by simp only [vsubP, and_self]) ihk)
                          | (have eo := wyO_3 ea eb h_144 h_156; rw [wyG, eo] at ihk; simp only [mWayP, h_113, h_172, h_183, h_197, ca, cb, na, nb, if_true, if_false, reduceIte, Bool.false_eq_true] at ihk; rw [nI_dec]; exact V.drop (by simp only [vsubP, and_self]) ihk)
              · show V x 111 [some (.ref 75), some (.int (nI p0)), some (.int (nI r0)), some (.int (nI i0)), some (.int (nI h)), some (.int (wyG (σ 76) (mFar (σ 76) n (σ 75 20) 0 m p0 r0) (mWayP (σ 76) n (σ 75 20) p0) m (nI h) ((mFar (σ 76) n (σ 75 20) 0 m p0 r0) h) (wyA (σ 76) (mFar (σ 76) n (σ 75 20) 0 m p0 r0) (mWayP (σ 76) n (σ 75 20) p0) m (nI h0) j).2 m).1), some (.int (nI j)), some (.int ((mFar (σ 76) n (σ 75 20) 0 m p0 r0) h)), some (.int (wyG (σ 76) (mFar (σ 76) n (σ 75 20) 0 m p0 r0) (mWayP (σ 76) n (σ 75 20) p0) m (nI h) ((mFar (σ 76) n (σ 75 20) 0 m p0 r0) h) (wyA (σ 76) (mFar (σ 76) n (σ 75 20) 0 m p0 r0) (mWayP (σ 76) n (σ 75 20) p0) m (nI h0) j).2 m).2), some (.int (nI (m - m) - nI 1)), none, none, none] [] (vrow σ 81 Fx)
                refine v_iload_13_9 G dX6_way_111 ?_
                refine v_if_lt (tgt := 214) G dX6_way_113 rfl (fun h_113 => ?_) (fun h_113 => absurd (by rw [Nat.sub_self]; decide) h_113)
                refine v_iload_13_8 G dX6_way_214 ?_
                refine v_istore_13_4 G dX6_way_216 rfl ?_
                refine v_iincN_13_6 G dX6_way_218 rfl ?_
                refine v_goto (tgt := 81) G dX6_way_221 rfl ?_
                refine V.drop ?_ ihj
                exact ⟨rfl, rfl, rfl, rfl, rfl, rfl, rfl, trivial⟩
            · show V x 81 [some (.ref 75), some (.int (nI p0)), some (.int (nI r0)), some (.int (nI i0)), some (.int (wyA (σ 76) (mFar (σ 76) n (σ 75 20) 0 m p0 r0) (mWayP (σ 76) n (σ 75 20) p0) m (nI h0) (i0 + 1)).1), some (.int (wyA (σ 76) (mFar (σ 76) n (σ 75 20) 0 m p0 r0) (mWayP (σ 76) n (σ 75 20) p0) m (nI h0) (i0 + 1)).2), some (.int (nI (i0 + 1))), none, none, none, none, none, none] [] (vrow σ 81 Fx)
              refine v_iload_13_6 G dX6_way_81 ?_
              refine v_iload_13_3 G dX6_way_83 ?_
              refine v_icmp_gt (tgt := 224) G dX6_way_84 rfl (fun h_84 => ?_) (fun h_84 => absurd (nI_lt (by omega) (by omega)) h_84)
              refine v_iload_13_5 G dX6_way_224 ?_
              exact v_iret G hQ dX6_way_226 vFar.mk
          · refine v_bipush (v := (-4)) G dX6_way_75 (by decide) ?_
            exact v_iret G hQ dX6_way_77 (vFar.of (by rw [if_neg h_72]) rfl)
      · refine v_iconst (v := (-1)) G dX6_way_27 (by decide) ?_
        exact v_iret G hQ dX6_way_28 (vFar.of (by simp only [mWayR, bI, h_5, cp0, h_12, cr0, h_24, if_true, if_false, Bool.false_eq_true, reduceIte] <;> try rfl) rfl)
