/-! The model's trials: what they leave is the same world, but for what serves them -/
def scr (b σ : vW) : Prop := (∀ r, r ≠ 75 → r ≠ 76 → r ≠ 81 → r ≠ 83 → b r = σ r) ∧ (∀ i, i ≠ 22 → i ≠ 23 → b 75 i = σ 75 i) ∧ ∀ i, ¬ (260 ≤ i ∧ i < 325) → b 76 i = σ 76 i
theorem scr_refl (σ : vW) : scr σ σ := ⟨fun _ _ _ _ _ => rfl, fun _ _ _ => rfl, fun _ _ => rfl⟩
theorem scr_trans {a b c : vW} (h : scr a b) (k : scr b c) : scr a c := ⟨fun r h1 h2 h3 h4 => (h.1 r h1 h2 h3 h4).trans (k.1 r h1 h2 h3 h4), fun i h1 h2 => (h.2.1 i h1 h2).trans (k.2.1 i h1 h2), fun i h1 => (h.2.2 i h1).trans (k.2.2 i h1)⟩
theorem scr_far {s σ : vW} {f : Nat → Int32} (h : scr s σ) : scr (vrow s 81 f) σ := ⟨fun r h1 h2 h3 h4 => by rw [vrow_ne h3]; exact h.1 r h1 h2 h3 h4, fun i h1 h2 => by rw [vrow_ne (by decide)]; exact h.2.1 i h1 h2, fun i h1 => by rw [vrow_ne (by decide)]; exact h.2.2 i h1⟩
theorem scr_cell {s σ : vW} {i : Nat} {v : Int32} (h : scr s σ) (h1 : 260 ≤ i) (h2 : i < 325) : scr (vset s 76 i v) σ := ⟨fun r a b c d => by rw [vset_ne b]; exact h.1 r a b c d, fun j a b => by rw [vset_ne (by decide)]; exact h.2.1 j a b, fun j a => by rw [vset_oth (by omega)]; exact h.2.2 j a⟩
theorem scr_fld {s σ : vW} {k : Nat} {v : Int32} (h : scr s σ) (hk : k = 22 ∨ k = 23) : scr (vset s 75 k v) σ := ⟨fun r a b c d => by rw [vset_ne a]; exact h.1 r a b c d, fun j a b => by rw [vset_oth (by omega)]; exact h.2.1 j a b, fun j a => by rw [vset_ne (by decide)]; exact h.2.2 j a⟩
theorem scr_83 {s σ : vW} {i : Nat} {v : Int32} (h : scr s σ) : scr (vset s 83 i v) σ := ⟨fun r a b c d => by rw [vset_ne d]; exact h.1 r a b c d, fun j a b => by rw [vset_ne (by decide)]; exact h.2.1 j a b, fun j a => by rw [vset_ne (by decide)]; exact h.2.2 j a⟩
theorem scr_cp {s σ : vW} (h : scr s σ) : scr (cpW s 0 260) σ := ⟨fun r a b c d => by rw [cpW_ne b]; exact h.1 r a b c d, fun j a b => by rw [cpW_75]; exact h.2.1 j a b, fun j a => by rw [cpW_off (by omega)]; exact h.2.2 j a⟩
theorem scr_hg {s σ : vW} {n p : Nat} {w : Int32} (h : scr s σ) (hp : p < 5) : scr (mHgW s n 260 p w) σ := by
  unfold mHgW
  split
  · exact scr_cell h (by omega) (by omega)
  · exact h
theorem scr_fl {s σ : vW} {n : Nat} {w : Int32} (h : scr s σ) (hn5 : n ≤ 5) : scr (mFlW s n 260 w) σ := by
  rcases mDoor_cases (s 76) n 260 w with e | ⟨p, hp, e⟩
  · rw [mFlW, if_pos e]
    exact h
  · rw [mFlW, if_neg (show ¬ mDoor (s 76) n 260 w = -4 by rw [e]; exact nI_nm4 (by omega)), e, nI_clamp (by omega)]
    exact scr_cell (scr_cell h (by omega) (by omega)) (by omega) (by omega)
theorem scr_J {s σ : vW} (h : scr s σ) : s 75 20 = σ 75 20 := h.2.1 20 (by decide) (by decide)
theorem pOK_scr {s σ : vW} {n m g : Nat} (h : scr s σ) (hp : pOK σ n m g) (hg : g + 65 ≤ 260) : pOK s n m g := by
  have e : ∀ i, i < 260 → s 76 i = σ 76 i := fun i hi => h.2.2 i (by omega)
  have hm := hp.2.1.2.1
  refine ⟨by rw [h.2.1 1 (by decide) (by decide)]; exact hp.1, ⟨by rw [e _ (by omega)]; exact hp.2.1.1, hp.2.1.2.1, fun w hw => ?_⟩, fun q hq => ?_⟩
  · obtain ⟨a, b, ha, hb, ea, eb⟩ := hp.2.1.2.2 w hw
    exact ⟨a, b, ha, hb, by rw [e _ (by omega)]; exact ea, by rw [e _ (by omega)]; exact eb⟩
  · obtain ⟨r, hr, er⟩ := hp.2.2 q hq
    exact ⟨r, hr, by rw [e _ (by omega)]; exact er⟩
/-- the trial page, newly copied: the same whatever was tried before -/
theorem tri_row {s σ : vW} (h : scr s σ) : ∀ i, i < 325 → (cpW s 0 260) 76 i = (cpW σ 0 260) 76 i := by
  intro i hi
  simp only [cpW, vrow_at, cpP]
  split
  · exact h.2.2 _ (by omega)
  · exact h.2.2 _ (by omega)
theorem tri_all {s σ : vW} (h : scr s σ) : (cpW s 0 260) 76 = (cpW σ 0 260) 76 := by
  funext i
  simp only [cpW, vrow_at, cpP]
  split
  · exact h.2.2 _ (by omega)
  · exact h.2.2 _ (by omega)
theorem mHgW_row {s t : vW} {n g p : Nat} {w : Int32} (h : s 76 = t 76) : (mHgW s n g p w) 76 = (mHgW t n g p w) 76 := by
  unfold mHgW
  rw [h]
  split
  · funext j
    simp only [vset, h]
  · exact h
theorem mFlW_row {s t : vW} {n g : Nat} {w : Int32} (h : s 76 = t 76) : (mFlW s n g w) 76 = (mFlW t n g w) 76 := by
  unfold mFlW
  rw [h]
  split
  · exact h
  · funext j
    simp only [vset, h]
theorem mFlW_75 {s : vW} {n g : Nat} {w : Int32} : (mFlW s n g w) 75 = s 75 := by
  unfold mFlW
  split
  · rfl
  · rw [vset_ne (by decide), vset_ne (by decide)]
def hgT (σ : vW) (n p : Nat) (w : Int32) : Nat → Int32 := (mHgW (cpW σ 0 260) n 260 p w) 76
theorem hgT_scr {s σ : vW} {n p : Nat} {w : Int32} (h : scr s σ) : (mHgW (cpW s 0 260) n 260 p w) 76 = hgT σ n p w := mHgW_row (tri_all h)
theorem hgT_J {s σ : vW} {n p : Nat} {w : Int32} (h : scr s σ) : (mHgW (cpW s 0 260) n 260 p w) 75 20 = σ 75 20 := by rw [mHgW_75, cpW_75]; exact scr_J h
/-- an answer, and such a world -/
def vT (r : Option Value) (σ : vW) : Option Value → vW → Prop := fun a b => a = r ∧ scr b σ
theorem vT.of {r r' : Option Value} {s σ : vW} {f : Nat → Int32} (h : r' = r) (h2 : scr s σ) : vT r σ r' (vrow s 81 f) := ⟨h, scr_far h2⟩
section VT
variable {x : vX} {own : String} {cc : ByteArray} {nL dd : Nat} {ret : Option FieldType} {pc : Nat} {L : List (Option Value)} {st : List Value} {w0 σ : vW}
theorem v_cT1 {mi : vMI} {b d idx : Nat} {a1 : Value} {v : Value} (G : vG x own cc nL ret dd) (C : Ctr mi d (.ref b :: [a1]) w0 (vT (some v) σ)) (hd : d < dd) (md : vMd mi 1) (hi : vIn mi) (rv : vRv b mi) (lk : Cond.methodLink own idx mi.1 ∈ BIG) (hw : (st.map fun v => v.category).sum ≤ 8) (dg : decode cc pc = .ok (.invokevirtual idx, 3)) (k0 : ∀ s f, scr s σ → V x (pc + 3) L (v :: st) (vrow s 81 f)) : V x pc L (a1 :: .ref b :: st) w0 := v_callV (av := [a1]) G C hd md hi rv lk rfl hw dg (by rintro _ b ⟨rfl, e⟩; have h := k0 b (b 81) e; rwa [vrow_same] at h)
theorem v_cT4 {mi : vMI} {b d idx : Nat} {a1 a2 a3 a4 : Value} {v : Value} (G : vG x own cc nL ret dd) (C : Ctr mi d (.ref b :: [a1, a2, a3, a4]) w0 (vT (some v) σ)) (hd : d < dd) (md : vMd mi 4) (hi : vIn mi) (rv : vRv b mi) (lk : Cond.methodLink own idx mi.1 ∈ BIG) (hw : (st.map fun v => v.category).sum ≤ 8) (dg : decode cc pc = .ok (.invokevirtual idx, 3)) (k0 : ∀ s f, scr s σ → V x (pc + 3) L (v :: st) (vrow s 81 f)) : V x pc L (a4 :: a3 :: a2 :: a1 :: .ref b :: st) w0 := v_callV (av := [a1, a2, a3, a4]) G C hd md hi rv lk rfl hw dg (by rintro _ b ⟨rfl, e⟩; have h := k0 b (b 81) e; rwa [vrow_same] at h)
theorem v_forT (n : Nat) (S : Nat → List (Option Value)) (hs : ∀ k, k < n → (∀ s f, scr s σ → V x pc (S (k + 1)) [] (vrow s 81 f)) → ∀ s f, scr s σ → V x pc (S k) [] (vrow s 81 f)) (he : ∀ s f, scr s σ → V x pc (S n) [] (vrow s 81 f)) : ∀ s f, scr s σ → V x pc (S 0) [] (vrow s 81 f) := by
  have h : ∀ j, j ≤ n → ∀ s f, scr s σ → V x pc (S (n - j)) [] (vrow s 81 f) := by
    intro j
    induction j with
    | zero => intro _; exact he
    | succ j ih =>
      intro hj
      have h1 := hs (n - (j + 1)) (by omega)
      rw [show n - (j + 1) + 1 = n - j by omega] at h1
      exact h1 (ih (by omega))
  have h2 := h n (Nat.le_refl n)
  rwa [Nat.sub_self] at h2
end VT
def sbR (σ : vW) (n m q : Nat) (w : Int32) (p r : Nat) : Int32 := if mCan ((cpW σ 0 260) 76) n 260 q w = true then mFarQ (hgT σ n q w) n (σ 75 20) 260 m p r else -4
set_option maxHeartbeats 4000000 in
theorem C_X6_stepsBy {s σ : vW} {f : Nat → Int32} {n m q p r : Nat} {w : Int32} (hs : scr s σ) (hp : pOK σ n m 0) (hq : q < 5) (hp5 : p < 5) (hr : r < 8) : Ctr mX6_stepsBy 5 [.ref 75, .int (nI q), .int w, .int (nI p), .int (nI r)] (vrow s 81 f) (vT (some (.int (sbR σ n m q w p r))) σ) := by
  have hsp := pOK_scr hs hp (by omega)
  have hn := hsp.1.1
  have hn5 := hp.1.2.1
  have h2 : pOK (cpW s 0 260) n m 260 := pOK_to hsp (by omega)
  refine Ctr.intro (by decide) (fun α => Nat.le_of_ble_eq_true rfl) (fun x G hQ => ?_)
  have G : vG x RX6 cX6_stepsBy 5 (some .int) 5 := G
  show V x 0 [some (.ref 75), some (.int (nI q)), some (.int w), some (.int (nI p)), some (.int (nI r))] [] (vrow s 81 f)
  refine v_aload_5_0 G dX6_stepsBy_0 ?_
  refine v_iconst (v := nI 0) G dX6_stepsBy_1 (by decide) ?_
  refine v_sipush (v := nI 260) G dX6_stepsBy_2 (by decide) ?_
  refine v_cV2v G (C_X6_copies (a := 0) (b := 260) (by omega) (by omega) (by omega)) (by decide) md_X6_copies in_X6_copies (rv_X6 rfl) ml_X6_220 (Nat.le_of_ble_eq_true rfl) dX6_stepsBy_5 ?_
  refine v_aload_5_0 G dX6_stepsBy_8 ?_
  refine v_sipush (v := nI 260) G dX6_stepsBy_9 (by decide) ?_
  refine v_iload_5_1 G dX6_stepsBy_12 ?_
  refine v_iload_5_2 G dX6_stepsBy_13 ?_
  refine v_cV3 G (C_X6_hangsOn (g := 260) (by rw [cpW_75]; exact hn) hn5 (by omega) hq) (by decide) md_X6_hangsOn in_X6_hangsOn (rv_X6 rfl) ml_X6_208 (Nat.le_of_ble_eq_true rfl) dX6_stepsBy_14 ?_
  rw [tri_all hs]
  refine v_ifB_eq (tgt := 33) G dX6_stepsBy_17 rfl (fun h_17 => ?_) (fun h_17 => ?_)
  · refine v_bipush (v := (-4)) G dX6_stepsBy_33 (by decide) ?_
    exact v_iret G hQ dX6_stepsBy_35 (vT.of (by simp only [sbR, bI, h_17, if_true, if_false, Bool.false_eq_true, reduceIte] <;> try rfl) (scr_hg (scr_cp hs) hq))
  · refine v_aload_5_0 G dX6_stepsBy_20 ?_
    refine v_sipush (v := nI 260) G dX6_stepsBy_21 (by decide) ?_
    refine v_iload_5_3 G dX6_stepsBy_24 ?_
    refine v_iload_5_4 G dX6_stepsBy_25 ?_
    refine v_cE3 G (C_X6_stepsOn (g := 260) (pOK_hg h2 hq (Or.inl rfl)) hp5 hr) (by decide) md_X6_stepsOn in_X6_stepsOn (rv_X6 rfl) ml_X6_217 (Nat.le_of_ble_eq_true rfl) dX6_stepsBy_27 (fun f => ?_)
    rw [hgT_scr hs, hgT_J hs]
    refine v_goto (tgt := 35) G dX6_stepsBy_30 rfl ?_
    exact v_iret G hQ dX6_stepsBy_35 (vT.of (by simp only [sbR, bI, h_17, if_true, if_false, Bool.false_eq_true, reduceIte] <;> try rfl) (scr_hg (scr_cp hs) hq))
def bsG (σ : vW) (n m p r : Nat) : Nat → Int32 × Int32
  | 0 => (nI 100, -4)
  | w + 1 => if sbR σ n m p (nI w) p r = -4 then bsG σ n m p r w else if (bsG σ n m p r w).1 ≤ sbR σ n m p (nI w) p r then bsG σ n m p r w else (sbR σ n m p (nI w) p r, nI w)
def lstR (s : Int32 × Int32) (k : Int32) : Int32 := if s.2 = -4 then s.2 else if k = 0 then s.2 else s.1
def mBestR (σ : vW) (n m : Nat) (a r k : Int32) : Int32 := if inZ a n = true then (if inZ r 8 = true then (if inZ k 2 = true then (if mFree (σ 76) 0 a.toNatClampNeg = true then lstR (bsG σ n m a.toNatClampNeg r.toNatClampNeg m) k else -2) else -1) else -1) else -1
set_option maxHeartbeats 4000000 in
theorem C_X6_best {σ : vW} {f : Nat → Int32} {n m : Nat} {a r k : Int32} (hp : pOK σ n m 0) : Ctr mX6_best 6 [.ref 75, .int a, .int r, .int k] (vrow σ 81 f) (vT (some (.int (mBestR σ n m a r k))) σ) := by
  have hn := hp.1.1
  have hn5 := hp.1.2.1
  have hm : σ 76 25 = nI m := hp.2.1.1
  have hm9 := hp.2.1.2.1
  have hms : ∀ s, scr s σ → s 76 25 = nI m := fun s h => (h.2.2 25 (by omega)).trans hm
  refine Ctr.intro (by decide) (fun α => Nat.le_of_ble_eq_true rfl) (fun x G hQ => ?_)
  have G : vG x RX6 cX6_best 8 (some .int) 6 := G
  show V x 0 [some (.ref 75), some (.int a), some (.int r), some (.int k), none, none, none, none] [] (vrow σ 81 f)
  refine v_aload_8_0 G dX6_best_0 ?_
  refine v_iload_8_1 G dX6_best_1 ?_
  refine v_cV1 G (C_X6_isOne (by first | assumption | omega | exact oneB_in (by assumption) | exact wallB_in (by assumption) | exact oneB_m1 (by assumption) | decide) (by first | assumption | omega | exact oneB_in (by assumption) | exact wallB_in (by assumption) | exact oneB_m1 (by assumption) | decide)) (by decide) md_X6_isOne in_X6_isOne (rv_X6 rfl) ml_X6_185 (Nat.le_of_ble_eq_true rfl) dX6_best_2 ?_
  refine v_ifB_eq (tgt := 25) G dX6_best_5 rfl (fun h_5 => ?_) (fun h_5 => ?_)
  · refine v_iconst (v := (-1)) G dX6_best_25 (by decide) ?_
    exact v_iret G hQ dX6_best_26 (vT.of (by simp only [mBestR, bI, h_5, if_true, if_false, Bool.false_eq_true, reduceIte] <;> try rfl) (scr_refl σ))
  · obtain ⟨p0, hp0, rfl⟩ := inZ_ex h_5 (by omega)
    have cp0 : (nI p0).toNatClampNeg = p0 := nI_clamp (by omega)
    refine v_iload_8_2 G dX6_best_8 ?_
    refine v_cS1 G (C_X6_isRoom) (by decide) md_X6_isRoom st_X6_isRoom ml_X6_197 (Nat.le_of_ble_eq_true rfl) dX6_best_9 ?_
    refine v_ifB_eq (tgt := 25) G dX6_best_12 rfl (fun h_12 => ?_) (fun h_12 => ?_)
    · refine v_iconst (v := (-1)) G dX6_best_25 (by decide) ?_
      exact v_iret G hQ dX6_best_26 (vT.of (by simp only [mBestR, bI, h_5, cp0, h_12, if_true, if_false, Bool.false_eq_true, reduceIte] <;> try rfl) (scr_refl σ))
    · obtain ⟨r0, hr0, rfl⟩ := inZ_ex h_12 (by omega)
      have cr0 : (nI r0).toNatClampNeg = r0 := nI_clamp (by omega)
      refine v_iload_8_3 G dX6_best_15 ?_
      refine v_i2l G dX6_best_16 ?_
      refine v_lconst (v := lN 0) G dX6_best_17 (by decide) ?_
      refine v_lconst (v := lN 1) G dX6_best_18 (by decide) ?_
      refine v_cS3 G (C_inK 2 (by decide)) (by decide) md_X6_in st_X6_in ml_X6_49 (Nat.le_of_ble_eq_true rfl) dX6_best_19 ?_
      refine v_ifB_ne (tgt := 27) G dX6_best_22 rfl (fun h_22 => ?_) (fun h_22 => ?_)
      · refine v_aload_8_0 G dX6_best_27 ?_
        refine v_iconst (v := nI 0) G dX6_best_28 (by decide) ?_
        refine v_iload_8_1 G dX6_best_29 ?_
        refine v_cV2 G (C_X6_isFreeOn (g := 0) (by omega) (by omega)) (by decide) md_X6_isFreeOn in_X6_isFreeOn (rv_X6 rfl) ml_X6_175 (Nat.le_of_ble_eq_true rfl) dX6_best_30 ?_
        refine v_ifB_ne (tgt := 39) G dX6_best_33 rfl (fun h_33 => ?_) (fun h_33 => ?_)
        · refine v_bipush (v := nI 100) G dX6_best_39 (by decide) ?_
          refine v_istore_8_4 G dX6_best_41 rfl ?_
          refine v_bipush (v := (-4)) G dX6_best_43 (by decide) ?_
          refine v_istore_8_5 G dX6_best_45 rfl ?_
          refine v_iconst (v := nI 0) G dX6_best_47 (by decide) ?_
          refine v_istore_8_6 G dX6_best_48 rfl ?_
          refine v_forT (σ := σ) (pc := 50) (m) (fun w => [some (.ref 75), some (.int (nI p0)), some (.int (nI r0)), some (.int k), some (.int (bsG σ n m p0 r0 w).1), some (.int (bsG σ n m p0 r0 w).2), some (.int (nI w)), none]) (fun w hw ih s f hs => ?_) (fun s f hs => ?_) _ _ (scr_refl σ)
          · show V x 50 [some (.ref 75), some (.int (nI p0)), some (.int (nI r0)), some (.int k), some (.int (bsG σ n m p0 r0 w).1), some (.int (bsG σ n m p0 r0 w).2), some (.int (nI w)), none] [] (vrow s 81 f)
            have ih : ∀ s f, scr s σ → V x 50 [some (.ref 75), some (.int (nI p0)), some (.int (nI r0)), some (.int k), some (.int (bsG σ n m p0 r0 (w + 1)).1), some (.int (bsG σ n m p0 r0 (w + 1)).2), some (.int (nI (w + 1))), none] [] (vrow s 81 f) := ih
            refine v_iload_8_6 G dX6_best_50 ?_
            refine v_aload_8_0 G dX6_best_52 ?_
            refine v_getR G vc_6 lk_X6_7 (fs_X6_0) dX6_best_53 ?_
            refine v_bipush (v := nI 25) G dX6_best_56 (by decide) ?_
            refine m_ialdN G (by decide) (as_X6_0) (by first | assumption | omega | exact oneB_in (by assumption) | exact wallB_in (by assumption) | exact oneB_m1 (by assumption) | decide) (by decide) dX6_best_58 ?_
            refine v_icmp_ge (tgt := 125) G dX6_best_59 rfl (fun h_59 => absurd h_59 (by rw [(hms s hs)]; exact nI_ge hw (by omega))) (fun h_59 => ?_)
            refine v_aload_8_0 G dX6_best_62 ?_
            refine v_iload_8_1 G dX6_best_63 ?_
            refine v_iload_8_6 G dX6_best_64 ?_
            refine v_iload_8_1 G dX6_best_66 ?_
            refine v_iload_8_2 G dX6_best_67 ?_
            refine v_cT4 G (C_X6_stepsBy hs hp (by omega) (by omega) hr0) (by decide) md_X6_stepsBy in_X6_stepsBy (rv_X6 rfl) ml_X6_236 (Nat.le_of_ble_eq_true rfl) dX6_best_68 (fun s f hs => ?_)
            refine v_istore_8_7 G dX6_best_71 rfl ?_
            refine v_iload_8_7 G dX6_best_73 ?_
            refine v_bipush (v := (-4)) G dX6_best_75 (by decide) ?_
            refine v_icmp_eq (tgt := 92) G dX6_best_77 rfl (fun h_77 => ?_) (fun h_77 => ?_)
            · refine v_iload_8_5 G dX6_best_92 ?_
              refine v_istore_8_5 G dX6_best_94 rfl ?_
              refine v_iload_8_7 G dX6_best_96 ?_
              refine v_bipush (v := (-4)) G dX6_best_98 (by decide) ?_
              refine v_icmp_eq (tgt := 115) G dX6_best_100 rfl (fun h_100 => ?_) (fun h_100 => ?_)
              · refine v_iload_8_4 G dX6_best_115 ?_
                refine v_istore_8_4 G dX6_best_117 rfl ?_
                refine v_iincN_8_6 G dX6_best_119 rfl ?_
                refine v_goto (tgt := 50) G dX6_best_122 rfl ?_
                first
                  | contradiction
                  | (simp only [bsG, h_59, h_77, h_100, if_true, if_false, reduceIte] at ih; exact V.drop (by simp only [vsubP, and_self]) (ih _ _ hs))
              · refine v_iload_8_7 G dX6_best_103 ?_
                refine v_iload_8_4 G dX6_best_105 ?_
                refine v_icmp_ge (tgt := 115) G dX6_best_107 rfl (fun h_107 => ?_) (fun h_107 => ?_)
                · refine v_iload_8_4 G dX6_best_115 ?_
                  refine v_istore_8_4 G dX6_best_117 rfl ?_
                  refine v_iincN_8_6 G dX6_best_119 rfl ?_
                  refine v_goto (tgt := 50) G dX6_best_122 rfl ?_
                  first
                    | contradiction
                    | (simp only [bsG, h_59, h_77, h_100, h_107, if_true, if_false, reduceIte] at ih; exact V.drop (by simp only [vsubP, and_self]) (ih _ _ hs))
                · refine v_iload_8_7 G dX6_best_110 ?_
                  refine v_goto (tgt := 117) G dX6_best_112 rfl ?_
                  refine v_istore_8_4 G dX6_best_117 rfl ?_
                  refine v_iincN_8_6 G dX6_best_119 rfl ?_
                  refine v_goto (tgt := 50) G dX6_best_122 rfl ?_
                  first
                    | contradiction
                    | (simp only [bsG, h_59, h_77, h_100, h_107, if_true, if_false, reduceIte] at ih; exact V.drop (by simp only [vsubP, and_self]) (ih _ _ hs))
            · refine v_iload_8_7 G dX6_best_80 ?_
              refine v_iload_8_4 G dX6_best_82 ?_
              refine v_icmp_ge (tgt := 92) G dX6_best_84 rfl (fun h_84 => ?_) (fun h_84 => ?_)
              · refine v_iload_8_5 G dX6_best_92 ?_
                refine v_istore_8_5 G dX6_best_94 rfl ?_
                refine v_iload_8_7 G dX6_best_96 ?_
                refine v_bipush (v := (-4)) G dX6_best_98 (by decide) ?_
                refine v_icmp_eq (tgt := 115) G dX6_best_100 rfl (fun h_100 => ?_) (fun h_100 => ?_)
                · refine v_iload_8_4 G dX6_best_115 ?_
                  refine v_istore_8_4 G dX6_best_117 rfl ?_
                  refine v_iincN_8_6 G dX6_best_119 rfl ?_
                  refine v_goto (tgt := 50) G dX6_best_122 rfl ?_
                  first
                    | contradiction
                    | (simp only [bsG, h_59, h_77, h_84, h_100, if_true, if_false, reduceIte] at ih; exact V.drop (by simp only [vsubP, and_self]) (ih _ _ hs))
                · refine v_iload_8_7 G dX6_best_103 ?_
                  refine v_iload_8_4 G dX6_best_105 ?_
                  refine v_icmp_ge (tgt := 115) G dX6_best_107 rfl (fun h_107 => ?_) (fun h_107 => ?_)
                  · refine v_iload_8_4 G dX6_best_115 ?_
                    refine v_istore_8_4 G dX6_best_117 rfl ?_
                    refine v_iincN_8_6 G dX6_best_119 rfl ?_
                    refine v_goto (tgt := 50) G dX6_best_122 rfl ?_
                    first
                      | contradiction
                      | (simp only [bsG, h_59, h_77, h_84, h_100, h_107, if_true, if_false, reduceIte] at ih; exact V.drop (by simp only [vsubP, and_self]) (ih _ _ hs))
                  · refine v_iload_8_7 G dX6_best_110 ?_
                    refine v_goto (tgt := 117) G dX6_best_112 rfl ?_
                    refine v_istore_8_4 G dX6_best_117 rfl ?_
                    refine v_iincN_8_6 G dX6_best_119 rfl ?_
                    refine v_goto (tgt := 50) G dX6_best_122 rfl ?_
                    first
                      | contradiction
                      | (simp only [bsG, h_59, h_77, h_84, h_100, h_107, if_true, if_false, reduceIte] at ih; exact V.drop (by simp only [vsubP, and_self]) (ih _ _ hs))
              · refine v_iload_8_6 G dX6_best_87 ?_
                refine v_goto (tgt := 94) G dX6_best_89 rfl ?_
                refine v_istore_8_5 G dX6_best_94 rfl ?_
                refine v_iload_8_7 G dX6_best_96 ?_
                refine v_bipush (v := (-4)) G dX6_best_98 (by decide) ?_
                refine v_icmp_eq (tgt := 115) G dX6_best_100 rfl (fun h_100 => ?_) (fun h_100 => ?_)
                · refine v_iload_8_4 G dX6_best_115 ?_
                  refine v_istore_8_4 G dX6_best_117 rfl ?_
                  refine v_iincN_8_6 G dX6_best_119 rfl ?_
                  refine v_goto (tgt := 50) G dX6_best_122 rfl ?_
                  first
                    | contradiction
                    | (simp only [bsG, h_59, h_77, h_84, h_100, if_true, if_false, reduceIte] at ih; exact V.drop (by simp only [vsubP, and_self]) (ih _ _ hs))
                · refine v_iload_8_7 G dX6_best_103 ?_
                  refine v_iload_8_4 G dX6_best_105 ?_
                  refine v_icmp_ge (tgt := 115) G dX6_best_107 rfl (fun h_107 => ?_) (fun h_107 => ?_)
                  · refine v_iload_8_4 G dX6_best_115 ?_
                    refine v_istore_8_4 G dX6_best_117 rfl ?_
                    refine v_iincN_8_6 G dX6_best_119 rfl ?_
                    refine v_goto (tgt := 50) G dX6_best_122 rfl ?_
                    first
                      | contradiction
                      | (simp only [bsG, h_59, h_77, h_84, h_100, h_107, if_true, if_false, reduceIte] at ih; exact V.drop (by simp only [vsubP, and_self]) (ih _ _ hs))
                  · refine v_iload_8_7 G dX6_best_110 ?_
                    refine v_goto (tgt := 117) G dX6_best_112 rfl ?_
                    refine v_istore_8_4 G dX6_best_117 rfl ?_
                    refine v_iincN_8_6 G dX6_best_119 rfl ?_
                    refine v_goto (tgt := 50) G dX6_best_122 rfl ?_
                    first
                      | contradiction
                      | (simp only [bsG, h_59, h_77, h_84, h_100, h_107, if_true, if_false, reduceIte] at ih; exact V.drop (by simp only [vsubP, and_self]) (ih _ _ hs))
          · show V x 50 [some (.ref 75), some (.int (nI p0)), some (.int (nI r0)), some (.int k), some (.int (bsG σ n m p0 r0 m).1), some (.int (bsG σ n m p0 r0 m).2), some (.int (nI m)), none] [] (vrow s 81 f)
            refine v_iload_8_6 G dX6_best_50 ?_
            refine v_aload_8_0 G dX6_best_52 ?_
            refine v_getR G vc_6 lk_X6_7 (fs_X6_0) dX6_best_53 ?_
            refine v_bipush (v := nI 25) G dX6_best_56 (by decide) ?_
            refine m_ialdN G (by decide) (as_X6_0) (by first | assumption | omega | exact oneB_in (by assumption) | exact wallB_in (by assumption) | exact oneB_m1 (by assumption) | decide) (by decide) dX6_best_58 ?_
            refine v_icmp_ge (tgt := 125) G dX6_best_59 rfl (fun h_59 => ?_) (fun h_59 => absurd (by rw [(hms s hs)]; exact nI_le (Nat.le_refl _) (by omega)) h_59)
            refine v_iload_8_5 G dX6_best_125 ?_
            refine v_bipush (v := (-4)) G dX6_best_127 (by decide) ?_
            refine v_icmp_eq (tgt := 136) G dX6_best_129 rfl (fun h_129 => ?_) (fun h_129 => ?_)
            · refine v_iload_8_5 G dX6_best_136 ?_
              refine v_goto (tgt := 143) G dX6_best_138 rfl ?_
              exact v_iret G hQ dX6_best_143 (vT.of (by simp only [mBestR, lstR, h_5, cp0, h_12, cr0, h_22, h_33, bI, h_59, h_129, if_true, if_false, Bool.false_eq_true, reduceIte] <;> try rfl) hs)
            · refine v_iload_8_3 G dX6_best_132 ?_
              refine v_if_ne (tgt := 141) G dX6_best_133 rfl (fun h_133 => ?_) (fun h_133 => ?_)
              · refine v_iload_8_4 G dX6_best_141 ?_
                exact v_iret G hQ dX6_best_143 (vT.of (by simp only [mBestR, lstR, h_5, cp0, h_12, cr0, h_22, h_33, bI, h_59, h_129, h_133, if_true, if_false, Bool.false_eq_true, reduceIte] <;> try rfl) hs)
              · refine v_iload_8_5 G dX6_best_136 ?_
                refine v_goto (tgt := 143) G dX6_best_138 rfl ?_
                exact v_iret G hQ dX6_best_143 (vT.of (by simp only [mBestR, lstR, h_5, cp0, h_12, cr0, h_22, h_33, bI, h_59, h_129, h_133, if_true, if_false, Bool.false_eq_true, reduceIte] <;> try rfl) hs)
        · refine v_bipush (v := (-2)) G dX6_best_36 (by decide) ?_
          exact v_iret G hQ dX6_best_38 (vT.of (by simp only [mBestR, bI, h_5, cp0, h_12, cr0, h_22, h_33, if_true, if_false, Bool.false_eq_true, reduceIte] <;> try rfl) (scr_refl σ))
      · refine v_iconst (v := (-1)) G dX6_best_25 (by decide) ?_
        exact v_iret G hQ dX6_best_26 (vT.of (by simp only [mBestR, bI, h_5, cp0, h_12, cr0, h_22, if_true, if_false, Bool.false_eq_true, reduceIte] <;> try rfl) (scr_refl σ))
theorem nI_eqN {a b : Nat} (ha : a < 2147483648) (hb : b < 2147483648) (h : nI a = nI b) : a = b := by
  have h2 := congrArg Int32.toInt h
  rw [nI_toInt (by omega), nI_toInt (by omega)] at h2
  omega
theorem nI_neN {a b : Nat} (h : ¬ nI a = nI b) : ¬ a = b := fun e => h (congrArg nI e)
def frG (σ : vW) (n m p r q : Nat) (s : Int32 × Int32) : Nat → Int32 × Int32
  | 0 => s
  | w + 1 => if q = p then frG σ n m p r q s w else if sbR σ n m q (nI w) p r = -4 then frG σ n m p r q s w else if (frG σ n m p r q s w).1 ≤ sbR σ n m q (nI w) p r then frG σ n m p r q s w else (sbR σ n m q (nI w) p r, nI (10 * q + w))
def frQ (σ : vW) (n m p r : Nat) : Nat → Int32 × Int32
  | 0 => (nI 100, -4)
  | q + 1 => frG σ n m p r q (frQ σ n m p r q) m
def mFriendR (σ : vW) (n m : Nat) (a r k : Int32) : Int32 := if inZ a n = true then (if inZ r 8 = true then (if inZ k 2 = true then lstR (frQ σ n m a.toNatClampNeg r.toNatClampNeg n) k else -1) else -1) else -1
set_option maxHeartbeats 4000000 in
theorem C_X6_friend {σ : vW} {f : Nat → Int32} {n m : Nat} {a r k : Int32} (hp : pOK σ n m 0) : Ctr mX6_friend 6 [.ref 75, .int a, .int r, .int k] (vrow σ 81 f) (vT (some (.int (mFriendR σ n m a r k))) σ) := by
  have hn := hp.1.1
  have hn5 := hp.1.2.1
  have hm : σ 76 25 = nI m := hp.2.1.1
  have hm9 := hp.2.1.2.1
  have hns : ∀ s, scr s σ → s 75 1 = nI n := fun s h => (h.2.1 1 (by decide) (by decide)).trans hn
  have hms : ∀ s, scr s σ → s 76 25 = nI m := fun s h => (h.2.2 25 (by omega)).trans hm
  refine Ctr.intro (by decide) (fun α => Nat.le_of_ble_eq_true rfl) (fun x G hQ => ?_)
  have G : vG x RX6 cX6_friend 9 (some .int) 6 := G
  show V x 0 [some (.ref 75), some (.int a), some (.int r), some (.int k), none, none, none, none, none] [] (vrow σ 81 f)
  refine v_aload_9_0 G dX6_friend_0 ?_
  refine v_iload_9_1 G dX6_friend_1 ?_
  refine v_cV1 G (C_X6_isOne (by first | assumption | omega | exact oneB_in (by assumption) | exact wallB_in (by assumption) | exact oneB_m1 (by assumption) | decide) (by first | assumption | omega | exact oneB_in (by assumption) | exact wallB_in (by assumption) | exact oneB_m1 (by assumption) | decide)) (by decide) md_X6_isOne in_X6_isOne (rv_X6 rfl) ml_X6_185 (Nat.le_of_ble_eq_true rfl) dX6_friend_2 ?_
  refine v_ifB_eq (tgt := 25) G dX6_friend_5 rfl (fun h_5 => ?_) (fun h_5 => ?_)
  · refine v_iconst (v := (-1)) G dX6_friend_25 (by decide) ?_
    exact v_iret G hQ dX6_friend_26 (vT.of (by simp only [mFriendR, bI, h_5, if_true, if_false, Bool.false_eq_true, reduceIte] <;> try rfl) (scr_refl σ))
  · obtain ⟨p0, hp0, rfl⟩ := inZ_ex h_5 (by omega)
    have cp0 : (nI p0).toNatClampNeg = p0 := nI_clamp (by omega)
    refine v_iload_9_2 G dX6_friend_8 ?_
    refine v_cS1 G (C_X6_isRoom) (by decide) md_X6_isRoom st_X6_isRoom ml_X6_197 (Nat.le_of_ble_eq_true rfl) dX6_friend_9 ?_
    refine v_ifB_eq (tgt := 25) G dX6_friend_12 rfl (fun h_12 => ?_) (fun h_12 => ?_)
    · refine v_iconst (v := (-1)) G dX6_friend_25 (by decide) ?_
      exact v_iret G hQ dX6_friend_26 (vT.of (by simp only [mFriendR, bI, h_5, cp0, h_12, if_true, if_false, Bool.false_eq_true, reduceIte] <;> try rfl) (scr_refl σ))
    · obtain ⟨r0, hr0, rfl⟩ := inZ_ex h_12 (by omega)
      have cr0 : (nI r0).toNatClampNeg = r0 := nI_clamp (by omega)
      refine v_iload_9_3 G dX6_friend_15 ?_
      refine v_i2l G dX6_friend_16 ?_
      refine v_lconst (v := lN 0) G dX6_friend_17 (by decide) ?_
      refine v_lconst (v := lN 1) G dX6_friend_18 (by decide) ?_
      refine v_cS3 G (C_inK 2 (by decide)) (by decide) md_X6_in st_X6_in ml_X6_49 (Nat.le_of_ble_eq_true rfl) dX6_friend_19 ?_
      refine v_ifB_ne (tgt := 27) G dX6_friend_22 rfl (fun h_22 => ?_) (fun h_22 => ?_)
      · refine v_bipush (v := nI 100) G dX6_friend_27 (by decide) ?_
        refine v_istore_9_4 G dX6_friend_29 rfl ?_
        refine v_bipush (v := (-4)) G dX6_friend_31 (by decide) ?_
        refine v_istore_9_5 G dX6_friend_33 rfl ?_
        refine v_iconst (v := nI 0) G dX6_friend_35 (by decide) ?_
        refine v_istore_9_6 G dX6_friend_36 rfl ?_
        refine v_forT (σ := σ) (pc := 38) (n) (fun q => [some (.ref 75), some (.int (nI p0)), some (.int (nI r0)), some (.int k), some (.int (frQ σ n m p0 r0 q).1), some (.int (frQ σ n m p0 r0 q).2), some (.int (nI q)), none, none]) (fun q hq ihq s f hs => ?_) (fun s f hs => ?_) _ _ (scr_refl σ)
        · show V x 38 [some (.ref 75), some (.int (nI p0)), some (.int (nI r0)), some (.int k), some (.int (frQ σ n m p0 r0 q).1), some (.int (frQ σ n m p0 r0 q).2), some (.int (nI q)), none, none] [] (vrow s 81 f)
          have ihq : ∀ s f, scr s σ → V x 38 [some (.ref 75), some (.int (nI p0)), some (.int (nI r0)), some (.int k), some (.int (frQ σ n m p0 r0 (q + 1)).1), some (.int (frQ σ n m p0 r0 (q + 1)).2), some (.int (nI (q + 1))), none, none] [] (vrow s 81 f) := ihq
          refine v_iload_9_6 G dX6_friend_38 ?_
          refine v_aload_9_0 G dX6_friend_40 ?_
          refine m_getI G (by decide) vc_6 lk_X6_144 fs_X6_1 dX6_friend_41 ?_
          refine v_icmp_ge (tgt := 149) G dX6_friend_44 rfl (fun h_44 => absurd h_44 (by rw [(hns s hs)]; exact nI_ge hq (by omega))) (fun h_44 => ?_)
          refine v_iconst (v := nI 0) G dX6_friend_47 (by decide) ?_
          refine v_istore_9_7 G dX6_friend_48 rfl ?_
          refine v_forT (σ := σ) (pc := 50) (m) (fun w => [some (.ref 75), some (.int (nI p0)), some (.int (nI r0)), some (.int k), some (.int (frG σ n m p0 r0 q (frQ σ n m p0 r0 q) w).1), some (.int (frG σ n m p0 r0 q (frQ σ n m p0 r0 q) w).2), some (.int (nI q)), some (.int (nI w)), none]) (fun w hw ihw s f hs => ?_) (fun s f hs => ?_) _ _ hs
          · show V x 50 [some (.ref 75), some (.int (nI p0)), some (.int (nI r0)), some (.int k), some (.int (frG σ n m p0 r0 q (frQ σ n m p0 r0 q) w).1), some (.int (frG σ n m p0 r0 q (frQ σ n m p0 r0 q) w).2), some (.int (nI q)), some (.int (nI w)), none] [] (vrow s 81 f)
            have ihw : ∀ s f, scr s σ → V x 50 [some (.ref 75), some (.int (nI p0)), some (.int (nI r0)), some (.int k), some (.int (frG σ n m p0 r0 q (frQ σ n m p0 r0 q) (w + 1)).1), some (.int (frG σ n m p0 r0 q (frQ σ n m p0 r0 q) (w + 1)).2), some (.int (nI q)), some (.int (nI (w + 1))), none] [] (vrow s 81 f) := ihw
            refine v_iload_9_7 G dX6_friend_50 ?_
            refine v_aload_9_0 G dX6_friend_52 ?_
            refine v_getR G vc_6 lk_X6_7 (fs_X6_0) dX6_friend_53 ?_
            refine v_bipush (v := nI 25) G dX6_friend_56 (by decide) ?_
            refine m_ialdN G (by decide) (as_X6_0) (by first | assumption | omega | exact oneB_in (by assumption) | exact wallB_in (by assumption) | exact oneB_m1 (by assumption) | decide) (by decide) dX6_friend_58 ?_
            refine v_icmp_ge (tgt := 143) G dX6_friend_59 rfl (fun h_59 => absurd h_59 (by rw [(hms s hs)]; exact nI_ge hw (by omega))) (fun h_59 => ?_)
            refine v_iload_9_6 G dX6_friend_62 ?_
            refine v_iload_9_1 G dX6_friend_64 ?_
            refine v_icmp_ne (tgt := 73) G dX6_friend_65 rfl (fun h_65 => ?_) (fun h_65 => ?_)
            · refine v_aload_9_0 G dX6_friend_73 ?_
              refine v_iload_9_6 G dX6_friend_74 ?_
              refine v_iload_9_7 G dX6_friend_76 ?_
              refine v_iload_9_1 G dX6_friend_78 ?_
              refine v_iload_9_2 G dX6_friend_79 ?_
              refine v_cT4 G (C_X6_stepsBy hs hp (by omega) (by omega) hr0) (by decide) md_X6_stepsBy in_X6_stepsBy (rv_X6 rfl) ml_X6_236 (Nat.le_of_ble_eq_true rfl) dX6_friend_80 (fun s f hs => ?_)
              refine v_istore_9_8 G dX6_friend_83 rfl ?_
              refine v_iload_9_8 G dX6_friend_85 ?_
              refine v_bipush (v := (-4)) G dX6_friend_87 (by decide) ?_
              refine v_icmp_eq (tgt := 110) G dX6_friend_89 rfl (fun h_89 => ?_) (fun h_89 => ?_)
              · refine v_iload_9_5 G dX6_friend_110 ?_
                refine v_istore_9_5 G dX6_friend_112 rfl ?_
                refine v_iload_9_8 G dX6_friend_114 ?_
                refine v_bipush (v := (-4)) G dX6_friend_116 (by decide) ?_
                refine v_icmp_eq (tgt := 133) G dX6_friend_118 rfl (fun h_118 => ?_) (fun h_118 => ?_)
                · refine v_iload_9_4 G dX6_friend_133 ?_
                  refine v_istore_9_4 G dX6_friend_135 rfl ?_
                  refine v_iincN_9_7 G dX6_friend_137 rfl ?_
                  refine v_goto (tgt := 50) G dX6_friend_140 rfl ?_
                  first
                    | contradiction
                    | (rw [frG, if_pos (nI_eqN (by omega) (by omega) h_65)] at ihw; exact V.drop (by simp only [vsubP, and_self]) (ihw _ _ (by assumption)))
                    | (rw [frG, if_neg (nI_neN h_65)] at ihw; simp only [h_59, h_89, h_118, if_true, if_false, reduceIte] at ihw; exact V.drop (by simp only [vsubP, and_self]) (ihw _ _ (by assumption)))
                · refine v_iload_9_8 G dX6_friend_121 ?_
                  refine v_iload_9_4 G dX6_friend_123 ?_
                  refine v_icmp_ge (tgt := 133) G dX6_friend_125 rfl (fun h_125 => ?_) (fun h_125 => ?_)
                  · refine v_iload_9_4 G dX6_friend_133 ?_
                    refine v_istore_9_4 G dX6_friend_135 rfl ?_
                    refine v_iincN_9_7 G dX6_friend_137 rfl ?_
                    refine v_goto (tgt := 50) G dX6_friend_140 rfl ?_
                    first
                      | contradiction
                      | (rw [frG, if_pos (nI_eqN (by omega) (by omega) h_65)] at ihw; exact V.drop (by simp only [vsubP, and_self]) (ihw _ _ (by assumption)))
                      | (rw [frG, if_neg (nI_neN h_65)] at ihw; simp only [h_59, h_89, h_118, h_125, if_true, if_false, reduceIte] at ihw; exact V.drop (by simp only [vsubP, and_self]) (ihw _ _ (by assumption)))
                  · refine v_iload_9_8 G dX6_friend_128 ?_
                    refine v_goto (tgt := 135) G dX6_friend_130 rfl ?_
                    refine v_istore_9_4 G dX6_friend_135 rfl ?_
                    refine v_iincN_9_7 G dX6_friend_137 rfl ?_
                    refine v_goto (tgt := 50) G dX6_friend_140 rfl ?_
                    first
                      | contradiction
                      | (rw [frG, if_pos (nI_eqN (by omega) (by omega) h_65)] at ihw; exact V.drop (by simp only [vsubP, and_self]) (ihw _ _ (by assumption)))
                      | (rw [frG, if_neg (nI_neN h_65)] at ihw; simp only [h_59, h_89, h_118, h_125, if_true, if_false, reduceIte] at ihw; exact V.drop (by simp only [vsubP, and_self]) (ihw _ _ (by assumption)))
              · refine v_iload_9_8 G dX6_friend_92 ?_
                refine v_iload_9_4 G dX6_friend_94 ?_
                refine v_icmp_ge (tgt := 110) G dX6_friend_96 rfl (fun h_96 => ?_) (fun h_96 => ?_)
                · refine v_iload_9_5 G dX6_friend_110 ?_
                  refine v_istore_9_5 G dX6_friend_112 rfl ?_
                  refine v_iload_9_8 G dX6_friend_114 ?_
                  refine v_bipush (v := (-4)) G dX6_friend_116 (by decide) ?_
                  refine v_icmp_eq (tgt := 133) G dX6_friend_118 rfl (fun h_118 => ?_) (fun h_118 => ?_)
                  · refine v_iload_9_4 G dX6_friend_133 ?_
                    refine v_istore_9_4 G dX6_friend_135 rfl ?_
                    refine v_iincN_9_7 G dX6_friend_137 rfl ?_
                    refine v_goto (tgt := 50) G dX6_friend_140 rfl ?_
                    first
                      | contradiction
                      | (rw [frG, if_pos (nI_eqN (by omega) (by omega) h_65)] at ihw; exact V.drop (by simp only [vsubP, and_self]) (ihw _ _ (by assumption)))
                      | (rw [frG, if_neg (nI_neN h_65)] at ihw; simp only [h_59, h_89, h_96, h_118, if_true, if_false, reduceIte] at ihw; exact V.drop (by simp only [vsubP, and_self]) (ihw _ _ (by assumption)))
                  · refine v_iload_9_8 G dX6_friend_121 ?_
                    refine v_iload_9_4 G dX6_friend_123 ?_
                    refine v_icmp_ge (tgt := 133) G dX6_friend_125 rfl (fun h_125 => ?_) (fun h_125 => ?_)
                    · refine v_iload_9_4 G dX6_friend_133 ?_
                      refine v_istore_9_4 G dX6_friend_135 rfl ?_
                      refine v_iincN_9_7 G dX6_friend_137 rfl ?_
                      refine v_goto (tgt := 50) G dX6_friend_140 rfl ?_
                      first
                        | contradiction
                        | (rw [frG, if_pos (nI_eqN (by omega) (by omega) h_65)] at ihw; exact V.drop (by simp only [vsubP, and_self]) (ihw _ _ (by assumption)))
                        | (rw [frG, if_neg (nI_neN h_65)] at ihw; simp only [h_59, h_89, h_96, h_118, h_125, if_true, if_false, reduceIte] at ihw; exact V.drop (by simp only [vsubP, and_self]) (ihw _ _ (by assumption)))
                    · refine v_iload_9_8 G dX6_friend_128 ?_
                      refine v_goto (tgt := 135) G dX6_friend_130 rfl ?_
                      refine v_istore_9_4 G dX6_friend_135 rfl ?_
                      refine v_iincN_9_7 G dX6_friend_137 rfl ?_
                      refine v_goto (tgt := 50) G dX6_friend_140 rfl ?_
                      first
                        | contradiction
                        | (rw [frG, if_pos (nI_eqN (by omega) (by omega) h_65)] at ihw; exact V.drop (by simp only [vsubP, and_self]) (ihw _ _ (by assumption)))
                        | (rw [frG, if_neg (nI_neN h_65)] at ihw; simp only [h_59, h_89, h_96, h_118, h_125, if_true, if_false, reduceIte] at ihw; exact V.drop (by simp only [vsubP, and_self]) (ihw _ _ (by assumption)))
                · refine v_bipush (v := nI 10) G dX6_friend_99 (by decide) ?_
                  refine v_iload_9_6 G dX6_friend_101 ?_
                  refine v_imulN G dX6_friend_103 ?_
                  refine v_iload_9_7 G dX6_friend_104 ?_
                  refine v_iaddN G dX6_friend_106 ?_
                  refine v_goto (tgt := 112) G dX6_friend_107 rfl ?_
                  refine v_istore_9_5 G dX6_friend_112 rfl ?_
                  refine v_iload_9_8 G dX6_friend_114 ?_
                  refine v_bipush (v := (-4)) G dX6_friend_116 (by decide) ?_
                  refine v_icmp_eq (tgt := 133) G dX6_friend_118 rfl (fun h_118 => ?_) (fun h_118 => ?_)
                  · refine v_iload_9_4 G dX6_friend_133 ?_
                    refine v_istore_9_4 G dX6_friend_135 rfl ?_
                    refine v_iincN_9_7 G dX6_friend_137 rfl ?_
                    refine v_goto (tgt := 50) G dX6_friend_140 rfl ?_
                    first
                      | contradiction
                      | (rw [frG, if_pos (nI_eqN (by omega) (by omega) h_65)] at ihw; exact V.drop (by simp only [vsubP, and_self]) (ihw _ _ (by assumption)))
                      | (rw [frG, if_neg (nI_neN h_65)] at ihw; simp only [h_59, h_89, h_96, h_118, if_true, if_false, reduceIte] at ihw; exact V.drop (by simp only [vsubP, and_self]) (ihw _ _ (by assumption)))
                  · refine v_iload_9_8 G dX6_friend_121 ?_
                    refine v_iload_9_4 G dX6_friend_123 ?_
                    refine v_icmp_ge (tgt := 133) G dX6_friend_125 rfl (fun h_125 => ?_) (fun h_125 => ?_)
                    · refine v_iload_9_4 G dX6_friend_133 ?_
                      refine v_istore_9_4 G dX6_friend_135 rfl ?_
                      refine v_iincN_9_7 G dX6_friend_137 rfl ?_
                      refine v_goto (tgt := 50) G dX6_friend_140 rfl ?_
                      first
                        | contradiction
                        | (rw [frG, if_pos (nI_eqN (by omega) (by omega) h_65)] at ihw; exact V.drop (by simp only [vsubP, and_self]) (ihw _ _ (by assumption)))
                        | (rw [frG, if_neg (nI_neN h_65)] at ihw; simp only [h_59, h_89, h_96, h_118, h_125, if_true, if_false, reduceIte] at ihw; exact V.drop (by simp only [vsubP, and_self]) (ihw _ _ (by assumption)))
                    · refine v_iload_9_8 G dX6_friend_128 ?_
                      refine v_goto (tgt := 135) G dX6_friend_130 rfl ?_
                      refine v_istore_9_4 G dX6_friend_135 rfl ?_
                      refine v_iincN_9_7 G dX6_friend_137 rfl ?_
                      refine v_goto (tgt := 50) G dX6_friend_140 rfl ?_
                      first
                        | contradiction
                        | (rw [frG, if_pos (nI_eqN (by omega) (by omega) h_65)] at ihw; exact V.drop (by simp only [vsubP, and_self]) (ihw _ _ (by assumption)))
                        | (rw [frG, if_neg (nI_neN h_65)] at ihw; simp only [h_59, h_89, h_96, h_118, h_125, if_true, if_false, reduceIte] at ihw; exact V.drop (by simp only [vsubP, and_self]) (ihw _ _ (by assumption)))
            · refine v_bipush (v := (-4)) G dX6_friend_68 (by decide) ?_
              refine v_goto (tgt := 83) G dX6_friend_70 rfl ?_
              refine v_istore_9_8 G dX6_friend_83 rfl ?_
              refine v_iload_9_8 G dX6_friend_85 ?_
              refine v_bipush (v := (-4)) G dX6_friend_87 (by decide) ?_
              refine v_icmp_eq (tgt := 110) G dX6_friend_89 rfl (fun h_89 => ?_) (fun h_89 => absurd rfl h_89)
              refine v_iload_9_5 G dX6_friend_110 ?_
              refine v_istore_9_5 G dX6_friend_112 rfl ?_
              refine v_iload_9_8 G dX6_friend_114 ?_
              refine v_bipush (v := (-4)) G dX6_friend_116 (by decide) ?_
              refine v_icmp_eq (tgt := 133) G dX6_friend_118 rfl (fun h_118 => ?_) (fun h_118 => absurd rfl h_118)
              refine v_iload_9_4 G dX6_friend_133 ?_
              refine v_istore_9_4 G dX6_friend_135 rfl ?_
              refine v_iincN_9_7 G dX6_friend_137 rfl ?_
              refine v_goto (tgt := 50) G dX6_friend_140 rfl ?_
              first
                | contradiction
                | (rw [frG, if_pos (nI_eqN (by omega) (by omega) h_65)] at ihw; exact V.drop (by simp only [vsubP, and_self]) (ihw _ _ (by assumption)))
                | (rw [frG, if_neg (nI_neN h_65)] at ihw; simp only [h_59, h_89, h_118, if_true, if_false, reduceIte] at ihw; exact V.drop (by simp only [vsubP, and_self]) (ihw _ _ (by assumption)))
          · show V x 50 [some (.ref 75), some (.int (nI p0)), some (.int (nI r0)), some (.int k), some (.int (frG σ n m p0 r0 q (frQ σ n m p0 r0 q) m).1), some (.int (frG σ n m p0 r0 q (frQ σ n m p0 r0 q) m).2), some (.int (nI q)), some (.int (nI m)), none] [] (vrow s 81 f)
            refine v_iload_9_7 G dX6_friend_50 ?_
            refine v_aload_9_0 G dX6_friend_52 ?_
            refine v_getR G vc_6 lk_X6_7 (fs_X6_0) dX6_friend_53 ?_
            refine v_bipush (v := nI 25) G dX6_friend_56 (by decide) ?_
            refine m_ialdN G (by decide) (as_X6_0) (by first | assumption | omega | exact oneB_in (by assumption) | exact wallB_in (by assumption) | exact oneB_m1 (by assumption) | decide) (by decide) dX6_friend_58 ?_
            refine v_icmp_ge (tgt := 143) G dX6_friend_59 rfl (fun h_59 => ?_) (fun h_59 => absurd (by rw [(hms s hs)]; exact nI_le (Nat.le_refl _) (by omega)) h_59)
            refine v_iincN_9_6 G dX6_friend_143 rfl ?_
            refine v_goto (tgt := 38) G dX6_friend_146 rfl ?_
            refine V.drop ?_ (ihq _ _ hs)
            exact ⟨rfl, rfl, rfl, rfl, rfl, rfl, rfl, trivial⟩
        · show V x 38 [some (.ref 75), some (.int (nI p0)), some (.int (nI r0)), some (.int k), some (.int (frQ σ n m p0 r0 n).1), some (.int (frQ σ n m p0 r0 n).2), some (.int (nI n)), none, none] [] (vrow s 81 f)
          refine v_iload_9_6 G dX6_friend_38 ?_
          refine v_aload_9_0 G dX6_friend_40 ?_
          refine m_getI G (by decide) vc_6 lk_X6_144 fs_X6_1 dX6_friend_41 ?_
          refine v_icmp_ge (tgt := 149) G dX6_friend_44 rfl (fun h_44 => ?_) (fun h_44 => absurd (by rw [(hns s hs)]; exact nI_le (Nat.le_refl _) (by omega)) h_44)
          refine v_iload_9_5 G dX6_friend_149 ?_
          refine v_bipush (v := (-4)) G dX6_friend_151 (by decide) ?_
          refine v_icmp_eq (tgt := 160) G dX6_friend_153 rfl (fun h_153 => ?_) (fun h_153 => ?_)
          · refine v_iload_9_5 G dX6_friend_160 ?_
            refine v_goto (tgt := 167) G dX6_friend_162 rfl ?_
            exact v_iret G hQ dX6_friend_167 (vT.of (by simp only [mFriendR, lstR, h_5, cp0, h_12, cr0, h_22, bI, h_44, h_153, if_true, if_false, Bool.false_eq_true, reduceIte] <;> try rfl) hs)
          · refine v_iload_9_3 G dX6_friend_156 ?_
            refine v_if_ne (tgt := 165) G dX6_friend_157 rfl (fun h_157 => ?_) (fun h_157 => ?_)
            · refine v_iload_9_4 G dX6_friend_165 ?_
              exact v_iret G hQ dX6_friend_167 (vT.of (by simp only [mFriendR, lstR, h_5, cp0, h_12, cr0, h_22, bI, h_44, h_153, h_157, if_true, if_false, Bool.false_eq_true, reduceIte] <;> try rfl) hs)
            · refine v_iload_9_5 G dX6_friend_160 ?_
              refine v_goto (tgt := 167) G dX6_friend_162 rfl ?_
              exact v_iret G hQ dX6_friend_167 (vT.of (by simp only [mFriendR, lstR, h_5, cp0, h_12, cr0, h_22, bI, h_44, h_153, h_157, if_true, if_false, Bool.false_eq_true, reduceIte] <;> try rfl) hs)
      · refine v_iconst (v := (-1)) G dX6_friend_25 (by decide) ?_
        exact v_iret G hQ dX6_friend_26 (vT.of (by simp only [mFriendR, bI, h_5, cp0, h_12, cr0, h_22, if_true, if_false, Bool.false_eq_true, reduceIte] <;> try rfl) (scr_refl σ))
def mgnT (σ : vW) (n m p : Nat) (w : Nat) : Int32 := mGain (hgT σ n p (nI w)) n (σ 75 20) 260 m p
def gnG (σ : vW) (n m p : Nat) : Nat → Int32 × Int32
  | 0 => (mGain (σ 76) n (σ 75 20) 0 m p, -4)
  | w + 1 => if mCan ((cpW σ 0 260) 76) n 260 p (nI w) = true then (if mgnT σ n m p w ≤ (gnG σ n m p w).1 then gnG σ n m p w else (mgnT σ n m p w, nI w)) else gnG σ n m p w
def mGainR (σ : vW) (n m : Nat) (a k : Int32) : Int32 := if inZ a n = true then (if inZ k 2 = true then (if mFree (σ 76) 0 a.toNatClampNeg = true then lstR (gnG σ n m a.toNatClampNeg m) k else -2) else -1) else -1
set_option maxHeartbeats 4000000 in
theorem C_X6_gain {σ : vW} {f : Nat → Int32} {n m : Nat} {a k : Int32} (hp : pOK σ n m 0) : Ctr mX6_gain 5 [.ref 75, .int a, .int k] (vrow σ 81 f) (vT (some (.int (mGainR σ n m a k))) σ) := by
  have hn := hp.1.1
  have hn5 := hp.1.2.1
  have hm : σ 76 25 = nI m := hp.2.1.1
  have hm9 := hp.2.1.2.1
  have hms : ∀ s, scr s σ → s 76 25 = nI m := fun s h => (h.2.2 25 (by omega)).trans hm
  have hns : ∀ s, scr s σ → (cpW s 0 260) 75 1 = nI n := fun s h => by rw [cpW_75]; exact (h.2.1 1 (by decide) (by decide)).trans hn
  have hpt : ∀ s, scr s σ → pOK (cpW s 0 260) n m 260 := fun s h => pOK_to (pOK_scr h hp (by omega)) (by omega)
  refine Ctr.intro (by decide) (fun α => Nat.le_of_ble_eq_true rfl) (fun x G hQ => ?_)
  have G : vG x RX6 cX6_gain 7 (some .int) 5 := G
  show V x 0 [some (.ref 75), some (.int a), some (.int k), none, none, none, none] [] (vrow σ 81 f)
  refine v_aload_7_0 G dX6_gain_0 ?_
  refine v_iload_7_1 G dX6_gain_1 ?_
  refine v_cV1 G (C_X6_isOne (by first | assumption | omega | exact oneB_in (by assumption) | exact wallB_in (by assumption) | exact oneB_m1 (by assumption) | decide) (by first | assumption | omega | exact oneB_in (by assumption) | exact wallB_in (by assumption) | exact oneB_m1 (by assumption) | decide)) (by decide) md_X6_isOne in_X6_isOne (rv_X6 rfl) ml_X6_185 (Nat.le_of_ble_eq_true rfl) dX6_gain_2 ?_
  refine v_ifB_eq (tgt := 18) G dX6_gain_5 rfl (fun h_5 => ?_) (fun h_5 => ?_)
  · refine v_iconst (v := (-1)) G dX6_gain_18 (by decide) ?_
    exact v_iret G hQ dX6_gain_19 (vT.of (by simp only [mGainR, bI, h_5, if_true, if_false, Bool.false_eq_true, reduceIte] <;> try rfl) (scr_refl σ))
  · obtain ⟨p0, hp0, rfl⟩ := inZ_ex h_5 (by omega)
    have cp0 : (nI p0).toNatClampNeg = p0 := nI_clamp (by omega)
    refine v_iload_7_2 G dX6_gain_8 ?_
    refine v_i2l G dX6_gain_9 ?_
    refine v_lconst (v := lN 0) G dX6_gain_10 (by decide) ?_
    refine v_lconst (v := lN 1) G dX6_gain_11 (by decide) ?_
    refine v_cS3 G (C_inK 2 (by decide)) (by decide) md_X6_in st_X6_in ml_X6_49 (Nat.le_of_ble_eq_true rfl) dX6_gain_12 ?_
    refine v_ifB_ne (tgt := 20) G dX6_gain_15 rfl (fun h_15 => ?_) (fun h_15 => ?_)
    · refine v_aload_7_0 G dX6_gain_20 ?_
      refine v_iconst (v := nI 0) G dX6_gain_21 (by decide) ?_
      refine v_iload_7_1 G dX6_gain_22 ?_
      refine v_cV2 G (C_X6_isFreeOn (g := 0) (by omega) (by omega)) (by decide) md_X6_isFreeOn in_X6_isFreeOn (rv_X6 rfl) ml_X6_175 (Nat.le_of_ble_eq_true rfl) dX6_gain_23 ?_
      refine v_ifB_ne (tgt := 32) G dX6_gain_26 rfl (fun h_26 => ?_) (fun h_26 => ?_)
      · refine v_aload_7_0 G dX6_gain_32 ?_
        refine v_iconst (v := nI 0) G dX6_gain_33 (by decide) ?_
        refine v_iload_7_1 G dX6_gain_34 ?_
        refine v_cE2 G (C_X6_gainOn (g := 0) hp (by omega)) (by decide) md_X6_gainOn in_X6_gainOn (rv_X6 rfl) ml_X6_189 (Nat.le_of_ble_eq_true rfl) dX6_gain_35 (fun f => ?_)
        refine v_istore_7_3 G dX6_gain_38 rfl ?_
        refine v_bipush (v := (-4)) G dX6_gain_39 (by decide) ?_
        refine v_istore_7_4 G dX6_gain_41 rfl ?_
        refine v_iconst (v := nI 0) G dX6_gain_43 (by decide) ?_
        refine v_istore_7_5 G dX6_gain_44 rfl ?_
        refine v_forT (σ := σ) (pc := 46) (m) (fun w => [some (.ref 75), some (.int (nI p0)), some (.int k), some (.int (gnG σ n m p0 w).1), some (.int (gnG σ n m p0 w).2), some (.int (nI w)), none]) (fun w hw ih s f hs => ?_) (fun s f hs => ?_) _ _ (scr_refl σ)
        · show V x 46 [some (.ref 75), some (.int (nI p0)), some (.int k), some (.int (gnG σ n m p0 w).1), some (.int (gnG σ n m p0 w).2), some (.int (nI w)), none] [] (vrow s 81 f)
          have ih : ∀ s f, scr s σ → V x 46 [some (.ref 75), some (.int (nI p0)), some (.int k), some (.int (gnG σ n m p0 (w + 1)).1), some (.int (gnG σ n m p0 (w + 1)).2), some (.int (nI (w + 1))), none] [] (vrow s 81 f) := ih
          refine v_iload_7_5 G dX6_gain_46 ?_
          refine v_aload_7_0 G dX6_gain_48 ?_
          refine v_getR G vc_6 lk_X6_7 (fs_X6_0) dX6_gain_49 ?_
          refine v_bipush (v := nI 25) G dX6_gain_52 (by decide) ?_
          refine m_ialdN G (by decide) (as_X6_0) (by first | assumption | omega | exact oneB_in (by assumption) | exact wallB_in (by assumption) | exact oneB_m1 (by assumption) | decide) (by decide) dX6_gain_54 ?_
          refine v_icmp_ge (tgt := 123) G dX6_gain_55 rfl (fun h_55 => absurd h_55 (by rw [(hms s hs)]; exact nI_ge hw (by omega))) (fun h_55 => ?_)
          refine v_aload_7_0 G dX6_gain_58 ?_
          refine v_iconst (v := nI 0) G dX6_gain_59 (by decide) ?_
          refine v_sipush (v := nI 260) G dX6_gain_60 (by decide) ?_
          refine v_cV2v G (C_X6_copies (a := 0) (b := 260) (by omega) (by omega) (by omega)) (by decide) md_X6_copies in_X6_copies (rv_X6 rfl) ml_X6_220 (Nat.le_of_ble_eq_true rfl) dX6_gain_63 ?_
          refine v_aload_7_0 G dX6_gain_66 ?_
          refine v_sipush (v := nI 260) G dX6_gain_67 (by decide) ?_
          refine v_iload_7_1 G dX6_gain_70 ?_
          refine v_iload_7_5 G dX6_gain_71 ?_
          refine v_cV3 G (C_X6_hangsOn (g := 260) (hns s hs) hn5 (by omega) (by omega)) (by decide) md_X6_hangsOn in_X6_hangsOn (rv_X6 rfl) ml_X6_208 (Nat.le_of_ble_eq_true rfl) dX6_gain_73 ?_
          rw [tri_all hs]
          refine v_ifB_eq (tgt := 117) G dX6_gain_76 rfl (fun h_76 => ?_) (fun h_76 => ?_)
          · refine v_iincN_7_5 G dX6_gain_117 rfl ?_
            refine v_goto (tgt := 46) G dX6_gain_120 rfl ?_
            first
              | contradiction
              | (rw [gnG, if_pos h_76, mgnT] at ih; simp only [h_55, h_76, if_true, if_false, reduceIte] at ih; exact V.drop (by simp only [vsubP, and_self]) (ih _ _ (scr_hg (scr_cp hs) (by omega))))
              | (rw [gnG, if_neg (by rw [h_76]; exact Bool.false_ne_true)] at ih; exact V.drop (by simp only [vsubP, and_self]) (ih _ _ (scr_hg (scr_cp hs) (by omega))))
          · refine v_aload_7_0 G dX6_gain_79 ?_
            refine v_sipush (v := nI 260) G dX6_gain_80 (by decide) ?_
            refine v_iload_7_1 G dX6_gain_83 ?_
            refine v_cE2 G (C_X6_gainOn (g := 260) (pOK_hg (hpt s hs) (by omega) (Or.inl rfl)) (by omega)) (by decide) md_X6_gainOn in_X6_gainOn (rv_X6 rfl) ml_X6_189 (Nat.le_of_ble_eq_true rfl) dX6_gain_84 (fun f => ?_)
            rw [hgT_scr hs, hgT_J hs]
            refine v_istore_7_6 G dX6_gain_87 rfl ?_
            refine v_iload_7_6 G dX6_gain_89 ?_
            refine v_iload_7_3 G dX6_gain_91 ?_
            refine v_icmp_le (tgt := 100) G dX6_gain_92 rfl (fun h_92 => ?_) (fun h_92 => ?_)
            · refine v_iload_7_4 G dX6_gain_100 ?_
              refine v_istore_7_4 G dX6_gain_102 rfl ?_
              refine v_iload_7_6 G dX6_gain_104 ?_
              refine v_iload_7_3 G dX6_gain_106 ?_
              refine v_icmp_le (tgt := 115) G dX6_gain_107 rfl (fun h_107 => ?_) (fun h_107 => ?_)
              · refine v_iload_7_3 G dX6_gain_115 ?_
                refine v_istore_7_3 G dX6_gain_116 rfl ?_
                refine v_iincN_7_5 G dX6_gain_117 rfl ?_
                refine v_goto (tgt := 46) G dX6_gain_120 rfl ?_
                first
                  | contradiction
                  | (rw [gnG, if_pos h_76, mgnT] at ih; simp only [h_55, h_76, h_92, h_107, if_true, if_false, reduceIte] at ih; exact V.drop (by simp only [vsubP, and_self]) (ih _ _ (scr_hg (scr_cp hs) (by omega))))
                  | (rw [gnG, if_neg (by rw [h_76]; exact Bool.false_ne_true)] at ih; exact V.drop (by simp only [vsubP, and_self]) (ih _ _ (scr_hg (scr_cp hs) (by omega))))
              · refine v_iload_7_6 G dX6_gain_110 ?_
                refine v_goto (tgt := 116) G dX6_gain_112 rfl ?_
                refine v_istore_7_3 G dX6_gain_116 rfl ?_
                refine v_iincN_7_5 G dX6_gain_117 rfl ?_
                refine v_goto (tgt := 46) G dX6_gain_120 rfl ?_
                first
                  | contradiction
                  | (rw [gnG, if_pos h_76, mgnT] at ih; simp only [h_55, h_76, h_92, h_107, if_true, if_false, reduceIte] at ih; exact V.drop (by simp only [vsubP, and_self]) (ih _ _ (scr_hg (scr_cp hs) (by omega))))
                  | (rw [gnG, if_neg (by rw [h_76]; exact Bool.false_ne_true)] at ih; exact V.drop (by simp only [vsubP, and_self]) (ih _ _ (scr_hg (scr_cp hs) (by omega))))
            · refine v_iload_7_5 G dX6_gain_95 ?_
              refine v_goto (tgt := 102) G dX6_gain_97 rfl ?_
              refine v_istore_7_4 G dX6_gain_102 rfl ?_
              refine v_iload_7_6 G dX6_gain_104 ?_
              refine v_iload_7_3 G dX6_gain_106 ?_
              refine v_icmp_le (tgt := 115) G dX6_gain_107 rfl (fun h_107 => ?_) (fun h_107 => ?_)
              · refine v_iload_7_3 G dX6_gain_115 ?_
                refine v_istore_7_3 G dX6_gain_116 rfl ?_
                refine v_iincN_7_5 G dX6_gain_117 rfl ?_
                refine v_goto (tgt := 46) G dX6_gain_120 rfl ?_
                first
                  | contradiction
                  | (rw [gnG, if_pos h_76, mgnT] at ih; simp only [h_55, h_76, h_92, h_107, if_true, if_false, reduceIte] at ih; exact V.drop (by simp only [vsubP, and_self]) (ih _ _ (scr_hg (scr_cp hs) (by omega))))
                  | (rw [gnG, if_neg (by rw [h_76]; exact Bool.false_ne_true)] at ih; exact V.drop (by simp only [vsubP, and_self]) (ih _ _ (scr_hg (scr_cp hs) (by omega))))
              · refine v_iload_7_6 G dX6_gain_110 ?_
                refine v_goto (tgt := 116) G dX6_gain_112 rfl ?_
                refine v_istore_7_3 G dX6_gain_116 rfl ?_
                refine v_iincN_7_5 G dX6_gain_117 rfl ?_
                refine v_goto (tgt := 46) G dX6_gain_120 rfl ?_
                first
                  | contradiction
                  | (rw [gnG, if_pos h_76, mgnT] at ih; simp only [h_55, h_76, h_92, h_107, if_true, if_false, reduceIte] at ih; exact V.drop (by simp only [vsubP, and_self]) (ih _ _ (scr_hg (scr_cp hs) (by omega))))
                  | (rw [gnG, if_neg (by rw [h_76]; exact Bool.false_ne_true)] at ih; exact V.drop (by simp only [vsubP, and_self]) (ih _ _ (scr_hg (scr_cp hs) (by omega))))
        · show V x 46 [some (.ref 75), some (.int (nI p0)), some (.int k), some (.int (gnG σ n m p0 m).1), some (.int (gnG σ n m p0 m).2), some (.int (nI m)), none] [] (vrow s 81 f)
          refine v_iload_7_5 G dX6_gain_46 ?_
          refine v_aload_7_0 G dX6_gain_48 ?_
          refine v_getR G vc_6 lk_X6_7 (fs_X6_0) dX6_gain_49 ?_
          refine v_bipush (v := nI 25) G dX6_gain_52 (by decide) ?_
          refine m_ialdN G (by decide) (as_X6_0) (by first | assumption | omega | exact oneB_in (by assumption) | exact wallB_in (by assumption) | exact oneB_m1 (by assumption) | decide) (by decide) dX6_gain_54 ?_
          refine v_icmp_ge (tgt := 123) G dX6_gain_55 rfl (fun h_55 => ?_) (fun h_55 => absurd (by rw [(hms s hs)]; exact nI_le (Nat.le_refl _) (by omega)) h_55)
          refine v_iload_7_4 G dX6_gain_123 ?_
          refine v_bipush (v := (-4)) G dX6_gain_125 (by decide) ?_
          refine v_icmp_eq (tgt := 134) G dX6_gain_127 rfl (fun h_127 => ?_) (fun h_127 => ?_)
          · refine v_iload_7_4 G dX6_gain_134 ?_
            refine v_goto (tgt := 140) G dX6_gain_136 rfl ?_
            exact v_iret G hQ dX6_gain_140 (vT.of (by simp only [mGainR, lstR, h_5, cp0, h_15, h_26, bI, h_55, h_127, if_true, if_false, Bool.false_eq_true, reduceIte] <;> try rfl) hs)
          · refine v_iload_7_2 G dX6_gain_130 ?_
            refine v_if_ne (tgt := 139) G dX6_gain_131 rfl (fun h_131 => ?_) (fun h_131 => ?_)
            · refine v_iload_7_3 G dX6_gain_139 ?_
              exact v_iret G hQ dX6_gain_140 (vT.of (by simp only [mGainR, lstR, h_5, cp0, h_15, h_26, bI, h_55, h_127, h_131, if_true, if_false, Bool.false_eq_true, reduceIte] <;> try rfl) hs)
            · refine v_iload_7_4 G dX6_gain_134 ?_
              refine v_goto (tgt := 140) G dX6_gain_136 rfl ?_
              exact v_iret G hQ dX6_gain_140 (vT.of (by simp only [mGainR, lstR, h_5, cp0, h_15, h_26, bI, h_55, h_127, h_131, if_true, if_false, Bool.false_eq_true, reduceIte] <;> try rfl) hs)
      · refine v_bipush (v := (-2)) G dX6_gain_29 (by decide) ?_
        exact v_iret G hQ dX6_gain_31 (vT.of (by simp only [mGainR, bI, h_5, cp0, h_15, h_26, if_true, if_false, Bool.false_eq_true, reduceIte] <;> try rfl) (scr_refl σ))
    · refine v_iconst (v := (-1)) G dX6_gain_18 (by decide) ?_
      exact v_iret G hQ dX6_gain_19 (vT.of (by simp only [mGainR, bI, h_5, cp0, h_15, if_true, if_false, Bool.false_eq_true, reduceIte] <;> try rfl) (scr_refl σ))
