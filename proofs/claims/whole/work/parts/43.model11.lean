/-! The model: which door it was -/
def asG (R : Nat → Int32) (n : Nat) (J : Int32) (m g : Nat) (E : Nat → Int32) : Nat → Bool
  | 0 => true
  | i + 1 => if asG R n J m g E i = true then (if mReachQ R n J g m (E (3 * i)).toNatClampNeg >>> (E (3 * i + 1) &&& 31) &&& nI 1 = E (3 * i + 2) then true else false) else false
def seOK (σ : vW) (s : Nat) : Prop := σ 75 25 = nI s ∧ s ≤ 6 ∧ ∀ i, i < s → ∃ p, p < 5 ∧ σ 82 (3 * i) = nI p
theorem seOK_scr {t σ : vW} {s : Nat} (h : scr t σ) (k : seOK σ s) : seOK t s := ⟨(h.2.1 25 (by decide) (by decide)).trans k.1, k.2.1, fun i hi => by
  obtain ⟨p, hp, e⟩ := k.2.2 i hi
  exact ⟨p, hp, by rw [h.1 82 (by decide) (by decide) (by decide) (by decide)]; exact e⟩⟩
set_option maxHeartbeats 4000000 in
theorem C_X6_isAsSeen {σ : vW} {f : Nat → Int32} {n m g s : Nat} (hp : pOK σ n m g) (hS : seOK σ s) : Ctr mX6_isAsSeen 4 [.ref 75, .int (nI g)] (vrow σ 81 f) (vFar (some (.int (bI (asG (σ 76) n (σ 75 20) m g (σ 82) s)))) σ) := by
  have hs6 := hS.2.1
  refine Ctr.intro (by decide) (fun α => Nat.le_of_ble_eq_true rfl) (fun x G hQ => ?_)
  have G : vG x RX6 cX6_isAsSeen 4 (some .boolean) 4 := G
  show V x 0 [some (.ref 75), some (.int (nI g)), none, none] [] (vrow σ 81 f)
  refine v_iconst (v := nI 1) G dX6_isAsSeen_0 (by decide) ?_
  refine v_istore_4_2 G dX6_isAsSeen_1 rfl ?_
  refine v_iconst (v := nI 0) G dX6_isAsSeen_2 (by decide) ?_
  refine v_istore_4_3 G dX6_isAsSeen_3 rfl ?_
  refine v_forF (pc := 4) (s) (fun i => ([some (.ref 75), some (.int (nI g)), some (.int (bI (asG (σ 76) n (σ 75 20) m g (σ 82) i))), some (.int (nI i))], σ)) (fun i hi ih f => ?_) (fun f => ?_) f
  · show V x 4 [some (.ref 75), some (.int (nI g)), some (.int (bI (asG (σ 76) n (σ 75 20) m g (σ 82) i))), some (.int (nI i))] [] (vrow (σ) 81 f)
    have ih : ∀ f, V x 4 [some (.ref 75), some (.int (nI g)), some (.int (bI (asG (σ 76) n (σ 75 20) m g (σ 82) (i + 1)))), some (.int (nI (i + 1)))] [] (vrow (σ) 81 f) := ih
    obtain ⟨q, hq, eq⟩ := hS.2.2 i hi
    have cq : (nI q).toNatClampNeg = q := nI_clamp (by omega)
    refine v_iload_4_3 G dX6_isAsSeen_4 ?_
    refine v_aload_4_0 G dX6_isAsSeen_5 ?_
    refine m_getI G (by decide) vc_6 lk_X6_147 fs_X6_25 dX6_isAsSeen_6 ?_
    refine v_icmp_ge (tgt := 67) G dX6_isAsSeen_9 rfl (fun h_9 => absurd h_9 (by rw [hS.1]; exact nI_ge hi (by omega))) (fun h_9 => ?_)
    refine v_iload_4_2 G dX6_isAsSeen_12 ?_
    refine v_ifB_eq (tgt := 59) G dX6_isAsSeen_13 rfl (fun h_13 => ?_) (fun h_13 => ?_)
    · refine v_iconst (v := nI 0) G dX6_isAsSeen_59 (by decide) ?_
      refine v_istore_4_2 G dX6_isAsSeen_60 rfl ?_
      refine v_iincN_4_3 G dX6_isAsSeen_61 rfl ?_
      refine v_goto (tgt := 4) G dX6_isAsSeen_64 rfl ?_
      simp only [asG, bI, h_9, h_13, eq, cq, if_true, if_false, Bool.false_eq_true, reduceIte] at ih
      exact ih _
    · refine v_aload_4_0 G dX6_isAsSeen_16 ?_
      refine v_iload_4_1 G dX6_isAsSeen_17 ?_
      refine v_aload_4_0 G dX6_isAsSeen_18 ?_
      refine v_getR G vc_6 lk_X6_28 (fs_X6_24) dX6_isAsSeen_19 ?_
      refine v_iconst (v := nI 3) G dX6_isAsSeen_22 (by decide) ?_
      refine v_iload_4_3 G dX6_isAsSeen_23 ?_
      refine v_imulN G dX6_isAsSeen_24 ?_
      refine m_ialdN G (by decide) (as_X6_24) (by first | assumption | omega | exact oneB_in (by assumption) | exact wallB_in (by assumption) | exact oneB_m1 (by assumption) | decide) (by decide) dX6_isAsSeen_25 ?_
      rw [eq]
      refine v_cX2 G (C_X6_reachesOn hp hq) (by decide) md_X6_reachesOn in_X6_reachesOn (rv_X6 rfl) ml_X6_169 (Nat.le_of_ble_eq_true rfl) dX6_isAsSeen_26 (fun f hf => ?_)
      refine v_aload_4_0 G dX6_isAsSeen_29 ?_
      refine v_getR G vc_6 lk_X6_28 (fs_X6_24) dX6_isAsSeen_30 ?_
      refine v_iconst (v := nI 3) G dX6_isAsSeen_33 (by decide) ?_
      refine v_iload_4_3 G dX6_isAsSeen_34 ?_
      refine v_imulN G dX6_isAsSeen_35 ?_
      refine v_iconst (v := nI 1) G dX6_isAsSeen_36 (by decide) ?_
      refine v_iaddN G dX6_isAsSeen_37 ?_
      refine m_ialdN G (by decide) (as_X6_24) (by first | assumption | omega | exact oneB_in (by assumption) | exact wallB_in (by assumption) | exact oneB_m1 (by assumption) | decide) (by decide) dX6_isAsSeen_38 ?_
      refine v_ishr G dX6_isAsSeen_39 ?_
      refine v_iconst (v := nI 1) G dX6_isAsSeen_40 (by decide) ?_
      refine v_iand G dX6_isAsSeen_41 ?_
      refine v_aload_4_0 G dX6_isAsSeen_42 ?_
      refine v_getR G vc_6 lk_X6_28 (fs_X6_24) dX6_isAsSeen_43 ?_
      refine v_iconst (v := nI 3) G dX6_isAsSeen_46 (by decide) ?_
      refine v_iload_4_3 G dX6_isAsSeen_47 ?_
      refine v_imulN G dX6_isAsSeen_48 ?_
      refine v_iconst (v := nI 2) G dX6_isAsSeen_49 (by decide) ?_
      refine v_iaddN G dX6_isAsSeen_50 ?_
      refine m_ialdN G (by decide) (as_X6_24) (by first | assumption | omega | exact oneB_in (by assumption) | exact wallB_in (by assumption) | exact oneB_m1 (by assumption) | decide) (by decide) dX6_isAsSeen_51 ?_
      refine v_icmp_ne (tgt := 59) G dX6_isAsSeen_52 rfl (fun h_52 => ?_) (fun h_52 => ?_)
      · refine v_iconst (v := nI 0) G dX6_isAsSeen_59 (by decide) ?_
        refine v_istore_4_2 G dX6_isAsSeen_60 rfl ?_
        refine v_iincN_4_3 G dX6_isAsSeen_61 rfl ?_
        refine v_goto (tgt := 4) G dX6_isAsSeen_64 rfl ?_
        simp only [asG, bI, h_9, h_13, h_52, eq, cq, if_true, if_false, Bool.false_eq_true, reduceIte] at ih
        exact ih _
      · refine v_iconst (v := nI 1) G dX6_isAsSeen_55 (by decide) ?_
        refine v_goto (tgt := 60) G dX6_isAsSeen_56 rfl ?_
        refine v_istore_4_2 G dX6_isAsSeen_60 rfl ?_
        refine v_iincN_4_3 G dX6_isAsSeen_61 rfl ?_
        refine v_goto (tgt := 4) G dX6_isAsSeen_64 rfl ?_
        simp only [asG, bI, h_9, h_13, h_52, eq, cq, if_true, if_false, Bool.false_eq_true, reduceIte] at ih
        exact ih _
  · show V x 4 [some (.ref 75), some (.int (nI g)), some (.int (bI (asG (σ 76) n (σ 75 20) m g (σ 82) s))), some (.int (nI s))] [] (vrow (σ) 81 f)
    refine v_iload_4_3 G dX6_isAsSeen_4 ?_
    refine v_aload_4_0 G dX6_isAsSeen_5 ?_
    refine m_getI G (by decide) vc_6 lk_X6_147 fs_X6_25 dX6_isAsSeen_6 ?_
    refine v_icmp_ge (tgt := 67) G dX6_isAsSeen_9 rfl (fun h_9 => ?_) (fun h_9 => absurd (by rw [hS.1]; exact nI_le (Nat.le_refl _) (by omega)) h_9)
    refine v_iload_4_2 G dX6_isAsSeen_67 ?_
    exact v_zret G hQ dX6_isAsSeen_68 (by first | exact Or.inl rfl | exact Or.inr rfl | exact bI_01 _ | assumption) (vFar.of rfl rfl)
def kdA (σ : vW) (n m s p i : Nat) : Bool := asG ((kyW σ p (i + 1)) 76) n (σ 75 20) m 260 (σ 82) s
def kdG (σ : vW) (n m s p : Nat) : Nat → Int32
  | 0 => nI 0
  | i + 1 => kdG σ n m s p i ||| (if kdA σ n m s p i = true then nI 1 <<< (nI i &&& 31) else nI 0)
def mKindsR (σ : vW) (n m s : Nat) (a : Int32) : Int32 := if inZ a n = true then kdG σ n m s a.toNatClampNeg 4 else -1
set_option maxHeartbeats 4000000 in
theorem C_X6_kinds {σ : vW} {f : Nat → Int32} {n m s : Nat} {a : Int32} (hp : pOK σ n m 0) (hS : seOK σ s) : Ctr mX6_kinds 5 [.ref 75, .int a] (vrow σ 81 f) (vT (some (.int (mKindsR σ n m s a))) σ) := by
  have hn := hp.1.1
  have hn5 := hp.1.2.1
  have e43 : ∀ p i, p < 5 → asG ((kyW σ p (i + 1)) 76) n ((kyW σ p (i + 1)) 75 20) m 260 ((kyW σ p (i + 1)) 82) s = kdA σ n m s p i := fun p i h => by rw [scr_J (kyW_scr h (i + 1)), (kyW_scr h (i + 1)).1 82 (by decide) (by decide) (by decide) (by decide), kdA]
  refine Ctr.intro (by decide) (fun α => Nat.le_of_ble_eq_true rfl) (fun x G hQ => ?_)
  have G : vG x RX6 cX6_kinds 4 (some .int) 5 := G
  show V x 0 [some (.ref 75), some (.int a), none, none] [] (vrow σ 81 f)
  refine v_aload_4_0 G dX6_kinds_0 ?_
  refine v_iload_4_1 G dX6_kinds_1 ?_
  refine v_cV1 G (C_X6_isOne (by first | assumption | omega | exact oneB_in (by assumption) | exact wallB_in (by assumption) | exact oneB_m1 (by assumption) | decide) (by first | assumption | omega | exact oneB_in (by assumption) | exact wallB_in (by assumption) | exact oneB_m1 (by assumption) | decide)) (by decide) md_X6_isOne in_X6_isOne (rv_X6 rfl) ml_X6_185 (Nat.le_of_ble_eq_true rfl) dX6_kinds_2 ?_
  refine v_ifB_ne (tgt := 10) G dX6_kinds_5 rfl (fun h_5 => ?_) (fun h_5 => ?_)
  · obtain ⟨p0, hp0, rfl⟩ := inZ_ex h_5 (by omega)
    have cp0 : (nI p0).toNatClampNeg = p0 := nI_clamp (by omega)
    refine v_iconst (v := nI 0) G dX6_kinds_10 (by decide) ?_
    refine v_istore_4_2 G dX6_kinds_11 rfl ?_
    refine v_aload_4_0 G dX6_kinds_12 ?_
    refine v_iconst (v := nI 0) G dX6_kinds_13 (by decide) ?_
    refine v_sipush (v := nI 260) G dX6_kinds_14 (by decide) ?_
    refine v_cV2v G (C_X6_copies (a := 0) (b := 260) (by omega) (by omega) (by omega)) (by decide) md_X6_copies in_X6_copies (rv_X6 rfl) ml_X6_220 (Nat.le_of_ble_eq_true rfl) dX6_kinds_17 ?_
    refine v_iconst (v := nI 0) G dX6_kinds_20 (by decide) ?_
    refine v_istore_4_3 G dX6_kinds_21 rfl ?_
    refine v_forF (pc := 22) (4) (fun i => ([some (.ref 75), some (.int (nI p0)), some (.int (kdG σ n m s p0 i)), some (.int (nI i))], kyW σ p0 i)) (fun i hi ih f => ?_) (fun f => ?_) f
    · show V x 22 [some (.ref 75), some (.int (nI p0)), some (.int (kdG σ n m s p0 i)), some (.int (nI i))] [] (vrow (kyW σ p0 i) 81 f)
      have ih : ∀ f, V x 22 [some (.ref 75), some (.int (nI p0)), some (.int (kdG σ n m s p0 (i + 1))), some (.int (nI (i + 1)))] [] (vrow (kyW σ p0 (i + 1)) 81 f) := ih
      refine v_iload_4_3 G dX6_kinds_22 ?_
      refine v_iconst (v := nI 4) G dX6_kinds_23 (by decide) ?_
      refine v_icmp_ge (tgt := 64) G dX6_kinds_24 rfl (fun h_24 => absurd h_24 (by exact nI_ge hi (by omega))) (fun h_24 => ?_)
      refine v_aload_4_0 G dX6_kinds_27 ?_
      refine v_getR G vc_6 lk_X6_7 (fs_X6_0) dX6_kinds_28 ?_
      refine v_sipush (v := nI 260) G dX6_kinds_31 (by decide) ?_
      refine v_iload_4_1 G dX6_kinds_34 ?_
      refine v_iaddN G dX6_kinds_35 ?_
      refine v_iload_4_3 G dX6_kinds_36 ?_
      refine m_iastN G (by decide) (as_X6_0) (by first | assumption | omega | exact oneB_in (by assumption) | exact wallB_in (by assumption) | exact oneB_m1 (by assumption) | decide) (by decide) dX6_kinds_37 ?_
      rw [show vset (kyW σ p0 i) 76 (260 + p0) (nI i) = kyW σ p0 (i + 1) from rfl]
      refine v_iload_4_2 G dX6_kinds_38 ?_
      refine v_aload_4_0 G dX6_kinds_39 ?_
      refine v_sipush (v := nI 260) G dX6_kinds_40 (by decide) ?_
      refine v_cE1 G (C_X6_isAsSeen (g := 260) (kyW_ok hp (by omega) (i + 1)) (seOK_scr (kyW_scr (by omega) (i + 1)) hS)) (by decide) md_X6_isAsSeen in_X6_isAsSeen (rv_X6 rfl) ml_X6_252 (Nat.le_of_ble_eq_true rfl) dX6_kinds_43 (fun f => ?_)
      rw [e43 p0 i (by omega)]
      refine v_ifB_eq (tgt := 55) G dX6_kinds_46 rfl (fun h_46 => ?_) (fun h_46 => ?_)
      · refine v_iconst (v := nI 0) G dX6_kinds_55 (by decide) ?_
        refine v_ior G dX6_kinds_56 ?_
        refine v_istore_4_2 G dX6_kinds_57 rfl ?_
        refine v_iincN_4_3 G dX6_kinds_58 rfl ?_
        refine v_goto (tgt := 22) G dX6_kinds_61 rfl ?_
        simp only [kdG, h_24, h_46, if_true, if_false, Bool.false_eq_true, reduceIte, Bool.and_true, Bool.true_and, Bool.false_and, Bool.and_false] at ih
        exact ih _
      · refine v_iconst (v := nI 1) G dX6_kinds_49 (by decide) ?_
        refine v_iload_4_3 G dX6_kinds_50 ?_
        refine v_ishl G dX6_kinds_51 ?_
        refine v_goto (tgt := 56) G dX6_kinds_52 rfl ?_
        refine v_ior G dX6_kinds_56 ?_
        refine v_istore_4_2 G dX6_kinds_57 rfl ?_
        refine v_iincN_4_3 G dX6_kinds_58 rfl ?_
        refine v_goto (tgt := 22) G dX6_kinds_61 rfl ?_
        simp only [kdG, h_24, h_46, if_true, if_false, Bool.false_eq_true, reduceIte, Bool.and_true, Bool.true_and, Bool.false_and, Bool.and_false] at ih
        exact ih _
    · show V x 22 [some (.ref 75), some (.int (nI p0)), some (.int (kdG σ n m s p0 4)), some (.int (nI 4))] [] (vrow (kyW σ p0 4) 81 f)
      refine v_iload_4_3 G dX6_kinds_22 ?_
      refine v_iconst (v := nI 4) G dX6_kinds_23 (by decide) ?_
      refine v_icmp_ge (tgt := 64) G dX6_kinds_24 rfl (fun h_24 => ?_) (fun h_24 => absurd (by exact nI_le (Nat.le_refl _) (by omega)) h_24)
      refine v_iload_4_2 G dX6_kinds_64 ?_
      exact v_iret G hQ dX6_kinds_65 (vT.of (by simp only [mKindsR, h_5, cp0, bI, h_24, if_true, if_false, Bool.false_eq_true, reduceIte] <;> try rfl) (kyW_scr (by omega) 4))
  · refine v_iconst (v := (-1)) G dX6_kinds_8 (by decide) ?_
    exact v_iret G hQ dX6_kinds_9 (vT.of (by simp only [mKindsR, bI, h_5, if_true, if_false, Bool.false_eq_true, reduceIte] <;> try rfl) (scr_refl σ))
theorem fstP_congr {P Q : Nat → Bool} : ∀ n k, (∀ j, k ≤ j → j < k + n → P j = Q j) → fstP P n k = fstP Q n k
  | 0, _, _ => rfl
  | n + 1, k, h => by
    unfold fstP
    rw [h k (Nat.le_refl k) (by omega), fstP_congr n (k + 1) (fun j h1 h2 => h j (by omega) (by omega))]
theorem mDoor_congr {R T : Nat → Int32} {n g : Nat} {w : Int32} (h : ∀ p, p < n → R (g + 15 + p) = T (g + 15 + p)) : mDoor R n g w = mDoor T n g w := by
  have e : fstP (mDrB R g w) n 0 = fstP (mDrB T g w) n 0 := fstP_congr n 0 (fun j _ hj => by unfold mDrB; rw [h j (by omega)])
  unfold mDoor
  rw [e]
def alw (σ : vW) (n p w : Nat) : Bool := if mDoor (σ 76) n 0 (nI w) = -4 then true else if mDoor (σ 76) n 0 (nI w) = nI p then true else false
def woT (σ : vW) (p w : Nat) : Nat → Int32 := upd ((cpW σ 0 260) 76) (275 + p) (nI (w + 1))
def woM (σ : vW) (n m s p : Nat) : Nat → Int32
  | 0 => nI 0
  | w + 1 => if alw σ n p w = true then woM σ n m s p w ||| (if asG (woT σ p w) n (σ 75 20) m 260 (σ 82) s = true then nI 1 <<< (nI w &&& 31) else nI 0) else woM σ n m s p w
/-- the worlds in which the door is tried on wall after wall -/
def woI (σ : vW) (n m p k : Nat) (t : vW) : Prop := scr t σ ∧ (∀ i, i ≠ 275 + p → t 76 i = (cpW σ 0 260) 76 i) ∧ ∀ w, w < k → alw σ n p w = true → ∀ q, q < n → t 83 (5 * w + q) = mReachQ (woT σ p w) n (σ 75 20) 260 m q
theorem woI_row {σ t : vW} {n m p k w : Nat} (h : woI σ n m p k t) : (vset t 76 (275 + p) (nI (w + 1))) 76 = woT σ p w := by
  funext i
  by_cases e : i = 275 + p
  · subst e
    rw [vset_at, woT, upd, if_pos rfl]
  · rw [vset_oth e, woT, upd, if_neg e]
    exact h.2.1 i e
def woQ (σ t : vW) (n m p w : Nat) : Nat → vW
  | 0 => vset t 76 (275 + p) (nI (w + 1))
  | q + 1 => vset (woQ σ t n m p w q) 83 (5 * w + q) (mReachQ (woT σ p w) n (σ 75 20) 260 m q)
theorem woQ_ne {σ t : vW} {n m p w r : Nat} (h : r ≠ 83) : ∀ q, (woQ σ t n m p w q) r = (vset t 76 (275 + p) (nI (w + 1))) r
  | 0 => rfl
  | q + 1 => by rw [woQ, vset_ne h, woQ_ne h q]
theorem woQ_83 {σ t : vW} {n m p w : Nat} : ∀ k i, (woQ σ t n m p w k) 83 i = if 5 * w ≤ i ∧ i < 5 * w + k then mReachQ (woT σ p w) n (σ 75 20) 260 m (i - 5 * w) else t 83 i
  | 0, i => by
    rw [if_neg (by omega)]
    show (vset t 76 (275 + p) (nI (w + 1))) 83 i = t 83 i
    rw [vset_ne (by decide)]
  | k + 1, i => by
    have ih := woQ_83 (σ := σ) (t := t) (n := n) (m := m) (p := p) (w := w) k i
    by_cases e : i = 5 * w + k
    · subst e
      rw [woQ, vset_at, if_pos (by omega), show 5 * w + k - 5 * w = k by omega]
    · rw [woQ, vset_oth e, ih]
      by_cases h2 : 5 * w ≤ i ∧ i < 5 * w + k
      · rw [if_pos h2, if_pos (by omega)]
      · rw [if_neg h2, if_neg (by omega)]
theorem woQ_scr {σ t : vW} {n m p w : Nat} (h : scr t σ) (hp : p < 5) : ∀ q, scr (woQ σ t n m p w q) σ
  | 0 => scr_cell h (by omega) (by omega)
  | q + 1 => scr_83 (woQ_scr h hp q)
theorem woI_next {σ t : vW} {n m p w : Nat} (hp : p < 5) (hn : n ≤ 5) (h : woI σ n m p w t) : woI σ n m p (w + 1) (woQ σ t n m p w n) := by
  refine ⟨woQ_scr h.1 hp n, fun i hi => ?_, fun w' hw' ha q hq => ?_⟩
  · rw [woQ_ne (by decide), vset_oth hi]
    exact h.2.1 i hi
  · rw [woQ_83]
    by_cases e : w' = w
    · subst e
      rw [if_pos (by omega), show 5 * w' + q - 5 * w' = q by omega]
    · rw [if_neg (by omega)]
      exact h.2.2 w' (by omega) ha q hq
theorem woI_skip {σ t : vW} {n m p w : Nat} (h : woI σ n m p w t) (ha : alw σ n p w = false) : woI σ n m p (w + 1) t := ⟨h.1, h.2.1, fun w' hw' ha' q hq => by
  by_cases e : w' = w
  · subst e
    rw [ha] at ha'
    exact absurd ha' Bool.false_ne_true
  · exact h.2.2 w' (by omega) ha' q hq⟩
theorem woI_0 {σ : vW} {n m p : Nat} : woI σ n m p 0 (cpW σ 0 260) := ⟨scr_cp (scr_refl σ), fun _ _ => rfl, fun w hw => absurd hw (Nat.not_lt_zero w)⟩
theorem woI_door {σ t : vW} {n m p k : Nat} {w : Int32} (h : woI σ n m p k t) (hn : n ≤ 5) : mDoor (t 76) n 0 w = mDoor (σ 76) n 0 w := mDoor_congr (fun q hq => h.1.2.2 _ (by omega))
section VI
variable {x : vX} {pc : Nat}
theorem v_forI (n : Nat) (I : Nat → vW → Prop) (S : Nat → List (Option Value)) (hs : ∀ k, k < n → (∀ s f, I (k + 1) s → V x pc (S (k + 1)) [] (vrow s 81 f)) → ∀ s f, I k s → V x pc (S k) [] (vrow s 81 f)) (he : ∀ s f, I n s → V x pc (S n) [] (vrow s 81 f)) : ∀ s f, I 0 s → V x pc (S 0) [] (vrow s 81 f) := by
  have h : ∀ j, j ≤ n → ∀ s f, I (n - j) s → V x pc (S (n - j)) [] (vrow s 81 f) := by
    intro j
    induction j with
    | zero => intro _; exact he
    | succ j ih =>
      intro hj
      have h1 := hs (n - (j + 1)) (by omega)
      rw [show n - (j + 1) + 1 = n - j by omega] at h1
      exact h1 (ih (by omega))
  have h2 := h n (Nat.le_refl n)
  rwa [Nat.sub_self] at h2
end VI
def vWo (r : Option Value) (I : vW → Prop) : Option Value → vW → Prop := fun a b => a = r ∧ ∃ t f, b = vrow t 81 f ∧ I t
set_option maxHeartbeats 4000000 in
theorem C_X6_wallsOf {σ : vW} {f : Nat → Int32} {n m s p : Nat} (hp : pOK σ n m 0) (hS : seOK σ s) (hp5 : p < 5) : Ctr mX6_wallsOf 5 [.ref 75, .int (nI p)] (vrow σ 81 f) (vWo (some (.int (woM σ n m s p m))) (woI σ n m p m)) := by
  have hn := hp.1.1
  have hn5 := hp.1.2.1
  have hm : σ 76 25 = nI m := hp.2.1.1
  have hm9 := hp.2.1.2.1
  refine Ctr.intro (by decide) (fun α => Nat.le_of_ble_eq_true rfl) (fun x G hQ => ?_)
  have G : vG x RX6 cX6_wallsOf 6 (some .int) 5 := G
  show V x 0 [some (.ref 75), some (.int (nI p)), none, none, none, none] [] (vrow σ 81 f)
  refine v_iconst (v := nI 0) G dX6_wallsOf_0 (by decide) ?_
  refine v_istore_6_2 G dX6_wallsOf_1 rfl ?_
  refine v_aload_6_0 G dX6_wallsOf_2 ?_
  refine v_iconst (v := nI 0) G dX6_wallsOf_3 (by decide) ?_
  refine v_sipush (v := nI 260) G dX6_wallsOf_4 (by decide) ?_
  refine v_cV2v G (C_X6_copies (a := 0) (b := 260) (by omega) (by omega) (by omega)) (by decide) md_X6_copies in_X6_copies (rv_X6 rfl) ml_X6_220 (Nat.le_of_ble_eq_true rfl) dX6_wallsOf_7 ?_
  refine v_iconst (v := nI 0) G dX6_wallsOf_10 (by decide) ?_
  refine v_istore_6_3 G dX6_wallsOf_11 rfl ?_
  refine v_forI (pc := 12) m (fun w t => woI σ n m p w t) (fun w => [some (.ref 75), some (.int (nI p)), some (.int (woM σ n m s p w)), some (.int (nI w)), none, none]) (fun w hw ih t f hI => ?_) (fun t f hI => ?_) _ _ woI_0
  · show V x 12 [some (.ref 75), some (.int (nI p)), some (.int (woM σ n m s p w)), some (.int (nI w)), none, none] [] (vrow t 81 f)
    have ih : ∀ t f, woI σ n m p (w + 1) t → V x 12 [some (.ref 75), some (.int (nI p)), some (.int (woM σ n m s p (w + 1))), some (.int (nI (w + 1))), none, none] [] (vrow t 81 f) := ih
    have hI : woI σ n m p w t := hI
    have ht25 : t 76 25 = nI m := (hI.1.2.2 25 (by omega)).trans hm
    have htn : t 75 1 = nI n := (hI.1.2.1 1 (by decide) (by decide)).trans hn
    have hrow : ∀ q, (woQ σ t n m p w q) 76 = woT σ p w := fun q => (woQ_ne (by decide) q).trans (woI_row hI)
    have hsq := fun q => woQ_scr (n := n) (m := m) (w := w) hI.1 hp5 q
    have hok0 : pOK (vset t 76 (275 + p) (nI (w + 1))) n m 260 := by
      have h1 : pOK (cpW σ 0 260) n m 260 := pOK_to hp (by omega)
      have h2 : ∀ i, i ≠ 275 + p → (vset t 76 (275 + p) (nI (w + 1))) 76 i = (cpW σ 0 260) 76 i := fun i hi => by rw [vset_oth hi]; exact hI.2.1 i hi
      refine ⟨⟨by rw [vset_ne (by decide)]; exact htn, hn5, by omega⟩, ⟨(h2 _ (by omega)).trans h1.2.1.1, hm9, fun v hv => ?_⟩, fun q hq => ?_⟩
      · obtain ⟨a, b, ha, hb, ea, eb⟩ := h1.2.1.2.2 v hv
        exact ⟨a, b, ha, hb, (h2 _ (by omega)).trans ea, (h2 _ (by omega)).trans eb⟩
      · obtain ⟨r, hr, er⟩ := h1.2.2 q hq
        exact ⟨r, hr, (h2 _ (by omega)).trans er⟩
    have hokq : ∀ q, pOK (woQ σ t n m p w q) n m 260 := fun q => by
      induction q with
      | zero => exact hok0
      | succ q ih2 => exact pOK_oth ih2 (by decide) (by decide)
    have hs0 : scr (vset t 76 (275 + p) (nI (w + 1))) σ := hsq 0
    have e62 : asG ((vset t 76 (275 + p) (nI (w + 1))) 76) n ((vset t 76 (275 + p) (nI (w + 1))) 75 20) m 260 ((vset t 76 (275 + p) (nI (w + 1))) 82) s = asG (woT σ p w) n (σ 75 20) m 260 (σ 82) s := by rw [woI_row hI, scr_J hs0, hs0.1 82 (by decide) (by decide) (by decide) (by decide)]
    have e105 : ∀ q, mReachQ ((woQ σ t n m p w q) 76) n ((woQ σ t n m p w q) 75 20) 260 m q = mReachQ (woT σ p w) n (σ 75 20) 260 m q := fun q => by rw [hrow q, scr_J (hsq q)]
    have key80 : ∀ (M d : Int32), (∀ f, V x 12 [some (.ref 75), some (.int (nI p)), some (.int M), some (.int (nI (w + 1))), none, none] [] (vrow (woQ σ t n m p w n) 81 f)) → ∀ f, V x 80 [some (.ref 75), some (.int (nI p)), some (.int M), some (.int (nI w)), some (.int d), some (.int (nI 0))] [] (vrow (vset t 76 (275 + p) (nI (w + 1))) 81 f) := by
      intro M d hM f
      refine v_forF (pc := 80) (n) (fun q => ([some (.ref 75), some (.int (nI p)), some (.int M), some (.int (nI w)), some (.int d), some (.int (nI q))], woQ σ t n m p w q)) (fun q hq ihq f => ?_) (fun f => ?_) f
      · show V x 80 [some (.ref 75), some (.int (nI p)), some (.int M), some (.int (nI w)), some (.int d), some (.int (nI q))] [] (vrow (woQ σ t n m p w q) 81 f)
        have ihq : ∀ f, V x 80 [some (.ref 75), some (.int (nI p)), some (.int M), some (.int (nI w)), some (.int d), some (.int (nI (q + 1)))] [] (vrow (woQ σ t n m p w (q + 1)) 81 f) := ihq
        refine v_iload_6_5 G dX6_wallsOf_80 ?_
        refine v_aload_6_0 G dX6_wallsOf_82 ?_
        refine m_getI G (by decide) vc_6 lk_X6_144 fs_X6_1 dX6_wallsOf_83 ?_
        refine v_icmp_ge (tgt := 115) G dX6_wallsOf_86 rfl (fun h_86 => absurd h_86 (by rw [((hsq _).2.1 1 (by decide) (by decide)), hn]; exact nI_ge hq (by omega))) (fun h_86 => ?_)
        refine v_aload_6_0 G dX6_wallsOf_89 ?_
        refine v_getR G vc_6 lk_X6_31 (fs_X6_26) dX6_wallsOf_90 ?_
        refine v_iconst (v := nI 5) G dX6_wallsOf_93 (by decide) ?_
        refine v_iload_6_3 G dX6_wallsOf_94 ?_
        refine v_imulN G dX6_wallsOf_95 ?_
        refine v_iload_6_5 G dX6_wallsOf_96 ?_
        refine v_iaddN G dX6_wallsOf_98 ?_
        refine v_aload_6_0 G dX6_wallsOf_99 ?_
        refine v_sipush (v := nI 260) G dX6_wallsOf_100 (by decide) ?_
        refine v_iload_6_5 G dX6_wallsOf_103 ?_
        refine v_cX2 G (C_X6_reachesOn (g := 260) (hokq q) (by omega)) (by decide) md_X6_reachesOn in_X6_reachesOn (rv_X6 rfl) ml_X6_169 (Nat.le_of_ble_eq_true rfl) dX6_wallsOf_105 (fun f hf => ?_)
        rw [e105]
        refine m_iastN G (by decide) (as_X6_26) (by first | assumption | omega | exact oneB_in (by assumption) | exact wallB_in (by assumption) | exact oneB_m1 (by assumption) | decide) (by decide) dX6_wallsOf_108 ?_
        refine v_iincN_6_5 G dX6_wallsOf_109 rfl ?_
        refine v_goto (tgt := 80) G dX6_wallsOf_112 rfl ?_
        exact ihq _
      · show V x 80 [some (.ref 75), some (.int (nI p)), some (.int M), some (.int (nI w)), some (.int d), some (.int (nI n))] [] (vrow (woQ σ t n m p w n) 81 f)
        refine v_iload_6_5 G dX6_wallsOf_80 ?_
        refine v_aload_6_0 G dX6_wallsOf_82 ?_
        refine m_getI G (by decide) vc_6 lk_X6_144 fs_X6_1 dX6_wallsOf_83 ?_
        refine v_icmp_ge (tgt := 115) G dX6_wallsOf_86 rfl (fun h_86 => ?_) (fun h_86 => absurd (by rw [((hsq _).2.1 1 (by decide) (by decide)), hn]; exact nI_le (Nat.le_refl _) (by omega)) h_86)
        refine v_iincN_6_3 G dX6_wallsOf_115 rfl ?_
        refine v_goto (tgt := 12) G dX6_wallsOf_118 rfl ?_
        exact V.drop (by simp only [vsubP, and_self]) (hM _)
    refine v_iload_6_3 G dX6_wallsOf_12 ?_
    refine v_aload_6_0 G dX6_wallsOf_13 ?_
    refine v_getR G vc_6 lk_X6_7 (fs_X6_0) dX6_wallsOf_14 ?_
    refine v_bipush (v := nI 25) G dX6_wallsOf_17 (by decide) ?_
    refine m_ialdN G (by decide) (as_X6_0) (by first | assumption | omega | exact oneB_in (by assumption) | exact wallB_in (by assumption) | exact oneB_m1 (by assumption) | decide) (by decide) dX6_wallsOf_19 ?_
    refine v_icmp_ge (tgt := 121) G dX6_wallsOf_20 rfl (fun h_20 => absurd h_20 (by rw [ht25]; exact nI_ge hw (by omega))) (fun h_20 => ?_)
    refine v_aload_6_0 G dX6_wallsOf_23 ?_
    refine v_iconst (v := nI 0) G dX6_wallsOf_24 (by decide) ?_
    refine v_iload_6_3 G dX6_wallsOf_25 ?_
    refine v_cV2 G (C_X6_doorOn (g := 0) htn hn5 (by omega)) (by decide) md_X6_doorOn in_X6_doorOn (rv_X6 rfl) ml_X6_152 (Nat.le_of_ble_eq_true rfl) dX6_wallsOf_26 ?_
    rw [woI_door hI hn5]
    refine v_istore_6_4 G dX6_wallsOf_29 rfl ?_
    refine v_iload_6_4 G dX6_wallsOf_31 ?_
    refine v_bipush (v := (-4)) G dX6_wallsOf_33 (by decide) ?_
    refine v_icmp_eq (tgt := 44) G dX6_wallsOf_35 rfl (fun h_35 => ?_) (fun h_35 => ?_)
    · refine v_aload_6_0 G dX6_wallsOf_44 ?_
      refine v_getR G vc_6 lk_X6_7 (fs_X6_0) dX6_wallsOf_45 ?_
      refine v_sipush (v := nI 275) G dX6_wallsOf_48 (by decide) ?_
      refine v_iload_6_1 G dX6_wallsOf_51 ?_
      refine v_iaddN G dX6_wallsOf_52 ?_
      refine v_iload_6_3 G dX6_wallsOf_53 ?_
      refine v_iconst (v := nI 1) G dX6_wallsOf_54 (by decide) ?_
      refine v_iaddN G dX6_wallsOf_55 ?_
      refine m_iastN G (by decide) (as_X6_0) (by first | assumption | omega | exact oneB_in (by assumption) | exact wallB_in (by assumption) | exact oneB_m1 (by assumption) | decide) (by decide) dX6_wallsOf_56 ?_
      refine v_iload_6_2 G dX6_wallsOf_57 ?_
      refine v_aload_6_0 G dX6_wallsOf_58 ?_
      refine v_sipush (v := nI 260) G dX6_wallsOf_59 (by decide) ?_
      refine v_cE1 G (C_X6_isAsSeen (g := 260) hok0 (seOK_scr (hsq 0) hS)) (by decide) md_X6_isAsSeen in_X6_isAsSeen (rv_X6 rfl) ml_X6_252 (Nat.le_of_ble_eq_true rfl) dX6_wallsOf_62 (fun f => ?_)
      rw [e62]
      refine v_ifB_eq (tgt := 74) G dX6_wallsOf_65 rfl (fun h_65 => ?_) (fun h_65 => ?_)
      · refine v_iconst (v := nI 0) G dX6_wallsOf_74 (by decide) ?_
        refine v_ior G dX6_wallsOf_75 ?_
        refine v_istore_6_2 G dX6_wallsOf_76 rfl ?_
        refine v_iconst (v := nI 0) G dX6_wallsOf_77 (by decide) ?_
        refine v_istore_6_5 G dX6_wallsOf_78 rfl ?_
        have ha : alw σ n p w = true := by simp only [alw, h_20, h_35, h_65, if_true, if_false, ite_self]
        refine key80 _ _ (fun f => ?_) _
        have ih2 := ih _ f (woI_next hp5 hn5 hI)
        rw [woM, if_pos ha] at ih2
        simp only [h_20, h_35, h_65, if_true, if_false, Bool.false_eq_true, reduceIte] at ih2
        exact ih2
      · refine v_iconst (v := nI 1) G dX6_wallsOf_68 (by decide) ?_
        refine v_iload_6_3 G dX6_wallsOf_69 ?_
        refine v_ishl G dX6_wallsOf_70 ?_
        refine v_goto (tgt := 75) G dX6_wallsOf_71 rfl ?_
        refine v_ior G dX6_wallsOf_75 ?_
        refine v_istore_6_2 G dX6_wallsOf_76 rfl ?_
        refine v_iconst (v := nI 0) G dX6_wallsOf_77 (by decide) ?_
        refine v_istore_6_5 G dX6_wallsOf_78 rfl ?_
        have ha : alw σ n p w = true := by simp only [alw, h_20, h_35, h_65, if_true, if_false, ite_self]
        refine key80 _ _ (fun f => ?_) _
        have ih2 := ih _ f (woI_next hp5 hn5 hI)
        rw [woM, if_pos ha] at ih2
        simp only [h_20, h_35, h_65, if_true, if_false, Bool.false_eq_true, reduceIte] at ih2
        exact ih2
    · refine v_iload_6_4 G dX6_wallsOf_38 ?_
      refine v_iload_6_1 G dX6_wallsOf_40 ?_
      refine v_icmp_ne (tgt := 115) G dX6_wallsOf_41 rfl (fun h_41 => ?_) (fun h_41 => ?_)
      · refine v_iincN_6_3 G dX6_wallsOf_115 rfl ?_
        refine v_goto (tgt := 12) G dX6_wallsOf_118 rfl ?_
        have ha : alw σ n p w = false := by simp only [alw, h_20, h_35, h_41, if_true, if_false, ite_self]
        have ih2 := ih _ f (woI_skip hI ha)
        rw [woM, if_neg (by rw [ha]; exact Bool.false_ne_true)] at ih2
        exact V.drop (by simp only [vsubP, and_self]) ih2
      · refine v_aload_6_0 G dX6_wallsOf_44 ?_
        refine v_getR G vc_6 lk_X6_7 (fs_X6_0) dX6_wallsOf_45 ?_
        refine v_sipush (v := nI 275) G dX6_wallsOf_48 (by decide) ?_
        refine v_iload_6_1 G dX6_wallsOf_51 ?_
        refine v_iaddN G dX6_wallsOf_52 ?_
        refine v_iload_6_3 G dX6_wallsOf_53 ?_
        refine v_iconst (v := nI 1) G dX6_wallsOf_54 (by decide) ?_
        refine v_iaddN G dX6_wallsOf_55 ?_
        refine m_iastN G (by decide) (as_X6_0) (by first | assumption | omega | exact oneB_in (by assumption) | exact wallB_in (by assumption) | exact oneB_m1 (by assumption) | decide) (by decide) dX6_wallsOf_56 ?_
        refine v_iload_6_2 G dX6_wallsOf_57 ?_
        refine v_aload_6_0 G dX6_wallsOf_58 ?_
        refine v_sipush (v := nI 260) G dX6_wallsOf_59 (by decide) ?_
        refine v_cE1 G (C_X6_isAsSeen (g := 260) hok0 (seOK_scr (hsq 0) hS)) (by decide) md_X6_isAsSeen in_X6_isAsSeen (rv_X6 rfl) ml_X6_252 (Nat.le_of_ble_eq_true rfl) dX6_wallsOf_62 (fun f => ?_)
        rw [e62]
        refine v_ifB_eq (tgt := 74) G dX6_wallsOf_65 rfl (fun h_65 => ?_) (fun h_65 => ?_)
        · refine v_iconst (v := nI 0) G dX6_wallsOf_74 (by decide) ?_
          refine v_ior G dX6_wallsOf_75 ?_
          refine v_istore_6_2 G dX6_wallsOf_76 rfl ?_
          refine v_iconst (v := nI 0) G dX6_wallsOf_77 (by decide) ?_
          refine v_istore_6_5 G dX6_wallsOf_78 rfl ?_
          have ha : alw σ n p w = true := by simp only [alw, h_20, h_35, h_41, h_65, if_true, if_false, ite_self]
          refine key80 _ _ (fun f => ?_) _
          have ih2 := ih _ f (woI_next hp5 hn5 hI)
          rw [woM, if_pos ha] at ih2
          simp only [h_20, h_35, h_41, h_65, if_true, if_false, Bool.false_eq_true, reduceIte] at ih2
          exact ih2
        · refine v_iconst (v := nI 1) G dX6_wallsOf_68 (by decide) ?_
          refine v_iload_6_3 G dX6_wallsOf_69 ?_
          refine v_ishl G dX6_wallsOf_70 ?_
          refine v_goto (tgt := 75) G dX6_wallsOf_71 rfl ?_
          refine v_ior G dX6_wallsOf_75 ?_
          refine v_istore_6_2 G dX6_wallsOf_76 rfl ?_
          refine v_iconst (v := nI 0) G dX6_wallsOf_77 (by decide) ?_
          refine v_istore_6_5 G dX6_wallsOf_78 rfl ?_
          have ha : alw σ n p w = true := by simp only [alw, h_20, h_35, h_41, h_65, if_true, if_false, ite_self]
          refine key80 _ _ (fun f => ?_) _
          have ih2 := ih _ f (woI_next hp5 hn5 hI)
          rw [woM, if_pos ha] at ih2
          simp only [h_20, h_35, h_41, h_65, if_true, if_false, Bool.false_eq_true, reduceIte] at ih2
          exact ih2
  · show V x 12 [some (.ref 75), some (.int (nI p)), some (.int (woM σ n m s p m)), some (.int (nI m)), none, none] [] (vrow t 81 f)
    have hI : woI σ n m p m t := hI
    have ht25 : t 76 25 = nI m := (hI.1.2.2 25 (by omega)).trans hm
    refine v_iload_6_3 G dX6_wallsOf_12 ?_
    refine v_aload_6_0 G dX6_wallsOf_13 ?_
    refine v_getR G vc_6 lk_X6_7 (fs_X6_0) dX6_wallsOf_14 ?_
    refine v_bipush (v := nI 25) G dX6_wallsOf_17 (by decide) ?_
    refine m_ialdN G (by decide) (as_X6_0) (by first | assumption | omega | exact oneB_in (by assumption) | exact wallB_in (by assumption) | exact oneB_m1 (by assumption) | decide) (by decide) dX6_wallsOf_19 ?_
    refine v_icmp_ge (tgt := 121) G dX6_wallsOf_20 rfl (fun h_20 => ?_) (fun h_20 => absurd (by rw [ht25]; exact nI_le (Nat.le_refl _) (by omega)) h_20)
    refine v_iload_6_2 G dX6_wallsOf_121 ?_
    exact v_iret G hQ dX6_wallsOf_122 ⟨rfl, t, f, rfl, hI⟩
theorem v_cW1 {x : vX} {own : String} {cc : ByteArray} {nL dd : Nat} {ret : Option FieldType} {pc : Nat} {L : List (Option Value)} {st : List Value} {w0 : vW} {mi : vMI} {b d idx : Nat} {a1 : Value} {v : Value} {I : vW → Prop} (G : vG x own cc nL ret dd) (C : Ctr mi d (.ref b :: [a1]) w0 (vWo (some v) I)) (hd : d < dd) (md : vMd mi 1) (hi : vIn mi) (rv : vRv b mi) (lk : Cond.methodLink own idx mi.1 ∈ BIG) (hw : (st.map fun v => v.category).sum ≤ 8) (dg : decode cc pc = .ok (.invokevirtual idx, 3)) (k0 : ∀ t f, I t → V x (pc + 3) L (v :: st) (vrow t 81 f)) : V x pc L (a1 :: .ref b :: st) w0 := v_callV (av := [a1]) G C hd md hi rv lk rfl hw dg (by rintro _ _ ⟨rfl, t, f, rfl, hI⟩; exact k0 t f hI)
def mWallsR (σ : vW) (n m s : Nat) (a : Int32) : Int32 := if inZ a n = true then woM σ n m s a.toNatClampNeg m else -1
set_option maxHeartbeats 4000000 in
theorem C_X6_walls {σ : vW} {f : Nat → Int32} {n m s : Nat} {a : Int32} (hp : pOK σ n m 0) (hS : seOK σ s) : Ctr mX6_walls 6 [.ref 75, .int a] (vrow σ 81 f) (vT (some (.int (mWallsR σ n m s a))) σ) := by
  have hn := hp.1.1
  have hn5 := hp.1.2.1
  refine Ctr.intro (by decide) (fun α => Nat.le_of_ble_eq_true rfl) (fun x G hQ => ?_)
  have G : vG x RX6 cX6_walls 2 (some .int) 6 := G
  show V x 0 [some (.ref 75), some (.int a)] [] (vrow σ 81 f)
  refine v_aload_2_0 G dX6_walls_0 ?_
  refine v_iload_2_1 G dX6_walls_1 ?_
  refine v_cV1 G (C_X6_isOne (by first | assumption | omega | exact oneB_in (by assumption) | exact wallB_in (by assumption) | exact oneB_m1 (by assumption) | decide) (by first | assumption | omega | exact oneB_in (by assumption) | exact wallB_in (by assumption) | exact oneB_m1 (by assumption) | decide)) (by decide) md_X6_isOne in_X6_isOne (rv_X6 rfl) ml_X6_185 (Nat.le_of_ble_eq_true rfl) dX6_walls_2 ?_
  refine v_ifB_eq (tgt := 16) G dX6_walls_5 rfl (fun h_5 => ?_) (fun h_5 => ?_)
  · refine v_iconst (v := (-1)) G dX6_walls_16 (by decide) ?_
    exact v_iret G hQ dX6_walls_17 (vT.of (by simp only [mWallsR, bI, h_5, if_true, if_false, Bool.false_eq_true, reduceIte] <;> try rfl) (by first | exact hI.1 | exact scr_refl σ))
  · obtain ⟨p0, hp0, rfl⟩ := inZ_ex h_5 (by omega)
    have cp0 : (nI p0).toNatClampNeg = p0 := nI_clamp (by omega)
    refine v_aload_2_0 G dX6_walls_8 ?_
    refine v_iload_2_1 G dX6_walls_9 ?_
    refine v_cW1 G (C_X6_wallsOf hp hS (by omega)) (by decide) md_X6_wallsOf in_X6_wallsOf (rv_X6 rfl) ml_X6_255 (Nat.le_of_ble_eq_true rfl) dX6_walls_10 (fun t f hI => ?_)
    refine v_goto (tgt := 17) G dX6_walls_13 rfl ?_
    exact v_iret G hQ dX6_walls_17 (vT.of (by simp only [mWallsR, bI, h_5, cp0, if_true, if_false, Bool.false_eq_true, reduceIte] <;> try rfl) (by first | exact hI.1 | exact scr_refl σ))
theorem bt_1 {i : Nat} (hi : i < 32) : bt (nI 1) i = decide (i = 0) := (by decide : ∀ i, i < 32 → bt (nI 1) i = decide (i = 0)) i hi
theorem bit_set {a : Int32} {w : Nat} (hw : w < 32) (h : a >>> (nI w &&& 31) &&& nI 1 = nI 1) : bt a w = true := by
  have h2 := congrArg (fun x => bt x 0) h
  simp only [b_and, bt_1 (show 0 < 32 by decide), b_sshr w hw a (show 0 < 32 by decide), Nat.add_zero, if_pos hw, decide_true, Bool.and_true] at h2
  exact h2
theorem woM_bt {σ : vW} {n m s p w : Nat} (hw : w < 32) : ∀ k, k ≤ 9 → bt (woM σ n m s p k) w = true → alw σ n p w = true
  | 0, _, h => by
    rw [woM, show nI 0 = 0 from rfl, b_0] at h
    exact absurd h Bool.false_ne_true
  | k + 1, hk, h => by
    unfold woM at h
    split at h
    · rw [b_or] at h
      rcases Bool.or_eq_true_iff.mp h with q | q
      · exact woM_bt hw k (by omega) q
      · split at q
        · rw [b_shl k (by omega) _ hw, Bool.and_eq_true, decide_eq_true_eq, bt_1 (by omega), decide_eq_true_eq] at q
          have e : w = k := by omega
          rw [e]
          assumption
        · rw [show nI 0 = 0 from rfl, b_0] at q
          exact absurd q Bool.false_ne_true
    · exact woM_bt hw k (by omega) h
theorem woM_bit {σ : vW} {n m s p w k : Nat} (hk : k ≤ 9 ∧ w < 32) (h : woM σ n m s p k >>> (nI w &&& 31) &&& nI 1 = nI 1) : alw σ n p w = true := woM_bt hk.2 k hk.1 (bit_set hk.2 h)
def akC (σ : vW) (n m s p q r : Nat) : Nat → Int32
  | 0 => nI 0
  | w + 1 => akC σ n m s p q r w + (if woM σ n m s p m >>> (nI w &&& 31) &&& nI 1 = nI 1 then (mReachQ (woT σ p w) n (σ 75 20) 260 m q >>> (nI r &&& 31) &&& nI 1) else nI 0)
def akX (c T : Int32) : Int32 := if c ≤ T - c then T - c else c
def akR (σ : vW) (n m s p q : Nat) (z : Int32 × Int32) : Nat → Int32 × Int32
  | 0 => z
  | r + 1 => if (akR σ n m s p q z r).1 ≤ akX (akC σ n m s p q r m) (bitsR (woM σ n m s p m)) then akR σ n m s p q z r else (akX (akC σ n m s p q r m) (bitsR (woM σ n m s p m)), nI (10 * q + r))
def akQ (σ : vW) (n m s p : Nat) : Nat → Int32 × Int32
  | 0 => (bitsR (woM σ n m s p m), -4)
  | q + 1 => akR σ n m s p q (akQ σ n m s p q) 8
def mAskR (σ : vW) (n m s : Nat) (a k : Int32) : Int32 := if inZ a n = true then (if inZ k 2 = true then lstR (akQ σ n m s a.toNatClampNeg n) k else -1) else -1
set_option maxHeartbeats 4000000 in
theorem C_X6_ask {σ : vW} {f : Nat → Int32} {n m s : Nat} {a k : Int32} (hp : pOK σ n m 0) (hS : seOK σ s) : Ctr mX6_ask 6 [.ref 75, .int a, .int k] (vrow σ 81 f) (vT (some (.int (mAskR σ n m s a k))) σ) := by
  have hn := hp.1.1
  have hn5 := hp.1.2.1
  have hm : σ 76 25 = nI m := hp.2.1.1
  have hm9 := hp.2.1.2.1
  refine Ctr.intro (by decide) (fun α => Nat.le_of_ble_eq_true rfl) (fun x G hQ => ?_)
  have G : vG x RX6 cX6_ask 11 (some .int) 6 := G
  show V x 0 [some (.ref 75), some (.int a), some (.int k), none, none, none, none, none, none, none, none] [] (vrow σ 81 f)
  refine v_aload_11_0 G dX6_ask_0 ?_
  refine v_iload_11_1 G dX6_ask_1 ?_
  refine v_cV1 G (C_X6_isOne (by first | assumption | omega | exact oneB_in (by assumption) | exact wallB_in (by assumption) | exact oneB_m1 (by assumption) | decide) (by first | assumption | omega | exact oneB_in (by assumption) | exact wallB_in (by assumption) | exact oneB_m1 (by assumption) | decide)) (by decide) md_X6_isOne in_X6_isOne (rv_X6 rfl) ml_X6_185 (Nat.le_of_ble_eq_true rfl) dX6_ask_2 ?_
  refine v_ifB_eq (tgt := 18) G dX6_ask_5 rfl (fun h_5 => ?_) (fun h_5 => ?_)
  · refine v_iconst (v := (-1)) G dX6_ask_18 (by decide) ?_
    exact v_iret G hQ dX6_ask_19 (vT.of (by simp only [mAskR, bI, h_5, if_true, if_false, Bool.false_eq_true, reduceIte] <;> try rfl) (scr_refl σ))
  · obtain ⟨p0, hp0, rfl⟩ := inZ_ex h_5 (by omega)
    have cp0 : (nI p0).toNatClampNeg = p0 := nI_clamp (by omega)
    refine v_iload_11_2 G dX6_ask_8 ?_
    refine v_i2l G dX6_ask_9 ?_
    refine v_lconst (v := lN 0) G dX6_ask_10 (by decide) ?_
    refine v_lconst (v := lN 1) G dX6_ask_11 (by decide) ?_
    refine v_cS3 G (C_inK 2 (by decide)) (by decide) md_X6_in st_X6_in ml_X6_49 (Nat.le_of_ble_eq_true rfl) dX6_ask_12 ?_
    refine v_ifB_ne (tgt := 20) G dX6_ask_15 rfl (fun h_15 => ?_) (fun h_15 => ?_)
    · refine v_aload_11_0 G dX6_ask_20 ?_
      refine v_iload_11_1 G dX6_ask_21 ?_
      refine v_cW1 G (C_X6_wallsOf hp hS (by omega)) (by decide) md_X6_wallsOf in_X6_wallsOf (rv_X6 rfl) ml_X6_255 (Nat.le_of_ble_eq_true rfl) dX6_ask_22 (fun t f hI => ?_)
      refine v_istore_11_3 G dX6_ask_25 rfl ?_
      refine v_iload_11_3 G dX6_ask_26 ?_
      refine v_cS1 G (C_X6_bitsOf) (by decide) md_X6_bitsOf st_X6_bitsOf ml_X6_172 (Nat.le_of_ble_eq_true rfl) dX6_ask_27 ?_
      refine v_istore_11_4 G dX6_ask_30 rfl ?_
      refine v_iload_11_4 G dX6_ask_32 ?_
      refine v_istore_11_5 G dX6_ask_34 rfl ?_
      refine v_bipush (v := (-4)) G dX6_ask_36 (by decide) ?_
      refine v_istore_11_6 G dX6_ask_38 rfl ?_
      refine v_iconst (v := nI 0) G dX6_ask_40 (by decide) ?_
      refine v_istore_11_7 G dX6_ask_41 rfl ?_
      have ht25 : t 76 25 = nI m := (hI.1.2.2 25 (by omega)).trans hm
      have htn : t 75 1 = nI n := (hI.1.2.1 1 (by decide) (by decide)).trans hn
      refine v_for (pc := 43) (n) (fun q => ([some (.ref 75), some (.int (nI p0)), some (.int k), some (.int (woM σ n m s p0 m)), some (.int (bitsR (woM σ n m s p0 m))), some (.int (akQ σ n m s p0 q).1), some (.int (akQ σ n m s p0 q).2), some (.int (nI q)), none, none, none], (vrow (t) 81 f))) (fun q hq ihq => ?_) ?_
      · show V x 43 [some (.ref 75), some (.int (nI p0)), some (.int k), some (.int (woM σ n m s p0 m)), some (.int (bitsR (woM σ n m s p0 m))), some (.int (akQ σ n m s p0 q).1), some (.int (akQ σ n m s p0 q).2), some (.int (nI q)), none, none, none] [] (vrow (t) 81 f)
        have ihq : V x 43 [some (.ref 75), some (.int (nI p0)), some (.int k), some (.int (woM σ n m s p0 m)), some (.int (bitsR (woM σ n m s p0 m))), some (.int (akQ σ n m s p0 (q + 1)).1), some (.int (akQ σ n m s p0 (q + 1)).2), some (.int (nI (q + 1))), none, none, none] [] (vrow (t) 81 f) := ihq
        refine v_iload_11_7 G dX6_ask_43 ?_
        refine v_aload_11_0 G dX6_ask_45 ?_
        refine m_getI G (by decide) vc_6 lk_X6_144 fs_X6_1 dX6_ask_46 ?_
        refine v_icmp_ge (tgt := 194) G dX6_ask_49 rfl (fun h_49 => absurd h_49 (by rw [htn]; exact nI_ge hq (by omega))) (fun h_49 => ?_)
        refine v_iconst (v := nI 0) G dX6_ask_52 (by decide) ?_
        refine v_istore_11_8 G dX6_ask_53 rfl ?_
        refine v_for (pc := 55) (8) (fun r => ([some (.ref 75), some (.int (nI p0)), some (.int k), some (.int (woM σ n m s p0 m)), some (.int (bitsR (woM σ n m s p0 m))), some (.int (akR σ n m s p0 q (akQ σ n m s p0 q) r).1), some (.int (akR σ n m s p0 q (akQ σ n m s p0 q) r).2), some (.int (nI q)), some (.int (nI r)), none, none], (vrow (t) 81 f))) (fun r hr ihr => ?_) ?_
        · show V x 55 [some (.ref 75), some (.int (nI p0)), some (.int k), some (.int (woM σ n m s p0 m)), some (.int (bitsR (woM σ n m s p0 m))), some (.int (akR σ n m s p0 q (akQ σ n m s p0 q) r).1), some (.int (akR σ n m s p0 q (akQ σ n m s p0 q) r).2), some (.int (nI q)), some (.int (nI r)), none, none] [] (vrow (t) 81 f)
          have ihr : V x 55 [some (.ref 75), some (.int (nI p0)), some (.int k), some (.int (woM σ n m s p0 m)), some (.int (bitsR (woM σ n m s p0 m))), some (.int (akR σ n m s p0 q (akQ σ n m s p0 q) (r + 1)).1), some (.int (akR σ n m s p0 q (akQ σ n m s p0 q) (r + 1)).2), some (.int (nI q)), some (.int (nI (r + 1))), none, none] [] (vrow (t) 81 f) := ihr
          refine v_iload_11_8 G dX6_ask_55 ?_
          refine v_bipush (v := nI 8) G dX6_ask_57 (by decide) ?_
          refine v_icmp_ge (tgt := 188) G dX6_ask_59 rfl (fun h_59 => absurd h_59 (by exact nI_ge hr (by omega))) (fun h_59 => ?_)
          refine v_iconst (v := nI 0) G dX6_ask_62 (by decide) ?_
          refine v_istore_11_9 G dX6_ask_63 rfl ?_
          refine v_iconst (v := nI 0) G dX6_ask_65 (by decide) ?_
          refine v_istore_11_10 G dX6_ask_66 rfl ?_
          refine v_for (pc := 68) (m) (fun w => ([some (.ref 75), some (.int (nI p0)), some (.int k), some (.int (woM σ n m s p0 m)), some (.int (bitsR (woM σ n m s p0 m))), some (.int (akR σ n m s p0 q (akQ σ n m s p0 q) r).1), some (.int (akR σ n m s p0 q (akQ σ n m s p0 q) r).2), some (.int (nI q)), some (.int (nI r)), some (.int (akC σ n m s p0 q r w)), some (.int (nI w))], (vrow (t) 81 f))) (fun w hw ihw => ?_) ?_
          · show V x 68 [some (.ref 75), some (.int (nI p0)), some (.int k), some (.int (woM σ n m s p0 m)), some (.int (bitsR (woM σ n m s p0 m))), some (.int (akR σ n m s p0 q (akQ σ n m s p0 q) r).1), some (.int (akR σ n m s p0 q (akQ σ n m s p0 q) r).2), some (.int (nI q)), some (.int (nI r)), some (.int (akC σ n m s p0 q r w)), some (.int (nI w))] [] (vrow (t) 81 f)
            have ihw : V x 68 [some (.ref 75), some (.int (nI p0)), some (.int k), some (.int (woM σ n m s p0 m)), some (.int (bitsR (woM σ n m s p0 m))), some (.int (akR σ n m s p0 q (akQ σ n m s p0 q) r).1), some (.int (akR σ n m s p0 q (akQ σ n m s p0 q) r).2), some (.int (nI q)), some (.int (nI r)), some (.int (akC σ n m s p0 q r (w + 1))), some (.int (nI (w + 1)))] [] (vrow (t) 81 f) := ihw
            refine v_iload_11_10 G dX6_ask_68 ?_
            refine v_aload_11_0 G dX6_ask_70 ?_
            refine v_getR G vc_6 lk_X6_7 (fs_X6_0) dX6_ask_71 ?_
            refine v_bipush (v := nI 25) G dX6_ask_74 (by decide) ?_
            refine m_ialdN G (by decide) (as_X6_0) (by first | assumption | omega | exact oneB_in (by assumption) | exact wallB_in (by assumption) | exact oneB_m1 (by assumption) | decide) (by decide) dX6_ask_76 ?_
            refine v_icmp_ge (tgt := 122) G dX6_ask_77 rfl (fun h_77 => absurd h_77 (by rw [ht25]; exact nI_ge hw (by omega))) (fun h_77 => ?_)
            refine v_iload_11_9 G dX6_ask_80 ?_
            refine v_iload_11_3 G dX6_ask_82 ?_
            refine v_iload_11_10 G dX6_ask_83 ?_
            refine v_ishr G dX6_ask_85 ?_
            refine v_iconst (v := nI 1) G dX6_ask_86 (by decide) ?_
            refine v_iand G dX6_ask_87 ?_
            refine v_iconst (v := nI 1) G dX6_ask_88 (by decide) ?_
            refine v_icmp_ne (tgt := 112) G dX6_ask_89 rfl (fun h_89 => ?_) (fun h_89 => ?_)
            · refine v_iconst (v := nI 0) G dX6_ask_112 (by decide) ?_
              refine v_iadd G dX6_ask_113 ?_
              refine v_istore_11_9 G dX6_ask_114 rfl ?_
              refine v_iincN_11_10 G dX6_ask_116 rfl ?_
              refine v_goto (tgt := 68) G dX6_ask_119 rfl ?_
              first
                | (rw [akC, if_pos h_89] at ihw; exact ihw)
                | (rw [akC, if_neg h_89] at ihw; exact ihw)
            · refine v_aload_11_0 G dX6_ask_92 ?_
              refine v_getR G vc_6 lk_X6_31 (fs_X6_26) dX6_ask_93 ?_
              refine v_iconst (v := nI 5) G dX6_ask_96 (by decide) ?_
              refine v_iload_11_10 G dX6_ask_97 ?_
              refine v_imulN G dX6_ask_99 ?_
              refine v_iload_11_7 G dX6_ask_100 ?_
              refine v_iaddN G dX6_ask_102 ?_
              refine m_ialdN G (by decide) (as_X6_26) (by first | assumption | omega | exact oneB_in (by assumption) | exact wallB_in (by assumption) | exact oneB_m1 (by assumption) | decide) (by decide) dX6_ask_103 ?_
              rw [hI.2.2 w hw (woM_bit ⟨hm9, by omega⟩ h_89) q hq]
              refine v_iload_11_8 G dX6_ask_104 ?_
              refine v_ishr G dX6_ask_106 ?_
              refine v_iconst (v := nI 1) G dX6_ask_107 (by decide) ?_
              refine v_iand G dX6_ask_108 ?_
              refine v_goto (tgt := 113) G dX6_ask_109 rfl ?_
              refine v_iadd G dX6_ask_113 ?_
              refine v_istore_11_9 G dX6_ask_114 rfl ?_
              refine v_iincN_11_10 G dX6_ask_116 rfl ?_
              refine v_goto (tgt := 68) G dX6_ask_119 rfl ?_
              first
                | (rw [akC, if_pos h_89] at ihw; exact ihw)
                | (rw [akC, if_neg h_89] at ihw; exact ihw)
          · show V x 68 [some (.ref 75), some (.int (nI p0)), some (.int k), some (.int (woM σ n m s p0 m)), some (.int (bitsR (woM σ n m s p0 m))), some (.int (akR σ n m s p0 q (akQ σ n m s p0 q) r).1), some (.int (akR σ n m s p0 q (akQ σ n m s p0 q) r).2), some (.int (nI q)), some (.int (nI r)), some (.int (akC σ n m s p0 q r m)), some (.int (nI m))] [] (vrow (t) 81 f)
            refine v_iload_11_10 G dX6_ask_68 ?_
            refine v_aload_11_0 G dX6_ask_70 ?_
            refine v_getR G vc_6 lk_X6_7 (fs_X6_0) dX6_ask_71 ?_
            refine v_bipush (v := nI 25) G dX6_ask_74 (by decide) ?_
            refine m_ialdN G (by decide) (as_X6_0) (by first | assumption | omega | exact oneB_in (by assumption) | exact wallB_in (by assumption) | exact oneB_m1 (by assumption) | decide) (by decide) dX6_ask_76 ?_
            refine v_icmp_ge (tgt := 122) G dX6_ask_77 rfl (fun h_77 => ?_) (fun h_77 => absurd (by rw [ht25]; exact nI_le (Nat.le_refl _) (by omega)) h_77)
            refine v_iload_11_9 G dX6_ask_122 ?_
            refine v_iload_11_4 G dX6_ask_124 ?_
            refine v_iload_11_9 G dX6_ask_126 ?_
            refine v_isub G dX6_ask_128 ?_
            refine v_icmp_le (tgt := 137) G dX6_ask_129 rfl (fun h_129 => ?_) (fun h_129 => ?_)
            · refine v_iload_11_4 G dX6_ask_137 ?_
              refine v_iload_11_9 G dX6_ask_139 ?_
              refine v_isub G dX6_ask_141 ?_
              refine v_istore_11_10 G dX6_ask_142 rfl ?_
              refine v_iload_11_10 G dX6_ask_144 ?_
              refine v_iload_11_5 G dX6_ask_146 ?_
              refine v_icmp_ge (tgt := 162) G dX6_ask_148 rfl (fun h_148 => ?_) (fun h_148 => ?_)
              · refine v_iload_11_6 G dX6_ask_162 ?_
                refine v_istore_11_6 G dX6_ask_164 rfl ?_
                refine v_iload_11_10 G dX6_ask_166 ?_
                refine v_iload_11_5 G dX6_ask_168 ?_
                refine v_icmp_ge (tgt := 178) G dX6_ask_170 rfl (fun h_170 => ?_) (fun h_170 => ?_)
                · refine v_iload_11_5 G dX6_ask_178 ?_
                  refine v_istore_11_5 G dX6_ask_180 rfl ?_
                  refine v_iincN_11_8 G dX6_ask_182 rfl ?_
                  refine v_goto (tgt := 55) G dX6_ask_185 rfl ?_
                  first
                    | contradiction
                    | (rw [akR, akX, if_pos h_129] at ihr; simp only [h_77, h_148, h_170, if_true, if_false, reduceIte] at ihr; exact V.drop (by simp only [vsubP, and_self]) ihr)
                    | (rw [akR, akX, if_neg h_129] at ihr; simp only [h_77, h_148, h_170, if_true, if_false, reduceIte] at ihr; exact V.drop (by simp only [vsubP, and_self]) ihr)
                · refine v_iload_11_10 G dX6_ask_173 ?_
                  refine v_goto (tgt := 180) G dX6_ask_175 rfl ?_
                  refine v_istore_11_5 G dX6_ask_180 rfl ?_
                  refine v_iincN_11_8 G dX6_ask_182 rfl ?_
                  refine v_goto (tgt := 55) G dX6_ask_185 rfl ?_
                  first
                    | contradiction
                    | (rw [akR, akX, if_pos h_129] at ihr; simp only [h_77, h_148, h_170, if_true, if_false, reduceIte] at ihr; exact V.drop (by simp only [vsubP, and_self]) ihr)
                    | (rw [akR, akX, if_neg h_129] at ihr; simp only [h_77, h_148, h_170, if_true, if_false, reduceIte] at ihr; exact V.drop (by simp only [vsubP, and_self]) ihr)
              · refine v_bipush (v := nI 10) G dX6_ask_151 (by decide) ?_
                refine v_iload_11_7 G dX6_ask_153 ?_
                refine v_imulN G dX6_ask_155 ?_
                refine v_iload_11_8 G dX6_ask_156 ?_
                refine v_iaddN G dX6_ask_158 ?_
                refine v_goto (tgt := 164) G dX6_ask_159 rfl ?_
                refine v_istore_11_6 G dX6_ask_164 rfl ?_
                refine v_iload_11_10 G dX6_ask_166 ?_
                refine v_iload_11_5 G dX6_ask_168 ?_
                refine v_icmp_ge (tgt := 178) G dX6_ask_170 rfl (fun h_170 => ?_) (fun h_170 => ?_)
                · refine v_iload_11_5 G dX6_ask_178 ?_
                  refine v_istore_11_5 G dX6_ask_180 rfl ?_
                  refine v_iincN_11_8 G dX6_ask_182 rfl ?_
                  refine v_goto (tgt := 55) G dX6_ask_185 rfl ?_
                  first
                    | contradiction
                    | (rw [akR, akX, if_pos h_129] at ihr; simp only [h_77, h_148, h_170, if_true, if_false, reduceIte] at ihr; exact V.drop (by simp only [vsubP, and_self]) ihr)
                    | (rw [akR, akX, if_neg h_129] at ihr; simp only [h_77, h_148, h_170, if_true, if_false, reduceIte] at ihr; exact V.drop (by simp only [vsubP, and_self]) ihr)
                · refine v_iload_11_10 G dX6_ask_173 ?_
                  refine v_goto (tgt := 180) G dX6_ask_175 rfl ?_
                  refine v_istore_11_5 G dX6_ask_180 rfl ?_
                  refine v_iincN_11_8 G dX6_ask_182 rfl ?_
                  refine v_goto (tgt := 55) G dX6_ask_185 rfl ?_
                  first
                    | contradiction
                    | (rw [akR, akX, if_pos h_129] at ihr; simp only [h_77, h_148, h_170, if_true, if_false, reduceIte] at ihr; exact V.drop (by simp only [vsubP, and_self]) ihr)
                    | (rw [akR, akX, if_neg h_129] at ihr; simp only [h_77, h_148, h_170, if_true, if_false, reduceIte] at ihr; exact V.drop (by simp only [vsubP, and_self]) ihr)
            · refine v_iload_11_9 G dX6_ask_132 ?_
              refine v_goto (tgt := 142) G dX6_ask_134 rfl ?_
              refine v_istore_11_10 G dX6_ask_142 rfl ?_
              refine v_iload_11_10 G dX6_ask_144 ?_
              refine v_iload_11_5 G dX6_ask_146 ?_
              refine v_icmp_ge (tgt := 162) G dX6_ask_148 rfl (fun h_148 => ?_) (fun h_148 => ?_)
              · refine v_iload_11_6 G dX6_ask_162 ?_
                refine v_istore_11_6 G dX6_ask_164 rfl ?_
                refine v_iload_11_10 G dX6_ask_166 ?_
                refine v_iload_11_5 G dX6_ask_168 ?_
                refine v_icmp_ge (tgt := 178) G dX6_ask_170 rfl (fun h_170 => ?_) (fun h_170 => ?_)
                · refine v_iload_11_5 G dX6_ask_178 ?_
                  refine v_istore_11_5 G dX6_ask_180 rfl ?_
                  refine v_iincN_11_8 G dX6_ask_182 rfl ?_
                  refine v_goto (tgt := 55) G dX6_ask_185 rfl ?_
                  first
                    | contradiction
                    | (rw [akR, akX, if_pos h_129] at ihr; simp only [h_77, h_148, h_170, if_true, if_false, reduceIte] at ihr; exact V.drop (by simp only [vsubP, and_self]) ihr)
                    | (rw [akR, akX, if_neg h_129] at ihr; simp only [h_77, h_148, h_170, if_true, if_false, reduceIte] at ihr; exact V.drop (by simp only [vsubP, and_self]) ihr)
                · refine v_iload_11_10 G dX6_ask_173 ?_
                  refine v_goto (tgt := 180) G dX6_ask_175 rfl ?_
                  refine v_istore_11_5 G dX6_ask_180 rfl ?_
                  refine v_iincN_11_8 G dX6_ask_182 rfl ?_
                  refine v_goto (tgt := 55) G dX6_ask_185 rfl ?_
                  first
                    | contradiction
                    | (rw [akR, akX, if_pos h_129] at ihr; simp only [h_77, h_148, h_170, if_true, if_false, reduceIte] at ihr; exact V.drop (by simp only [vsubP, and_self]) ihr)
                    | (rw [akR, akX, if_neg h_129] at ihr; simp only [h_77, h_148, h_170, if_true, if_false, reduceIte] at ihr; exact V.drop (by simp only [vsubP, and_self]) ihr)
              · refine v_bipush (v := nI 10) G dX6_ask_151 (by decide) ?_
                refine v_iload_11_7 G dX6_ask_153 ?_
                refine v_imulN G dX6_ask_155 ?_
                refine v_iload_11_8 G dX6_ask_156 ?_
                refine v_iaddN G dX6_ask_158 ?_
                refine v_goto (tgt := 164) G dX6_ask_159 rfl ?_
                refine v_istore_11_6 G dX6_ask_164 rfl ?_
                refine v_iload_11_10 G dX6_ask_166 ?_
                refine v_iload_11_5 G dX6_ask_168 ?_
                refine v_icmp_ge (tgt := 178) G dX6_ask_170 rfl (fun h_170 => ?_) (fun h_170 => ?_)
                · refine v_iload_11_5 G dX6_ask_178 ?_
                  refine v_istore_11_5 G dX6_ask_180 rfl ?_
                  refine v_iincN_11_8 G dX6_ask_182 rfl ?_
                  refine v_goto (tgt := 55) G dX6_ask_185 rfl ?_
                  first
                    | contradiction
                    | (rw [akR, akX, if_pos h_129] at ihr; simp only [h_77, h_148, h_170, if_true, if_false, reduceIte] at ihr; exact V.drop (by simp only [vsubP, and_self]) ihr)
                    | (rw [akR, akX, if_neg h_129] at ihr; simp only [h_77, h_148, h_170, if_true, if_false, reduceIte] at ihr; exact V.drop (by simp only [vsubP, and_self]) ihr)
                · refine v_iload_11_10 G dX6_ask_173 ?_
                  refine v_goto (tgt := 180) G dX6_ask_175 rfl ?_
                  refine v_istore_11_5 G dX6_ask_180 rfl ?_
                  refine v_iincN_11_8 G dX6_ask_182 rfl ?_
                  refine v_goto (tgt := 55) G dX6_ask_185 rfl ?_
                  first
                    | contradiction
                    | (rw [akR, akX, if_pos h_129] at ihr; simp only [h_77, h_148, h_170, if_true, if_false, reduceIte] at ihr; exact V.drop (by simp only [vsubP, and_self]) ihr)
                    | (rw [akR, akX, if_neg h_129] at ihr; simp only [h_77, h_148, h_170, if_true, if_false, reduceIte] at ihr; exact V.drop (by simp only [vsubP, and_self]) ihr)
        · show V x 55 [some (.ref 75), some (.int (nI p0)), some (.int k), some (.int (woM σ n m s p0 m)), some (.int (bitsR (woM σ n m s p0 m))), some (.int (akR σ n m s p0 q (akQ σ n m s p0 q) 8).1), some (.int (akR σ n m s p0 q (akQ σ n m s p0 q) 8).2), some (.int (nI q)), some (.int (nI 8)), none, none] [] (vrow (t) 81 f)
          refine v_iload_11_8 G dX6_ask_55 ?_
          refine v_bipush (v := nI 8) G dX6_ask_57 (by decide) ?_
          refine v_icmp_ge (tgt := 188) G dX6_ask_59 rfl (fun h_59 => ?_) (fun h_59 => absurd (by exact nI_le (Nat.le_refl _) (by omega)) h_59)
          refine v_iincN_11_7 G dX6_ask_188 rfl ?_
          refine v_goto (tgt := 43) G dX6_ask_191 rfl ?_
          refine V.drop ?_ ihq
          exact ⟨rfl, rfl, rfl, rfl, rfl, rfl, rfl, rfl, trivial⟩
      · show V x 43 [some (.ref 75), some (.int (nI p0)), some (.int k), some (.int (woM σ n m s p0 m)), some (.int (bitsR (woM σ n m s p0 m))), some (.int (akQ σ n m s p0 n).1), some (.int (akQ σ n m s p0 n).2), some (.int (nI n)), none, none, none] [] (vrow (t) 81 f)
        refine v_iload_11_7 G dX6_ask_43 ?_
        refine v_aload_11_0 G dX6_ask_45 ?_
        refine m_getI G (by decide) vc_6 lk_X6_144 fs_X6_1 dX6_ask_46 ?_
        refine v_icmp_ge (tgt := 194) G dX6_ask_49 rfl (fun h_49 => ?_) (fun h_49 => absurd (by rw [htn]; exact nI_le (Nat.le_refl _) (by omega)) h_49)
        refine v_iload_11_6 G dX6_ask_194 ?_
        refine v_bipush (v := (-4)) G dX6_ask_196 (by decide) ?_
        refine v_icmp_eq (tgt := 205) G dX6_ask_198 rfl (fun h_198 => ?_) (fun h_198 => ?_)
        · refine v_iload_11_6 G dX6_ask_205 ?_
          refine v_goto (tgt := 212) G dX6_ask_207 rfl ?_
          exact v_iret G hQ dX6_ask_212 (vT.of (by simp only [mAskR, h_5, cp0, h_15, lstR, h_49, h_198, if_true, if_false, reduceIte] <;> try rfl) hI.1)
        · refine v_iload_11_2 G dX6_ask_201 ?_
          refine v_if_ne (tgt := 210) G dX6_ask_202 rfl (fun h_202 => ?_) (fun h_202 => ?_)
          · refine v_iload_11_5 G dX6_ask_210 ?_
            exact v_iret G hQ dX6_ask_212 (vT.of (by simp only [mAskR, h_5, cp0, h_15, lstR, h_49, h_198, h_202, if_true, if_false, reduceIte] <;> try rfl) hI.1)
          · refine v_iload_11_6 G dX6_ask_205 ?_
            refine v_goto (tgt := 212) G dX6_ask_207 rfl ?_
            exact v_iret G hQ dX6_ask_212 (vT.of (by simp only [mAskR, h_5, cp0, h_15, lstR, h_49, h_198, h_202, if_true, if_false, reduceIte] <;> try rfl) hI.1)
    · refine v_iconst (v := (-1)) G dX6_ask_18 (by decide) ?_
      exact v_iret G hQ dX6_ask_19 (vT.of (by simp only [mAskR, bI, h_5, cp0, h_15, if_true, if_false, Bool.false_eq_true, reduceIte] <;> try rfl) (scr_refl σ))
