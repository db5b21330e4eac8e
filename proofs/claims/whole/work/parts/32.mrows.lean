/-! The model: its row of distances (place 81) is set apart -/
theorem vset_vrow {σ : vW} {f : Nat → Int32} {r i : Nat} {v : Int32} (h : r ≠ 81) : vset (vrow σ 81 f) r i v = vrow (vset σ r i v) 81 f := by
  funext a j
  by_cases h1 : a = 81
  · subst h1
    have h2 : ¬ (81 = r ∧ j = i) := fun q => h q.1.symm
    simp only [vset, vrow, if_true, if_neg h2]
  · simp only [vset, vrow, if_neg h1]
def upF (f : Nat → Int32) (i : Nat) (v : Int32) : Nat → Int32 := upd f i v
section VM
variable {x : vX} {own : String} {cc : ByteArray} {nL dd : Nat} {ret : Option FieldType} {pc : Nat} {L : List (Option Value)} {st : List Value} {σ : vW} {f : Nat → Int32}
theorem m_getI {r ci k idx : Nat} (G : vG x own cc nL ret dd) (hr : r ≠ 81) (hC : vClsOk ci) (lk : vLk own idx ci k) (fs : vFs r ci k none) (dg : decode cc pc = .ok (.getfield idx, 3)) (k0 : V x (pc + 3) L (.int (σ r k) :: st) (vrow σ 81 f)) : V x pc L (.ref r :: st) (vrow σ 81 f) := v_getI G hC lk fs dg (by rw [vrow_ne hr]; exact k0)
theorem m_putI {r ci k idx : Nat} {v : Int32} {ty0 : Nat → FieldType} (G : vG x own cc nL ret dd) (hr : r ≠ 81) (hC : vClsOk ci) (hT : vTyOk ci ty0) (lk : vLk own idx ci k) (fs : vFs r ci k none) (hf : vFit ci k v) (dg : decode cc pc = .ok (.putfield idx, 3)) (k0 : V x (pc + 3) L st (vrow (vset σ r k v) 81 f)) : V x pc L (.int v :: .ref r :: st) (vrow σ 81 f) := v_putI G hC hT lk fs hf dg (by rw [vset_vrow hr]; exact k0)
theorem m_iald {r n : Nat} {i : Int32} (G : vG x own cc nL ret dd) (hr : r ≠ 81) (as : vAs r 0 n) (hin : vp_in i n) (dg : decode cc pc = .ok (.iaload, 1)) (k0 : V x (pc + 1) L (.int (σ r i.toNatClampNeg) :: st) (vrow σ 81 f)) : V x pc L (.int i :: .ref r :: st) (vrow σ 81 f) := v_iald G as hin dg (by rw [vrow_ne hr]; exact k0)
theorem m_ialdN {r n i : Nat} (G : vG x own cc nL ret dd) (hr : r ≠ 81) (as : vAs r 0 n) (hin : i < n) (hn : n < 2147483648) (dg : decode cc pc = .ok (.iaload, 1)) (k0 : V x (pc + 1) L (.int (σ r i) :: st) (vrow σ 81 f)) : V x pc L (.int (nI i) :: .ref r :: st) (vrow σ 81 f) := v_ialdN G as hin hn dg (by rw [vrow_ne hr]; exact k0)
theorem m_zaldN {r n i : Nat} (G : vG x own cc nL ret dd) (hr : r ≠ 81) (as : vAs r 2 n) (hin : i < n) (hn : n < 2147483648) (dg : decode cc pc = .ok (.baload, 1)) (k0 : V x (pc + 1) L (.int (σ r i) :: st) (vrow σ 81 f)) : V x pc L (.int (nI i) :: .ref r :: st) (vrow σ 81 f) := v_zaldN G as hin hn dg (by rw [vrow_ne hr]; exact k0)
theorem m_iast {r n : Nat} {i v : Int32} (G : vG x own cc nL ret dd) (hr : r ≠ 81) (as : vAs r 0 n) (hin : vp_in i n) (dg : decode cc pc = .ok (.iastore, 1)) (k0 : V x (pc + 1) L st (vrow (vset σ r i.toNatClampNeg v) 81 f)) : V x pc L (.int v :: .int i :: .ref r :: st) (vrow σ 81 f) := v_iast G as hin dg (by rw [vset_vrow hr]; exact k0)
theorem m_iastN {r n i : Nat} {v : Int32} (G : vG x own cc nL ret dd) (hr : r ≠ 81) (as : vAs r 0 n) (hin : i < n) (hn : n < 2147483648) (dg : decode cc pc = .ok (.iastore, 1)) (k0 : V x (pc + 1) L st (vrow (vset σ r i v) 81 f)) : V x pc L (.int v :: .int (nI i) :: .ref r :: st) (vrow σ 81 f) := v_iastN G as hin hn dg (by rw [vset_vrow hr]; exact k0)
theorem m_zastN {r n i : Nat} {v : Int32} (G : vG x own cc nL ret dd) (hr : r ≠ 81) (as : vAs r 2 n) (hin : i < n) (hn : n < 2147483648) (hv : v = 0 ∨ v = 1) (dg : decode cc pc = .ok (.bastore, 1)) (k0 : V x (pc + 1) L st (vrow (vset σ r i v) 81 f)) : V x pc L (.int v :: .int (nI i) :: .ref r :: st) (vrow σ 81 f) := v_zastN G as hin hn hv dg (by rw [vset_vrow hr]; exact k0)
theorem m_faldN {i : Nat} (G : vG x own cc nL ret dd) (hin : i < 8) (dg : decode cc pc = .ok (.iaload, 1)) (k0 : V x (pc + 1) L (.int (f i) :: st) (vrow σ 81 f)) : V x pc L (.int (nI i) :: .ref 81 :: st) (vrow σ 81 f) := v_ialdN G as_X6_21 hin (by decide) dg (by rw [vrow_at]; exact k0)
theorem m_fald {i : Int32} (G : vG x own cc nL ret dd) (hin : vp_in i 8) (dg : decode cc pc = .ok (.iaload, 1)) (k0 : V x (pc + 1) L (.int (f i.toNatClampNeg) :: st) (vrow σ 81 f)) : V x pc L (.int i :: .ref 81 :: st) (vrow σ 81 f) := v_iald G as_X6_21 hin dg (by rw [vrow_at]; exact k0)
theorem m_fastN {i : Nat} {v : Int32} (G : vG x own cc nL ret dd) (hin : i < 8) (dg : decode cc pc = .ok (.iastore, 1)) (k0 : V x (pc + 1) L st (vrow σ 81 (upF f i v))) : V x pc L (.int v :: .int (nI i) :: .ref 81 :: st) (vrow σ 81 f) := v_iastN G as_X6_21 hin (by decide) dg (by rw [vset_row, vrow_row, vrow_at]; exact k0)
/-- an answer, and the world but for the row of distances -/
def vFar (r : Option Value) (s : vW) : Option Value → vW → Prop := fun a b => a = r ∧ ∃ g, b = vrow s 81 g
theorem vFar.mk {r : Option Value} {s : vW} {g : Nat → Int32} : vFar r s r (vrow s 81 g) := ⟨rfl, g, rfl⟩
theorem vFar.of {r r' : Option Value} {s s' : vW} {g : Nat → Int32} (h : r' = r) (h2 : s' = s) : vFar r s r' (vrow s' 81 g) := ⟨h, g, by rw [h2]⟩
theorem v_cE1 {mi : vMI} {b d idx : Nat} {a1 : Value} {v : Value} {s' : vW} (G : vG x own cc nL ret dd) (C : Ctr mi d (.ref b :: [a1]) (vrow σ 81 f) (vFar (some v) s')) (hd : d < dd) (md : vMd mi 1) (hi : vIn mi) (rv : vRv b mi) (lk : Cond.methodLink own idx mi.1 ∈ BIG) (hw : (st.map fun v => v.category).sum ≤ 8) (dg : decode cc pc = .ok (.invokevirtual idx, 3)) (k0 : ∀ f, V x (pc + 3) L (v :: st) (vrow s' 81 f)) : V x pc L (a1 :: .ref b :: st) (vrow σ 81 f) := v_callV (av := [a1]) G C hd md hi rv lk rfl hw dg (by rintro _ _ ⟨rfl, g, rfl⟩; exact k0 g)
theorem v_cE1v {mi : vMI} {b d idx : Nat} {a1 : Value} {s' : vW} (G : vG x own cc nL ret dd) (C : Ctr mi d (.ref b :: [a1]) (vrow σ 81 f) (vFar none s')) (hd : d < dd) (md : vMd mi 1) (hi : vIn mi) (rv : vRv b mi) (lk : Cond.methodLink own idx mi.1 ∈ BIG) (hw : (st.map fun v => v.category).sum ≤ 8) (dg : decode cc pc = .ok (.invokevirtual idx, 3)) (k0 : ∀ f, V x (pc + 3) L st (vrow s' 81 f)) : V x pc L (a1 :: .ref b :: st) (vrow σ 81 f) := v_callV (av := [a1]) G C hd md hi rv lk rfl hw dg (by rintro _ _ ⟨rfl, g, rfl⟩; exact k0 g)
theorem v_cE2 {mi : vMI} {b d idx : Nat} {a1 a2 : Value} {v : Value} {s' : vW} (G : vG x own cc nL ret dd) (C : Ctr mi d (.ref b :: [a1, a2]) (vrow σ 81 f) (vFar (some v) s')) (hd : d < dd) (md : vMd mi 2) (hi : vIn mi) (rv : vRv b mi) (lk : Cond.methodLink own idx mi.1 ∈ BIG) (hw : (st.map fun v => v.category).sum ≤ 8) (dg : decode cc pc = .ok (.invokevirtual idx, 3)) (k0 : ∀ f, V x (pc + 3) L (v :: st) (vrow s' 81 f)) : V x pc L (a2 :: a1 :: .ref b :: st) (vrow σ 81 f) := v_callV (av := [a1, a2]) G C hd md hi rv lk rfl hw dg (by rintro _ _ ⟨rfl, g, rfl⟩; exact k0 g)
theorem v_cE3 {mi : vMI} {b d idx : Nat} {a1 a2 a3 : Value} {v : Value} {s' : vW} (G : vG x own cc nL ret dd) (C : Ctr mi d (.ref b :: [a1, a2, a3]) (vrow σ 81 f) (vFar (some v) s')) (hd : d < dd) (md : vMd mi 3) (hi : vIn mi) (rv : vRv b mi) (lk : Cond.methodLink own idx mi.1 ∈ BIG) (hw : (st.map fun v => v.category).sum ≤ 8) (dg : decode cc pc = .ok (.invokevirtual idx, 3)) (k0 : ∀ f, V x (pc + 3) L (v :: st) (vrow s' 81 f)) : V x pc L (a3 :: a2 :: a1 :: .ref b :: st) (vrow σ 81 f) := v_callV (av := [a1, a2, a3]) G C hd md hi rv lk rfl hw dg (by rintro _ _ ⟨rfl, g, rfl⟩; exact k0 g)
theorem v_cE4 {mi : vMI} {b d idx : Nat} {a1 a2 a3 a4 : Value} {v : Value} {s' : vW} (G : vG x own cc nL ret dd) (C : Ctr mi d (.ref b :: [a1, a2, a3, a4]) (vrow σ 81 f) (vFar (some v) s')) (hd : d < dd) (md : vMd mi 4) (hi : vIn mi) (rv : vRv b mi) (lk : Cond.methodLink own idx mi.1 ∈ BIG) (hw : (st.map fun v => v.category).sum ≤ 8) (dg : decode cc pc = .ok (.invokevirtual idx, 3)) (k0 : ∀ f, V x (pc + 3) L (v :: st) (vrow s' 81 f)) : V x pc L (a4 :: a3 :: a2 :: a1 :: .ref b :: st) (vrow σ 81 f) := v_callV (av := [a1, a2, a3, a4]) G C hd md hi rv lk rfl hw dg (by rintro _ _ ⟨rfl, g, rfl⟩; exact k0 g)
/-- rounds, whatever the distances -/
theorem v_forF (n : Nat) (S : Nat → List (Option Value) × vW) (hs : ∀ k, k < n → (∀ f, V x pc (S (k + 1)).1 [] (vrow (S (k + 1)).2 81 f)) → ∀ f, V x pc (S k).1 [] (vrow (S k).2 81 f)) (he : ∀ f, V x pc (S n).1 [] (vrow (S n).2 81 f)) : ∀ f, V x pc (S 0).1 [] (vrow (S 0).2 81 f) := by
  have h : ∀ j, j ≤ n → ∀ f, V x pc (S (n - j)).1 [] (vrow (S (n - j)).2 81 f) := by
    intro j
    induction j with
    | zero => intro _; exact he
    | succ j ih =>
      intro hj
      have h1 := hs (n - (j + 1)) (by omega)
      rw [show n - (j + 1) + 1 = n - j by omega] at h1
      exact h1 (ih (by omega))
  have h2 := h n (Nat.le_refl n)
  rwa [Nat.sub_self] at h2
theorem v_forFP (n : Nat) (P : Nat → Prop) (S : Nat → List (Option Value) × vW) (h0 : P 0) (hs : ∀ k, k < n → P k → (P (k + 1) → ∀ f, V x pc (S (k + 1)).1 [] (vrow (S (k + 1)).2 81 f)) → ∀ f, V x pc (S k).1 [] (vrow (S k).2 81 f)) (he : P n → ∀ f, V x pc (S n).1 [] (vrow (S n).2 81 f)) : ∀ f, V x pc (S 0).1 [] (vrow (S 0).2 81 f) := by
  have h : ∀ j, j ≤ n → P (n - j) → ∀ f, V x pc (S (n - j)).1 [] (vrow (S (n - j)).2 81 f) := by
    intro j
    induction j with
    | zero => intro _; exact he
    | succ j ih =>
      intro hj hp
      have h1 := hs (n - (j + 1)) (by omega) hp
      rw [show n - (j + 1) + 1 = n - j by omega] at h1
      exact h1 (ih (by omega))
  have h2 := h n (Nat.le_refl n)
  rw [Nat.sub_self] at h2
  exact h2 h0
end VM
/-! a number within bounds -/
def inL (x lo hi : Int64) : Bool := decide (lo.toInt ≤ x.toInt ∧ x.toInt ≤ hi.toInt)
def inZ (a : Int32) (k : Nat) : Bool := decide (0 ≤ a.toInt ∧ a.toInt < (k : Int))
theorem cm_lt_iff {x y : Int64} : lg_cmp x y < 0 ↔ x.toInt < y.toInt := ⟨cm_lt, fun h => by
  rcases Classical.em (lg_cmp x y < 0) with q | q
  · exact q
  · have := cm_nlt q
    omega⟩
theorem cm_gt_iff {x y : Int64} : 0 < lg_cmp x y ↔ y.toInt < x.toInt := by
  unfold lg_cmp
  have e : x > y ↔ y.toInt < x.toInt := Int64.lt_iff_toInt_lt
  constructor
  · intro h
    split at h
    · rename_i h1
      exact e.mp h1
    · split at h
      · exact absurd h (by decide)
      · exact absurd h (by decide)
  · intro h
    rw [if_pos (e.mpr h)]
    decide
set_option maxHeartbeats 4000000 in
theorem C_X6_in {σ : vW} {a lo hi : Int64} : Ctr mX6_in 0 [.long a, .long lo, .long hi] σ (vDet (some (.int (bI (inL a lo hi)))) σ) := by
  refine Ctr.intro (by decide) (fun α => Nat.le_of_ble_eq_true rfl) (fun x G hQ => ?_)
  have G : vG x RX6 cX6_in 6 (some .boolean) 0 := G
  show V x 0 [some (.long a), none, some (.long lo), none, some (.long hi), none] [] σ
  refine v_lload_6_0 G dX6_in_0 ?_
  refine v_lload_6_2 G dX6_in_1 ?_
  refine v_lcmp G dX6_in_2 ?_
  refine v_if_lt (tgt := 17) G dX6_in_3 rfl (fun h_3 => ?_) (fun h_3 => ?_)
  · refine v_iconst (v := nI 0) G dX6_in_17 (by decide) ?_
    exact v_zret G hQ dX6_in_18 (by first | exact Or.inl rfl | exact Or.inr rfl | exact bI_01 _ | assumption) (vDet.of (by first | (rw [show inL a lo hi = true from decide_eq_true ⟨Int.not_lt.mp (fun q => h_3 (cm_lt_iff.mpr q)), Int.not_lt.mp (fun q => h_10 (cm_gt_iff.mpr q))⟩]; rfl) | (rw [show inL a lo hi = false from decide_eq_false (fun q => absurd (cm_lt h_3) (Int.not_lt.mpr q.1))]; rfl) | (rw [show inL a lo hi = false from decide_eq_false (fun q => absurd (cm_gt_iff.mp h_10) (Int.not_lt.mpr q.2))]; rfl)) rfl)
  · refine v_lload_6_0 G dX6_in_6 ?_
    refine v_lload_6_4 G dX6_in_7 ?_
    refine v_lcmp G dX6_in_9 ?_
    refine v_if_gt (tgt := 17) G dX6_in_10 rfl (fun h_10 => ?_) (fun h_10 => ?_)
    · refine v_iconst (v := nI 0) G dX6_in_17 (by decide) ?_
      exact v_zret G hQ dX6_in_18 (by first | exact Or.inl rfl | exact Or.inr rfl | exact bI_01 _ | assumption) (vDet.of (by first | (rw [show inL a lo hi = true from decide_eq_true ⟨Int.not_lt.mp (fun q => h_3 (cm_lt_iff.mpr q)), Int.not_lt.mp (fun q => h_10 (cm_gt_iff.mpr q))⟩]; rfl) | (rw [show inL a lo hi = false from decide_eq_false (fun q => absurd (cm_lt h_3) (Int.not_lt.mpr q.1))]; rfl) | (rw [show inL a lo hi = false from decide_eq_false (fun q => absurd (cm_gt_iff.mp h_10) (Int.not_lt.mpr q.2))]; rfl)) rfl)
    · refine v_iconst (v := nI 1) G dX6_in_13 (by decide) ?_
      refine v_goto (tgt := 18) G dX6_in_14 rfl ?_
      exact v_zret G hQ dX6_in_18 (by first | exact Or.inl rfl | exact Or.inr rfl | exact bI_01 _ | assumption) (vDet.of (by first | (rw [show inL a lo hi = true from decide_eq_true ⟨Int.not_lt.mp (fun q => h_3 (cm_lt_iff.mpr q)), Int.not_lt.mp (fun q => h_10 (cm_gt_iff.mpr q))⟩]; rfl) | (rw [show inL a lo hi = false from decide_eq_false (fun q => absurd (cm_lt h_3) (Int.not_lt.mpr q.1))]; rfl) | (rw [show inL a lo hi = false from decide_eq_false (fun q => absurd (cm_gt_iff.mp h_10) (Int.not_lt.mpr q.2))]; rfl)) rfl)
theorem vset_at {σ : vW} {a i : Nat} {v : Int32} : (vset σ a i v) a i = v := by simp [vset]
theorem lN0_toInt : (lN 0).toInt = 0 := by decide
theorem C_inK {σ : vW} {a : Int32} {h : Int64} (k : Nat) (hh : h.toInt + 1 = (k : Int)) : Ctr mX6_in 0 [.long a.toInt64, .long (lN 0), .long h] σ (vDet (some (.int (bI (inZ a k)))) σ) := by
  have e : inZ a k = inL a.toInt64 (lN 0) h := by
    unfold inZ inL
    rw [Int32.toInt_toInt64, lN0_toInt]
    congr 1
    apply propext
    constructor <;> intro q <;> omega
  rw [e]
  exact C_X6_in
theorem inK_1 {n : Nat} (h : n < 1000) : (nI n - nI 1).toInt64.toInt + 1 = (n : Int) := by
  rw [Int32.toInt_toInt64]
  rcases Nat.eq_zero_or_pos n with e | e
  · subst e; decide
  · have e2 : nI n - nI 1 = nI (n - 1) := by
      have e3 : nI n = nI (n - 1) + nI 1 := (congrArg nI (show n = (n - 1) + 1 by omega)).trans (nI_add _ _).symm
      rw [e3]
      exact Int32.add_sub_cancel _ _
    rw [e2, nI_toInt (by omega)]
    omega
theorem inK_0 {n : Nat} (h : n < 1000) : (nI n).toInt64.toInt + 1 = ((n + 1 : Nat) : Int) := by
  rw [Int32.toInt_toInt64, nI_toInt (by omega)]
  omega
theorem inZ_ex {a : Int32} {k : Nat} (h : inZ a k = true) (hk : k < 1000) : ∃ j, j < k ∧ a = nI j := by
  have h := of_decide_eq_true h
  refine ⟨a.toInt.toNat, by omega, ?_⟩
  rw [← Int32.toInt_inj, nI_toInt (by omega)]
  omega
theorem inZ_nI {j k : Nat} (h : j < 1000) : inZ (nI j) k = decide (j < k) := by
  unfold inZ
  rw [nI_toInt (by omega)]
  congr 1
  apply propext
  constructor <;> intro q <;> omega
