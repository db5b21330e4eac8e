/-! The JDK's methods that the class calls; small static ones of the class -/
def ushr (a b : Int32) : Int32 := (a.toUInt32 >>> (b.toUInt32 &&& Int32.toUInt32 31)).toInt32
def bcA (i : Int32) : Int32 := i - (ushr i (nI 1) &&& 1431655765)
def bcB (i : Int32) : Int32 := (i &&& 858993459) + (ushr i (nI 2) &&& 858993459)
def bcC (i : Int32) : Int32 := (i + ushr i (nI 4)) &&& 252645135
def bcD (i : Int32) : Int32 := i + ushr i (nI 8)
def bcE (i : Int32) : Int32 := i + ushr i (nI 16)
def bitCnt (i : Int32) : Int32 := bcE (bcD (bcC (bcB (bcA i)))) &&& nI 63
def bcN (i : Int32) : Nat := (bitCnt i).toNatClampNeg
theorem bcN_lt (i : Int32) : bcN i < 64 ∧ bitCnt i = nI (bcN i) := by
  obtain ⟨n, hn, e⟩ := wb_of32 (bcE (bcD (bcC (bcB (bcA i)))))
  have e2 : bitCnt i = nI (n % 2 ^ 6) := by
    rw [bitCnt, e]
    exact fa_mask n 6
  have h : n % 2 ^ 6 < 64 := Nat.mod_lt _ (by decide)
  have e3 : bcN i = n % 2 ^ 6 := by rw [bcN, e2, nI_clamp (by omega)]
  rw [e3, e2]
  exact ⟨h, rfl⟩
set_option maxHeartbeats 4000000 in
theorem C_bitCount {σ : vW} {i : Int32} : Ctr mJ6_bitCount_0f7a4 0 [.int i] σ (vDet (some (.int (nI (bcN i)))) σ) := by
  refine Ctr.intro (by decide) (fun α => Nat.le_of_ble_eq_true rfl) (fun x G hQ => ?_)
  have G : vG x RJ6 cJ6_bitCount_0f7a4 1 (some .int) 0 := G
  show V x 0 [some (.int i)] [] σ
  refine v_iload_1_0 G dJ6_bitCount_0f7a4_0 ?_
  refine v_iload_1_0 G dJ6_bitCount_0f7a4_1 ?_
  refine v_iconst (v := nI 1) G dJ6_bitCount_0f7a4_2 (by decide) ?_
  refine v_iushr G dJ6_bitCount_0f7a4_3 ?_
  refine v_ldc_w G ct_J6_265 dJ6_bitCount_0f7a4_4 ?_
  refine v_iand G dJ6_bitCount_0f7a4_7 ?_
  refine v_isub G dJ6_bitCount_0f7a4_8 ?_
  refine v_istore_1_0 G dJ6_bitCount_0f7a4_9 rfl ?_
  show V x 10 [some (.int (bcA i))] [] σ
  generalize hi1 : bcA i = i1
  refine v_iload_1_0 G dJ6_bitCount_0f7a4_10 ?_
  refine v_ldc_w G ct_J6_266 dJ6_bitCount_0f7a4_11 ?_
  refine v_iand G dJ6_bitCount_0f7a4_14 ?_
  refine v_iload_1_0 G dJ6_bitCount_0f7a4_15 ?_
  refine v_iconst (v := nI 2) G dJ6_bitCount_0f7a4_16 (by decide) ?_
  refine v_iushr G dJ6_bitCount_0f7a4_17 ?_
  refine v_ldc_w G ct_J6_266 dJ6_bitCount_0f7a4_18 ?_
  refine v_iand G dJ6_bitCount_0f7a4_21 ?_
  refine v_iadd G dJ6_bitCount_0f7a4_22 ?_
  refine v_istore_1_0 G dJ6_bitCount_0f7a4_23 rfl ?_
  show V x 24 [some (.int (bcB i1))] [] σ
  generalize hi2 : bcB i1 = i2
  refine v_iload_1_0 G dJ6_bitCount_0f7a4_24 ?_
  refine v_iload_1_0 G dJ6_bitCount_0f7a4_25 ?_
  refine v_iconst (v := nI 4) G dJ6_bitCount_0f7a4_26 (by decide) ?_
  refine v_iushr G dJ6_bitCount_0f7a4_27 ?_
  refine v_iadd G dJ6_bitCount_0f7a4_28 ?_
  refine v_ldc_w G ct_J6_267 dJ6_bitCount_0f7a4_29 ?_
  refine v_iand G dJ6_bitCount_0f7a4_32 ?_
  refine v_istore_1_0 G dJ6_bitCount_0f7a4_33 rfl ?_
  show V x 34 [some (.int (bcC i2))] [] σ
  generalize hi3 : bcC i2 = i3
  refine v_iload_1_0 G dJ6_bitCount_0f7a4_34 ?_
  refine v_iload_1_0 G dJ6_bitCount_0f7a4_35 ?_
  refine v_bipush (v := nI 8) G dJ6_bitCount_0f7a4_36 (by decide) ?_
  refine v_iushr G dJ6_bitCount_0f7a4_38 ?_
  refine v_iadd G dJ6_bitCount_0f7a4_39 ?_
  refine v_istore_1_0 G dJ6_bitCount_0f7a4_40 rfl ?_
  show V x 41 [some (.int (bcD i3))] [] σ
  generalize hi4 : bcD i3 = i4
  refine v_iload_1_0 G dJ6_bitCount_0f7a4_41 ?_
  refine v_iload_1_0 G dJ6_bitCount_0f7a4_42 ?_
  refine v_bipush (v := nI 16) G dJ6_bitCount_0f7a4_43 (by decide) ?_
  refine v_iushr G dJ6_bitCount_0f7a4_45 ?_
  refine v_iadd G dJ6_bitCount_0f7a4_46 ?_
  refine v_istore_1_0 G dJ6_bitCount_0f7a4_47 rfl ?_
  show V x 48 [some (.int (bcE i4))] [] σ
  generalize hi5 : bcE i4 = i5
  refine v_iload_1_0 G dJ6_bitCount_0f7a4_48 ?_
  refine v_bipush (v := nI 63) G dJ6_bitCount_0f7a4_49 (by decide) ?_
  refine v_iand G dJ6_bitCount_0f7a4_51 ?_
  exact v_iret G hQ dJ6_bitCount_0f7a4_52 (vDet.of (by rw [← (bcN_lt i).2, bitCnt, hi1, hi2, hi3, hi4, hi5]) rfl)
def fillR (f : Nat → Int32) (v : Int32) (n : Nat) : Nat → Int32 := fun k => if k < n then v else f k
theorem fillR_0 (f : Nat → Int32) (v : Int32) : fillR f v 0 = f := by funext k; simp [fillR]
theorem fillR_s (f : Nat → Int32) (v : Int32) (n : Nat) : upd (fillR f v n) n v = fillR f v (n + 1) := by
  funext k
  by_cases h : k = n
  · subst h; simp [upd, fillR]
  · simp only [upd, if_neg h, fillR]
    by_cases h2 : k < n
    · rw [if_pos h2, if_pos (by omega)]
    · rw [if_neg h2, if_neg (by omega)]
theorem vrow_same (σ : vW) (r : Nat) : vrow σ r (σ r) = σ := by funext a; simp only [vrow]; split <;> simp_all
theorem vrow_at (σ : vW) (r : Nat) (f : Nat → Int32) : (vrow σ r f) r = f := by simp [vrow]
theorem vrow_row (σ : vW) (r : Nat) (f g : Nat → Int32) : vrow (vrow σ r f) r g = vrow σ r g := by funext a; simp only [vrow]; split <;> rfl
theorem fill_step (σ : vW) (r k : Nat) (v : Int32) : vset (vrow σ r (fillR (σ r) v k)) r k v = vrow σ r (fillR (σ r) v (k + 1)) := by rw [vset_row, vrow_row, vrow_at, fillR_s]
set_option maxHeartbeats 4000000 in
theorem C_fill {σ : vW} {r n : Nat} {v : Int32} (as : vAs r 0 n) (hn : n < 1000) : Ctr mJ7_fill_53178 0 [.ref r, .int v] σ (vDet none (vrow σ r (fillR (σ r) v n))) := by
  refine Ctr.intro (by decide) (fun α => Nat.le_of_ble_eq_true rfl) (fun x G hQ => ?_)
  have G : vG x RJ7 cJ7_fill_53178 4 none 0 := G
  show V x 0 [some (.ref r), some (.int v), none, none] [] σ
  refine v_iconst (v := nI 0) G dJ7_fill_53178_0 (by decide) ?_
  refine v_istore_4_2 G dJ7_fill_53178_1 rfl ?_
  refine v_aload_4_0 G dJ7_fill_53178_2 ?_
  refine v_alen (v := nI n) G as rfl dJ7_fill_53178_3 ?_
  refine v_istore_4_3 G dJ7_fill_53178_4 rfl ?_
  rw [show σ = vrow σ r (fillR (σ r) v 0) by rw [fillR_0, vrow_same]]
  refine v_for (pc := 5) (n) (fun k => ([some (.ref r), some (.int v), some (.int (nI k)), some (.int (nI n))], (vrow σ r (fillR (σ r) v k)))) (fun k hk ih => ?_) ?_
  · show V x 5 [some (.ref r), some (.int v), some (.int (nI k)), some (.int (nI n))] [] (vrow σ r (fillR (σ r) v k))
    have ih : V x 5 [some (.ref r), some (.int v), some (.int (nI (k + 1))), some (.int (nI n))] [] (vrow σ r (fillR (σ r) v (k + 1))) := ih
    refine v_iload_4_2 G dJ7_fill_53178_5 ?_
    refine v_iload_4_3 G dJ7_fill_53178_6 ?_
    refine v_icmp_ge (tgt := 20) G dJ7_fill_53178_7 rfl (fun h_7 => absurd h_7 (by exact nI_ge hk (by omega))) (fun h_7 => ?_)
    refine v_aload_4_0 G dJ7_fill_53178_10 ?_
    refine v_iload_4_2 G dJ7_fill_53178_11 ?_
    refine v_iload_4_1 G dJ7_fill_53178_12 ?_
    refine v_iastN G (by assumption) (by first | assumption | omega | exact oneB_in (by assumption) | exact wallB_in (by assumption) | exact oneB_m1 (by assumption) | decide) (by first | decide | omega) dJ7_fill_53178_13 ?_
    refine v_iincN_4_2 G dJ7_fill_53178_14 rfl ?_
    refine v_goto (tgt := 5) G dJ7_fill_53178_17 rfl ?_
    rw [fill_step]
    exact ih
  · show V x 5 [some (.ref r), some (.int v), some (.int (nI n)), some (.int (nI n))] [] (vrow σ r (fillR (σ r) v n))
    refine v_iload_4_2 G dJ7_fill_53178_5 ?_
    refine v_iload_4_3 G dJ7_fill_53178_6 ?_
    refine v_icmp_ge (tgt := 20) G dJ7_fill_53178_7 rfl (fun h_7 => ?_) (fun h_7 => absurd (by exact nI_le (Nat.le_refl _) (by omega)) h_7)
    exact v_vret G hQ dJ7_fill_53178_20 vDet.mk
def maxI (a b : Int32) : Int32 := if a < b then b else a
theorem v_mmax {x : vX} {own : String} {cc : ByteArray} {nL dd idx : Nat} {ret : Option FieldType} {pc : Nat} {L : List (Option Value)} {st : List Value} {σ : vW} {a b : Int32} (G : vG x own cc nL ret dd) (hd : 1 ≤ dd) (hw : (st.map fun v => v.category).sum ≤ 8) (lk : Cond.methodLink own idx yJ9_max_7cf53 ∈ BIG) (dg : decode cc pc = .ok (.invokestatic idx, 3)) (k : V x (pc + 3) L (.int (maxI a b) :: st) σ) : V x pc L (.int b :: .int a :: st) σ := by
  intro H locs ls hP hS hl
  have hroom := G.2.2.2.2.2.2.2.2.2
  have hg := G.2.2.2.2.2.1
  exact va_mmax G.1 G.2.1 hl.1.symm G.2.2.2.2.1 (hg _ lk) (hg _ st_J9_max_7cf53) (hg _ md_J9_max_7cf53.2.1) (hg _ md_J9_max_7cf53.1) (by omega) (by rw [v_catsum]; omega) hroom.2.2.1 hroom.2.2.2 dg (k H locs ls hP hS hl)
def bitB (b i : Int32) : Bool := if i < 0 then false else if nI 32 ≤ i then false else if ushr b i &&& nI 1 = nI 1 then true else false
set_option maxHeartbeats 4000000 in
theorem C_X5_hasBit {σ : vW} {b i : Int32} : Ctr mX5_hasBit 0 [.int b, .int i] σ (vDet (some (.int (bI (bitB b i)))) σ) := by
  refine Ctr.intro (by decide) (fun α => Nat.le_of_ble_eq_true rfl) (fun x G hQ => ?_)
  have G : vG x RX5 cX5_hasBit 2 (some .boolean) 0 := G
  show V x 0 [some (.int b), some (.int i)] [] σ
  refine v_iload_2_1 G dX5_hasBit_0 ?_
  refine v_if_lt (tgt := 23) G dX5_hasBit_1 rfl (fun h_1 => ?_) (fun h_1 => ?_)
  · refine v_iconst (v := nI 0) G dX5_hasBit_23 (by decide) ?_
    exact v_zret G hQ dX5_hasBit_24 (by first | exact Or.inl rfl | exact Or.inr rfl | exact bI_01 _ | assumption) (vDet.of (by simp only [bitB, ushr, bI, h_1, if_true, if_false, Bool.false_eq_true, reduceIte] <;> try rfl) rfl)
  · refine v_iload_2_1 G dX5_hasBit_4 ?_
    refine v_bipush (v := nI 32) G dX5_hasBit_5 (by decide) ?_
    refine v_icmp_ge (tgt := 23) G dX5_hasBit_7 rfl (fun h_7 => ?_) (fun h_7 => ?_)
    · refine v_iconst (v := nI 0) G dX5_hasBit_23 (by decide) ?_
      exact v_zret G hQ dX5_hasBit_24 (by first | exact Or.inl rfl | exact Or.inr rfl | exact bI_01 _ | assumption) (vDet.of (by simp only [bitB, ushr, bI, h_1, h_7, if_true, if_false, Bool.false_eq_true, reduceIte] <;> try rfl) rfl)
    · refine v_iload_2_0 G dX5_hasBit_10 ?_
      refine v_iload_2_1 G dX5_hasBit_11 ?_
      refine v_iushr G dX5_hasBit_12 ?_
      refine v_iconst (v := nI 1) G dX5_hasBit_13 (by decide) ?_
      refine v_iand G dX5_hasBit_14 ?_
      refine v_iconst (v := nI 1) G dX5_hasBit_15 (by decide) ?_
      refine v_icmp_ne (tgt := 23) G dX5_hasBit_16 rfl (fun h_16 => ?_) (fun h_16 => ?_)
      · refine v_iconst (v := nI 0) G dX5_hasBit_23 (by decide) ?_
        exact v_zret G hQ dX5_hasBit_24 (by first | exact Or.inl rfl | exact Or.inr rfl | exact bI_01 _ | assumption) (vDet.of (by simp only [bitB, ushr, bI, h_1, h_7, h_16, if_true, if_false, Bool.false_eq_true, reduceIte] <;> try rfl) rfl)
      · refine v_iconst (v := nI 1) G dX5_hasBit_19 (by decide) ?_
        refine v_goto (tgt := 24) G dX5_hasBit_20 rfl ?_
        exact v_zret G hQ dX5_hasBit_24 (by first | exact Or.inl rfl | exact Or.inr rfl | exact bI_01 _ | assumption) (vDet.of (by simp only [bitB, ushr, bI, h_1, h_7, h_16, if_true, if_false, Bool.false_eq_true, reduceIte] <;> try rfl) rfl)
def upToB (v m : Int32) : Bool := if v < 0 then false else if m < v then false else true
set_option maxHeartbeats 4000000 in
theorem C_X5_isUpTo {σ : vW} {v m : Int32} : Ctr mX5_isUpTo 0 [.int v, .int m] σ (vDet (some (.int (bI (upToB v m)))) σ) := by
  refine Ctr.intro (by decide) (fun α => Nat.le_of_ble_eq_true rfl) (fun x G hQ => ?_)
  have G : vG x RX5 cX5_isUpTo 2 (some .boolean) 0 := G
  show V x 0 [some (.int v), some (.int m)] [] σ
  refine v_iload_2_0 G dX5_isUpTo_0 ?_
  refine v_if_lt (tgt := 13) G dX5_isUpTo_1 rfl (fun h_1 => ?_) (fun h_1 => ?_)
  · refine v_iconst (v := nI 0) G dX5_isUpTo_13 (by decide) ?_
    exact v_zret G hQ dX5_isUpTo_14 (by first | exact Or.inl rfl | exact Or.inr rfl | exact bI_01 _ | assumption) (vDet.of (by simp only [upToB, bI, h_1, if_true, if_false, Bool.false_eq_true, reduceIte] <;> try rfl) rfl)
  · refine v_iload_2_0 G dX5_isUpTo_4 ?_
    refine v_iload_2_1 G dX5_isUpTo_5 ?_
    refine v_icmp_gt (tgt := 13) G dX5_isUpTo_6 rfl (fun h_6 => ?_) (fun h_6 => ?_)
    · refine v_iconst (v := nI 0) G dX5_isUpTo_13 (by decide) ?_
      exact v_zret G hQ dX5_isUpTo_14 (by first | exact Or.inl rfl | exact Or.inr rfl | exact bI_01 _ | assumption) (vDet.of (by simp only [upToB, bI, h_1, h_6, if_true, if_false, Bool.false_eq_true, reduceIte] <;> try rfl) rfl)
    · refine v_iconst (v := nI 1) G dX5_isUpTo_9 (by decide) ?_
      refine v_goto (tgt := 14) G dX5_isUpTo_10 rfl ?_
      exact v_zret G hQ dX5_isUpTo_14 (by first | exact Or.inl rfl | exact Or.inr rfl | exact bI_01 _ | assumption) (vDet.of (by simp only [upToB, bI, h_1, h_6, if_true, if_false, Bool.false_eq_true, reduceIte] <;> try rfl) rfl)
def roomB (r : Int32) : Bool := if r < 0 then false else if nI 8 ≤ r then false else true
set_option maxHeartbeats 4000000 in
theorem C_X5_isRoom {σ : vW} {r : Int32} : Ctr mX5_isRoom 0 [.int r] σ (vDet (some (.int (bI (roomB r)))) σ) := by
  refine Ctr.intro (by decide) (fun α => Nat.le_of_ble_eq_true rfl) (fun x G hQ => ?_)
  have G : vG x RX5 cX5_isRoom 1 (some .boolean) 0 := G
  show V x 0 [some (.int r)] [] σ
  refine v_iload_1_0 G dX5_isRoom_0 ?_
  refine v_if_lt (tgt := 14) G dX5_isRoom_1 rfl (fun h_1 => ?_) (fun h_1 => ?_)
  · refine v_iconst (v := nI 0) G dX5_isRoom_14 (by decide) ?_
    exact v_zret G hQ dX5_isRoom_15 (by first | exact Or.inl rfl | exact Or.inr rfl | exact bI_01 _ | assumption) (vDet.of (by simp only [roomB, bI, h_1, if_true, if_false, Bool.false_eq_true, reduceIte] <;> try rfl) rfl)
  · refine v_iload_1_0 G dX5_isRoom_4 ?_
    refine v_bipush (v := nI 8) G dX5_isRoom_5 (by decide) ?_
    refine v_icmp_ge (tgt := 14) G dX5_isRoom_7 rfl (fun h_7 => ?_) (fun h_7 => ?_)
    · refine v_iconst (v := nI 0) G dX5_isRoom_14 (by decide) ?_
      exact v_zret G hQ dX5_isRoom_15 (by first | exact Or.inl rfl | exact Or.inr rfl | exact bI_01 _ | assumption) (vDet.of (by simp only [roomB, bI, h_1, h_7, if_true, if_false, Bool.false_eq_true, reduceIte] <;> try rfl) rfl)
    · refine v_iconst (v := nI 1) G dX5_isRoom_10 (by decide) ?_
      refine v_goto (tgt := 15) G dX5_isRoom_11 rfl ?_
      exact v_zret G hQ dX5_isRoom_15 (by first | exact Or.inl rfl | exact Or.inr rfl | exact bI_01 _ | assumption) (vDet.of (by simp only [roomB, bI, h_1, h_7, if_true, if_false, Bool.false_eq_true, reduceIte] <;> try rfl) rfl)
