/-! charAt of the reader's strings -/
theorem lk_J0_1053 : Cond.fieldLink RJ0 1053 "jdk/internal/util/Preconditions" "SIOOBE_FORMATTER" "Ljava/util/function/BiFunction;" ∈ BIG := inBIG (List.mem_of_getElem? (i := 372) (by decide +kernel)) rfl
theorem v_getSF {x : vX} {own : String} {cc : ByteArray} {nL dd : Nat} {ret : Option FieldType} {pc : Nat} {L : List (Option Value)} {st : List Value} {σ : vW} {idx : Nat} (G : vG x own cc nL ret dd) (lk : Cond.fieldLink own idx "jdk/internal/util/Preconditions" "SIOOBE_FORMATTER" "Ljava/util/function/BiFunction;" ∈ BIG) (dg : decode cc pc = .ok (.getstatic idx, 3)) (k : ∀ v : Value, v = .null ∨ v = .ref 114 → V x (pc + 3) L (v :: st) σ) : V x pc L st σ := by
  intro H locs ls hP hS hl
  rcases G.2.2.2.2.2.2.1.2.2.2.2.2 with h | h
  · exact va_gets G.1 G.2.1 h hS G.2.2.2.2.1 (G.2.2.2.2.2.1 _ lk) (fun _ h => h) dg (k .null (Or.inl rfl) H locs ls hP hS hl)
  · exact va_gets G.1 G.2.1 h hS G.2.2.2.2.1 (G.2.2.2.2.2.1 _ lk) (fun _ h => h) dg (k (.ref 114) (Or.inr rfl) H locs ls hP hS hl)
set_option maxHeartbeats 4000000 in
theorem C_J3_checkIndex {σ : vW} {a b : Int32} {v : Value} (hv : v = .null ∨ v = .ref 114) (h0 : 0 ≤ a) (h1 : a < b) : Ctr mJ3_checkIndex_8e157 0 [.int a, .int b, v] σ (vDet (some (.int a)) σ) := by
  rcases hv with rfl | rfl
  · refine Ctr.intro (by decide) (fun α => Nat.le_of_ble_eq_true rfl) (fun x G hQ => ?_)
    have G : vG x RJ3 cJ3_checkIndex_8e157 3 (some .int) 0 := G
    show V x 0 [some (.int a), some (.int b), some .null] [] σ
    refine v_iload_n (i := 0) G dJ3_checkIndex_8e157_0 rfl rfl ?_
    refine v_if_lt (tgt := 9) G dJ3_checkIndex_8e157_1 rfl (fun h => absurd h (Int32.not_lt.mpr h0)) (fun _ => ?_)
    refine v_iload_n (i := 0) G dJ3_checkIndex_8e157_4 rfl rfl ?_
    refine v_iload_n (i := 1) G dJ3_checkIndex_8e157_5 rfl rfl ?_
    refine v_icmp_lt (tgt := 16) G dJ3_checkIndex_8e157_6 rfl (fun _ => ?_) (fun h => absurd h1 h)
    refine v_iload_n (i := 0) G dJ3_checkIndex_8e157_16 rfl rfl ?_
    exact v_iret G hQ dJ3_checkIndex_8e157_17 vDet.mk
  · refine Ctr.intro (by decide) (fun α => Nat.le_of_ble_eq_true rfl) (fun x G hQ => ?_)
    have G : vG x RJ3 cJ3_checkIndex_8e157 3 (some .int) 0 := G
    show V x 0 [some (.int a), some (.int b), some (.ref 114)] [] σ
    refine v_iload_n (i := 0) G dJ3_checkIndex_8e157_0 rfl rfl ?_
    refine v_if_lt (tgt := 9) G dJ3_checkIndex_8e157_1 rfl (fun h => absurd h (Int32.not_lt.mpr h0)) (fun _ => ?_)
    refine v_iload_n (i := 0) G dJ3_checkIndex_8e157_4 rfl rfl ?_
    refine v_iload_n (i := 1) G dJ3_checkIndex_8e157_5 rfl rfl ?_
    refine v_icmp_lt (tgt := 16) G dJ3_checkIndex_8e157_6 rfl (fun _ => ?_) (fun h => absurd h1 h)
    refine v_iload_n (i := 0) G dJ3_checkIndex_8e157_16 rfl rfl ?_
    exact v_iret G hQ dJ3_checkIndex_8e157_17 vDet.mk
set_option maxHeartbeats 4000000 in
theorem C_J0_checkIndex {σ : vW} {a b : Int32} (h0 : 0 ≤ a) (h1 : a < b) : Ctr mJ0_checkIndex_df160 1 [.int a, .int b] σ (vDet none σ) := by
  refine Ctr.intro (by decide) (fun α => Nat.le_of_ble_eq_true rfl) (fun x G hQ => ?_)
  have G : vG x RJ0 cJ0_checkIndex_df160 2 none 1 := G
  show V x 0 [some (.int a), some (.int b)] [] σ
  refine v_iload_n (i := 0) G dJ0_checkIndex_df160_0 rfl rfl ?_
  refine v_iload_n (i := 1) G dJ0_checkIndex_df160_1 rfl rfl ?_
  refine v_getSF G lk_J0_1053 dJ0_checkIndex_df160_2 (fun v hv => ?_)
  refine v_cS3 G (C_J3_checkIndex hv h0 h1) (by decide) md_J3_checkIndex_8e157 st_J3_checkIndex_8e157 ml_J0_1059 (Nat.le_of_ble_eq_true rfl) dJ0_checkIndex_df160_5 ?_
  refine v_pop G dJ0_checkIndex_df160_8 rfl ?_
  exact v_vret G hQ dJ0_checkIndex_df160_9 vDet.mk
/-- letter j of string i -/
def chS (i j : Nat) : Int32 := (vStrB.getD i []).getD j 0
theorem chS_c : ∀ i, i < 7 → ∀ j, j < 9 → (((chS i j) &&& 255).toUInt32 % 65536).toInt32 = chS i j := by decide
theorem chS_n : ∀ i, i < 7 → ∀ j, j < 9 → narrow .char (.int (chS i j)) = .int (chS i j) := by decide
theorem nI_bnd {j n : Nat} (h : j < n) (hn : n < 100) : nI j < nI n := nI_lt h (by omega)
theorem nI_z {j : Nat} (h : j < 100) : 0 ≤ nI j := by
  show nI 0 ≤ nI j
  exact nI_le (Nat.zero_le j) (by omega)
set_option maxHeartbeats 4000000 in
theorem C_J1_charAt {σ : vW} {i j : Nat} (hi : i < 7) (hj : j < vStrN.getD i 0) : Ctr mJ1_charAt_3b067 2 [.ref (107 + i), .int (nI j)] σ (vDet (some (.int (chS i j))) σ) := by
  have hn := vStrN_lt i hi
  refine Ctr.intro (by decide) (fun α => Nat.le_of_ble_eq_true rfl) (fun x G hQ => ?_)
  have G : vG x RJ1 cJ1_charAt_3b067 2 (some .char) 2 := G
  show V x 0 [some (.ref (107 + i)), some (.int (nI j))] [] σ
  refine v_iload_n (i := 1) G dJ1_charAt_3b067_0 rfl rfl ?_
  refine v_aload_n (i := 0) G dJ1_charAt_3b067_1 rfl rfl ?_
  refine v_strLen G hi dJ1_charAt_3b067_2 ?_
  refine v_cS2v G (C_J0_checkIndex (nI_z (by omega)) (nI_bnd hj (by omega))) (by decide) md_J0_checkIndex_df160 st_J0_checkIndex_df160 ml_J1_9 (Nat.le_of_ble_eq_true rfl) dJ1_charAt_3b067_3 ?_
  refine v_aload_n (i := 0) G dJ1_charAt_3b067_6 rfl rfl ?_
  refine v_iload_n (i := 1) G dJ1_charAt_3b067_7 rfl rfl ?_
  refine v_strByt G hi hj (by omega) dJ1_charAt_3b067_8 ?_
  refine v_sipush (v := 255) G dJ1_charAt_3b067_9 rfl ?_
  refine v_iand G dJ1_charAt_3b067_12 ?_
  refine v_i2c G dJ1_charAt_3b067_13 ?_
  exact v_nret G hQ dJ1_charAt_3b067_14 (by rw [show ((vStrB.getD i []).getD j 0) = chS i j from rfl, chS_c i hi j (by omega)]; exact chS_n i hi j (by omega)) (vDet.of (by rw [show ((vStrB.getD i []).getD j 0) = chS i j from rfl, chS_c i hi j (by omega)]) rfl)
set_option maxHeartbeats 4000000 in
theorem C_J0_charAt {σ : vW} {i j : Nat} (hi : i < 7) (hj : j < vStrN.getD i 0) : Ctr mJ0_charAt_5068e 4 [.ref (100 + i), .int (nI j)] σ (vDet (some (.int (chS i j))) σ) := by
  have hn := vStrN_lt i hi
  refine Ctr.intro (by decide) (fun α => Nat.le_of_ble_eq_true rfl) (fun x G hQ => ?_)
  have G : vG x RJ0 cJ0_charAt_5068e 2 (some .char) 4 := G
  show V x 0 [some (.ref (100 + i)), some (.int (nI j))] [] σ
  refine v_aload_n (i := 0) G dJ0_charAt_5068e_0 rfl rfl ?_
  refine v_callSt (av := []) G (C_J0_isLatin1 hi) (by decide) md_J0_isLatin1_aae02 in_J0_isLatin1_aae02 rfl hi ml_J0_492 rfl (Nat.le_of_ble_eq_true rfl) dJ0_charAt_5068e_1 ?_
  rintro _ _ ⟨rfl, rfl⟩
  refine v_if_eq (tgt := 16) G dJ0_charAt_5068e_4 rfl (fun h => absurd h (by decide)) (fun _ => ?_)
  refine v_aload_n (i := 0) G dJ0_charAt_5068e_7 rfl rfl ?_
  refine v_strVal G hi lk_J0_9 dJ0_charAt_5068e_8 ?_
  refine v_iload_n (i := 1) G dJ0_charAt_5068e_11 rfl rfl ?_
  refine v_cS2 G (C_J1_charAt hi hj) (by decide) md_J1_charAt_3b067 st_J1_charAt_3b067 ml_J0_495 (Nat.le_of_ble_eq_true rfl) dJ0_charAt_5068e_12 ?_
  exact v_nret G hQ dJ0_charAt_5068e_15 (chS_n i hi j (by omega)) vDet.mk
/-- the letters of a name from letter c on -/
def isNm (σ : vW) (q i : Nat) : Nat → Nat → Bool
  | 0, _ => true
  | j + 1, c => if σ 3 (q + c) = chS i c then isNm σ q i j (c + 1) else false
def isNmB (σ : vW) (q e i : Nat) : Bool := if σ 2 2 = nI 1 then (if e - q = vStrN.getD i 0 then isNm σ q i (vStrN.getD i 0) 0 else false) else false
set_option maxHeartbeats 4000000 in
theorem C_X3_isName {σ : vW} {l q e i : Nat} (hl : σ 2 1 = nI l) (hl6 : l ≤ 160) (h3 : σ 2 3 = nI q) (h5 : σ 2 5 = nI e) (hqe : q ≤ e) (hel : e ≤ l) (hi : i < 7) : Ctr mX3_isName 5 [.ref 2, .ref (100 + i)] σ (vDet (some (.int (bI (isNmB σ q e i)))) σ) := by
  have hn := vStrN_lt i hi
  refine Ctr.intro (by decide) (fun α => Nat.le_of_ble_eq_true rfl) (fun x G hQ => ?_)
  have G : vG x RX3 cX3_isName 3 (some .boolean) 5 := G
  show V x 0 [some (.ref 2), some (.ref (100 + i)), none] [] σ
  generalize hB : isNmB σ q e i = B at hQ
  have k26 : σ 2 2 = nI 1 → e - q = vStrN.getD i 0 → V x 26 [some (.ref 2), some (.ref (100 + i)), none] [] σ := by
    intro ht he
    rw [isNmB, if_pos ht, if_pos he] at hB
    refine v_iconst (v := nI 0) G dX3_isName_26 (by decide) ?_
    refine v_istore_3_2 G dX3_isName_27 rfl ?_
    refine v_forP (pc := 28) ((vStrN.getD i 0)) (fun k => isNm σ q i (vStrN.getD i 0 - k) k = B) (fun k => ([some (.ref 2), some (.ref (100 + i)), some (.int (nI k))], σ)) hB (fun k hk hpk ih => ?_) (fun hpk => ?_)
    · show V x 28 [some (.ref 2), some (.ref (100 + i)), some (.int (nI k))] [] σ
      have ih : (isNm σ q i (vStrN.getD i 0 - (k + 1)) (k + 1) = B) → V x 28 [some (.ref 2), some (.ref (100 + i)), some (.int (nI (k + 1)))] [] σ := ih
      have hpk : isNm σ q i (vStrN.getD i 0 - k) k = B := hpk
      rw [show vStrN.getD i 0 - k = (vStrN.getD i 0 - (k + 1)) + 1 by omega, isNm]  at hpk
      refine v_iload_3_2 G dX3_isName_28 ?_
      refine v_aload_3_1 G dX3_isName_29 ?_
      refine v_callSt (av := []) G (C_J0_length (by assumption)) (by decide) md_J0_length_8abf5 in_J0_length_8abf5 rfl (by assumption) ml_X3_38 rfl (Nat.le_of_ble_eq_true rfl) dX3_isName_30 ?_
      intro rs_ ss_ hrs_
      rw [hrs_.1, hrs_.2]
      refine v_icmp_ge (tgt := 62) G dX3_isName_33 rfl (fun h_33 => absurd h_33 (by exact nI_ge hk (by omega))) (fun h_33 => ?_)
      refine v_aload_3_0 G dX3_isName_36 ?_
      refine v_aload_3_0 G dX3_isName_37 ?_
      refine v_getI G vc_3 lk_X3_26 (fs_X3_3) dX3_isName_38 ?_
      rw [h3]
      refine v_iload_3_2 G dX3_isName_41 ?_
      refine v_iaddN G dX3_isName_42 ?_
      refine v_cV1 G (C_X3_byteAt) (by decide) md_X3_byteAt in_X3_byteAt (rv_X3 rfl) ml_X3_22 (Nat.le_of_ble_eq_true rfl) dX3_isName_43 ?_
      rw [byteC_eq (k := q + k) hl hl6 rfl (by omega), bC, if_pos (by omega)]
      refine v_aload_3_1 G dX3_isName_46 ?_
      refine v_iload_3_2 G dX3_isName_47 ?_
      refine v_callSt (av := [_]) G (C_J0_charAt (by assumption) (by assumption)) (by decide) md_J0_charAt_5068e in_J0_charAt_5068e rfl (by assumption) ml_X3_43 rfl (Nat.le_of_ble_eq_true rfl) dX3_isName_48 ?_
      intro rs_ ss_ hrs_
      rw [hrs_.1, hrs_.2]
      refine v_icmp_eq (tgt := 56) G dX3_isName_51 rfl (fun h_51 => ?_) (fun h_51 => ?_)
      · refine v_iincN_3_2 G dX3_isName_56 rfl ?_
        refine v_goto (tgt := 28) G dX3_isName_59 rfl ?_
        rw [if_pos h_51] at hpk
        exact ih hpk
      · refine v_iconst (v := nI 0) G dX3_isName_54 (by decide) ?_
        exact v_zret G hQ dX3_isName_55 (by first | exact Or.inl rfl | exact Or.inr rfl | exact bI_01 _ | assumption) (vDet.of (by rw [← hpk]; first | (rw [if_neg h_51]; rfl) | (rw [Nat.sub_self]; rfl)) rfl)
    · show V x 28 [some (.ref 2), some (.ref (100 + i)), some (.int (nI (vStrN.getD i 0)))] [] σ
      have hpk : isNm σ q i (vStrN.getD i 0 - (vStrN.getD i 0)) (vStrN.getD i 0) = B := hpk
      refine v_iload_3_2 G dX3_isName_28 ?_
      refine v_aload_3_1 G dX3_isName_29 ?_
      refine v_callSt (av := []) G (C_J0_length (by assumption)) (by decide) md_J0_length_8abf5 in_J0_length_8abf5 rfl (by assumption) ml_X3_38 rfl (Nat.le_of_ble_eq_true rfl) dX3_isName_30 ?_
      intro rs_ ss_ hrs_
      rw [hrs_.1, hrs_.2]
      refine v_icmp_ge (tgt := 62) G dX3_isName_33 rfl (fun h_33 => ?_) (fun h_33 => absurd (by exact nI_le (Nat.le_refl _) (by omega)) h_33)
      refine v_iconst (v := nI 1) G dX3_isName_62 (by decide) ?_
      exact v_zret G hQ dX3_isName_63 (by first | exact Or.inl rfl | exact Or.inr rfl | exact bI_01 _ | assumption) (vDet.of (by rw [← hpk]; first | (rw [if_neg h_51]; rfl) | (rw [Nat.sub_self]; rfl)) rfl)
  refine v_aload_3_0 G dX3_isName_0 ?_
  refine v_getI G vc_3 lk_X3_35 (fs_X3_2) dX3_isName_1 ?_
  refine v_iconst (v := nI 1) G dX3_isName_4 (by decide) ?_
  refine v_icmp_ne (tgt := 24) G dX3_isName_5 rfl (fun h_5 => ?_) (fun h_5 => ?_)
  · refine v_iconst (v := nI 0) G dX3_isName_24 (by decide) ?_
    exact v_zret G hQ dX3_isName_25 (by first | exact Or.inl rfl | exact Or.inr rfl | exact bI_01 _ | assumption) (vDet.of (by rw [← hB]; first | (rw [isNmB, if_neg h_5]; rfl) | (rw [isNmB, if_pos h_5, if_neg (nI_neN h_21)]; rfl)) rfl)
  · refine v_aload_3_0 G dX3_isName_8 ?_
    refine v_getI G vc_3 lk_X3_19 (fs_X3_5) dX3_isName_9 ?_
    rw [h5]
    refine v_aload_3_0 G dX3_isName_12 ?_
    refine v_getI G vc_3 lk_X3_26 (fs_X3_3) dX3_isName_13 ?_
    rw [h3]
    refine v_isub G dX3_isName_16 ?_
    rw [nI_subN hqe]
    refine v_aload_3_1 G dX3_isName_17 ?_
    refine v_callSt (av := []) G (C_J0_length (by assumption)) (by decide) md_J0_length_8abf5 in_J0_length_8abf5 rfl (by assumption) ml_X3_38 rfl (Nat.le_of_ble_eq_true rfl) dX3_isName_18 ?_
    intro rs_ ss_ hrs_
    rw [hrs_.1, hrs_.2]
    refine v_icmp_eq (tgt := 26) G dX3_isName_21 rfl (fun h_21 => ?_) (fun h_21 => ?_)
    · exact k26 h_5 (nI_eqN (by omega) (by omega) h_21)
    · refine v_iconst (v := nI 0) G dX3_isName_24 (by decide) ?_
      exact v_zret G hQ dX3_isName_25 (by first | exact Or.inl rfl | exact Or.inr rfl | exact bI_01 _ | assumption) (vDet.of (by rw [← hB]; first | (rw [isNmB, if_neg h_5]; rfl) | (rw [isNmB, if_pos h_5, if_neg (nI_neN h_21)]; rfl)) rfl)
def kdN (σ : vW) (q e : Nat) : Int32 := if isNmB σ q e 0 = true then nI 0 else if isNmB σ q e 1 = true then nI 1 else if isNmB σ q e 2 = true then nI 2 else if isNmB σ q e 3 = true then nI 3 else -4
