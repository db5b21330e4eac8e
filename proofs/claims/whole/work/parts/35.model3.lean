/-! The model: what the distances' row held before is nothing to it; who reaches what; pages copied -/
def agr (s s' : Int32 × (Nat → Int32)) : Prop := s.1 = s'.1 ∧ ∀ i, i < 8 → s.2 i = s'.2 i
theorem mgF_agr {f f' : Nat → Int32} {a b d : Nat} (ha : a < 8) (hb : b < 8) (h : ∀ i, i < 8 → f i = f' i) : ∀ i, i < 8 → mgF f a b d i = mgF f' a b d i := by
  intro i hi
  have u : ∀ j v, upF f j v i = upF f' j v i := fun j v => by
    simp only [upF, upd]
    rw [h i hi]
  simp only [mgF, h a ha, h b hb]
  split
  · split
    · exact u _ _
    · split
      · split
        · exact u _ _
        · exact h i hi
      · exact h i hi
  · split
    · split
      · exact u _ _
      · exact h i hi
    · exact h i hi
theorem mgX_agr {a b d : Nat} {s s' : Int32 × (Nat → Int32)} (ha : a < 8) (hb : b < 8) (h : agr s s') : agr (mgX a b d s) (mgX a b d s') := by
  have h2 := mgF_agr (d := d) ha hb h.2
  refine ⟨?_, h2⟩
  show mgM (mgF s.2 a b d) a b s.1 = mgM (mgF s'.2 a b d) a b s'.1
  rw [mgM, mgM, h2 a ha, h2 b hb, h.1]
theorem mgS_agr {R : Nat → Int32} {n m g q d w : Nat} {J : Int32} {s s' : Int32 × (Nat → Int32)} (hE : wOK R g m) (hw : w < m) (h : agr s s') : agr (mgS R n J g q d w s) (mgS R n J g q d w s') := by
  obtain ⟨a, b, ha, hb, ea, eb⟩ := hE w hw
  unfold mgS
  split
  · rw [ea, eb, nI_clamp (by omega), nI_clamp (by omega)]
    exact mgX_agr ha hb h
  · exact h
theorem mgW_agr {R : Nat → Int32} {n m g q d : Nat} {J : Int32} {s s' : Int32 × (Nat → Int32)} (hE : wOK R g m) (h : agr s s') : ∀ w, w ≤ m → agr (mgW R n J g q d s w) (mgW R n J g q d s' w)
  | 0, _ => h
  | w + 1, hw => mgS_agr hE (by omega) (mgW_agr hE h w (by omega))
theorem mgD_agr {R : Nat → Int32} {n m g q : Nat} {J : Int32} {s s' : Int32 × (Nat → Int32)} (hE : wOK R g m) (h : agr s s') : ∀ d, agr (mgD R n J g q m s d) (mgD R n J g q m s' d)
  | 0 => h
  | d + 1 => mgW_agr hE (mgD_agr hE h d) m (Nat.le_refl m)
theorem mgA_agr {R : Nat → Int32} {n m g q r : Nat} {J : Int32} {f f' : Nat → Int32} (hE : wOK R g m) : agr (mgA R n J g q m r f) (mgA R n J g q m r f') := by
  unfold mgA
  refine mgD_agr hE ?_ 7
  exact ⟨rfl, fun i hi => by simp only [mgI, if_pos hi]⟩
def mReach (R : Nat → Int32) (n : Nat) (J : Int32) (g m q r : Nat) : Int32 := (mgA R n J g q m r (fun _ => 0)).1
def mFar (R : Nat → Int32) (n : Nat) (J : Int32) (g m q r : Nat) : Nat → Int32 := (mgA R n J g q m r (fun _ => 0)).2
/-- a page whose town holds -/
def pOK (σ : vW) (n m g : Nat) : Prop := (σ 75 1 = nI n ∧ n ≤ 5 ∧ g ≤ 260) ∧ (σ 76 (g + 25) = nI m ∧ m ≤ 9 ∧ wOK (σ 76) g m) ∧ ∀ q, q < 5 → ∃ r, r < 8 ∧ σ 76 (g + 10 + q) = nI r
/-- an answer, a world but for the distances, the distances -/
def vFarX (r : Option Value) (s : vW) (h : Nat → Int32) : Option Value → vW → Prop := fun a b => a = r ∧ ∃ F, b = vrow s 81 F ∧ ∀ i, i < 8 → F i = h i
theorem v_cX2 {x : vX} {own : String} {cc : ByteArray} {nL dd : Nat} {ret : Option FieldType} {pc : Nat} {L : List (Option Value)} {st : List Value} {σ : vW} {f : Nat → Int32} {mi : vMI} {b d idx : Nat} {a1 a2 : Value} {v : Value} {s' : vW} {h : Nat → Int32} (G : vG x own cc nL ret dd) (C : Ctr mi d (.ref b :: [a1, a2]) (vrow σ 81 f) (vFarX (some v) s' h)) (hd : d < dd) (md : vMd mi 2) (hi : vIn mi) (rv : vRv b mi) (lk : Cond.methodLink own idx mi.1 ∈ BIG) (hw : (st.map fun v => v.category).sum ≤ 8) (dg : decode cc pc = .ok (.invokevirtual idx, 3)) (k0 : ∀ f, (∀ i, i < 8 → f i = h i) → V x (pc + 3) L (v :: st) (vrow s' 81 f)) : V x pc L (a2 :: a1 :: .ref b :: st) (vrow σ 81 f) := v_callV (av := [a1, a2]) G C hd md hi rv lk rfl hw dg (by rintro _ _ ⟨rfl, g, rfl, e⟩; exact k0 g e)
def mReachQ (R : Nat → Int32) (n : Nat) (J : Int32) (g m q : Nat) : Int32 := mReach R n J g m q (R (g + 10 + q)).toNatClampNeg
def mFarQ (R : Nat → Int32) (n : Nat) (J : Int32) (g m q : Nat) : Nat → Int32 := mFar R n J g m q (R (g + 10 + q)).toNatClampNeg
set_option maxHeartbeats 4000000 in
theorem C_X6_reachesOn {σ : vW} {f : Nat → Int32} {n m g q : Nat} (hp : pOK σ n m g) (hq5 : q < 5) : Ctr mX6_reachesOn 3 [.ref 75, .int (nI g), .int (nI q)] (vrow σ 81 f) (vFarX (some (.int (mReachQ (σ 76) n (σ 75 20) g m q))) σ (mFarQ (σ 76) n (σ 75 20) g m q)) := by
  have hg := hp.1.2.2
  obtain ⟨r, hr, er⟩ := hp.2.2 q hq5
  have cr : (nI r).toNatClampNeg = r := nI_clamp (by omega)
  have h := mgA_agr (n := n) (q := q) (r := r) (J := σ 75 20) (f := f) (f' := fun _ => 0) hp.2.1.2.2
  refine Ctr.intro (by decide) (fun α => Nat.le_of_ble_eq_true rfl) (fun x G hQ => ?_)
  have G : vG x RX6 cX6_reachesOn 3 (some .int) 3 := G
  show V x 0 [some (.ref 75), some (.int (nI g)), some (.int (nI q))] [] (vrow σ 81 f)
  refine v_aload_3_0 G dX6_reachesOn_0 ?_
  refine v_iload_3_1 G dX6_reachesOn_1 ?_
  refine v_iload_3_2 G dX6_reachesOn_2 ?_
  refine v_aload_3_0 G dX6_reachesOn_3 ?_
  refine v_getR G vc_6 lk_X6_7 (fs_X6_0) dX6_reachesOn_4 ?_
  refine v_iload_3_1 G dX6_reachesOn_7 ?_
  refine v_bipush (v := nI 10) G dX6_reachesOn_8 (by decide) ?_
  refine v_iaddN G dX6_reachesOn_10 ?_
  refine v_iload_3_2 G dX6_reachesOn_11 ?_
  refine v_iaddN G dX6_reachesOn_12 ?_
  refine m_ialdN G (by decide) (as_X6_0) (by first | assumption | omega | exact oneB_in (by assumption) | exact wallB_in (by assumption) | exact oneB_m1 (by assumption) | decide) (by decide) dX6_reachesOn_13 ?_
  rw [er]
  refine v_cV3 G (C_X6_goesFrom hp.1.1 hp.1.2.1 hp.1.2.2 hq5 hp.2.1.1 hp.2.1.2.1 hp.2.1.2.2 hr) (by decide) md_X6_goesFrom in_X6_goesFrom (rv_X6 rfl) ml_X6_166 (Nat.le_of_ble_eq_true rfl) dX6_reachesOn_14 ?_
  exact v_iret G hQ dX6_reachesOn_17 (by unfold mReachQ mFarQ; rw [er, cr]; exact ⟨congrArg (fun z => some (Value.int z)) h.1, _, rfl, h.2⟩)
set_option maxHeartbeats 4000000 in
theorem C_X6_stepsOn {σ : vW} {f : Nat → Int32} {n m g q r : Nat} (hp : pOK σ n m g) (hq5 : q < 5) (hr : r < 8) : Ctr mX6_stepsOn 4 [.ref 75, .int (nI g), .int (nI q), .int (nI r)] (vrow σ 81 f) (vFar (some (.int (mFarQ (σ 76) n (σ 75 20) g m q r))) σ) := by
  refine Ctr.intro (by decide) (fun α => Nat.le_of_ble_eq_true rfl) (fun x G hQ => ?_)
  have G : vG x RX6 cX6_stepsOn 4 (some .int) 4 := G
  show V x 0 [some (.ref 75), some (.int (nI g)), some (.int (nI q)), some (.int (nI r))] [] (vrow σ 81 f)
  refine v_aload_4_0 G dX6_stepsOn_0 ?_
  refine v_iload_4_1 G dX6_stepsOn_1 ?_
  refine v_iload_4_2 G dX6_stepsOn_2 ?_
  refine v_cX2 G (C_X6_reachesOn (by first | assumption | omega | exact oneB_in (by assumption) | exact wallB_in (by assumption) | exact oneB_m1 (by assumption) | decide) (by first | assumption | omega | exact oneB_in (by assumption) | exact wallB_in (by assumption) | exact oneB_m1 (by assumption) | decide)) (by decide) md_X6_reachesOn in_X6_reachesOn (rv_X6 rfl) ml_X6_169 (Nat.le_of_ble_eq_true rfl) dX6_stepsOn_3 (fun f hf => ?_)
  refine v_pop G dX6_stepsOn_6 rfl ?_
  refine v_aload_4_0 G dX6_stepsOn_7 ?_
  refine v_getR G vc_6 lk_X6_25 (fs_X6_21) dX6_stepsOn_8 ?_
  refine v_iload_4_3 G dX6_stepsOn_11 ?_
  refine m_faldN G (by first | assumption | omega | exact oneB_in (by assumption) | exact wallB_in (by assumption) | exact oneB_m1 (by assumption) | decide) dX6_stepsOn_12 ?_
  exact v_iret G hQ dX6_stepsOn_13 (vFar.of (by rw [hf r hr]) rfl)
def mGainG (R : Nat → Int32) (g q : Nat) (M : Int32) : Nat → Int32
  | 0 => nI 0
  | r + 1 => mGainG R g q M r + (if M >>> (nI r &&& 31) &&& nI 1 = nI 1 then (if nI r = R (g + 10 + q) then nI 0 else R (g + 44 + r)) else nI 0)
def mGain (R : Nat → Int32) (n : Nat) (J : Int32) (g m q : Nat) : Int32 := mGainG R g q (mReachQ R n J g m q) 8
set_option maxHeartbeats 4000000 in
theorem C_X6_gainOn {σ : vW} {f : Nat → Int32} {n m g q : Nat} (hp : pOK σ n m g) (hq5 : q < 5) : Ctr mX6_gainOn 4 [.ref 75, .int (nI g), .int (nI q)] (vrow σ 81 f) (vFar (some (.int (mGain (σ 76) n (σ 75 20) g m q))) σ) := by
  have hg := hp.1.2.2
  refine Ctr.intro (by decide) (fun α => Nat.le_of_ble_eq_true rfl) (fun x G hQ => ?_)
  have G : vG x RX6 cX6_gainOn 6 (some .int) 4 := G
  show V x 0 [some (.ref 75), some (.int (nI g)), some (.int (nI q)), none, none, none] [] (vrow σ 81 f)
  refine v_aload_6_0 G dX6_gainOn_0 ?_
  refine v_iload_6_1 G dX6_gainOn_1 ?_
  refine v_iload_6_2 G dX6_gainOn_2 ?_
  refine v_cX2 G (C_X6_reachesOn (by first | assumption | omega | exact oneB_in (by assumption) | exact wallB_in (by assumption) | exact oneB_m1 (by assumption) | decide) (by first | assumption | omega | exact oneB_in (by assumption) | exact wallB_in (by assumption) | exact oneB_m1 (by assumption) | decide)) (by decide) md_X6_reachesOn in_X6_reachesOn (rv_X6 rfl) ml_X6_169 (Nat.le_of_ble_eq_true rfl) dX6_gainOn_3 (fun f hf => ?_)
  refine v_istore_6_3 G dX6_gainOn_6 rfl ?_
  refine v_iconst (v := nI 0) G dX6_gainOn_7 (by decide) ?_
  refine v_istore_6_4 G dX6_gainOn_8 rfl ?_
  refine v_iconst (v := nI 0) G dX6_gainOn_10 (by decide) ?_
  refine v_istore_6_5 G dX6_gainOn_11 rfl ?_
  refine v_for (pc := 13) (8) (fun k => ([some (.ref 75), some (.int (nI g)), some (.int (nI q)), some (.int (mReachQ (σ 76) n (σ 75 20) g m q)), some (.int (mGainG (σ 76) g q (mReachQ (σ 76) n (σ 75 20) g m q) k)), some (.int (nI k))], (vrow (σ) 81 f))) (fun k hk ih => ?_) ?_
  · show V x 13 [some (.ref 75), some (.int (nI g)), some (.int (nI q)), some (.int (mReachQ (σ 76) n (σ 75 20) g m q)), some (.int (mGainG (σ 76) g q (mReachQ (σ 76) n (σ 75 20) g m q) k)), some (.int (nI k))] [] (vrow (σ) 81 f)
    have ih : V x 13 [some (.ref 75), some (.int (nI g)), some (.int (nI q)), some (.int (mReachQ (σ 76) n (σ 75 20) g m q)), some (.int (mGainG (σ 76) g q (mReachQ (σ 76) n (σ 75 20) g m q) (k + 1))), some (.int (nI (k + 1)))] [] (vrow (σ) 81 f) := ih
    refine v_iload_6_5 G dX6_gainOn_13 ?_
    refine v_bipush (v := nI 8) G dX6_gainOn_15 (by decide) ?_
    refine v_icmp_ge (tgt := 73) G dX6_gainOn_17 rfl (fun h_17 => absurd h_17 (by exact nI_ge hk (by omega))) (fun h_17 => ?_)
    refine v_iload_6_4 G dX6_gainOn_20 ?_
    refine v_iload_6_3 G dX6_gainOn_22 ?_
    refine v_iload_6_5 G dX6_gainOn_23 ?_
    refine v_ishr G dX6_gainOn_25 ?_
    refine v_iconst (v := nI 1) G dX6_gainOn_26 (by decide) ?_
    refine v_iand G dX6_gainOn_27 ?_
    refine v_iconst (v := nI 1) G dX6_gainOn_28 (by decide) ?_
    refine v_icmp_ne (tgt := 63) G dX6_gainOn_29 rfl (fun h_29 => ?_) (fun h_29 => ?_)
    · refine v_iconst (v := nI 0) G dX6_gainOn_63 (by decide) ?_
      refine v_iadd G dX6_gainOn_64 ?_
      refine v_istore_6_4 G dX6_gainOn_65 rfl ?_
      refine v_iincN_6_5 G dX6_gainOn_67 rfl ?_
      refine v_goto (tgt := 13) G dX6_gainOn_70 rfl ?_
      first
        | (rw [mGainG, if_pos h_29, if_pos h_45] at ih; exact ih)
        | (rw [mGainG, if_pos h_29, if_neg h_45] at ih; exact ih)
        | (rw [mGainG, if_neg h_29] at ih; exact ih)
    · refine v_iload_6_5 G dX6_gainOn_32 ?_
      refine v_aload_6_0 G dX6_gainOn_34 ?_
      refine v_getR G vc_6 lk_X6_7 (fs_X6_0) dX6_gainOn_35 ?_
      refine v_iload_6_1 G dX6_gainOn_38 ?_
      refine v_bipush (v := nI 10) G dX6_gainOn_39 (by decide) ?_
      refine v_iaddN G dX6_gainOn_41 ?_
      refine v_iload_6_2 G dX6_gainOn_42 ?_
      refine v_iaddN G dX6_gainOn_43 ?_
      refine m_ialdN G (by decide) (as_X6_0) (by first | assumption | omega | exact oneB_in (by assumption) | exact wallB_in (by assumption) | exact oneB_m1 (by assumption) | decide) (by decide) dX6_gainOn_44 ?_
      refine v_icmp_eq (tgt := 63) G dX6_gainOn_45 rfl (fun h_45 => ?_) (fun h_45 => ?_)
      · refine v_iconst (v := nI 0) G dX6_gainOn_63 (by decide) ?_
        refine v_iadd G dX6_gainOn_64 ?_
        refine v_istore_6_4 G dX6_gainOn_65 rfl ?_
        refine v_iincN_6_5 G dX6_gainOn_67 rfl ?_
        refine v_goto (tgt := 13) G dX6_gainOn_70 rfl ?_
        first
          | (rw [mGainG, if_pos h_29, if_pos h_45] at ih; exact ih)
          | (rw [mGainG, if_pos h_29, if_neg h_45] at ih; exact ih)
          | (rw [mGainG, if_neg h_29] at ih; exact ih)
      · refine v_aload_6_0 G dX6_gainOn_48 ?_
        refine v_getR G vc_6 lk_X6_7 (fs_X6_0) dX6_gainOn_49 ?_
        refine v_iload_6_1 G dX6_gainOn_52 ?_
        refine v_bipush (v := nI 44) G dX6_gainOn_53 (by decide) ?_
        refine v_iaddN G dX6_gainOn_55 ?_
        refine v_iload_6_5 G dX6_gainOn_56 ?_
        refine v_iaddN G dX6_gainOn_58 ?_
        refine m_ialdN G (by decide) (as_X6_0) (by first | assumption | omega | exact oneB_in (by assumption) | exact wallB_in (by assumption) | exact oneB_m1 (by assumption) | decide) (by decide) dX6_gainOn_59 ?_
        refine v_goto (tgt := 64) G dX6_gainOn_60 rfl ?_
        refine v_iadd G dX6_gainOn_64 ?_
        refine v_istore_6_4 G dX6_gainOn_65 rfl ?_
        refine v_iincN_6_5 G dX6_gainOn_67 rfl ?_
        refine v_goto (tgt := 13) G dX6_gainOn_70 rfl ?_
        first
          | (rw [mGainG, if_pos h_29, if_pos h_45] at ih; exact ih)
          | (rw [mGainG, if_pos h_29, if_neg h_45] at ih; exact ih)
          | (rw [mGainG, if_neg h_29] at ih; exact ih)
  · show V x 13 [some (.ref 75), some (.int (nI g)), some (.int (nI q)), some (.int (mReachQ (σ 76) n (σ 75 20) g m q)), some (.int (mGainG (σ 76) g q (mReachQ (σ 76) n (σ 75 20) g m q) 8)), some (.int (nI 8))] [] (vrow (σ) 81 f)
    refine v_iload_6_5 G dX6_gainOn_13 ?_
    refine v_bipush (v := nI 8) G dX6_gainOn_15 (by decide) ?_
    refine v_icmp_ge (tgt := 73) G dX6_gainOn_17 rfl (fun h_17 => ?_) (fun h_17 => absurd (by exact nI_le (Nat.le_refl _) (by omega)) h_17)
    refine v_iload_6_4 G dX6_gainOn_73 ?_
    exact v_iret G hQ dX6_gainOn_75 (vFar.of rfl rfl)
/-! counting bits by halving -/
theorem bt_nI {a i : Nat} (hi : i < 32) : bt (nI a) i = a.testBit i := by
  show (BitVec.ofNat 32 a).getLsbD i = _
  rw [BitVec.getLsbD_ofNat]
  simp [hi]
theorem nI_sar {a k : Nat} (ha : a < 2147483648) (hk : k < 32) : nI a >>> (nI k &&& 31) = nI (a / 2 ^ k) := by
  apply b_ext
  intro i hi
  rw [b_sshr k hk _ hi, bt_nI hi, Nat.testBit_div_two_pow]
  split
  · rw [bt_nI (by omega), Nat.add_comm]
  · rw [bt_nI (by decide), Nat.testBit_lt_two_pow (show a < 2 ^ 31 by omega), Nat.testBit_lt_two_pow (Nat.lt_of_lt_of_le (show a < 2 ^ 31 by omega) (Nat.pow_le_pow_right (by decide) (by omega)))]
def bN (v : Nat) : Nat → Nat
  | 0 => 0
  | k + 1 => bN v k + v / 2 ^ k % 2
theorem bN_le (v : Nat) : ∀ k, bN v k ≤ k
  | 0 => Nat.le_refl 0
  | k + 1 => by
    have h1 := bN_le v k
    have h2 := Nat.mod_lt (v / 2 ^ k) (show 0 < 2 by decide)
    unfold bN
    omega
theorem bN_more {v k : Nat} (h : v < 2 ^ k) : ∀ j, bN v (k + j) = bN v k
  | 0 => rfl
  | j + 1 => by
    show bN v (k + j) + v / 2 ^ (k + j) % 2 = _
    rw [bN_more h j, Nat.div_eq_of_lt (Nat.lt_of_lt_of_le h (Nat.pow_le_pow_right (by decide) (by omega))), Nat.zero_mod, Nat.add_zero]
/-- what bitsOf answers -/
def bitsR (a : Int32) : Int32 := if a ≤ 0 then nI 0 else nI (bN a.toNatClampNeg 31)
theorem bitsR_nI {v : Nat} (h : v < 2147483648) : bitsR (nI v) = nI (bN v 31) := by
  unfold bitsR
  rw [nI_clamp (by omega)]
  split
  · rename_i h2
    rw [le_toInt, nI_toInt (by omega), Int32.toInt_zero] at h2
    have : v = 0 := by omega
    subst this
    decide
  · rfl
set_option maxHeartbeats 4000000 in
theorem C_X6_bitsOf {σ : vW} {a : Int32} : Ctr mX6_bitsOf 0 [.int a] σ (vDet (some (.int (bitsR a))) σ) := by
  refine Ctr.intro (by decide) (fun α => Nat.le_of_ble_eq_true rfl) (fun x G hQ => ?_)
  have G : vG x RX6 cX6_bitsOf 3 (some .int) 0 := G
  show V x 0 [some (.int a), none, none] [] σ
  refine v_iconst (v := nI 0) G dX6_bitsOf_0 (by decide) ?_
  refine v_istore_3_1 G dX6_bitsOf_1 rfl ?_
  refine v_iload_3_0 G dX6_bitsOf_2 ?_
  refine v_istore_3_2 G dX6_bitsOf_3 rfl ?_
  by_cases h0 : a ≤ 0
  · refine v_iload_3_2 G dX6_bitsOf_4 ?_
    refine v_if_le (tgt := 21) G dX6_bitsOf_5 rfl (fun h_5 => ?_) (fun h_5 => absurd h0 h_5)
    refine v_iload_3_1 G dX6_bitsOf_21 ?_
    exact v_iret G hQ dX6_bitsOf_22 (vDet.of (by rw [bitsR, if_pos h0]) rfl)
  · have hv : ∃ v, v < 2147483648 ∧ a = nI v := by
      rw [le_toInt, Int32.toInt_zero] at h0
      have h1 := a.toInt_lt
      refine ⟨a.toInt.toNat, by omega, ?_⟩
      rw [← Int32.toInt_inj, nI_toInt (by omega)]
      omega
    obtain ⟨v, hv, rfl⟩ := hv
    rw [bitsR_nI hv] at hQ
    have hd : ∀ k, v / 2 ^ k < 2147483648 := fun k => Nat.lt_of_le_of_lt (Nat.div_le_self _ _) hv
    have he : ∀ k, (nI (v / 2 ^ k) ≤ 0) → v < 2 ^ k := fun k h => by
      rw [le_toInt, nI_toInt (hd k), Int32.toInt_zero] at h
      exact Nat.lt_of_div_eq_zero (Nat.pos_of_ne_zero (by simp)) (Nat.le_zero.mp (Int.ofNat_le.mp h))
    have hend : ∀ k, k ≤ 31 → nI (v / 2 ^ k) ≤ 0 → nI (bN v k) = nI (bN v 31) := fun k hk h => by
      have h2 := bN_more (he k h) (31 - k)
      rw [show k + (31 - k) = 31 by omega] at h2
      rw [h2]
    have hst : ∀ k, nI (bN v k) + (nI (v / 2 ^ k) &&& nI 1) = nI (bN v (k + 1)) := fun k => by
      rw [show nI 1 = nI (2 ^ 1 - 1) from rfl, fa_mask, nI_add]
      rfl
    have hsh : ∀ k, nI (v / 2 ^ k) >>> (nI 1 &&& 31) = nI (v / 2 ^ (k + 1)) := fun k => by
      rw [nI_sar (hd k) (by decide), Nat.div_div_eq_div_mul, ← Nat.pow_succ]
    rw [show v = v / 2 ^ 0 by simp]
    refine v_for (pc := 4) (31) (fun k => ([some (.int (nI (v / 2 ^ 0))), some (.int (nI (bN v k))), some (.int (nI (v / 2 ^ k)))], σ)) (fun k hk ih => ?_) ?_
    · show V x 4 [some (.int (nI (v / 2 ^ 0))), some (.int (nI (bN v k))), some (.int (nI (v / 2 ^ k)))] [] σ
      have ih : V x 4 [some (.int (nI (v / 2 ^ 0))), some (.int (nI (bN v (k + 1)))), some (.int (nI (v / 2 ^ (k + 1))))] [] σ := ih
      refine v_iload_3_2 G dX6_bitsOf_4 ?_
      refine v_if_le (tgt := 21) G dX6_bitsOf_5 rfl (fun h_5 => ?_) (fun h_5 => ?_)
      · refine v_iload_3_1 G dX6_bitsOf_21 ?_
        exact v_iret G hQ dX6_bitsOf_22 (vDet.of (by first | rw [hend k (by omega) h_5] | rfl) rfl)
      · refine v_iload_3_1 G dX6_bitsOf_8 ?_
        refine v_iload_3_2 G dX6_bitsOf_9 ?_
        refine v_iconst (v := nI 1) G dX6_bitsOf_10 (by decide) ?_
        refine v_iand G dX6_bitsOf_11 ?_
        refine v_iadd G dX6_bitsOf_12 ?_
        refine v_istore_3_1 G dX6_bitsOf_13 rfl ?_
        refine v_iload_3_2 G dX6_bitsOf_14 ?_
        refine v_iconst (v := nI 1) G dX6_bitsOf_15 (by decide) ?_
        refine v_ishr G dX6_bitsOf_16 ?_
        refine v_istore_3_2 G dX6_bitsOf_17 rfl ?_
        refine v_goto (tgt := 4) G dX6_bitsOf_18 rfl ?_
        rw [← hst, ← hsh] at ih
        exact ih
    · show V x 4 [some (.int (nI (v / 2 ^ 0))), some (.int (nI (bN v 31))), some (.int (nI (v / 2 ^ 31)))] [] σ
      refine v_iload_3_2 G dX6_bitsOf_4 ?_
      refine v_if_le (tgt := 21) G dX6_bitsOf_5 rfl (fun h_5 => ?_) (fun h_5 => absurd (by rw [Nat.div_eq_of_lt (show v < 2 ^ 31 by omega)]; decide) h_5)
      refine v_iload_3_1 G dX6_bitsOf_21 ?_
      exact v_iret G hQ dX6_bitsOf_22 (vDet.of (by first | rw [hend k (by omega) h_5] | rfl) rfl)
