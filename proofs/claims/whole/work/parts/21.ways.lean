/-! Town: ways -/
def itS (f : Int32 → Int32) : Nat → Int32 → Int32
  | 0, r => r
  | n + 1, r => f (itS f n r)
theorem itS_fix {f : Int32 → Int32} {k : Nat} {r : Int32} (h : itS f (k + 1) r = itS f k r) : ∀ j, itS f (k + j) r = itS f k r
  | 0 => rfl
  | j + 1 => by
    show f (itS f (k + j) r) = _
    rw [itS_fix h j]
    exact h
theorem itS_fix2 {f : Int32 → Int32} {k n : Nat} {r : Int32} (h : itS f (k + 1) r = itS f k r) (hn : k ≤ n) : itS f (k + 1) r = itS f n r := by
  have h2 := itS_fix h (n - k)
  rw [show k + (n - k) = n by omega] at h2
  rw [h2, h]
/-- the locals known are fewer -/
def vsubP : List (Option Value) → List (Option Value) → Prop
  | [], _ => True
  | none :: r, _ :: r' => vsubP r r'
  | some v :: r, some w :: r' => v = w ∧ vsubP r r'
  | _, _ => False
theorem vsubP_get : ∀ {L' L : List (Option Value)}, vsubP L' L → ∀ (i : Nat) (v : Value), L'[i]? = some (some v) → L[i]? = some (some v)
  | [], _, _, i, v, h => by simp at h
  | none :: r, [], hs, i, v, h => by cases hs
  | none :: r, a :: r', hs, 0, v, h => by simp at h
  | none :: r, a :: r', hs, i + 1, v, h => by
    have := vsubP_get (L' := r) (L := r') hs i v (by simpa using h)
    simpa using this
  | some a :: r, [], hs, i, v, h => by cases hs
  | some a :: r, none :: r', hs, i, v, h => by cases hs
  | some a :: r, some b :: r', hs, 0, v, h => by
    have h2 : a = b := hs.1
    subst h2
    simpa using h
  | some a :: r, some b :: r', hs, i + 1, v, h => by
    have := vsubP_get (L' := r) (L := r') hs.2 i v (by simpa using h)
    simpa using this
theorem V.drop {x : vX} {pc : Nat} {L L' : List (Option Value)} {st : List Value} {σ : vW} (h : vsubP L' L) (k : V x pc L' st σ) : V x pc L st σ := V.mono (vsubP_get h) k
def nextTo (σ : vW) (t : Nat) (rm opn : Int32) : Nat → Int32
  | 0 => nI 0
  | w + 1 => if bitB opn (nI w) = true then
      (if bitB rm (σ (t + 5) w) = true then
        (if bitB rm (σ (t + 6) w) = true then (nextTo σ t rm opn w ||| nI 1 <<< (σ (t + 6) w &&& 31)) ||| nI 1 <<< (σ (t + 5) w &&& 31) else nextTo σ t rm opn w ||| nI 1 <<< (σ (t + 6) w &&& 31))
      else (if bitB rm (σ (t + 6) w) = true then nextTo σ t rm opn w ||| nI 1 <<< (σ (t + 5) w &&& 31) else nextTo σ t rm opn w))
    else nextTo σ t rm opn w
set_option maxHeartbeats 4000000 in
theorem C_X4_nextTo {σ : vW} {t m : Nat} {rm opn : Int32} (hT : TB t) (hm : σ t 11 = nI m) (hm9 : m ≤ 9) : Ctr mX4_nextTo 1 [.ref t, .int rm, .int opn] σ (vDet (some (.int (nextTo σ t rm opn m))) σ) := by
  refine Ctr.intro (by decide) (fun α => Nat.le_of_ble_eq_true rfl) (fun x G hQ => ?_)
  have G : vG x RX4 cX4_nextTo 6 (some .int) 1 := G
  show V x 0 [some (.ref t), some (.int rm), some (.int opn), none, none, none] [] σ
  refine v_iconst (v := nI 0) G dX4_nextTo_0 (by decide) ?_
  refine v_istore_6_3 G dX4_nextTo_1 rfl ?_
  refine v_iconst (v := nI 0) G dX4_nextTo_2 (by decide) ?_
  refine v_istore_6_4 G dX4_nextTo_3 rfl ?_
  refine v_for (pc := 5) (m) (fun k => ([some (.ref t), some (.int rm), some (.int opn), some (.int (nextTo σ t rm opn k)), some (.int (nI k)), none], σ)) (fun k hk ih => ?_) ?_
  · show V x 5 [some (.ref t), some (.int rm), some (.int opn), some (.int (nextTo σ t rm opn k)), some (.int (nI k)), none] [] σ
    have ih : V x 5 [some (.ref t), some (.int rm), some (.int opn), some (.int (nextTo σ t rm opn (k + 1))), some (.int (nI (k + 1))), none] [] σ := ih
    refine v_iload_6_4 G dX4_nextTo_5 ?_
    refine v_aload_6_0 G dX4_nextTo_7 ?_
    refine v_getI G vc_4 lk_X4_52 (fs_X4_11 (by first | assumption | exact imgP_TB)) dX4_nextTo_8 ?_
    refine v_icmp_ge (tgt := 90) G dX4_nextTo_11 rfl (fun h_11 => absurd h_11 (by rw [hm]; exact nI_ge hk (by omega))) (fun h_11 => ?_)
    refine v_iload_6_2 G dX4_nextTo_14 ?_
    refine v_iload_6_4 G dX4_nextTo_15 ?_
    refine v_cN2 G (C_X5_hasBit) (by decide) md_X5_hasBit st_X5_hasBit nl_X4_89 (Nat.le_of_ble_eq_true rfl) dX4_nextTo_17 ?_
    refine v_istore_6_5 G dX4_nextTo_20 rfl ?_
    refine v_iload_6_5 G dX4_nextTo_22 ?_
    refine v_ifB_eq (tgt := 53) G dX4_nextTo_24 rfl (fun h_24 => ?_) (fun h_24 => ?_)
    · refine v_iload_6_5 G dX4_nextTo_53 ?_
      refine v_ifB_eq (tgt := 84) G dX4_nextTo_55 rfl (fun h_55 => ?_) (fun h_55 => ?_)
      · refine v_iincN_6_4 G dX4_nextTo_84 rfl ?_
        refine v_goto (tgt := 5) G dX4_nextTo_87 rfl ?_
        first
          | exact absurd (h_24.symm.trans h_55) Bool.false_ne_true
          | exact absurd (h_55.symm.trans h_24) Bool.false_ne_true
          | (simp only [nextTo, h_11, h_24, h_55, if_true, if_false, Bool.false_eq_true, reduceIte] at ih; exact V.drop (by simp only [vsubP, and_self]) ih)
      · refine v_iload_6_1 G dX4_nextTo_58 ?_
        refine v_aload_6_0 G dX4_nextTo_59 ?_
        refine v_getR G vc_4 lk_X4_27 (fs_X4_5 (by first | assumption | exact imgP_TB)) dX4_nextTo_60 ?_
        refine v_iload_6_4 G dX4_nextTo_63 ?_
        refine v_ialdN G (as_X4_5 (by first | assumption | exact imgP_TB)) (by first | assumption | omega | exact oneB_in (by assumption) | exact wallB_in (by assumption) | exact oneB_m1 (by assumption) | decide) (by first | decide | omega) dX4_nextTo_65 ?_
        refine v_cN2 G (C_X5_hasBit) (by decide) md_X5_hasBit st_X5_hasBit nl_X4_89 (Nat.le_of_ble_eq_true rfl) dX4_nextTo_66 ?_
        refine v_ifB_eq (tgt := 84) G dX4_nextTo_69 rfl (fun h_69 => ?_) (fun h_69 => ?_)
        · refine v_iincN_6_4 G dX4_nextTo_84 rfl ?_
          refine v_goto (tgt := 5) G dX4_nextTo_87 rfl ?_
          first
            | exact absurd (h_24.symm.trans h_55) Bool.false_ne_true
            | exact absurd (h_55.symm.trans h_24) Bool.false_ne_true
            | (simp only [nextTo, h_11, h_24, h_55, h_69, if_true, if_false, Bool.false_eq_true, reduceIte] at ih; exact V.drop (by simp only [vsubP, and_self]) ih)
        · refine v_iload_6_3 G dX4_nextTo_72 ?_
          refine v_iconst (v := nI 1) G dX4_nextTo_73 (by decide) ?_
          refine v_aload_6_0 G dX4_nextTo_74 ?_
          refine v_getR G vc_4 lk_X4_24 (fs_X4_4 (by first | assumption | exact imgP_TB)) dX4_nextTo_75 ?_
          refine v_iload_6_4 G dX4_nextTo_78 ?_
          refine v_ialdN G (as_X4_4 (by first | assumption | exact imgP_TB)) (by first | assumption | omega | exact oneB_in (by assumption) | exact wallB_in (by assumption) | exact oneB_m1 (by assumption) | decide) (by first | decide | omega) dX4_nextTo_80 ?_
          refine v_ishl G dX4_nextTo_81 ?_
          refine v_ior G dX4_nextTo_82 ?_
          refine v_istore_6_3 G dX4_nextTo_83 rfl ?_
          refine v_iincN_6_4 G dX4_nextTo_84 rfl ?_
          refine v_goto (tgt := 5) G dX4_nextTo_87 rfl ?_
          first
            | exact absurd (h_24.symm.trans h_55) Bool.false_ne_true
            | exact absurd (h_55.symm.trans h_24) Bool.false_ne_true
            | (simp only [nextTo, h_11, h_24, h_55, h_69, if_true, if_false, Bool.false_eq_true, reduceIte] at ih; exact V.drop (by simp only [vsubP, and_self]) ih)
    · refine v_iload_6_1 G dX4_nextTo_27 ?_
      refine v_aload_6_0 G dX4_nextTo_28 ?_
      refine v_getR G vc_4 lk_X4_24 (fs_X4_4 (by first | assumption | exact imgP_TB)) dX4_nextTo_29 ?_
      refine v_iload_6_4 G dX4_nextTo_32 ?_
      refine v_ialdN G (as_X4_4 (by first | assumption | exact imgP_TB)) (by first | assumption | omega | exact oneB_in (by assumption) | exact wallB_in (by assumption) | exact oneB_m1 (by assumption) | decide) (by first | decide | omega) dX4_nextTo_34 ?_
      refine v_cN2 G (C_X5_hasBit) (by decide) md_X5_hasBit st_X5_hasBit nl_X4_89 (Nat.le_of_ble_eq_true rfl) dX4_nextTo_35 ?_
      refine v_ifB_eq (tgt := 53) G dX4_nextTo_38 rfl (fun h_38 => ?_) (fun h_38 => ?_)
      · refine v_iload_6_5 G dX4_nextTo_53 ?_
        refine v_ifB_eq (tgt := 84) G dX4_nextTo_55 rfl (fun h_55 => ?_) (fun h_55 => ?_)
        · refine v_iincN_6_4 G dX4_nextTo_84 rfl ?_
          refine v_goto (tgt := 5) G dX4_nextTo_87 rfl ?_
          first
            | exact absurd (h_24.symm.trans h_55) Bool.false_ne_true
            | exact absurd (h_55.symm.trans h_24) Bool.false_ne_true
            | (simp only [nextTo, h_11, h_24, h_38, h_55, if_true, if_false, Bool.false_eq_true, reduceIte] at ih; exact V.drop (by simp only [vsubP, and_self]) ih)
        · refine v_iload_6_1 G dX4_nextTo_58 ?_
          refine v_aload_6_0 G dX4_nextTo_59 ?_
          refine v_getR G vc_4 lk_X4_27 (fs_X4_5 (by first | assumption | exact imgP_TB)) dX4_nextTo_60 ?_
          refine v_iload_6_4 G dX4_nextTo_63 ?_
          refine v_ialdN G (as_X4_5 (by first | assumption | exact imgP_TB)) (by first | assumption | omega | exact oneB_in (by assumption) | exact wallB_in (by assumption) | exact oneB_m1 (by assumption) | decide) (by first | decide | omega) dX4_nextTo_65 ?_
          refine v_cN2 G (C_X5_hasBit) (by decide) md_X5_hasBit st_X5_hasBit nl_X4_89 (Nat.le_of_ble_eq_true rfl) dX4_nextTo_66 ?_
          refine v_ifB_eq (tgt := 84) G dX4_nextTo_69 rfl (fun h_69 => ?_) (fun h_69 => ?_)
          · refine v_iincN_6_4 G dX4_nextTo_84 rfl ?_
            refine v_goto (tgt := 5) G dX4_nextTo_87 rfl ?_
            first
              | exact absurd (h_24.symm.trans h_55) Bool.false_ne_true
              | exact absurd (h_55.symm.trans h_24) Bool.false_ne_true
              | (simp only [nextTo, h_11, h_24, h_38, h_55, h_69, if_true, if_false, Bool.false_eq_true, reduceIte] at ih; exact V.drop (by simp only [vsubP, and_self]) ih)
          · refine v_iload_6_3 G dX4_nextTo_72 ?_
            refine v_iconst (v := nI 1) G dX4_nextTo_73 (by decide) ?_
            refine v_aload_6_0 G dX4_nextTo_74 ?_
            refine v_getR G vc_4 lk_X4_24 (fs_X4_4 (by first | assumption | exact imgP_TB)) dX4_nextTo_75 ?_
            refine v_iload_6_4 G dX4_nextTo_78 ?_
            refine v_ialdN G (as_X4_4 (by first | assumption | exact imgP_TB)) (by first | assumption | omega | exact oneB_in (by assumption) | exact wallB_in (by assumption) | exact oneB_m1 (by assumption) | decide) (by first | decide | omega) dX4_nextTo_80 ?_
            refine v_ishl G dX4_nextTo_81 ?_
            refine v_ior G dX4_nextTo_82 ?_
            refine v_istore_6_3 G dX4_nextTo_83 rfl ?_
            refine v_iincN_6_4 G dX4_nextTo_84 rfl ?_
            refine v_goto (tgt := 5) G dX4_nextTo_87 rfl ?_
            first
              | exact absurd (h_24.symm.trans h_55) Bool.false_ne_true
              | exact absurd (h_55.symm.trans h_24) Bool.false_ne_true
              | (simp only [nextTo, h_11, h_24, h_38, h_55, h_69, if_true, if_false, Bool.false_eq_true, reduceIte] at ih; exact V.drop (by simp only [vsubP, and_self]) ih)
      · refine v_iload_6_3 G dX4_nextTo_41 ?_
        refine v_iconst (v := nI 1) G dX4_nextTo_42 (by decide) ?_
        refine v_aload_6_0 G dX4_nextTo_43 ?_
        refine v_getR G vc_4 lk_X4_27 (fs_X4_5 (by first | assumption | exact imgP_TB)) dX4_nextTo_44 ?_
        refine v_iload_6_4 G dX4_nextTo_47 ?_
        refine v_ialdN G (as_X4_5 (by first | assumption | exact imgP_TB)) (by first | assumption | omega | exact oneB_in (by assumption) | exact wallB_in (by assumption) | exact oneB_m1 (by assumption) | decide) (by first | decide | omega) dX4_nextTo_49 ?_
        refine v_ishl G dX4_nextTo_50 ?_
        refine v_ior G dX4_nextTo_51 ?_
        refine v_istore_6_3 G dX4_nextTo_52 rfl ?_
        refine v_iload_6_5 G dX4_nextTo_53 ?_
        refine v_ifB_eq (tgt := 84) G dX4_nextTo_55 rfl (fun h_55 => ?_) (fun h_55 => ?_)
        · refine v_iincN_6_4 G dX4_nextTo_84 rfl ?_
          refine v_goto (tgt := 5) G dX4_nextTo_87 rfl ?_
          first
            | exact absurd (h_24.symm.trans h_55) Bool.false_ne_true
            | exact absurd (h_55.symm.trans h_24) Bool.false_ne_true
            | (simp only [nextTo, h_11, h_24, h_38, h_55, if_true, if_false, Bool.false_eq_true, reduceIte] at ih; exact V.drop (by simp only [vsubP, and_self]) ih)
        · refine v_iload_6_1 G dX4_nextTo_58 ?_
          refine v_aload_6_0 G dX4_nextTo_59 ?_
          refine v_getR G vc_4 lk_X4_27 (fs_X4_5 (by first | assumption | exact imgP_TB)) dX4_nextTo_60 ?_
          refine v_iload_6_4 G dX4_nextTo_63 ?_
          refine v_ialdN G (as_X4_5 (by first | assumption | exact imgP_TB)) (by first | assumption | omega | exact oneB_in (by assumption) | exact wallB_in (by assumption) | exact oneB_m1 (by assumption) | decide) (by first | decide | omega) dX4_nextTo_65 ?_
          refine v_cN2 G (C_X5_hasBit) (by decide) md_X5_hasBit st_X5_hasBit nl_X4_89 (Nat.le_of_ble_eq_true rfl) dX4_nextTo_66 ?_
          refine v_ifB_eq (tgt := 84) G dX4_nextTo_69 rfl (fun h_69 => ?_) (fun h_69 => ?_)
          · refine v_iincN_6_4 G dX4_nextTo_84 rfl ?_
            refine v_goto (tgt := 5) G dX4_nextTo_87 rfl ?_
            first
              | exact absurd (h_24.symm.trans h_55) Bool.false_ne_true
              | exact absurd (h_55.symm.trans h_24) Bool.false_ne_true
              | (simp only [nextTo, h_11, h_24, h_38, h_55, h_69, if_true, if_false, Bool.false_eq_true, reduceIte] at ih; exact V.drop (by simp only [vsubP, and_self]) ih)
          · refine v_iload_6_3 G dX4_nextTo_72 ?_
            refine v_iconst (v := nI 1) G dX4_nextTo_73 (by decide) ?_
            refine v_aload_6_0 G dX4_nextTo_74 ?_
            refine v_getR G vc_4 lk_X4_24 (fs_X4_4 (by first | assumption | exact imgP_TB)) dX4_nextTo_75 ?_
            refine v_iload_6_4 G dX4_nextTo_78 ?_
            refine v_ialdN G (as_X4_4 (by first | assumption | exact imgP_TB)) (by first | assumption | omega | exact oneB_in (by assumption) | exact wallB_in (by assumption) | exact oneB_m1 (by assumption) | decide) (by first | decide | omega) dX4_nextTo_80 ?_
            refine v_ishl G dX4_nextTo_81 ?_
            refine v_ior G dX4_nextTo_82 ?_
            refine v_istore_6_3 G dX4_nextTo_83 rfl ?_
            refine v_iincN_6_4 G dX4_nextTo_84 rfl ?_
            refine v_goto (tgt := 5) G dX4_nextTo_87 rfl ?_
            first
              | exact absurd (h_24.symm.trans h_55) Bool.false_ne_true
              | exact absurd (h_55.symm.trans h_24) Bool.false_ne_true
              | (simp only [nextTo, h_11, h_24, h_38, h_55, h_69, if_true, if_false, Bool.false_eq_true, reduceIte] at ih; exact V.drop (by simp only [vsubP, and_self]) ih)
  · show V x 5 [some (.ref t), some (.int rm), some (.int opn), some (.int (nextTo σ t rm opn m)), some (.int (nI m)), none] [] σ
    refine v_iload_6_4 G dX4_nextTo_5 ?_
    refine v_aload_6_0 G dX4_nextTo_7 ?_
    refine v_getI G vc_4 lk_X4_52 (fs_X4_11 (by first | assumption | exact imgP_TB)) dX4_nextTo_8 ?_
    refine v_icmp_ge (tgt := 90) G dX4_nextTo_11 rfl (fun h_11 => ?_) (fun h_11 => absurd (by rw [hm]; exact nI_le (Nat.le_refl _) (by omega)) h_11)
    refine v_iload_6_3 G dX4_nextTo_90 ?_
    exact v_iret G hQ dX4_nextTo_91 (vDet.of rfl rfl)
def stepS (σ : vW) (t m : Nat) (opn rm : Int32) : Int32 := rm ||| nextTo σ t rm opn m
def spreadW (σ : vW) (t m : Nat) (opn fr : Int32) : Int32 := itS (stepS σ t m opn) 8 (nI 1 <<< (fr &&& 31))
set_option maxHeartbeats 4000000 in
theorem C_X4_spread {σ : vW} {t m : Nat} {fr opn : Int32} (hT : TB t) (hm : σ t 11 = nI m) (hm9 : m ≤ 9) : Ctr mX4_spread 2 [.ref t, .int fr, .int opn] σ (vDet (some (.int (spreadW σ t m opn fr))) σ) := by
  refine Ctr.intro (by decide) (fun α => Nat.le_of_ble_eq_true rfl) (fun x G hQ => ?_)
  have G : vG x RX4 cX4_spread 6 (some .int) 2 := G
  show V x 0 [some (.ref t), some (.int fr), some (.int opn), none, none, none] [] σ
  refine v_iconst (v := nI 1) G dX4_spread_0 (by decide) ?_
  refine v_iload_6_1 G dX4_spread_1 ?_
  refine v_ishl G dX4_spread_2 ?_
  refine v_istore_6_3 G dX4_spread_3 rfl ?_
  refine v_iload_6_3 G dX4_spread_4 ?_
  refine v_aload_6_0 G dX4_spread_5 ?_
  refine v_iload_6_3 G dX4_spread_6 ?_
  refine v_iload_6_2 G dX4_spread_7 ?_
  refine v_cV2 G (C_X4_nextTo (by first | assumption | omega | exact oneB_in (by assumption) | exact wallB_in (by assumption) | exact oneB_m1 (by assumption) | decide) (by first | assumption | omega | exact oneB_in (by assumption) | exact wallB_in (by assumption) | exact oneB_m1 (by assumption) | decide) (by first | assumption | omega | exact oneB_in (by assumption) | exact wallB_in (by assumption) | exact oneB_m1 (by assumption) | decide)) (by decide) md_X4_nextTo in_X4_nextTo (rv_X4 (by first | assumption | exact imgP_TB | exact shP_SB) rfl) ml_X4_92 (Nat.le_of_ble_eq_true rfl) dX4_spread_8 ?_
  refine v_ior G dX4_spread_11 ?_
  refine v_istore_6_4 G dX4_spread_12 rfl ?_
  refine v_iconst (v := nI 1) G dX4_spread_14 (by decide) ?_
  refine v_istore_6_5 G dX4_spread_15 rfl ?_
  refine v_for (pc := 17) (7) (fun k => ([some (.ref t), some (.int fr), some (.int opn), some (.int (itS (stepS σ t m opn) k (nI 1 <<< (fr &&& 31)))), some (.int (itS (stepS σ t m opn) (k + 1) (nI 1 <<< (fr &&& 31)))), some (.int (nI (k + 1)))], σ)) (fun k hk ih => ?_) ?_
  · show V x 17 [some (.ref t), some (.int fr), some (.int opn), some (.int (itS (stepS σ t m opn) k (nI 1 <<< (fr &&& 31)))), some (.int (itS (stepS σ t m opn) (k + 1) (nI 1 <<< (fr &&& 31)))), some (.int (nI (k + 1)))] [] σ
    have ih : V x 17 [some (.ref t), some (.int fr), some (.int opn), some (.int (itS (stepS σ t m opn) (k + 1) (nI 1 <<< (fr &&& 31)))), some (.int (itS (stepS σ t m opn) ((k + 1) + 1) (nI 1 <<< (fr &&& 31)))), some (.int (nI ((k + 1) + 1)))] [] σ := ih
    refine v_iload_6_5 G dX4_spread_17 ?_
    refine v_bipush (v := nI 8) G dX4_spread_19 (by decide) ?_
    refine v_icmp_ge (tgt := 50) G dX4_spread_21 rfl (fun h_21 => absurd h_21 (nI_ge (by omega) (by omega))) (fun h_21 => ?_)
    refine v_iload_6_4 G dX4_spread_24 ?_
    refine v_iload_6_3 G dX4_spread_26 ?_
    refine v_icmp_eq (tgt := 50) G dX4_spread_27 rfl (fun h_27 => ?_) (fun h_27 => ?_)
    · refine v_iload_6_4 G dX4_spread_50 ?_
      exact v_iret G hQ dX4_spread_52 (vDet.of (by first | rfl | exact congrArg (fun z => some (Value.int z)) (itS_fix2 (by assumption) (by omega))) rfl)
    · refine v_iload_6_4 G dX4_spread_30 ?_
      refine v_istore_6_3 G dX4_spread_32 rfl ?_
      refine v_iload_6_4 G dX4_spread_33 ?_
      refine v_aload_6_0 G dX4_spread_35 ?_
      refine v_iload_6_3 G dX4_spread_36 ?_
      refine v_iload_6_2 G dX4_spread_37 ?_
      refine v_cV2 G (C_X4_nextTo (by first | assumption | omega | exact oneB_in (by assumption) | exact wallB_in (by assumption) | exact oneB_m1 (by assumption) | decide) (by first | assumption | omega | exact oneB_in (by assumption) | exact wallB_in (by assumption) | exact oneB_m1 (by assumption) | decide) (by first | assumption | omega | exact oneB_in (by assumption) | exact wallB_in (by assumption) | exact oneB_m1 (by assumption) | decide)) (by decide) md_X4_nextTo in_X4_nextTo (rv_X4 (by first | assumption | exact imgP_TB | exact shP_SB) rfl) ml_X4_92 (Nat.le_of_ble_eq_true rfl) dX4_spread_38 ?_
      refine v_ior G dX4_spread_41 ?_
      refine v_istore_6_4 G dX4_spread_42 rfl ?_
      refine v_iincN_6_5 G dX4_spread_44 rfl ?_
      refine v_goto (tgt := 17) G dX4_spread_47 rfl ?_
      exact ih
  · show V x 17 [some (.ref t), some (.int fr), some (.int opn), some (.int (itS (stepS σ t m opn) 7 (nI 1 <<< (fr &&& 31)))), some (.int (itS (stepS σ t m opn) (7 + 1) (nI 1 <<< (fr &&& 31)))), some (.int (nI (7 + 1)))] [] σ
    refine v_iload_6_5 G dX4_spread_17 ?_
    refine v_bipush (v := nI 8) G dX4_spread_19 (by decide) ?_
    refine v_icmp_ge (tgt := 50) G dX4_spread_21 rfl (fun h_21 => ?_) (fun h_21 => absurd (nI_le (by omega) (by omega)) h_21)
    refine v_iload_6_4 G dX4_spread_50 ?_
    exact v_iret G hQ dX4_spread_52 (vDet.of (by first | rfl | exact congrArg (fun z => some (Value.int z)) (itS_fix2 (by assumption) (by omega))) rfl)
def distG (f : Int32 → Int32) (to : Int32) : Nat → Nat → Int32 → Int32
  | 0, _, _ => -4
  | n + 1, s, r => if bitB r to = true then nI s else distG f to n (s + 1) (f r)
def distW (σ : vW) (t m : Nat) (opn fr to : Int32) : Int32 := distG (stepS σ t m opn) to 8 0 (nI 1 <<< (fr &&& 31))
set_option maxHeartbeats 4000000 in
theorem C_X4_distance {σ : vW} {t m : Nat} {fr to opn : Int32} (hT : TB t) (hm : σ t 11 = nI m) (hm9 : m ≤ 9) : Ctr mX4_distance 2 [.ref t, .int fr, .int to, .int opn] σ (vDet (some (.int (distW σ t m opn fr to))) σ) := by
  refine Ctr.intro (by decide) (fun α => Nat.le_of_ble_eq_true rfl) (fun x G hQ => ?_)
  have G : vG x RX4 cX4_distance 6 (some .int) 2 := G
  show V x 0 [some (.ref t), some (.int fr), some (.int to), some (.int opn), none, none] [] σ
  refine v_iconst (v := nI 1) G dX4_distance_0 (by decide) ?_
  refine v_iload_6_1 G dX4_distance_1 ?_
  refine v_ishl G dX4_distance_2 ?_
  refine v_istore_6_4 G dX4_distance_3 rfl ?_
  refine v_iconst (v := nI 0) G dX4_distance_5 (by decide) ?_
  refine v_istore_6_5 G dX4_distance_6 rfl ?_
  refine v_forP (pc := 8) (8) (fun k => distW σ t m opn fr to = distG (stepS σ t m opn) to (8 - k) k (itS (stepS σ t m opn) k (nI 1 <<< (fr &&& 31)))) (fun k => ([some (.ref t), some (.int fr), some (.int to), some (.int opn), some (.int (itS (stepS σ t m opn) k (nI 1 <<< (fr &&& 31)))), some (.int (nI k))], σ)) rfl (fun k hk hp ih => ?_) (fun hp => ?_)
  · show V x 8 [some (.ref t), some (.int fr), some (.int to), some (.int opn), some (.int (itS (stepS σ t m opn) k (nI 1 <<< (fr &&& 31)))), some (.int (nI k))] [] σ
    have ih : (distW σ t m opn fr to = distG (stepS σ t m opn) to (8 - (k + 1)) (k + 1) (itS (stepS σ t m opn) (k + 1) (nI 1 <<< (fr &&& 31)))) → V x 8 [some (.ref t), some (.int fr), some (.int to), some (.int opn), some (.int (itS (stepS σ t m opn) (k + 1) (nI 1 <<< (fr &&& 31)))), some (.int (nI (k + 1)))] [] σ := ih
    have hp : distW σ t m opn fr to = distG (stepS σ t m opn) to (8 - k) k (itS (stepS σ t m opn) k (nI 1 <<< (fr &&& 31))) := hp
    rw [show 8 - k = (7 - k) + 1 by omega, distG] at hp
    refine v_iload_6_5 G dX4_distance_8 ?_
    refine v_bipush (v := nI 8) G dX4_distance_10 (by decide) ?_
    refine v_icmp_ge (tgt := 45) G dX4_distance_12 rfl (fun h_12 => absurd h_12 (by exact nI_ge hk (by omega))) (fun h_12 => ?_)
    refine v_iload_6_4 G dX4_distance_15 ?_
    refine v_iload_6_2 G dX4_distance_17 ?_
    refine v_cN2 G (C_X5_hasBit) (by decide) md_X5_hasBit st_X5_hasBit nl_X4_89 (Nat.le_of_ble_eq_true rfl) dX4_distance_18 ?_
    refine v_ifB_eq (tgt := 27) G dX4_distance_21 rfl (fun h_21 => ?_) (fun h_21 => ?_)
    · refine v_iload_6_4 G dX4_distance_27 ?_
      refine v_aload_6_0 G dX4_distance_29 ?_
      refine v_iload_6_4 G dX4_distance_30 ?_
      refine v_iload_6_3 G dX4_distance_32 ?_
      refine v_cV2 G (C_X4_nextTo (by first | assumption | omega | exact oneB_in (by assumption) | exact wallB_in (by assumption) | exact oneB_m1 (by assumption) | decide) (by first | assumption | omega | exact oneB_in (by assumption) | exact wallB_in (by assumption) | exact oneB_m1 (by assumption) | decide) (by first | assumption | omega | exact oneB_in (by assumption) | exact wallB_in (by assumption) | exact oneB_m1 (by assumption) | decide)) (by decide) md_X4_nextTo in_X4_nextTo (rv_X4 (by first | assumption | exact imgP_TB | exact shP_SB) rfl) ml_X4_92 (Nat.le_of_ble_eq_true rfl) dX4_distance_33 ?_
      refine v_ior G dX4_distance_36 ?_
      refine v_istore_6_4 G dX4_distance_37 rfl ?_
      refine v_iincN_6_5 G dX4_distance_39 rfl ?_
      refine v_goto (tgt := 8) G dX4_distance_42 rfl ?_
      refine ih ?_
      rw [show 8 - (k + 1) = 7 - k by omega, hp, if_neg (by rw [h_21]; decide)]
      rfl
    · refine v_iload_6_5 G dX4_distance_24 ?_
      exact v_iret G hQ dX4_distance_26 (vDet.of (by rw [hp] <;> first | rfl | rw [if_pos (by assumption)]) rfl)
  · show V x 8 [some (.ref t), some (.int fr), some (.int to), some (.int opn), some (.int (itS (stepS σ t m opn) 8 (nI 1 <<< (fr &&& 31)))), some (.int (nI 8))] [] σ
    have hp : distW σ t m opn fr to = distG (stepS σ t m opn) to (8 - 8) 8 (itS (stepS σ t m opn) 8 (nI 1 <<< (fr &&& 31))) := hp
    refine v_iload_6_5 G dX4_distance_8 ?_
    refine v_bipush (v := nI 8) G dX4_distance_10 (by decide) ?_
    refine v_icmp_ge (tgt := 45) G dX4_distance_12 rfl (fun h_12 => ?_) (fun h_12 => absurd (by exact nI_le (Nat.le_refl _) (by omega)) h_12)
    refine v_bipush (v := (-4)) G dX4_distance_45 (by decide) ?_
    exact v_iret G hQ dX4_distance_47 (vDet.of (by rw [hp] <;> first | rfl | rw [if_pos (by assumption)]) rfl)
def distIf (σ : vW) (t m : Nat) (h w : Int32) (p : Nat) (r : Int32) : Int32 := if canB σ t h w = true then distW σ t m (passIf σ t h w (nI p) m) (σ (t + 3) p) r else -4
set_option maxHeartbeats 4000000 in
theorem C_X4_distanceIfHung {σ : vW} {t m p : Nat} {h w r : Int32} (hT : TB t) (hp : p < 5) (hm : σ t 11 = nI m) (hm9 : m ≤ 9) : Ctr mX4_distanceIfHung 4 [.ref t, .int h, .int w, .int (nI p), .int r] σ (vDet (some (.int (distIf σ t m h w p r))) σ) := by
  refine Ctr.intro (by decide) (fun α => Nat.le_of_ble_eq_true rfl) (fun x G hQ => ?_)
  have G : vG x RX4 cX4_distanceIfHung 5 (some .int) 4 := G
  show V x 0 [some (.ref t), some (.int h), some (.int w), some (.int (nI p)), some (.int r)] [] σ
  refine v_aload_5_0 G dX4_distanceIfHung_0 ?_
  refine v_iload_5_1 G dX4_distanceIfHung_1 ?_
  refine v_iload_5_2 G dX4_distanceIfHung_2 ?_
  refine v_cV2 G (C_X4_canHang (by first | assumption | omega | exact oneB_in (by assumption) | exact wallB_in (by assumption) | exact oneB_m1 (by assumption) | decide)) (by decide) md_X4_canHang in_X4_canHang (rv_X4 (by first | assumption | exact imgP_TB | exact shP_SB) rfl) ml_X4_71 (Nat.le_of_ble_eq_true rfl) dX4_distanceIfHung_3 ?_
  refine v_ifB_eq (tgt := 31) G dX4_distanceIfHung_6 rfl (fun h_6 => ?_) (fun h_6 => ?_)
  · refine v_bipush (v := (-4)) G dX4_distanceIfHung_31 (by decide) ?_
    exact v_iret G hQ dX4_distanceIfHung_33 (vDet.of (by simp only [distIf, bI, h_6, if_true, if_false, Bool.false_eq_true, reduceIte] <;> try rfl) rfl)
  · refine v_aload_5_0 G dX4_distanceIfHung_9 ?_
    refine v_aload_5_0 G dX4_distanceIfHung_10 ?_
    refine v_getR G vc_4 lk_X4_18 (fs_X4_2 (by first | assumption | exact imgP_TB)) dX4_distanceIfHung_11 ?_
    refine v_iload_5_3 G dX4_distanceIfHung_14 ?_
    refine v_ialdN G (as_X4_2 (by first | assumption | exact imgP_TB)) (by first | assumption | omega | exact oneB_in (by assumption) | exact wallB_in (by assumption) | exact oneB_m1 (by assumption) | decide) (by first | decide | omega) dX4_distanceIfHung_15 ?_
    refine v_iload_5_4 G dX4_distanceIfHung_16 ?_
    refine v_aload_5_0 G dX4_distanceIfHung_18 ?_
    refine v_iload_5_1 G dX4_distanceIfHung_19 ?_
    refine v_iload_5_2 G dX4_distanceIfHung_20 ?_
    refine v_iload_5_3 G dX4_distanceIfHung_21 ?_
    refine v_cV3 G (C_X4_passedIfHung (by first | assumption | omega | exact oneB_in (by assumption) | exact wallB_in (by assumption) | exact oneB_m1 (by assumption) | decide) (by first | assumption | omega | exact oneB_in (by assumption) | exact wallB_in (by assumption) | exact oneB_m1 (by assumption) | decide) (by first | assumption | omega | exact oneB_in (by assumption) | exact wallB_in (by assumption) | exact oneB_m1 (by assumption) | decide)) (by decide) md_X4_passedIfHung in_X4_passedIfHung (rv_X4 (by first | assumption | exact imgP_TB | exact shP_SB) rfl) ml_X4_95 (Nat.le_of_ble_eq_true rfl) dX4_distanceIfHung_22 ?_
    refine v_cV3 G (C_X4_distance (by first | assumption | omega | exact oneB_in (by assumption) | exact wallB_in (by assumption) | exact oneB_m1 (by assumption) | decide) (by first | assumption | omega | exact oneB_in (by assumption) | exact wallB_in (by assumption) | exact oneB_m1 (by assumption) | decide) (by first | assumption | omega | exact oneB_in (by assumption) | exact wallB_in (by assumption) | exact oneB_m1 (by assumption) | decide)) (by decide) md_X4_distance in_X4_distance (rv_X4 (by first | assumption | exact imgP_TB | exact shP_SB) rfl) ml_X4_99 (Nat.le_of_ble_eq_true rfl) dX4_distanceIfHung_25 ?_
    refine v_goto (tgt := 33) G dX4_distanceIfHung_28 rfl ?_
    exact v_iret G hQ dX4_distanceIfHung_33 (vDet.of (by simp only [distIf, bI, h_6, if_true, if_false, Bool.false_eq_true, reduceIte] <;> try rfl) rfl)
def reachW (σ : vW) (t m p : Nat) : Int32 := spreadW σ t m (passTo σ t (nI p) m) (σ (t + 3) p)
set_option maxHeartbeats 4000000 in
theorem C_X4_reached {σ : vW} {t m p : Nat} (hT : TB t) (hp : p < 5) (hm : σ t 11 = nI m) (hm9 : m ≤ 9) : Ctr mX4_reached 3 [.ref t, .int (nI p)] σ (vDet (some (.int (reachW σ t m p))) σ) := by
  refine Ctr.intro (by decide) (fun α => Nat.le_of_ble_eq_true rfl) (fun x G hQ => ?_)
  have G : vG x RX4 cX4_reached 2 (some .int) 3 := G
  show V x 0 [some (.ref t), some (.int (nI p))] [] σ
  refine v_aload_2_0 G dX4_reached_0 ?_
  refine v_aload_2_0 G dX4_reached_1 ?_
  refine v_getR G vc_4 lk_X4_18 (fs_X4_2 (by first | assumption | exact imgP_TB)) dX4_reached_2 ?_
  refine v_iload_2_1 G dX4_reached_5 ?_
  refine v_ialdN G (as_X4_2 (by first | assumption | exact imgP_TB)) (by first | assumption | omega | exact oneB_in (by assumption) | exact wallB_in (by assumption) | exact oneB_m1 (by assumption) | decide) (by first | decide | omega) dX4_reached_6 ?_
  refine v_aload_2_0 G dX4_reached_7 ?_
  refine v_iload_2_1 G dX4_reached_8 ?_
  refine v_cV1 G (C_X4_passed (by first | assumption | omega | exact oneB_in (by assumption) | exact wallB_in (by assumption) | exact oneB_m1 (by assumption) | decide) (by first | assumption | omega | exact oneB_in (by assumption) | exact wallB_in (by assumption) | exact oneB_m1 (by assumption) | decide) (by first | assumption | omega | exact oneB_in (by assumption) | exact wallB_in (by assumption) | exact oneB_m1 (by assumption) | decide)) (by decide) md_X4_passed in_X4_passed (rv_X4 (by first | assumption | exact imgP_TB | exact shP_SB) rfl) ml_X4_85 (Nat.le_of_ble_eq_true rfl) dX4_reached_9 ?_
  refine v_cV2 G (C_X4_spread (by first | assumption | omega | exact oneB_in (by assumption) | exact wallB_in (by assumption) | exact oneB_m1 (by assumption) | decide) (by first | assumption | omega | exact oneB_in (by assumption) | exact wallB_in (by assumption) | exact oneB_m1 (by assumption) | decide) (by first | assumption | omega | exact oneB_in (by assumption) | exact wallB_in (by assumption) | exact oneB_m1 (by assumption) | decide)) (by decide) md_X4_spread in_X4_spread (rv_X4 (by first | assumption | exact imgP_TB | exact shP_SB) rfl) ml_X4_102 (Nat.le_of_ble_eq_true rfl) dX4_reached_12 ?_
  exact v_iret G hQ dX4_reached_15 (vDet.of rfl rfl)
def worthTo (σ : vW) (t : Nat) (rm : Int32) : Nat → Int32
  | 0 => nI 0
  | k + 1 => if bitB rm (nI k) = true then worthTo σ t rm k + σ (t + 8) k else worthTo σ t rm k
set_option maxHeartbeats 4000000 in
theorem C_X4_worthOf {σ : vW} {t : Nat} {rm : Int32} (hT : TB t) : Ctr mX4_worthOf 1 [.ref t, .int rm] σ (vDet (some (.int (worthTo σ t rm 8))) σ) := by
  refine Ctr.intro (by decide) (fun α => Nat.le_of_ble_eq_true rfl) (fun x G hQ => ?_)
  have G : vG x RX4 cX4_worthOf 4 (some .int) 1 := G
  show V x 0 [some (.ref t), some (.int rm), none, none] [] σ
  refine v_iconst (v := nI 0) G dX4_worthOf_0 (by decide) ?_
  refine v_istore_4_2 G dX4_worthOf_1 rfl ?_
  refine v_iconst (v := nI 0) G dX4_worthOf_2 (by decide) ?_
  refine v_istore_4_3 G dX4_worthOf_3 rfl ?_
  refine v_for (pc := 4) (8) (fun k => ([some (.ref t), some (.int rm), some (.int (worthTo σ t rm k)), some (.int (nI k))], σ)) (fun k hk ih => ?_) ?_
  · show V x 4 [some (.ref t), some (.int rm), some (.int (worthTo σ t rm k)), some (.int (nI k))] [] σ
    have ih : V x 4 [some (.ref t), some (.int rm), some (.int (worthTo σ t rm (k + 1))), some (.int (nI (k + 1)))] [] σ := ih
    refine v_iload_4_3 G dX4_worthOf_4 ?_
    refine v_bipush (v := nI 8) G dX4_worthOf_5 (by decide) ?_
    refine v_icmp_ge (tgt := 33) G dX4_worthOf_7 rfl (fun h_7 => absurd h_7 (by exact nI_ge hk (by omega))) (fun h_7 => ?_)
    refine v_iload_4_1 G dX4_worthOf_10 ?_
    refine v_iload_4_3 G dX4_worthOf_11 ?_
    refine v_cN2 G (C_X5_hasBit) (by decide) md_X5_hasBit st_X5_hasBit nl_X4_89 (Nat.le_of_ble_eq_true rfl) dX4_worthOf_12 ?_
    refine v_ifB_eq (tgt := 27) G dX4_worthOf_15 rfl (fun h_15 => ?_) (fun h_15 => ?_)
    · refine v_iincN_4_3 G dX4_worthOf_27 rfl ?_
      refine v_goto (tgt := 4) G dX4_worthOf_30 rfl ?_
      simp only [worthTo, h_7, h_15, if_true, if_false, Bool.false_eq_true, reduceIte, Bool.and_true, Bool.true_and, Bool.false_and, Bool.and_false] at ih
      exact ih
    · refine v_iload_4_2 G dX4_worthOf_18 ?_
      refine v_aload_4_0 G dX4_worthOf_19 ?_
      refine v_getR G vc_4 lk_X4_33 (fs_X4_7 (by first | assumption | exact imgP_TB)) dX4_worthOf_20 ?_
      refine v_iload_4_3 G dX4_worthOf_23 ?_
      refine v_ialdN G (as_X4_7 (by first | assumption | exact imgP_TB)) (by first | assumption | omega | exact oneB_in (by assumption) | exact wallB_in (by assumption) | exact oneB_m1 (by assumption) | decide) (by first | decide | omega) dX4_worthOf_24 ?_
      refine v_iadd G dX4_worthOf_25 ?_
      refine v_istore_4_2 G dX4_worthOf_26 rfl ?_
      refine v_iincN_4_3 G dX4_worthOf_27 rfl ?_
      refine v_goto (tgt := 4) G dX4_worthOf_30 rfl ?_
      simp only [worthTo, h_7, h_15, if_true, if_false, Bool.false_eq_true, reduceIte, Bool.and_true, Bool.true_and, Bool.false_and, Bool.and_false] at ih
      exact ih
  · show V x 4 [some (.ref t), some (.int rm), some (.int (worthTo σ t rm 8)), some (.int (nI 8))] [] σ
    refine v_iload_4_3 G dX4_worthOf_4 ?_
    refine v_bipush (v := nI 8) G dX4_worthOf_5 (by decide) ?_
    refine v_icmp_ge (tgt := 33) G dX4_worthOf_7 rfl (fun h_7 => ?_) (fun h_7 => absurd (by exact nI_le (Nat.le_refl _) (by omega)) h_7)
    refine v_iload_4_2 G dX4_worthOf_33 ?_
    exact v_iret G hQ dX4_worthOf_34 (vDet.of rfl rfl)
def gainW (σ : vW) (t p : Nat) (rm : Int32) : Int32 := worthTo σ t (rm &&& ((nI 1 <<< (σ (t + 3) p &&& 31)) ^^^ -1)) 8
set_option maxHeartbeats 4000000 in
theorem C_X4_gainOf {σ : vW} {t p : Nat} {rm : Int32} (hT : TB t) (hp : p < 5) : Ctr mX4_gainOf 2 [.ref t, .int (nI p), .int rm] σ (vDet (some (.int (gainW σ t p rm))) σ) := by
  refine Ctr.intro (by decide) (fun α => Nat.le_of_ble_eq_true rfl) (fun x G hQ => ?_)
  have G : vG x RX4 cX4_gainOf 3 (some .int) 2 := G
  show V x 0 [some (.ref t), some (.int (nI p)), some (.int rm)] [] σ
  refine v_aload_3_0 G dX4_gainOf_0 ?_
  refine v_iload_3_2 G dX4_gainOf_1 ?_
  refine v_iconst (v := nI 1) G dX4_gainOf_2 (by decide) ?_
  refine v_aload_3_0 G dX4_gainOf_3 ?_
  refine v_getR G vc_4 lk_X4_18 (fs_X4_2 (by first | assumption | exact imgP_TB)) dX4_gainOf_4 ?_
  refine v_iload_3_1 G dX4_gainOf_7 ?_
  refine v_ialdN G (as_X4_2 (by first | assumption | exact imgP_TB)) (by first | assumption | omega | exact oneB_in (by assumption) | exact wallB_in (by assumption) | exact oneB_m1 (by assumption) | decide) (by first | decide | omega) dX4_gainOf_8 ?_
  refine v_ishl G dX4_gainOf_9 ?_
  refine v_iconst (v := (-1)) G dX4_gainOf_10 (by decide) ?_
  refine v_ixor G dX4_gainOf_11 ?_
  refine v_iand G dX4_gainOf_12 ?_
  refine v_cV1 G (C_X4_worthOf (by first | assumption | omega | exact oneB_in (by assumption) | exact wallB_in (by assumption) | exact oneB_m1 (by assumption) | decide)) (by decide) md_X4_worthOf in_X4_worthOf (rv_X4 (by first | assumption | exact imgP_TB | exact shP_SB) rfl) ml_X4_122 (Nat.le_of_ble_eq_true rfl) dX4_gainOf_13 ?_
  exact v_iret G hQ dX4_gainOf_16 (vDet.of rfl rfl)
def gainIf (σ : vW) (t m p : Nat) (w : Int32) : Int32 := if canB σ t (nI p) w = true then gainW σ t p (spreadW σ t m (passIf σ t (nI p) w (nI p) m) (σ (t + 3) p)) else -4
set_option maxHeartbeats 4000000 in
theorem C_X4_gainIfHung {σ : vW} {t m p : Nat} {w : Int32} (hT : TB t) (hp : p < 5) (hm : σ t 11 = nI m) (hm9 : m ≤ 9) : Ctr mX4_gainIfHung 4 [.ref t, .int (nI p), .int w] σ (vDet (some (.int (gainIf σ t m p w))) σ) := by
  refine Ctr.intro (by decide) (fun α => Nat.le_of_ble_eq_true rfl) (fun x G hQ => ?_)
  have G : vG x RX4 cX4_gainIfHung 3 (some .int) 4 := G
  show V x 0 [some (.ref t), some (.int (nI p)), some (.int w)] [] σ
  refine v_aload_3_0 G dX4_gainIfHung_0 ?_
  refine v_iload_3_1 G dX4_gainIfHung_1 ?_
  refine v_iload_3_2 G dX4_gainIfHung_2 ?_
  refine v_cV2 G (C_X4_canHang (by first | assumption | omega | exact oneB_in (by assumption) | exact wallB_in (by assumption) | exact oneB_m1 (by assumption) | decide)) (by decide) md_X4_canHang in_X4_canHang (rv_X4 (by first | assumption | exact imgP_TB | exact shP_SB) rfl) ml_X4_71 (Nat.le_of_ble_eq_true rfl) dX4_gainIfHung_3 ?_
  refine v_ifB_eq (tgt := 34) G dX4_gainIfHung_6 rfl (fun h_6 => ?_) (fun h_6 => ?_)
  · refine v_bipush (v := (-4)) G dX4_gainIfHung_34 (by decide) ?_
    exact v_iret G hQ dX4_gainIfHung_36 (vDet.of (by simp only [gainIf, bI, h_6, if_true, if_false, Bool.false_eq_true, reduceIte] <;> try rfl) rfl)
  · refine v_aload_3_0 G dX4_gainIfHung_9 ?_
    refine v_iload_3_1 G dX4_gainIfHung_10 ?_
    refine v_aload_3_0 G dX4_gainIfHung_11 ?_
    refine v_aload_3_0 G dX4_gainIfHung_12 ?_
    refine v_getR G vc_4 lk_X4_18 (fs_X4_2 (by first | assumption | exact imgP_TB)) dX4_gainIfHung_13 ?_
    refine v_iload_3_1 G dX4_gainIfHung_16 ?_
    refine v_ialdN G (as_X4_2 (by first | assumption | exact imgP_TB)) (by first | assumption | omega | exact oneB_in (by assumption) | exact wallB_in (by assumption) | exact oneB_m1 (by assumption) | decide) (by first | decide | omega) dX4_gainIfHung_17 ?_
    refine v_aload_3_0 G dX4_gainIfHung_18 ?_
    refine v_iload_3_1 G dX4_gainIfHung_19 ?_
    refine v_iload_3_2 G dX4_gainIfHung_20 ?_
    refine v_iload_3_1 G dX4_gainIfHung_21 ?_
    refine v_cV3 G (C_X4_passedIfHung (by first | assumption | omega | exact oneB_in (by assumption) | exact wallB_in (by assumption) | exact oneB_m1 (by assumption) | decide) (by first | assumption | omega | exact oneB_in (by assumption) | exact wallB_in (by assumption) | exact oneB_m1 (by assumption) | decide) (by first | assumption | omega | exact oneB_in (by assumption) | exact wallB_in (by assumption) | exact oneB_m1 (by assumption) | decide)) (by decide) md_X4_passedIfHung in_X4_passedIfHung (rv_X4 (by first | assumption | exact imgP_TB | exact shP_SB) rfl) ml_X4_95 (Nat.le_of_ble_eq_true rfl) dX4_gainIfHung_22 ?_
    refine v_cV2 G (C_X4_spread (by first | assumption | omega | exact oneB_in (by assumption) | exact wallB_in (by assumption) | exact oneB_m1 (by assumption) | decide) (by first | assumption | omega | exact oneB_in (by assumption) | exact wallB_in (by assumption) | exact oneB_m1 (by assumption) | decide) (by first | assumption | omega | exact oneB_in (by assumption) | exact wallB_in (by assumption) | exact oneB_m1 (by assumption) | decide)) (by decide) md_X4_spread in_X4_spread (rv_X4 (by first | assumption | exact imgP_TB | exact shP_SB) rfl) ml_X4_102 (Nat.le_of_ble_eq_true rfl) dX4_gainIfHung_25 ?_
    refine v_cV2 G (C_X4_gainOf (by first | assumption | omega | exact oneB_in (by assumption) | exact wallB_in (by assumption) | exact oneB_m1 (by assumption) | decide) (by first | assumption | omega | exact oneB_in (by assumption) | exact wallB_in (by assumption) | exact oneB_m1 (by assumption) | decide)) (by decide) md_X4_gainOf in_X4_gainOf (rv_X4 (by first | assumption | exact imgP_TB | exact shP_SB) rfl) ml_X4_105 (Nat.le_of_ble_eq_true rfl) dX4_gainIfHung_28 ?_
    refine v_goto (tgt := 36) G dX4_gainIfHung_31 rfl ?_
    exact v_iret G hQ dX4_gainIfHung_36 (vDet.of (by simp only [gainIf, bI, h_6, if_true, if_false, Bool.false_eq_true, reduceIte] <;> try rfl) rfl)
def unrTo (σ : vW) (t m : Nat) : Nat → Int32
  | 0 => nI 255
  | k + 1 => unrTo σ t m k &&& (reachW σ t m k ^^^ -1)
set_option maxHeartbeats 4000000 in
theorem C_X4_unreached {σ : vW} {t m n : Nat} (hT : TB t) (hn : σ t 10 = nI n) (hn5 : n ≤ 5) (hm : σ t 11 = nI m) (hm9 : m ≤ 9) : Ctr mX4_unreached 4 [.ref t] σ (vDet (some (.int (unrTo σ t m n))) σ) := by
  refine Ctr.intro (by decide) (fun α => Nat.le_of_ble_eq_true rfl) (fun x G hQ => ?_)
  have G : vG x RX4 cX4_unreached 3 (some .int) 4 := G
  show V x 0 [some (.ref t), none, none] [] σ
  refine v_sipush (v := nI 255) G dX4_unreached_0 (by decide) ?_
  refine v_istore_3_1 G dX4_unreached_3 rfl ?_
  refine v_iconst (v := nI 0) G dX4_unreached_4 (by decide) ?_
  refine v_istore_3_2 G dX4_unreached_5 rfl ?_
  refine v_for (pc := 6) (n) (fun k => ([some (.ref t), some (.int (unrTo σ t m k)), some (.int (nI k))], σ)) (fun k hk ih => ?_) ?_
  · show V x 6 [some (.ref t), some (.int (unrTo σ t m k)), some (.int (nI k))] [] σ
    have ih : V x 6 [some (.ref t), some (.int (unrTo σ t m (k + 1))), some (.int (nI (k + 1)))] [] σ := ih
    refine v_iload_3_2 G dX4_unreached_6 ?_
    refine v_aload_3_0 G dX4_unreached_7 ?_
    refine v_getI G vc_4 lk_X4_48 (fs_X4_10 (by first | assumption | exact imgP_TB)) dX4_unreached_8 ?_
    refine v_icmp_ge (tgt := 30) G dX4_unreached_11 rfl (fun h_11 => absurd h_11 (by rw [hn]; exact nI_ge hk (by omega))) (fun h_11 => ?_)
    refine v_iload_3_1 G dX4_unreached_14 ?_
    refine v_aload_3_0 G dX4_unreached_15 ?_
    refine v_iload_3_2 G dX4_unreached_16 ?_
    refine v_cV1 G (C_X4_reached (by first | assumption | omega | exact oneB_in (by assumption) | exact wallB_in (by assumption) | exact oneB_m1 (by assumption) | decide) (by first | assumption | omega | exact oneB_in (by assumption) | exact wallB_in (by assumption) | exact oneB_m1 (by assumption) | decide) (by first | assumption | omega | exact oneB_in (by assumption) | exact wallB_in (by assumption) | exact oneB_m1 (by assumption) | decide) (by first | assumption | omega | exact oneB_in (by assumption) | exact wallB_in (by assumption) | exact oneB_m1 (by assumption) | decide)) (by decide) md_X4_reached in_X4_reached (rv_X4 (by first | assumption | exact imgP_TB | exact shP_SB) rfl) ml_X4_114 (Nat.le_of_ble_eq_true rfl) dX4_unreached_17 ?_
    refine v_iconst (v := (-1)) G dX4_unreached_20 (by decide) ?_
    refine v_ixor G dX4_unreached_21 ?_
    refine v_iand G dX4_unreached_22 ?_
    refine v_istore_3_1 G dX4_unreached_23 rfl ?_
    refine v_iincN_3_2 G dX4_unreached_24 rfl ?_
    refine v_goto (tgt := 6) G dX4_unreached_27 rfl ?_
    exact ih
  · show V x 6 [some (.ref t), some (.int (unrTo σ t m n)), some (.int (nI n))] [] σ
    refine v_iload_3_2 G dX4_unreached_6 ?_
    refine v_aload_3_0 G dX4_unreached_7 ?_
    refine v_getI G vc_4 lk_X4_48 (fs_X4_10 (by first | assumption | exact imgP_TB)) dX4_unreached_8 ?_
    refine v_icmp_ge (tgt := 30) G dX4_unreached_11 rfl (fun h_11 => ?_) (fun h_11 => absurd (by rw [hn]; exact nI_le (Nat.le_refl _) (by omega)) h_11)
    refine v_iload_3_1 G dX4_unreached_30 ?_
    exact v_iret G hQ dX4_unreached_31 (vDet.of rfl rfl)
def whoTo (σ : vW) (t m : Nat) (r : Int32) : Nat → Int32
  | 0 => nI 0
  | k + 1 => if bitB (reachW σ t m k) r = true then whoTo σ t m r k ||| nI 1 <<< (nI k &&& 31) else whoTo σ t m r k
set_option maxHeartbeats 4000000 in
theorem C_X4_whoReaches {σ : vW} {t m n : Nat} {r : Int32} (hT : TB t) (hn : σ t 10 = nI n) (hn5 : n ≤ 5) (hm : σ t 11 = nI m) (hm9 : m ≤ 9) : Ctr mX4_whoReaches 4 [.ref t, .int r] σ (vDet (some (.int (whoTo σ t m r n))) σ) := by
  refine Ctr.intro (by decide) (fun α => Nat.le_of_ble_eq_true rfl) (fun x G hQ => ?_)
  have G : vG x RX4 cX4_whoReaches 4 (some .int) 4 := G
  show V x 0 [some (.ref t), some (.int r), none, none] [] σ
  refine v_iconst (v := nI 0) G dX4_whoReaches_0 (by decide) ?_
  refine v_istore_4_2 G dX4_whoReaches_1 rfl ?_
  refine v_iconst (v := nI 0) G dX4_whoReaches_2 (by decide) ?_
  refine v_istore_4_3 G dX4_whoReaches_3 rfl ?_
  refine v_for (pc := 4) (n) (fun k => ([some (.ref t), some (.int r), some (.int (whoTo σ t m r k)), some (.int (nI k))], σ)) (fun k hk ih => ?_) ?_
  · show V x 4 [some (.ref t), some (.int r), some (.int (whoTo σ t m r k)), some (.int (nI k))] [] σ
    have ih : V x 4 [some (.ref t), some (.int r), some (.int (whoTo σ t m r (k + 1))), some (.int (nI (k + 1)))] [] σ := ih
    refine v_iload_4_3 G dX4_whoReaches_4 ?_
    refine v_aload_4_0 G dX4_whoReaches_5 ?_
    refine v_getI G vc_4 lk_X4_48 (fs_X4_10 (by first | assumption | exact imgP_TB)) dX4_whoReaches_6 ?_
    refine v_icmp_ge (tgt := 36) G dX4_whoReaches_9 rfl (fun h_9 => absurd h_9 (by rw [hn]; exact nI_ge hk (by omega))) (fun h_9 => ?_)
    refine v_aload_4_0 G dX4_whoReaches_12 ?_
    refine v_iload_4_3 G dX4_whoReaches_13 ?_
    refine v_cV1 G (C_X4_reached (by first | assumption | omega | exact oneB_in (by assumption) | exact wallB_in (by assumption) | exact oneB_m1 (by assumption) | decide) (by first | assumption | omega | exact oneB_in (by assumption) | exact wallB_in (by assumption) | exact oneB_m1 (by assumption) | decide) (by first | assumption | omega | exact oneB_in (by assumption) | exact wallB_in (by assumption) | exact oneB_m1 (by assumption) | decide) (by first | assumption | omega | exact oneB_in (by assumption) | exact wallB_in (by assumption) | exact oneB_m1 (by assumption) | decide)) (by decide) md_X4_reached in_X4_reached (rv_X4 (by first | assumption | exact imgP_TB | exact shP_SB) rfl) ml_X4_114 (Nat.le_of_ble_eq_true rfl) dX4_whoReaches_14 ?_
    refine v_iload_4_1 G dX4_whoReaches_17 ?_
    refine v_cN2 G (C_X5_hasBit) (by decide) md_X5_hasBit st_X5_hasBit nl_X4_89 (Nat.le_of_ble_eq_true rfl) dX4_whoReaches_18 ?_
    refine v_ifB_eq (tgt := 30) G dX4_whoReaches_21 rfl (fun h_21 => ?_) (fun h_21 => ?_)
    · refine v_iincN_4_3 G dX4_whoReaches_30 rfl ?_
      refine v_goto (tgt := 4) G dX4_whoReaches_33 rfl ?_
      simp only [whoTo, h_9, h_21, if_true, if_false, Bool.false_eq_true, reduceIte, Bool.and_true, Bool.true_and, Bool.false_and, Bool.and_false] at ih
      exact ih
    · refine v_iload_4_2 G dX4_whoReaches_24 ?_
      refine v_iconst (v := nI 1) G dX4_whoReaches_25 (by decide) ?_
      refine v_iload_4_3 G dX4_whoReaches_26 ?_
      refine v_ishl G dX4_whoReaches_27 ?_
      refine v_ior G dX4_whoReaches_28 ?_
      refine v_istore_4_2 G dX4_whoReaches_29 rfl ?_
      refine v_iincN_4_3 G dX4_whoReaches_30 rfl ?_
      refine v_goto (tgt := 4) G dX4_whoReaches_33 rfl ?_
      simp only [whoTo, h_9, h_21, if_true, if_false, Bool.false_eq_true, reduceIte, Bool.and_true, Bool.true_and, Bool.false_and, Bool.and_false] at ih
      exact ih
  · show V x 4 [some (.ref t), some (.int r), some (.int (whoTo σ t m r n)), some (.int (nI n))] [] σ
    refine v_iload_4_3 G dX4_whoReaches_4 ?_
    refine v_aload_4_0 G dX4_whoReaches_5 ?_
    refine v_getI G vc_4 lk_X4_48 (fs_X4_10 (by first | assumption | exact imgP_TB)) dX4_whoReaches_6 ?_
    refine v_icmp_ge (tgt := 36) G dX4_whoReaches_9 rfl (fun h_9 => ?_) (fun h_9 => absurd (by rw [hn]; exact nI_le (Nat.le_refl _) (by omega)) h_9)
    refine v_iload_4_2 G dX4_whoReaches_36 ?_
    exact v_iret G hQ dX4_whoReaches_37 (vDet.of rfl rfl)
def allTo (σ : vW) (t m : Nat) : Nat → Int32
  | 0 => nI 0
  | k + 1 => allTo σ t m k + nI (bcN (reachW σ t m k))
set_option maxHeartbeats 4000000 in
theorem C_X4_reachedByAll {σ : vW} {t m n : Nat} (hT : TB t) (hn : σ t 10 = nI n) (hn5 : n ≤ 5) (hm : σ t 11 = nI m) (hm9 : m ≤ 9) : Ctr mX4_reachedByAll 4 [.ref t] σ (vDet (some (.int (allTo σ t m n))) σ) := by
  refine Ctr.intro (by decide) (fun α => Nat.le_of_ble_eq_true rfl) (fun x G hQ => ?_)
  have G : vG x RX4 cX4_reachedByAll 3 (some .int) 4 := G
  show V x 0 [some (.ref t), none, none] [] σ
  refine v_iconst (v := nI 0) G dX4_reachedByAll_0 (by decide) ?_
  refine v_istore_3_1 G dX4_reachedByAll_1 rfl ?_
  refine v_iconst (v := nI 0) G dX4_reachedByAll_2 (by decide) ?_
  refine v_istore_3_2 G dX4_reachedByAll_3 rfl ?_
  refine v_for (pc := 4) (n) (fun k => ([some (.ref t), some (.int (allTo σ t m k)), some (.int (nI k))], σ)) (fun k hk ih => ?_) ?_
  · show V x 4 [some (.ref t), some (.int (allTo σ t m k)), some (.int (nI k))] [] σ
    have ih : V x 4 [some (.ref t), some (.int (allTo σ t m (k + 1))), some (.int (nI (k + 1)))] [] σ := ih
    refine v_iload_3_2 G dX4_reachedByAll_4 ?_
    refine v_aload_3_0 G dX4_reachedByAll_5 ?_
    refine v_getI G vc_4 lk_X4_48 (fs_X4_10 (by first | assumption | exact imgP_TB)) dX4_reachedByAll_6 ?_
    refine v_icmp_ge (tgt := 29) G dX4_reachedByAll_9 rfl (fun h_9 => absurd h_9 (by rw [hn]; exact nI_ge hk (by omega))) (fun h_9 => ?_)
    refine v_iload_3_1 G dX4_reachedByAll_12 ?_
    refine v_aload_3_0 G dX4_reachedByAll_13 ?_
    refine v_iload_3_2 G dX4_reachedByAll_14 ?_
    refine v_cV1 G (C_X4_reached (by first | assumption | omega | exact oneB_in (by assumption) | exact wallB_in (by assumption) | exact oneB_m1 (by assumption) | decide) (by first | assumption | omega | exact oneB_in (by assumption) | exact wallB_in (by assumption) | exact oneB_m1 (by assumption) | decide) (by first | assumption | omega | exact oneB_in (by assumption) | exact wallB_in (by assumption) | exact oneB_m1 (by assumption) | decide) (by first | assumption | omega | exact oneB_in (by assumption) | exact wallB_in (by assumption) | exact oneB_m1 (by assumption) | decide)) (by decide) md_X4_reached in_X4_reached (rv_X4 (by first | assumption | exact imgP_TB | exact shP_SB) rfl) ml_X4_114 (Nat.le_of_ble_eq_true rfl) dX4_reachedByAll_15 ?_
    refine v_cS1 G (C_bitCount) (by decide) md_J6_bitCount_0f7a4 st_J6_bitCount_0f7a4 ml_X4_117 (Nat.le_of_ble_eq_true rfl) dX4_reachedByAll_18 ?_
    refine v_iadd G dX4_reachedByAll_21 ?_
    refine v_istore_3_1 G dX4_reachedByAll_22 rfl ?_
    refine v_iincN_3_2 G dX4_reachedByAll_23 rfl ?_
    refine v_goto (tgt := 4) G dX4_reachedByAll_26 rfl ?_
    exact ih
  · show V x 4 [some (.ref t), some (.int (allTo σ t m n)), some (.int (nI n))] [] σ
    refine v_iload_3_2 G dX4_reachedByAll_4 ?_
    refine v_aload_3_0 G dX4_reachedByAll_5 ?_
    refine v_getI G vc_4 lk_X4_48 (fs_X4_10 (by first | assumption | exact imgP_TB)) dX4_reachedByAll_6 ?_
    refine v_icmp_ge (tgt := 29) G dX4_reachedByAll_9 rfl (fun h_9 => ?_) (fun h_9 => absurd (by rw [hn]; exact nI_le (Nat.le_refl _) (by omega)) h_9)
    refine v_iload_3_1 G dX4_reachedByAll_29 ?_
    exact v_iret G hQ dX4_reachedByAll_30 (vDet.of rfl rfl)
