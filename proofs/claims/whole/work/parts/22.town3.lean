/-! Town: ways told, what would be, odds -/
def otherS (σ : vW) (t w : Nat) (here : Int32) : Int32 := if σ (t + 5) w = here then σ (t + 6) w else if σ (t + 6) w = here then σ (t + 5) w else -4
set_option maxHeartbeats 4000000 in
theorem C_X4_otherSide {σ : vW} {t w : Nat} {here : Int32} (hT : TB t) (hw : w < 9) : Ctr mX4_otherSide 0 [.ref t, .int (nI w), .int here] σ (vDet (some (.int (otherS σ t w here))) σ) := by
  refine Ctr.intro (by decide) (fun α => Nat.le_of_ble_eq_true rfl) (fun x G hQ => ?_)
  have G : vG x RX4 cX4_otherSide 3 (some .int) 0 := G
  show V x 0 [some (.ref t), some (.int (nI w)), some (.int here)] [] σ
  refine v_aload_3_0 G dX4_otherSide_0 ?_
  refine v_getR G vc_4 lk_X4_24 (fs_X4_4 (by first | assumption | exact imgP_TB)) dX4_otherSide_1 ?_
  refine v_iload_3_1 G dX4_otherSide_4 ?_
  refine v_ialdN G (as_X4_4 (by first | assumption | exact imgP_TB)) (by first | assumption | omega | exact oneB_in (by assumption) | exact wallB_in (by assumption) | exact oneB_m1 (by assumption) | decide) (by first | decide | omega) dX4_otherSide_5 ?_
  refine v_iload_3_2 G dX4_otherSide_6 ?_
  refine v_icmp_ne (tgt := 19) G dX4_otherSide_7 rfl (fun h_7 => ?_) (fun h_7 => ?_)
  · refine v_aload_3_0 G dX4_otherSide_19 ?_
    refine v_getR G vc_4 lk_X4_27 (fs_X4_5 (by first | assumption | exact imgP_TB)) dX4_otherSide_20 ?_
    refine v_iload_3_1 G dX4_otherSide_23 ?_
    refine v_ialdN G (as_X4_5 (by first | assumption | exact imgP_TB)) (by first | assumption | omega | exact oneB_in (by assumption) | exact wallB_in (by assumption) | exact oneB_m1 (by assumption) | decide) (by first | decide | omega) dX4_otherSide_24 ?_
    refine v_iload_3_2 G dX4_otherSide_25 ?_
    refine v_icmp_ne (tgt := 38) G dX4_otherSide_26 rfl (fun h_26 => ?_) (fun h_26 => ?_)
    · refine v_bipush (v := (-4)) G dX4_otherSide_38 (by decide) ?_
      exact v_iret G hQ dX4_otherSide_40 (vDet.of (by simp only [otherS, bI, h_7, h_26, if_true, if_false, Bool.false_eq_true, reduceIte] <;> try rfl) rfl)
    · refine v_aload_3_0 G dX4_otherSide_29 ?_
      refine v_getR G vc_4 lk_X4_24 (fs_X4_4 (by first | assumption | exact imgP_TB)) dX4_otherSide_30 ?_
      refine v_iload_3_1 G dX4_otherSide_33 ?_
      refine v_ialdN G (as_X4_4 (by first | assumption | exact imgP_TB)) (by first | assumption | omega | exact oneB_in (by assumption) | exact wallB_in (by assumption) | exact oneB_m1 (by assumption) | decide) (by first | decide | omega) dX4_otherSide_34 ?_
      refine v_goto (tgt := 40) G dX4_otherSide_35 rfl ?_
      exact v_iret G hQ dX4_otherSide_40 (vDet.of (by simp only [otherS, bI, h_7, h_26, if_true, if_false, Bool.false_eq_true, reduceIte] <;> try rfl) rfl)
  · refine v_aload_3_0 G dX4_otherSide_10 ?_
    refine v_getR G vc_4 lk_X4_27 (fs_X4_5 (by first | assumption | exact imgP_TB)) dX4_otherSide_11 ?_
    refine v_iload_3_1 G dX4_otherSide_14 ?_
    refine v_ialdN G (as_X4_5 (by first | assumption | exact imgP_TB)) (by first | assumption | omega | exact oneB_in (by assumption) | exact wallB_in (by assumption) | exact oneB_m1 (by assumption) | decide) (by first | decide | omega) dX4_otherSide_15 ?_
    refine v_goto (tgt := 40) G dX4_otherSide_16 rfl ?_
    exact v_iret G hQ dX4_otherSide_40 (vDet.of (by simp only [otherS, bI, h_7, if_true, if_false, Bool.false_eq_true, reduceIte] <;> try rfl) rfl)
/-- the first of the places k, k + 1 .. (n of them) with P; else the end -/
def fstP (P : Nat → Bool) : Nat → Nat → Nat
  | 0, k => k
  | n + 1, k => if P k = true then k else fstP P n (k + 1)
theorem fstP_le (P : Nat → Bool) : ∀ n k, fstP P n k ≤ k + n
  | 0, k => Nat.le_refl _
  | n + 1, k => by
    unfold fstP
    split
    · omega
    · have := fstP_le P n (k + 1)
      omega
/-- wall w is a first step on a shortest way (left steps are left) -/
def towP (σ : vW) (t m : Nat) (here to opn left : Int32) (w : Nat) : Bool := if bitB opn (nI w) = true then (if otherS σ t w here < 0 then false else if distW σ t m opn (otherS σ t w here) to = left - nI 1 then true else false) else false
def firstT (σ : vW) (t m : Nat) (here to opn : Int32) : Int32 := if distW σ t m opn here to ≤ 0 then -4 else if fstP (towP σ t m here to opn (distW σ t m opn here to)) m 0 < m then nI (fstP (towP σ t m here to opn (distW σ t m opn here to)) m 0) else -4
set_option maxHeartbeats 4000000 in
theorem C_X4_firstTowards {σ : vW} {t m : Nat} {here to opn : Int32} (hT : TB t) (hm : σ t 11 = nI m) (hm9 : m ≤ 9) : Ctr mX4_firstTowards 3 [.ref t, .int here, .int to, .int opn] σ (vDet (some (.int (firstT σ t m here to opn))) σ) := by
  refine Ctr.intro (by decide) (fun α => Nat.le_of_ble_eq_true rfl) (fun x G hQ => ?_)
  have G : vG x RX4 cX4_firstTowards 7 (some .int) 3 := G
  show V x 0 [some (.ref t), some (.int here), some (.int to), some (.int opn), none, none, none] [] σ
  refine v_aload_7_0 G dX4_firstTowards_0 ?_
  refine v_iload_7_1 G dX4_firstTowards_1 ?_
  refine v_iload_7_2 G dX4_firstTowards_2 ?_
  refine v_iload_7_3 G dX4_firstTowards_3 ?_
  refine v_cV3 G (C_X4_distance (by first | assumption | omega | exact oneB_in (by assumption) | exact wallB_in (by assumption) | exact oneB_m1 (by assumption) | decide) (by first | assumption | omega | exact oneB_in (by assumption) | exact wallB_in (by assumption) | exact oneB_m1 (by assumption) | decide) (by first | assumption | omega | exact oneB_in (by assumption) | exact wallB_in (by assumption) | exact oneB_m1 (by assumption) | decide)) (by decide) md_X4_distance in_X4_distance (rv_X4 (by first | assumption | exact imgP_TB | exact shP_SB) rfl) ml_X4_99 (Nat.le_of_ble_eq_true rfl) dX4_firstTowards_4 ?_
  refine v_istore_7_4 G dX4_firstTowards_7 rfl ?_
  refine v_iconst (v := nI 0) G dX4_firstTowards_9 (by decide) ?_
  refine v_istore_7_5 G dX4_firstTowards_10 rfl ?_
  by_cases hleft : distW σ t m opn here to ≤ 0
  · by_cases h0 : σ t 11 ≤ nI 0
    · refine v_iload_7_5 G dX4_firstTowards_12 ?_
      refine v_aload_7_0 G dX4_firstTowards_14 ?_
      refine v_getI G vc_4 lk_X4_52 (fs_X4_11 (by first | assumption | exact imgP_TB)) dX4_firstTowards_15 ?_
      refine v_icmp_ge (tgt := 73) G dX4_firstTowards_18 rfl (fun h_18 => ?_) (fun h_18 => absurd h0 h_18)
      refine v_bipush (v := (-4)) G dX4_firstTowards_73 (by decide) ?_
      exact v_iret G hQ dX4_firstTowards_75 (vDet.of (by rw [firstT, if_pos hleft]) rfl)
    · refine v_iload_7_5 G dX4_firstTowards_12 ?_
      refine v_aload_7_0 G dX4_firstTowards_14 ?_
      refine v_getI G vc_4 lk_X4_52 (fs_X4_11 (by first | assumption | exact imgP_TB)) dX4_firstTowards_15 ?_
      refine v_icmp_ge (tgt := 73) G dX4_firstTowards_18 rfl (fun h_18 => absurd h_18 h0) (fun h_18 => ?_)
      refine v_iload_7_4 G dX4_firstTowards_21 ?_
      refine v_if_le (tgt := 73) G dX4_firstTowards_23 rfl (fun h_23 => ?_) (fun h_23 => absurd hleft h_23)
      refine v_bipush (v := (-4)) G dX4_firstTowards_73 (by decide) ?_
      exact v_iret G hQ dX4_firstTowards_75 (vDet.of (by rw [firstT, if_pos hleft]) rfl)
  · have hfd : firstT σ t m here to opn = if fstP (towP σ t m here to opn (distW σ t m opn here to)) m 0 < m then nI (fstP (towP σ t m here to opn (distW σ t m opn here to)) m 0) else -4 := by rw [firstT, if_neg hleft]
    refine v_forP (pc := 12) (m) (fun k => fstP (towP σ t m here to opn (distW σ t m opn here to)) m 0 = fstP (towP σ t m here to opn (distW σ t m opn here to)) (m - k) k) (fun k => ([some (.ref t), some (.int here), some (.int to), some (.int opn), some (.int (distW σ t m opn here to)), some (.int (nI k)), none], σ)) rfl (fun k hk hp ih => ?_) (fun hp => ?_)
    · show V x 12 [some (.ref t), some (.int here), some (.int to), some (.int opn), some (.int (distW σ t m opn here to)), some (.int (nI k)), none] [] σ
      have ih : (fstP (towP σ t m here to opn (distW σ t m opn here to)) m 0 = fstP (towP σ t m here to opn (distW σ t m opn here to)) (m - (k + 1)) (k + 1)) → V x 12 [some (.ref t), some (.int here), some (.int to), some (.int opn), some (.int (distW σ t m opn here to)), some (.int (nI (k + 1))), none] [] σ := ih
      have hp : fstP (towP σ t m here to opn (distW σ t m opn here to)) m 0 = fstP (towP σ t m here to opn (distW σ t m opn here to)) (m - k) k := hp
      rw [show m - k = (m - (k + 1)) + 1 by omega, fstP] at hp
      refine v_iload_7_5 G dX4_firstTowards_12 ?_
      refine v_aload_7_0 G dX4_firstTowards_14 ?_
      refine v_getI G vc_4 lk_X4_52 (fs_X4_11 (by first | assumption | exact imgP_TB)) dX4_firstTowards_15 ?_
      refine v_icmp_ge (tgt := 73) G dX4_firstTowards_18 rfl (fun h_18 => absurd h_18 (by rw [hm]; exact nI_ge hk (by omega))) (fun h_18 => ?_)
      refine v_iload_7_4 G dX4_firstTowards_21 ?_
      refine v_if_le (tgt := 73) G dX4_firstTowards_23 rfl (fun h_23 => absurd h_23 hleft) (fun h_23 => ?_)
      refine v_aload_7_0 G dX4_firstTowards_26 ?_
      refine v_iload_7_5 G dX4_firstTowards_27 ?_
      refine v_iload_7_1 G dX4_firstTowards_29 ?_
      refine v_cV2 G (C_X4_otherSide (by first | assumption | omega | exact oneB_in (by assumption) | exact wallB_in (by assumption) | exact oneB_m1 (by assumption) | decide) (by first | assumption | omega | exact oneB_in (by assumption) | exact wallB_in (by assumption) | exact oneB_m1 (by assumption) | decide)) (by decide) md_X4_otherSide in_X4_otherSide (rv_X4 (by first | assumption | exact imgP_TB | exact shP_SB) rfl) ml_X4_111 (Nat.le_of_ble_eq_true rfl) dX4_firstTowards_30 ?_
      refine v_istore_7_6 G dX4_firstTowards_33 rfl ?_
      refine v_iload_7_3 G dX4_firstTowards_35 ?_
      refine v_iload_7_5 G dX4_firstTowards_36 ?_
      refine v_cN2 G (C_X5_hasBit) (by decide) md_X5_hasBit st_X5_hasBit nl_X4_89 (Nat.le_of_ble_eq_true rfl) dX4_firstTowards_38 ?_
      refine v_ifB_eq (tgt := 67) G dX4_firstTowards_41 rfl (fun h_41 => ?_) (fun h_41 => ?_)
      · refine v_iincN_7_5 G dX4_firstTowards_67 rfl ?_
        refine v_goto (tgt := 12) G dX4_firstTowards_70 rfl ?_
        refine V.drop (L' := [some (.ref t), some (.int here), some (.int to), some (.int opn), some (.int (distW σ t m opn here to)), some (.int (nI (k + 1))), none]) (by simp only [vsubP, and_self]) (ih ?_)
        rw [hp, if_neg]
        simp only [towP, h_18, h_23, h_41, if_true, if_false, Bool.false_eq_true, reduceIte, not_false_eq_true]
      · refine v_iload_7_6 G dX4_firstTowards_44 ?_
        refine v_if_lt (tgt := 67) G dX4_firstTowards_46 rfl (fun h_46 => ?_) (fun h_46 => ?_)
        · refine v_iincN_7_5 G dX4_firstTowards_67 rfl ?_
          refine v_goto (tgt := 12) G dX4_firstTowards_70 rfl ?_
          refine V.drop (L' := [some (.ref t), some (.int here), some (.int to), some (.int opn), some (.int (distW σ t m opn here to)), some (.int (nI (k + 1))), none]) (by simp only [vsubP, and_self]) (ih ?_)
          rw [hp, if_neg]
          simp only [towP, h_18, h_23, h_41, h_46, if_true, if_false, Bool.false_eq_true, reduceIte, not_false_eq_true]
        · refine v_aload_7_0 G dX4_firstTowards_49 ?_
          refine v_iload_7_6 G dX4_firstTowards_50 ?_
          refine v_iload_7_2 G dX4_firstTowards_52 ?_
          refine v_iload_7_3 G dX4_firstTowards_53 ?_
          refine v_cV3 G (C_X4_distance (by first | assumption | omega | exact oneB_in (by assumption) | exact wallB_in (by assumption) | exact oneB_m1 (by assumption) | decide) (by first | assumption | omega | exact oneB_in (by assumption) | exact wallB_in (by assumption) | exact oneB_m1 (by assumption) | decide) (by first | assumption | omega | exact oneB_in (by assumption) | exact wallB_in (by assumption) | exact oneB_m1 (by assumption) | decide)) (by decide) md_X4_distance in_X4_distance (rv_X4 (by first | assumption | exact imgP_TB | exact shP_SB) rfl) ml_X4_99 (Nat.le_of_ble_eq_true rfl) dX4_firstTowards_54 ?_
          refine v_iload_7_4 G dX4_firstTowards_57 ?_
          refine v_iconst (v := nI 1) G dX4_firstTowards_59 (by decide) ?_
          refine v_isub G dX4_firstTowards_60 ?_
          refine v_icmp_ne (tgt := 67) G dX4_firstTowards_61 rfl (fun h_61 => ?_) (fun h_61 => ?_)
          · refine v_iincN_7_5 G dX4_firstTowards_67 rfl ?_
            refine v_goto (tgt := 12) G dX4_firstTowards_70 rfl ?_
            refine V.drop (L' := [some (.ref t), some (.int here), some (.int to), some (.int opn), some (.int (distW σ t m opn here to)), some (.int (nI (k + 1))), none]) (by simp only [vsubP, and_self]) (ih ?_)
            rw [hp, if_neg]
            simp only [towP, h_18, h_23, h_41, h_46, h_61, if_true, if_false, Bool.false_eq_true, reduceIte, not_false_eq_true]
          · refine v_iload_7_5 G dX4_firstTowards_64 ?_
            exact v_iret G hQ dX4_firstTowards_66 (vDet.of (by first | (have e : towP σ t m here to opn (distW σ t m opn here to) k = true := by { simp only [towP, h_41, h_46, h_61, if_true, if_false] }; rw [hfd, hp, if_pos e, if_pos hk]) | simp only [hfd, hp, Nat.sub_self, fstP, Nat.lt_irrefl, if_false]) rfl)
    · show V x 12 [some (.ref t), some (.int here), some (.int to), some (.int opn), some (.int (distW σ t m opn here to)), some (.int (nI m)), none] [] σ
      have hp : fstP (towP σ t m here to opn (distW σ t m opn here to)) m 0 = fstP (towP σ t m here to opn (distW σ t m opn here to)) (m - m) m := hp
      refine v_iload_7_5 G dX4_firstTowards_12 ?_
      refine v_aload_7_0 G dX4_firstTowards_14 ?_
      refine v_getI G vc_4 lk_X4_52 (fs_X4_11 (by first | assumption | exact imgP_TB)) dX4_firstTowards_15 ?_
      refine v_icmp_ge (tgt := 73) G dX4_firstTowards_18 rfl (fun h_18 => ?_) (fun h_18 => absurd (by rw [hm]; exact nI_le (Nat.le_refl _) (by omega)) h_18)
      refine v_bipush (v := (-4)) G dX4_firstTowards_73 (by decide) ?_
      exact v_iret G hQ dX4_firstTowards_75 (vDet.of (by first | (have e : towP σ t m here to opn (distW σ t m opn here to) k = true := by { simp only [towP, h_41, h_46, h_61, if_true, if_false] }; rw [hfd, hp, if_pos e, if_pos hk]) | simp only [hfd, hp, Nat.sub_self, fstP, Nat.lt_irrefl, if_false]) rfl)
theorem firstT_cases {σ : vW} {t m : Nat} {here to opn : Int32} : firstT σ t m here to opn = -4 ∨ ∃ w, w < m ∧ firstT σ t m here to opn = nI w := by
  unfold firstT
  split
  · exact Or.inl rfl
  · split
    · exact Or.inr ⟨_, by assumption, rfl⟩
    · exact Or.inl rfl
/-- n steps on, from a room, with the wall passed last -/
def wayG (σ : vW) (t m : Nat) (to opn : Int32) : Nat → Int32 → Int32 → Int32
  | 0, _, wall => wall
  | n + 1, here, _ => if firstT σ t m here to opn = -4 then -4 else wayG σ t m to opn n (otherS σ t (firstT σ t m here to opn).toNatClampNeg here) (firstT σ t m here to opn)
def hereAt (σ : vW) (t m : Nat) (to opn : Int32) : Nat → Int32 → Int32
  | 0, here => here
  | n + 1, here => otherS σ t (firstT σ t m (hereAt σ t m to opn n here) to opn).toNatClampNeg (hereAt σ t m to opn n here)
def wallAt (σ : vW) (t m : Nat) (to opn : Int32) : Nat → Int32 → Int32
  | 0, _ => -4
  | n + 1, here => firstT σ t m (hereAt σ t m to opn n here) to opn
def wayW (σ : vW) (t m p : Nat) (r : Int32) (i : Nat) : Int32 := wayG σ t m r (passTo σ t (nI p) m) (i + 1) (σ (t + 3) p) (-4)
set_option maxHeartbeats 4000000 in
theorem C_X4_wallOnWay {σ : vW} {t m p i : Nat} {r : Int32} (hT : TB t) (hp5 : p < 5) (hi : i < 1000) (hm : σ t 11 = nI m) (hm9 : m ≤ 9) : Ctr mX4_wallOnWay 4 [.ref t, .int (nI p), .int r, .int (nI i)] σ (vDet (some (.int (wayW σ t m p r i))) σ) := by
  refine Ctr.intro (by decide) (fun α => Nat.le_of_ble_eq_true rfl) (fun x G hQ => ?_)
  have G : vG x RX4 cX4_wallOnWay 8 (some .int) 4 := G
  show V x 0 [some (.ref t), some (.int (nI p)), some (.int r), some (.int (nI i)), none, none, none, none] [] σ
  refine v_aload_8_0 G dX4_wallOnWay_0 ?_
  refine v_iload_8_1 G dX4_wallOnWay_1 ?_
  refine v_cV1 G (C_X4_passed (by first | assumption | omega | exact oneB_in (by assumption) | exact wallB_in (by assumption) | exact oneB_m1 (by assumption) | decide) (by first | assumption | omega | exact oneB_in (by assumption) | exact wallB_in (by assumption) | exact oneB_m1 (by assumption) | decide) (by first | assumption | omega | exact oneB_in (by assumption) | exact wallB_in (by assumption) | exact oneB_m1 (by assumption) | decide)) (by decide) md_X4_passed in_X4_passed (rv_X4 (by first | assumption | exact imgP_TB | exact shP_SB) rfl) ml_X4_85 (Nat.le_of_ble_eq_true rfl) dX4_wallOnWay_2 ?_
  refine v_istore_8_4 G dX4_wallOnWay_5 rfl ?_
  refine v_aload_8_0 G dX4_wallOnWay_7 ?_
  refine v_getR G vc_4 lk_X4_18 (fs_X4_2 (by first | assumption | exact imgP_TB)) dX4_wallOnWay_8 ?_
  refine v_iload_8_1 G dX4_wallOnWay_11 ?_
  refine v_ialdN G (as_X4_2 (by first | assumption | exact imgP_TB)) (by first | assumption | omega | exact oneB_in (by assumption) | exact wallB_in (by assumption) | exact oneB_m1 (by assumption) | decide) (by first | decide | omega) dX4_wallOnWay_12 ?_
  refine v_istore_8_5 G dX4_wallOnWay_13 rfl ?_
  refine v_bipush (v := (-4)) G dX4_wallOnWay_15 (by decide) ?_
  refine v_istore_8_6 G dX4_wallOnWay_17 rfl ?_
  refine v_iconst (v := nI 0) G dX4_wallOnWay_19 (by decide) ?_
  refine v_istore_8_7 G dX4_wallOnWay_20 rfl ?_
  generalize ho : passTo σ t (nI p) m = opn
  generalize hh : σ (t + 3) p = hm0
  refine v_forP (pc := 22) (i + 1) (fun k => wayW σ t m p r i = wayG σ t m r opn (i + 1 - k) (hereAt σ t m r opn k hm0) (wallAt σ t m r opn k hm0)) (fun k => ([some (.ref t), some (.int (nI p)), some (.int r), some (.int (nI i)), some (.int opn), some (.int (hereAt σ t m r opn k hm0)), some (.int (wallAt σ t m r opn k hm0)), some (.int (nI k))], σ)) (by rw [wayW, ho, hh]; rfl) (fun k hk hp ih => ?_) (fun hp => ?_)
  · show V x 22 [some (.ref t), some (.int (nI p)), some (.int r), some (.int (nI i)), some (.int opn), some (.int (hereAt σ t m r opn k hm0)), some (.int (wallAt σ t m r opn k hm0)), some (.int (nI k))] [] σ
    have hp : wayW σ t m p r i = wayG σ t m r opn (i + 1 - k) (hereAt σ t m r opn k hm0) (wallAt σ t m r opn k hm0) := hp
    rw [show i + 1 - k = (i + 1 - (k + 1)) + 1 by omega, wayG] at hp
    have ih : wayW σ t m p r i = wayG σ t m r opn (i + 1 - (k + 1)) (hereAt σ t m r opn (k + 1) hm0) (wallAt σ t m r opn (k + 1) hm0) → V x 22 [some (.ref t), some (.int (nI p)), some (.int r), some (.int (nI i)), some (.int opn), some (.int (otherS σ t (firstT σ t m (hereAt σ t m r opn k hm0) r opn).toNatClampNeg (hereAt σ t m r opn k hm0))), some (.int (firstT σ t m (hereAt σ t m r opn k hm0) r opn)), some (.int (nI (k + 1)))] [] σ := ih
    refine v_iload_8_7 G dX4_wallOnWay_22 ?_
    refine v_iload_8_3 G dX4_wallOnWay_24 ?_
    refine v_icmp_gt (tgt := 65) G dX4_wallOnWay_25 rfl (fun h_25 => absurd h_25 (nI_nlt (by omega) (by omega))) (fun h_25 => ?_)
    refine v_aload_8_0 G dX4_wallOnWay_28 ?_
    refine v_iload_8_5 G dX4_wallOnWay_29 ?_
    refine v_iload_8_2 G dX4_wallOnWay_31 ?_
    refine v_iload_8_4 G dX4_wallOnWay_32 ?_
    refine v_cV3 G (C_X4_firstTowards (by first | assumption | omega | exact oneB_in (by assumption) | exact wallB_in (by assumption) | exact oneB_m1 (by assumption) | decide) (by first | assumption | omega | exact oneB_in (by assumption) | exact wallB_in (by assumption) | exact oneB_m1 (by assumption) | decide) (by first | assumption | omega | exact oneB_in (by assumption) | exact wallB_in (by assumption) | exact oneB_m1 (by assumption) | decide)) (by decide) md_X4_firstTowards in_X4_firstTowards (rv_X4 (by first | assumption | exact imgP_TB | exact shP_SB) rfl) ml_X4_108 (Nat.le_of_ble_eq_true rfl) dX4_wallOnWay_34 ?_
    refine v_istore_8_6 G dX4_wallOnWay_37 rfl ?_
    rcases firstT_cases (σ := σ) (t := t) (m := m) (here := hereAt σ t m r opn k hm0) (to := r) (opn := opn) with e | ⟨w, hw, e⟩
    · rw [e]
      refine v_iload_8_6 G dX4_wallOnWay_39 ?_
      refine v_bipush (v := (-4)) G dX4_wallOnWay_41 (by decide) ?_
      refine v_icmp_ne (tgt := 49) G dX4_wallOnWay_43 rfl (fun h_43 => absurd rfl h_43) (fun h_43 => ?_)
      refine v_bipush (v := (-4)) G dX4_wallOnWay_46 (by decide) ?_
      exact v_iret G hQ dX4_wallOnWay_48 (vDet.of (by rw [hp, if_pos e]) rfl)
    · rw [e] at ih hp ⊢
      rw [nI_clamp (by omega)] at ih
      have hne : ¬ nI w = -4 := by rcases firstT_cases (σ := σ) (t := t) (m := m) (here := hereAt σ t m r opn k hm0) (to := r) (opn := opn) with e2 | ⟨w2, hw2, e2⟩ <;> exact nI_nm4 (by omega)
      refine v_iload_8_6 G dX4_wallOnWay_39 ?_
      refine v_bipush (v := (-4)) G dX4_wallOnWay_41 (by decide) ?_
      refine v_icmp_ne (tgt := 49) G dX4_wallOnWay_43 rfl (fun h_43 => ?_) (fun h_43 => absurd h_43 hne)
      refine v_aload_8_0 G dX4_wallOnWay_49 ?_
      refine v_iload_8_6 G dX4_wallOnWay_50 ?_
      refine v_iload_8_5 G dX4_wallOnWay_52 ?_
      refine v_cV2 G (C_X4_otherSide (by first | assumption | omega | exact oneB_in (by assumption) | exact wallB_in (by assumption) | exact oneB_m1 (by assumption) | decide) (by first | assumption | omega | exact oneB_in (by assumption) | exact wallB_in (by assumption) | exact oneB_m1 (by assumption) | decide)) (by decide) md_X4_otherSide in_X4_otherSide (rv_X4 (by first | assumption | exact imgP_TB | exact shP_SB) rfl) ml_X4_111 (Nat.le_of_ble_eq_true rfl) dX4_wallOnWay_54 ?_
      refine v_istore_8_5 G dX4_wallOnWay_57 rfl ?_
      refine v_iincN_8_7 G dX4_wallOnWay_59 rfl ?_
      refine v_goto (tgt := 22) G dX4_wallOnWay_62 rfl ?_
      refine ih ?_
      rw [hp, if_neg hne, hereAt, wallAt, e]
  · show V x 22 [some (.ref t), some (.int (nI p)), some (.int r), some (.int (nI i)), some (.int opn), some (.int (hereAt σ t m r opn (i + 1) hm0)), some (.int (wallAt σ t m r opn (i + 1) hm0)), some (.int (nI (i + 1)))] [] σ
    have hp : wayW σ t m p r i = wayG σ t m r opn (i + 1 - (i + 1)) (hereAt σ t m r opn (i + 1) hm0) (wallAt σ t m r opn (i + 1) hm0) := hp
    rw [Nat.sub_self, wayG] at hp
    refine v_iload_8_7 G dX4_wallOnWay_22 ?_
    refine v_iload_8_3 G dX4_wallOnWay_24 ?_
    refine v_icmp_gt (tgt := 65) G dX4_wallOnWay_25 rfl (fun h_25 => ?_) (fun h_25 => absurd (nI_lt (by omega) (by omega)) h_25)
    refine v_iload_8_6 G dX4_wallOnWay_65 ?_
    exact v_iret G hQ dX4_wallOnWay_67 (vDet.of (by rw [hp]) rfl)
/-- the least set of walls, by rows, of those seen so far -/
def lsC (σ : vW) (t m p : Nat) (r hung opn least : Int32) (k : Nat) : Bool := if nI (bcN least) ≤ nI (bcN (nI k)) then false else if nI k &&& (hung ^^^ -1) = 0 then (if bitB (spreadW σ t m (opn &&& (nI k ^^^ -1)) (σ (t + 3) p)) r = true then false else true) else false
def lsTo (σ : vW) (t m p : Nat) (r hung opn : Int32) : Nat → Int32
  | 0 => hung
  | k + 1 => if lsC σ t m p r hung opn (lsTo σ t m p r hung opn k) k = true then nI k else lsTo σ t m p r hung opn k
def shutW (σ : vW) (t m p : Nat) (r : Int32) : Int32 := lsTo σ t m p r (hungTo σ t m) (passTo σ t (nI p) m) 512
set_option maxHeartbeats 4000000 in
theorem C_X4_leastShutting {σ : vW} {t m p : Nat} {r : Int32} (hT : TB t) (hp5 : p < 5) (hm : σ t 11 = nI m) (hm9 : m ≤ 9) : Ctr mX4_leastShutting 3 [.ref t, .int (nI p), .int r] σ (vDet (some (.int (shutW σ t m p r))) σ) := by
  refine Ctr.intro (by decide) (fun α => Nat.le_of_ble_eq_true rfl) (fun x G hQ => ?_)
  have G : vG x RX4 cX4_leastShutting 9 (some .int) 3 := G
  show V x 0 [some (.ref t), some (.int (nI p)), some (.int r), none, none, none, none, none, none] [] σ
  refine v_aload_9_0 G dX4_leastShutting_0 ?_
  refine v_cV0 G (C_X4_hungWalls (by first | assumption | omega | exact oneB_in (by assumption) | exact wallB_in (by assumption) | exact oneB_m1 (by assumption) | decide) (by first | assumption | omega | exact oneB_in (by assumption) | exact wallB_in (by assumption) | exact oneB_m1 (by assumption) | decide) (by first | assumption | omega | exact oneB_in (by assumption) | exact wallB_in (by assumption) | exact oneB_m1 (by assumption) | decide)) (by decide) md_X4_hungWalls in_X4_hungWalls (rv_X4 (by first | assumption | exact imgP_TB | exact shP_SB) rfl) ml_X4_125 (Nat.le_of_ble_eq_true rfl) dX4_leastShutting_1 ?_
  refine v_istore_9_3 G dX4_leastShutting_4 rfl ?_
  refine v_aload_9_0 G dX4_leastShutting_5 ?_
  refine v_iload_9_1 G dX4_leastShutting_6 ?_
  refine v_cV1 G (C_X4_passed (by first | assumption | omega | exact oneB_in (by assumption) | exact wallB_in (by assumption) | exact oneB_m1 (by assumption) | decide) (by first | assumption | omega | exact oneB_in (by assumption) | exact wallB_in (by assumption) | exact oneB_m1 (by assumption) | decide) (by first | assumption | omega | exact oneB_in (by assumption) | exact wallB_in (by assumption) | exact oneB_m1 (by assumption) | decide)) (by decide) md_X4_passed in_X4_passed (rv_X4 (by first | assumption | exact imgP_TB | exact shP_SB) rfl) ml_X4_85 (Nat.le_of_ble_eq_true rfl) dX4_leastShutting_7 ?_
  refine v_istore_9_4 G dX4_leastShutting_10 rfl ?_
  refine v_iload_9_3 G dX4_leastShutting_12 ?_
  refine v_istore_9_5 G dX4_leastShutting_13 rfl ?_
  refine v_iconst (v := nI 0) G dX4_leastShutting_15 (by decide) ?_
  refine v_istore_9_6 G dX4_leastShutting_16 rfl ?_
  refine v_for (pc := 18) (512) (fun k => ([some (.ref t), some (.int (nI p)), some (.int r), some (.int (hungTo σ t m)), some (.int (passTo σ t (nI p) m)), some (.int (lsTo σ t m p r (hungTo σ t m) (passTo σ t (nI p) m) k)), some (.int (nI k)), none, none], σ)) (fun k hk ih => ?_) ?_
  · show V x 18 [some (.ref t), some (.int (nI p)), some (.int r), some (.int (hungTo σ t m)), some (.int (passTo σ t (nI p) m)), some (.int (lsTo σ t m p r (hungTo σ t m) (passTo σ t (nI p) m) k)), some (.int (nI k)), none, none] [] σ
    have ih : V x 18 [some (.ref t), some (.int (nI p)), some (.int r), some (.int (hungTo σ t m)), some (.int (passTo σ t (nI p) m)), some (.int (lsTo σ t m p r (hungTo σ t m) (passTo σ t (nI p) m) (k + 1))), some (.int (nI (k + 1))), none, none] [] σ := ih
    refine v_iload_9_6 G dX4_leastShutting_18 ?_
    refine v_sipush (v := nI 512) G dX4_leastShutting_20 (by decide) ?_
    refine v_icmp_ge (tgt := 106) G dX4_leastShutting_23 rfl (fun h_23 => absurd h_23 (by exact nI_ge hk (by omega))) (fun h_23 => ?_)
    refine v_iload_9_6 G dX4_leastShutting_26 ?_
    refine v_cS1 G (C_bitCount) (by decide) md_J6_bitCount_0f7a4 st_J6_bitCount_0f7a4 ml_X4_117 (Nat.le_of_ble_eq_true rfl) dX4_leastShutting_28 ?_
    refine v_iload_9_5 G dX4_leastShutting_31 ?_
    refine v_cS1 G (C_bitCount) (by decide) md_J6_bitCount_0f7a4 st_J6_bitCount_0f7a4 ml_X4_117 (Nat.le_of_ble_eq_true rfl) dX4_leastShutting_33 ?_
    refine v_icmp_ge (tgt := 43) G dX4_leastShutting_36 rfl (fun h_36 => ?_) (fun h_36 => ?_)
    · refine v_iconst (v := nI 0) G dX4_leastShutting_43 (by decide) ?_
      refine v_istore_9_7 G dX4_leastShutting_44 rfl ?_
      refine v_iload_9_6 G dX4_leastShutting_46 ?_
      refine v_iload_9_3 G dX4_leastShutting_48 ?_
      refine v_iconst (v := (-1)) G dX4_leastShutting_49 (by decide) ?_
      refine v_ixor G dX4_leastShutting_50 ?_
      refine v_iand G dX4_leastShutting_51 ?_
      refine v_if_ne (tgt := 64) G dX4_leastShutting_52 rfl (fun h_52 => ?_) (fun h_52 => ?_)
      · refine v_iconst (v := nI 0) G dX4_leastShutting_64 (by decide) ?_
        refine v_istore_9_8 G dX4_leastShutting_65 rfl ?_
        refine v_iload_9_8 G dX4_leastShutting_67 ?_
        refine v_if_eq (tgt := 100) G dX4_leastShutting_69 rfl (fun h_69 => ?_) (fun h_69 => absurd (by decide) h_69)
        refine v_iincN_9_6 G dX4_leastShutting_100 rfl ?_
        refine v_goto (tgt := 18) G dX4_leastShutting_103 rfl ?_
        simp only [lsTo, lsC, h_23, h_36, h_52, h_69, if_true, if_false, Bool.false_eq_true, reduceIte] at ih
        exact V.drop (by simp only [vsubP, and_self]) ih
      · refine v_iload_9_7 G dX4_leastShutting_55 ?_
        refine v_if_eq (tgt := 64) G dX4_leastShutting_57 rfl (fun h_57 => ?_) (fun h_57 => absurd (by decide) h_57)
        refine v_iconst (v := nI 0) G dX4_leastShutting_64 (by decide) ?_
        refine v_istore_9_8 G dX4_leastShutting_65 rfl ?_
        refine v_iload_9_8 G dX4_leastShutting_67 ?_
        refine v_if_eq (tgt := 100) G dX4_leastShutting_69 rfl (fun h_69 => ?_) (fun h_69 => absurd (by decide) h_69)
        refine v_iincN_9_6 G dX4_leastShutting_100 rfl ?_
        refine v_goto (tgt := 18) G dX4_leastShutting_103 rfl ?_
        simp only [lsTo, lsC, h_23, h_36, h_52, h_57, h_69, if_true, if_false, Bool.false_eq_true, reduceIte] at ih
        exact V.drop (by simp only [vsubP, and_self]) ih
    · refine v_iconst (v := nI 1) G dX4_leastShutting_39 (by decide) ?_
      refine v_goto (tgt := 44) G dX4_leastShutting_40 rfl ?_
      refine v_istore_9_7 G dX4_leastShutting_44 rfl ?_
      refine v_iload_9_6 G dX4_leastShutting_46 ?_
      refine v_iload_9_3 G dX4_leastShutting_48 ?_
      refine v_iconst (v := (-1)) G dX4_leastShutting_49 (by decide) ?_
      refine v_ixor G dX4_leastShutting_50 ?_
      refine v_iand G dX4_leastShutting_51 ?_
      refine v_if_ne (tgt := 64) G dX4_leastShutting_52 rfl (fun h_52 => ?_) (fun h_52 => ?_)
      · refine v_iconst (v := nI 0) G dX4_leastShutting_64 (by decide) ?_
        refine v_istore_9_8 G dX4_leastShutting_65 rfl ?_
        refine v_iload_9_8 G dX4_leastShutting_67 ?_
        refine v_if_eq (tgt := 100) G dX4_leastShutting_69 rfl (fun h_69 => ?_) (fun h_69 => absurd (by decide) h_69)
        refine v_iincN_9_6 G dX4_leastShutting_100 rfl ?_
        refine v_goto (tgt := 18) G dX4_leastShutting_103 rfl ?_
        simp only [lsTo, lsC, h_23, h_36, h_52, h_69, if_true, if_false, Bool.false_eq_true, reduceIte] at ih
        exact V.drop (by simp only [vsubP, and_self]) ih
      · refine v_iload_9_7 G dX4_leastShutting_55 ?_
        refine v_if_eq (tgt := 64) G dX4_leastShutting_57 rfl (fun h_57 => absurd h_57 (by decide)) (fun h_57 => ?_)
        refine v_iconst (v := nI 1) G dX4_leastShutting_60 (by decide) ?_
        refine v_goto (tgt := 65) G dX4_leastShutting_61 rfl ?_
        refine v_istore_9_8 G dX4_leastShutting_65 rfl ?_
        refine v_iload_9_8 G dX4_leastShutting_67 ?_
        refine v_if_eq (tgt := 100) G dX4_leastShutting_69 rfl (fun h_69 => absurd h_69 (by decide)) (fun h_69 => ?_)
        refine v_aload_9_0 G dX4_leastShutting_72 ?_
        refine v_aload_9_0 G dX4_leastShutting_73 ?_
        refine v_getR G vc_4 lk_X4_18 (fs_X4_2 (by first | assumption | exact imgP_TB)) dX4_leastShutting_74 ?_
        refine v_iload_9_1 G dX4_leastShutting_77 ?_
        refine v_ialdN G (as_X4_2 (by first | assumption | exact imgP_TB)) (by first | assumption | omega | exact oneB_in (by assumption) | exact wallB_in (by assumption) | exact oneB_m1 (by assumption) | decide) (by first | decide | omega) dX4_leastShutting_78 ?_
        refine v_iload_9_4 G dX4_leastShutting_79 ?_
        refine v_iload_9_6 G dX4_leastShutting_81 ?_
        refine v_iconst (v := (-1)) G dX4_leastShutting_83 (by decide) ?_
        refine v_ixor G dX4_leastShutting_84 ?_
        refine v_iand G dX4_leastShutting_85 ?_
        refine v_cV2 G (C_X4_spread (by first | assumption | omega | exact oneB_in (by assumption) | exact wallB_in (by assumption) | exact oneB_m1 (by assumption) | decide) (by first | assumption | omega | exact oneB_in (by assumption) | exact wallB_in (by assumption) | exact oneB_m1 (by assumption) | decide) (by first | assumption | omega | exact oneB_in (by assumption) | exact wallB_in (by assumption) | exact oneB_m1 (by assumption) | decide)) (by decide) md_X4_spread in_X4_spread (rv_X4 (by first | assumption | exact imgP_TB | exact shP_SB) rfl) ml_X4_102 (Nat.le_of_ble_eq_true rfl) dX4_leastShutting_86 ?_
        refine v_iload_9_2 G dX4_leastShutting_89 ?_
        refine v_cN2 G (C_X5_hasBit) (by decide) md_X5_hasBit st_X5_hasBit nl_X4_89 (Nat.le_of_ble_eq_true rfl) dX4_leastShutting_90 ?_
        refine v_ifB_ne (tgt := 100) G dX4_leastShutting_93 rfl (fun h_93 => ?_) (fun h_93 => ?_)
        · refine v_iincN_9_6 G dX4_leastShutting_100 rfl ?_
          refine v_goto (tgt := 18) G dX4_leastShutting_103 rfl ?_
          simp only [lsTo, lsC, h_23, h_36, h_52, h_57, h_69, h_93, if_true, if_false, Bool.false_eq_true, reduceIte] at ih
          exact V.drop (by simp only [vsubP, and_self]) ih
        · refine v_iload_9_6 G dX4_leastShutting_96 ?_
          refine v_istore_9_5 G dX4_leastShutting_98 rfl ?_
          refine v_iincN_9_6 G dX4_leastShutting_100 rfl ?_
          refine v_goto (tgt := 18) G dX4_leastShutting_103 rfl ?_
          simp only [lsTo, lsC, h_23, h_36, h_52, h_57, h_69, h_93, if_true, if_false, Bool.false_eq_true, reduceIte] at ih
          exact V.drop (by simp only [vsubP, and_self]) ih
  · show V x 18 [some (.ref t), some (.int (nI p)), some (.int r), some (.int (hungTo σ t m)), some (.int (passTo σ t (nI p) m)), some (.int (lsTo σ t m p r (hungTo σ t m) (passTo σ t (nI p) m) 512)), some (.int (nI 512)), none, none] [] σ
    refine v_iload_9_6 G dX4_leastShutting_18 ?_
    refine v_sipush (v := nI 512) G dX4_leastShutting_20 (by decide) ?_
    refine v_icmp_ge (tgt := 106) G dX4_leastShutting_23 rfl (fun h_23 => ?_) (fun h_23 => absurd (by exact nI_le (Nat.le_refl _) (by omega)) h_23)
    refine v_iload_9_5 G dX4_leastShutting_106 ?_
    exact v_iret G hQ dX4_leastShutting_108 (vDet.of rfl rfl)
/-- the plan goes, but for one act -/
def fpW (σ : vW) (t : Nat) (lo : Int32) : Nat → vW
  | 0 => σ
  | k + 1 => if nI k = lo then fpW σ t lo k else if canB (fpW σ t lo k) t (σ (t + 9) k) (σ (t + 10) k) = true then hangW (fpW σ t lo k) t (σ (t + 9) k) (σ (t + 10) k) else fpW σ t lo k
def fpC (σ : vW) (t : Nat) (lo : Int32) : Nat → Int32
  | 0 => nI 0
  | k + 1 => if nI k = lo then fpC σ t lo k else if canB (fpW σ t lo k) t (σ (t + 9) k) (σ (t + 10) k) = true then fpC σ t lo k ||| nI 1 <<< (nI k &&& 31) else fpC σ t lo k
theorem vset_ne {σ : vW} {a b i : Nat} {v : Int32} (h : b ≠ a) : (vset σ a i v) b = σ b := by funext j; simp [vset, h]
theorem hangW_ne {σ : vW} {t b : Nat} {p w : Int32} (h1 : b ≠ t + 4) (h2 : b ≠ t + 7) : (hangW σ t p w) b = σ b := by rw [hangW, vset_ne h2, vset_ne h1]
theorem fpW_ne {σ : vW} {t b : Nat} {lo : Int32} (h1 : b ≠ t + 4) (h2 : b ≠ t + 7) : ∀ k, (fpW σ t lo k) b = σ b
  | 0 => rfl
  | k + 1 => by
    unfold fpW
    split
    · exact fpW_ne h1 h2 k
    · split
      · rw [hangW_ne h1 h2]
        exact fpW_ne h1 h2 k
      · exact fpW_ne h1 h2 k
set_option maxHeartbeats 4000000 in
theorem C_X4_followPlan {σ : vW} {t K : Nat} {lo : Int32} (hT : TB t) (hK : σ t 12 = nI K) (hK6 : K ≤ 6) : Ctr mX4_followPlan 3 [.ref t, .int lo] σ (vDet (some (.int (fpC σ t lo K))) (fpW σ t lo K)) := by
  refine Ctr.intro (by decide) (fun α => Nat.le_of_ble_eq_true rfl) (fun x G hQ => ?_)
  have G : vG x RX4 cX4_followPlan 4 (some .int) 3 := G
  show V x 0 [some (.ref t), some (.int lo), none, none] [] σ
  have hr : ∀ k, (fpW σ t lo k) t 12 = nI K := fun k => by rw [fpW_ne (by omega) (by omega)]; exact hK
  have hr9 : ∀ k, (fpW σ t lo k) (t + 9) = σ (t + 9) := fun k => fpW_ne (by omega) (by omega) k
  have hr10 : ∀ k, (fpW σ t lo k) (t + 10) = σ (t + 10) := fun k => fpW_ne (by omega) (by omega) k
  refine v_iconst (v := nI 0) G dX4_followPlan_0 (by decide) ?_
  refine v_istore_4_2 G dX4_followPlan_1 rfl ?_
  refine v_iconst (v := nI 0) G dX4_followPlan_2 (by decide) ?_
  refine v_istore_4_3 G dX4_followPlan_3 rfl ?_
  refine v_for (pc := 4) (K) (fun k => ([some (.ref t), some (.int lo), some (.int (fpC σ t lo k)), some (.int (nI k))], (fpW σ t lo k))) (fun k hk ih => ?_) ?_
  · show V x 4 [some (.ref t), some (.int lo), some (.int (fpC σ t lo k)), some (.int (nI k))] [] (fpW σ t lo k)
    have ih : V x 4 [some (.ref t), some (.int lo), some (.int (fpC σ t lo (k + 1))), some (.int (nI (k + 1)))] [] (fpW σ t lo (k + 1)) := ih
    refine v_iload_4_3 G dX4_followPlan_4 ?_
    refine v_aload_4_0 G dX4_followPlan_5 ?_
    refine v_getI G vc_4 lk_X4_55 (fs_X4_12 (by first | assumption | exact imgP_TB)) dX4_followPlan_6 ?_
    refine v_icmp_ge (tgt := 48) G dX4_followPlan_9 rfl (fun h_9 => absurd h_9 (by rw [hr]; exact nI_ge hk (by omega))) (fun h_9 => ?_)
    refine v_iload_4_3 G dX4_followPlan_12 ?_
    refine v_iload_4_1 G dX4_followPlan_13 ?_
    refine v_icmp_eq (tgt := 42) G dX4_followPlan_14 rfl (fun h_14 => ?_) (fun h_14 => ?_)
    · refine v_iincN_4_3 G dX4_followPlan_42 rfl ?_
      refine v_goto (tgt := 4) G dX4_followPlan_45 rfl ?_
      first
        | (simp only [fpW, fpC, h_9, h_14, if_true, if_false, Bool.false_eq_true, reduceIte] at ih; exact ih)
        | (rw [hr9, hr10] at h_33; simp only [hr9, hr10, fpW, fpC, h_9, h_14, if_true, if_false, Bool.false_eq_true, reduceIte] at ih ⊢; exact ih)
    · refine v_aload_4_0 G dX4_followPlan_17 ?_
      refine v_aload_4_0 G dX4_followPlan_18 ?_
      refine v_getR G vc_4 lk_X4_36 (fs_X4_8 (by first | assumption | exact imgP_TB)) dX4_followPlan_19 ?_
      refine v_iload_4_3 G dX4_followPlan_22 ?_
      refine v_ialdN G (as_X4_8 (by first | assumption | exact imgP_TB)) (by first | assumption | omega | exact oneB_in (by assumption) | exact wallB_in (by assumption) | exact oneB_m1 (by assumption) | decide) (by first | decide | omega) dX4_followPlan_23 ?_
      refine v_aload_4_0 G dX4_followPlan_24 ?_
      refine v_getR G vc_4 lk_X4_39 (fs_X4_9 (by first | assumption | exact imgP_TB)) dX4_followPlan_25 ?_
      refine v_iload_4_3 G dX4_followPlan_28 ?_
      refine v_ialdN G (as_X4_9 (by first | assumption | exact imgP_TB)) (by first | assumption | omega | exact oneB_in (by assumption) | exact wallB_in (by assumption) | exact oneB_m1 (by assumption) | decide) (by first | decide | omega) dX4_followPlan_29 ?_
      refine v_cV2 G (C_X4_hangDoor (by first | assumption | omega | exact oneB_in (by assumption) | exact wallB_in (by assumption) | exact oneB_m1 (by assumption) | decide)) (by decide) md_X4_hangDoor in_X4_hangDoor (rv_X4 (by first | assumption | exact imgP_TB | exact shP_SB) rfl) ml_X4_79 (Nat.le_of_ble_eq_true rfl) dX4_followPlan_30 ?_
      refine v_ifB_eq (tgt := 42) G dX4_followPlan_33 rfl (fun h_33 => ?_) (fun h_33 => ?_)
      · refine v_iincN_4_3 G dX4_followPlan_42 rfl ?_
        refine v_goto (tgt := 4) G dX4_followPlan_45 rfl ?_
        first
          | (simp only [fpW, fpC, h_9, h_14, h_33, if_true, if_false, Bool.false_eq_true, reduceIte] at ih; exact ih)
          | (rw [hr9, hr10] at h_33; simp only [hr9, hr10, fpW, fpC, h_9, h_14, h_33, if_true, if_false, Bool.false_eq_true, reduceIte] at ih ⊢; exact ih)
      · refine v_iload_4_2 G dX4_followPlan_36 ?_
        refine v_iconst (v := nI 1) G dX4_followPlan_37 (by decide) ?_
        refine v_iload_4_3 G dX4_followPlan_38 ?_
        refine v_ishl G dX4_followPlan_39 ?_
        refine v_ior G dX4_followPlan_40 ?_
        refine v_istore_4_2 G dX4_followPlan_41 rfl ?_
        refine v_iincN_4_3 G dX4_followPlan_42 rfl ?_
        refine v_goto (tgt := 4) G dX4_followPlan_45 rfl ?_
        first
          | (simp only [fpW, fpC, h_9, h_14, h_33, if_true, if_false, Bool.false_eq_true, reduceIte] at ih; exact ih)
          | (rw [hr9, hr10] at h_33; simp only [hr9, hr10, fpW, fpC, h_9, h_14, h_33, if_true, if_false, Bool.false_eq_true, reduceIte] at ih ⊢; exact ih)
  · show V x 4 [some (.ref t), some (.int lo), some (.int (fpC σ t lo K)), some (.int (nI K))] [] (fpW σ t lo K)
    refine v_iload_4_3 G dX4_followPlan_4 ?_
    refine v_aload_4_0 G dX4_followPlan_5 ?_
    refine v_getI G vc_4 lk_X4_55 (fs_X4_12 (by first | assumption | exact imgP_TB)) dX4_followPlan_6 ?_
    refine v_icmp_ge (tgt := 48) G dX4_followPlan_9 rfl (fun h_9 => ?_) (fun h_9 => absurd (by rw [hr]; exact nI_le (Nat.le_refl _) (by omega)) h_9)
    refine v_iload_4_2 G dX4_followPlan_48 ?_
    exact v_iret G hQ dX4_followPlan_49 (vDet.of rfl rfl)
def powL (b : Int32) : Nat → Int64
  | 0 => lN 1
  | k + 1 => powL b k * b.toInt64
set_option maxHeartbeats 4000000 in
theorem C_X4_power {σ : vW} {b : Int32} {n : Nat} (hn : n < 64) : Ctr mX4_power 0 [.int b, .int (nI n)] σ (vDet (some (.long (powL b n))) σ) := by
  refine Ctr.intro (by decide) (fun α => Nat.le_of_ble_eq_true rfl) (fun x G hQ => ?_)
  have G : vG x RX4 cX4_power 5 (some .long) 0 := G
  show V x 0 [some (.int b), some (.int (nI n)), none, none, none] [] σ
  refine v_lconst (v := lN 1) G dX4_power_0 (by decide) ?_
  refine v_lstore_5_2 G dX4_power_1 rfl ?_
  refine v_iconst (v := nI 0) G dX4_power_2 (by decide) ?_
  refine v_istore_5_4 G dX4_power_3 rfl ?_
  refine v_for (pc := 5) (n) (fun k => ([some (.int b), some (.int (nI n)), some (.long (powL b k)), none, some (.int (nI k))], σ)) (fun k hk ih => ?_) ?_
  · show V x 5 [some (.int b), some (.int (nI n)), some (.long (powL b k)), none, some (.int (nI k))] [] σ
    have ih : V x 5 [some (.int b), some (.int (nI n)), some (.long (powL b (k + 1))), none, some (.int (nI (k + 1)))] [] σ := ih
    refine v_iload_5_4 G dX4_power_5 ?_
    refine v_iload_5_1 G dX4_power_7 ?_
    refine v_icmp_ge (tgt := 22) G dX4_power_8 rfl (fun h_8 => absurd h_8 (by exact nI_ge hk (by omega))) (fun h_8 => ?_)
    refine v_lload_5_2 G dX4_power_11 ?_
    refine v_iload_5_0 G dX4_power_12 ?_
    refine v_i2l G dX4_power_13 ?_
    refine v_lmul G dX4_power_14 ?_
    refine v_lstore_5_2 G dX4_power_15 rfl ?_
    refine v_iincN_5_4 G dX4_power_16 rfl ?_
    refine v_goto (tgt := 5) G dX4_power_19 rfl ?_
    exact ih
  · show V x 5 [some (.int b), some (.int (nI n)), some (.long (powL b n)), none, some (.int (nI n))] [] σ
    refine v_iload_5_4 G dX4_power_5 ?_
    refine v_iload_5_1 G dX4_power_7 ?_
    refine v_icmp_ge (tgt := 22) G dX4_power_8 rfl (fun h_8 => ?_) (fun h_8 => absurd (by exact nI_le (Nat.le_refl _) (by omega)) h_8)
    refine v_lload_5_2 G dX4_power_22 ?_
    exact v_lret G hQ dX4_power_23 (vDet.of rfl rfl)
set_option maxHeartbeats 4000000 in
theorem C_X4_jamWeights {σ : vW} {t m : Nat} (hT : TB t) (hm : σ t 11 = nI m) (hm9 : m ≤ 9) : Ctr mX4_jamWeights 1 [.ref t] σ (vDet (some (.long (powL (nI 10) (bcN (hungTo σ t m))))) σ) := by
  refine Ctr.intro (by decide) (fun α => Nat.le_of_ble_eq_true rfl) (fun x G hQ => ?_)
  have G : vG x RX4 cX4_jamWeights 1 (some .long) 1 := G
  show V x 0 [some (.ref t)] [] σ
  refine v_bipush (v := nI 10) G dX4_jamWeights_0 (by decide) ?_
  refine v_aload_1_0 G dX4_jamWeights_2 ?_
  refine v_cV0 G (C_X4_hungWalls (by first | assumption | exact (bcN_lt _).1) (by first | assumption | exact (bcN_lt _).1) (by first | assumption | exact (bcN_lt _).1)) (by decide) md_X4_hungWalls in_X4_hungWalls (rv_X4 (by first | assumption | exact imgP_TB | exact shP_SB) rfl) ml_X4_125 (Nat.le_of_ble_eq_true rfl) dX4_jamWeights_3 ?_
  refine v_cS1 G (C_bitCount) (by decide) md_J6_bitCount_0f7a4 st_J6_bitCount_0f7a4 ml_X4_117 (Nat.le_of_ble_eq_true rfl) dX4_jamWeights_6 ?_
  refine v_cS2 G (C_X4_power (by first | assumption | exact (bcN_lt _).1)) (by decide) md_X4_power st_X4_power ml_X4_129 (Nat.le_of_ble_eq_true rfl) dX4_jamWeights_9 ?_
  exact v_lret G hQ dX4_jamWeights_12 (vDet.of rfl rfl)
def jamT (σ : vW) (t m p : Nat) (v rm hung opn : Int32) (k : Nat) : Int64 := powL v (bcN (nI k)) * powL (nI 10 - v) (bcN (hung &&& (nI k ^^^ -1))) * (nI (bcN (rm &&& spreadW σ t m (opn &&& (nI k ^^^ -1)) (σ (t + 3) p)))).toInt64
def jamTo (σ : vW) (t m p : Nat) (v rm hung opn : Int32) : Nat → Int64
  | 0 => lN 0
  | k + 1 => if nI k &&& (hung ^^^ -1) = 0 then jamTo σ t m p v rm hung opn k + jamT σ t m p v rm hung opn k else jamTo σ t m p v rm hung opn k
set_option maxHeartbeats 4000000 in
theorem C_X4_reachedWhenJammed {σ : vW} {t m p : Nat} {v rm : Int32} (hT : TB t) (hp5 : p < 5) (hm : σ t 11 = nI m) (hm9 : m ≤ 9) : Ctr mX4_reachedWhenJammed 3 [.ref t, .int v, .int (nI p), .int rm] σ (vDet (some (.long (jamTo σ t m p v rm (hungTo σ t m) (passTo σ t (nI p) m) 512))) σ) := by
  refine Ctr.intro (by decide) (fun α => Nat.le_of_ble_eq_true rfl) (fun x G hQ => ?_)
  have G : vG x RX4 cX4_reachedWhenJammed 11 (some .long) 3 := G
  show V x 0 [some (.ref t), some (.int v), some (.int (nI p)), some (.int rm), none, none, none, none, none, none, none] [] σ
  refine v_aload_11_0 G dX4_reachedWhenJammed_0 ?_
  refine v_cV0 G (C_X4_hungWalls (by first | assumption | omega | exact oneB_in (by assumption) | exact wallB_in (by assumption) | exact oneB_m1 (by assumption) | decide) (by first | assumption | omega | exact oneB_in (by assumption) | exact wallB_in (by assumption) | exact oneB_m1 (by assumption) | decide) (by first | assumption | omega | exact oneB_in (by assumption) | exact wallB_in (by assumption) | exact oneB_m1 (by assumption) | decide)) (by decide) md_X4_hungWalls in_X4_hungWalls (rv_X4 (by first | assumption | exact imgP_TB | exact shP_SB) rfl) ml_X4_125 (Nat.le_of_ble_eq_true rfl) dX4_reachedWhenJammed_1 ?_
  refine v_istore_11_4 G dX4_reachedWhenJammed_4 rfl ?_
  refine v_aload_11_0 G dX4_reachedWhenJammed_6 ?_
  refine v_iload_11_2 G dX4_reachedWhenJammed_7 ?_
  refine v_cV1 G (C_X4_passed (by first | assumption | omega | exact oneB_in (by assumption) | exact wallB_in (by assumption) | exact oneB_m1 (by assumption) | decide) (by first | assumption | omega | exact oneB_in (by assumption) | exact wallB_in (by assumption) | exact oneB_m1 (by assumption) | decide) (by first | assumption | omega | exact oneB_in (by assumption) | exact wallB_in (by assumption) | exact oneB_m1 (by assumption) | decide)) (by decide) md_X4_passed in_X4_passed (rv_X4 (by first | assumption | exact imgP_TB | exact shP_SB) rfl) ml_X4_85 (Nat.le_of_ble_eq_true rfl) dX4_reachedWhenJammed_8 ?_
  refine v_istore_11_5 G dX4_reachedWhenJammed_11 rfl ?_
  refine v_lconst (v := lN 0) G dX4_reachedWhenJammed_13 (by decide) ?_
  refine v_lstore_11_6 G dX4_reachedWhenJammed_14 rfl ?_
  refine v_iconst (v := nI 0) G dX4_reachedWhenJammed_16 (by decide) ?_
  refine v_istore_11_8 G dX4_reachedWhenJammed_17 rfl ?_
  refine v_for (pc := 19) (512) (fun k => ([some (.ref t), some (.int v), some (.int (nI p)), some (.int rm), some (.int (hungTo σ t m)), some (.int (passTo σ t (nI p) m)), some (.long (jamTo σ t m p v rm (hungTo σ t m) (passTo σ t (nI p) m) k)), none, some (.int (nI k)), none, none], σ)) (fun k hk ih => ?_) ?_
  · show V x 19 [some (.ref t), some (.int v), some (.int (nI p)), some (.int rm), some (.int (hungTo σ t m)), some (.int (passTo σ t (nI p) m)), some (.long (jamTo σ t m p v rm (hungTo σ t m) (passTo σ t (nI p) m) k)), none, some (.int (nI k)), none, none] [] σ
    have ih : V x 19 [some (.ref t), some (.int v), some (.int (nI p)), some (.int rm), some (.int (hungTo σ t m)), some (.int (passTo σ t (nI p) m)), some (.long (jamTo σ t m p v rm (hungTo σ t m) (passTo σ t (nI p) m) (k + 1))), none, some (.int (nI (k + 1))), none, none] [] σ := ih
    refine v_iload_11_8 G dX4_reachedWhenJammed_19 ?_
    refine v_sipush (v := nI 512) G dX4_reachedWhenJammed_21 (by decide) ?_
    refine v_icmp_ge (tgt := 103) G dX4_reachedWhenJammed_24 rfl (fun h_24 => absurd h_24 (by exact nI_ge hk (by omega))) (fun h_24 => ?_)
    refine v_iload_11_8 G dX4_reachedWhenJammed_27 ?_
    refine v_iload_11_4 G dX4_reachedWhenJammed_29 ?_
    refine v_iconst (v := (-1)) G dX4_reachedWhenJammed_31 (by decide) ?_
    refine v_ixor G dX4_reachedWhenJammed_32 ?_
    refine v_iand G dX4_reachedWhenJammed_33 ?_
    refine v_if_ne (tgt := 97) G dX4_reachedWhenJammed_34 rfl (fun h_34 => ?_) (fun h_34 => ?_)
    · refine v_iincN_11_8 G dX4_reachedWhenJammed_97 rfl ?_
      refine v_goto (tgt := 19) G dX4_reachedWhenJammed_100 rfl ?_
      simp only [jamTo, jamT, h_24, h_34, if_true, if_false, Bool.false_eq_true, reduceIte] at ih
      exact V.drop (by simp only [vsubP, and_self]) ih
    · refine v_iload_11_1 G dX4_reachedWhenJammed_37 ?_
      refine v_iload_11_8 G dX4_reachedWhenJammed_38 ?_
      refine v_cS1 G (C_bitCount) (by decide) md_J6_bitCount_0f7a4 st_J6_bitCount_0f7a4 ml_X4_117 (Nat.le_of_ble_eq_true rfl) dX4_reachedWhenJammed_40 ?_
      refine v_cS2 G (C_X4_power (by first | assumption | omega | exact (bcN_lt _).1)) (by decide) md_X4_power st_X4_power ml_X4_129 (Nat.le_of_ble_eq_true rfl) dX4_reachedWhenJammed_43 ?_
      refine v_bipush (v := nI 10) G dX4_reachedWhenJammed_46 (by decide) ?_
      refine v_iload_11_1 G dX4_reachedWhenJammed_48 ?_
      refine v_isub G dX4_reachedWhenJammed_49 ?_
      refine v_iload_11_4 G dX4_reachedWhenJammed_50 ?_
      refine v_iload_11_8 G dX4_reachedWhenJammed_52 ?_
      refine v_iconst (v := (-1)) G dX4_reachedWhenJammed_54 (by decide) ?_
      refine v_ixor G dX4_reachedWhenJammed_55 ?_
      refine v_iand G dX4_reachedWhenJammed_56 ?_
      refine v_cS1 G (C_bitCount) (by decide) md_J6_bitCount_0f7a4 st_J6_bitCount_0f7a4 ml_X4_117 (Nat.le_of_ble_eq_true rfl) dX4_reachedWhenJammed_57 ?_
      refine v_cS2 G (C_X4_power (by first | assumption | omega | exact (bcN_lt _).1)) (by decide) md_X4_power st_X4_power ml_X4_129 (Nat.le_of_ble_eq_true rfl) dX4_reachedWhenJammed_60 ?_
      refine v_lmul G dX4_reachedWhenJammed_63 ?_
      refine v_lstore_11_9 G dX4_reachedWhenJammed_64 rfl ?_
      refine v_lload_11_6 G dX4_reachedWhenJammed_66 ?_
      refine v_lload_11_9 G dX4_reachedWhenJammed_68 ?_
      refine v_iload_11_3 G dX4_reachedWhenJammed_70 ?_
      refine v_aload_11_0 G dX4_reachedWhenJammed_71 ?_
      refine v_aload_11_0 G dX4_reachedWhenJammed_72 ?_
      refine v_getR G vc_4 lk_X4_18 (fs_X4_2 (by first | assumption | exact imgP_TB)) dX4_reachedWhenJammed_73 ?_
      refine v_iload_11_2 G dX4_reachedWhenJammed_76 ?_
      refine v_ialdN G (as_X4_2 (by first | assumption | exact imgP_TB)) (by first | assumption | omega | exact (bcN_lt _).1) (by first | decide | omega) dX4_reachedWhenJammed_77 ?_
      refine v_iload_11_5 G dX4_reachedWhenJammed_78 ?_
      refine v_iload_11_8 G dX4_reachedWhenJammed_80 ?_
      refine v_iconst (v := (-1)) G dX4_reachedWhenJammed_82 (by decide) ?_
      refine v_ixor G dX4_reachedWhenJammed_83 ?_
      refine v_iand G dX4_reachedWhenJammed_84 ?_
      refine v_cV2 G (C_X4_spread (by first | assumption | omega | exact (bcN_lt _).1) (by first | assumption | omega | exact (bcN_lt _).1) (by first | assumption | omega | exact (bcN_lt _).1)) (by decide) md_X4_spread in_X4_spread (rv_X4 (by first | assumption | exact imgP_TB | exact shP_SB) rfl) ml_X4_102 (Nat.le_of_ble_eq_true rfl) dX4_reachedWhenJammed_85 ?_
      refine v_iand G dX4_reachedWhenJammed_88 ?_
      refine v_cS1 G (C_bitCount) (by decide) md_J6_bitCount_0f7a4 st_J6_bitCount_0f7a4 ml_X4_117 (Nat.le_of_ble_eq_true rfl) dX4_reachedWhenJammed_89 ?_
      refine v_i2l G dX4_reachedWhenJammed_92 ?_
      refine v_lmul G dX4_reachedWhenJammed_93 ?_
      refine v_ladd G dX4_reachedWhenJammed_94 ?_
      refine v_lstore_11_6 G dX4_reachedWhenJammed_95 rfl ?_
      refine v_iincN_11_8 G dX4_reachedWhenJammed_97 rfl ?_
      refine v_goto (tgt := 19) G dX4_reachedWhenJammed_100 rfl ?_
      simp only [jamTo, jamT, h_24, h_34, if_true, if_false, Bool.false_eq_true, reduceIte] at ih
      exact V.drop (by simp only [vsubP, and_self]) ih
  · show V x 19 [some (.ref t), some (.int v), some (.int (nI p)), some (.int rm), some (.int (hungTo σ t m)), some (.int (passTo σ t (nI p) m)), some (.long (jamTo σ t m p v rm (hungTo σ t m) (passTo σ t (nI p) m) 512)), none, some (.int (nI 512)), none, none] [] σ
    refine v_iload_11_8 G dX4_reachedWhenJammed_19 ?_
    refine v_sipush (v := nI 512) G dX4_reachedWhenJammed_21 (by decide) ?_
    refine v_icmp_ge (tgt := 103) G dX4_reachedWhenJammed_24 rfl (fun h_24 => ?_) (fun h_24 => absurd (by exact nI_le (Nat.le_refl _) (by omega)) h_24)
    refine v_lload_11_6 G dX4_reachedWhenJammed_103 ?_
    exact v_lret G hQ dX4_reachedWhenJammed_105 (vDet.of rfl rfl)
def drW1 (σ : vW) (t n m : Nat) (g : Int32) : Int32 := g / nI 8 - g / nI 8 / nI m * nI m
def drP (σ : vW) (t n m : Nat) (g : Int32) : Int32 := g - g / nI n * nI n
def drW (σ : vW) (t n m : Nat) (g : Int32) : vW := if canB σ t (drP σ t n m g) (drW1 σ t n m g) = true then hangW σ t (drP σ t n m g) (drW1 σ t n m g) else takeW σ t (drW1 σ t n m g) (-1)
set_option maxHeartbeats 4000000 in
theorem C_X4_driftOnce {σ : vW} {t n m : Nat} {g : Int32} (hT : TB t) (hn : σ t 10 = nI n) (hn0 : 0 < n) (hn5 : n ≤ 5) (hm : σ t 11 = nI m) (hm0 : 0 < m) (hm9 : m ≤ 9) : Ctr mX4_driftOnce 3 [.ref t, .int g] σ (vDet none (drW σ t n m g)) := by
  refine Ctr.intro (by decide) (fun α => Nat.le_of_ble_eq_true rfl) (fun x G hQ => ?_)
  have G : vG x RX4 cX4_driftOnce 3 none 3 := G
  show V x 0 [some (.ref t), some (.int g), none] [] σ
  have hn' : ¬ σ t 10 ≤ 0 := by rw [hn]; exact nI_nle hn0 (by omega)
  have hm' : 0 < σ t 11 := by rw [hm, ← nI_0]; exact nI_lt hm0 (by omega)
  have hnz : ¬ σ t 10 = 0 := by rw [hn]; exact nI_ne0 hn0 (by omega)
  have hmz : ¬ σ t 11 = 0 := by rw [hm]; exact nI_ne0 hm0 (by omega)
  refine v_aload_3_0 G dX4_driftOnce_0 ?_
  refine v_getI G vc_4 lk_X4_48 (fs_X4_10 (by first | assumption | exact imgP_TB)) dX4_driftOnce_1 ?_
  refine v_if_le (tgt := 14) G dX4_driftOnce_4 rfl (fun h_4 => absurd h_4 hn') (fun h_4 => ?_)
  refine v_aload_3_0 G dX4_driftOnce_7 ?_
  refine v_getI G vc_4 lk_X4_52 (fs_X4_11 (by first | assumption | exact imgP_TB)) dX4_driftOnce_8 ?_
  refine v_if_gt (tgt := 15) G dX4_driftOnce_11 rfl (fun h_11 => ?_) (fun h_11 => absurd hm' h_11)
  refine v_iload_3_1 G dX4_driftOnce_15 ?_
  refine v_bipush (v := nI 8) G dX4_driftOnce_16 (by decide) ?_
  refine v_idiv G dX4_driftOnce_18 (by first | assumption | decide) ?_
  refine v_aload_3_0 G dX4_driftOnce_19 ?_
  refine v_getI G vc_4 lk_X4_52 (fs_X4_11 (by first | assumption | exact imgP_TB)) dX4_driftOnce_20 ?_
  refine v_irem G dX4_driftOnce_23 (by first | assumption | decide) ?_
  refine v_istore_3_2 G dX4_driftOnce_24 rfl ?_
  refine v_aload_3_0 G dX4_driftOnce_25 ?_
  refine v_iload_3_1 G dX4_driftOnce_26 ?_
  refine v_aload_3_0 G dX4_driftOnce_27 ?_
  refine v_getI G vc_4 lk_X4_48 (fs_X4_10 (by first | assumption | exact imgP_TB)) dX4_driftOnce_28 ?_
  refine v_irem G dX4_driftOnce_31 (by first | assumption | decide) ?_
  refine v_iload_3_2 G dX4_driftOnce_32 ?_
  refine v_cV2 G (C_X4_hangDoor (by first | assumption | decide)) (by decide) md_X4_hangDoor in_X4_hangDoor (rv_X4 (by first | assumption | exact imgP_TB | exact shP_SB) rfl) ml_X4_79 (Nat.le_of_ble_eq_true rfl) dX4_driftOnce_33 ?_
  refine v_ifB_ne (tgt := 46) G dX4_driftOnce_36 rfl (fun h_36 => ?_) (fun h_36 => ?_)
  · exact v_vret G hQ dX4_driftOnce_46 (vDet.of rfl (by simp only [drW, drP, drW1, ← hn, ← hm, h_4, h_11, h_36, if_true, if_false, Bool.false_eq_true, reduceIte]))
  · refine v_aload_3_0 G dX4_driftOnce_39 ?_
    refine v_iload_3_2 G dX4_driftOnce_40 ?_
    refine v_iconst (v := (-1)) G dX4_driftOnce_41 (by decide) ?_
    refine v_cV2 G (C_X4_takeDoor (by first | assumption | decide)) (by decide) md_X4_takeDoor in_X4_takeDoor (rv_X4 (by first | assumption | exact imgP_TB | exact shP_SB) rfl) ml_X4_75 (Nat.le_of_ble_eq_true rfl) dX4_driftOnce_42 ?_
    refine v_pop G dX4_driftOnce_45 rfl ?_
    exact v_vret G hQ dX4_driftOnce_46 (vDet.of rfl (by simp only [drW, drP, drW1, ← hn, ← hm, h_4, h_11, h_36, if_true, if_false, Bool.false_eq_true, reduceIte]))
