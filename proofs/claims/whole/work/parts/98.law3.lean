/-! The law's loop. (written by lawloop.py) -/
section LL
variable {x : vX} {N i : Nat} {q : Nat → Int32} {σ : vW}
theorem l_exit (G : vG x RL cL_law 4 (some .boolean) 9) (S : sX x N q) (hN : N ≤ 2560) (ke : ∀ L s, V x 1604 L [.int (nI 1)] s) (hi : i ≤ N) (h : ¬ i + 5 ≤ N) : V x 18 [some (.ref 115), some (.ref 0), some (.ref 75), some (.int (nI i))] [] σ := by
  refine v_iload_n (i := 3) G dL_law_18 rfl rfl ?_
  refine v_aload_n (i := 0) G dL_law_19 rfl rfl ?_
  refine l_slen (v := nI N) G S rfl dL_law_20 ?_
  refine v_iconst (v := nI 5) G dL_law_21 (by decide) ?_
  refine v_isub G dL_law_22 ?_
  refine v_icmp_gt (tgt := 1603) G dL_law_23 rfl (fun _ => ?_) (fun hf => absurd ?_ hf)
  · refine v_iconst (v := nI 1) G dL_law_1603 (by decide) ?_
    exact ke _ _
  · by_cases h5 : 5 ≤ N
    · rw [nI_subN h5]
      exact nI_lt (by omega) (by omega)
    · refine Int32.lt_of_lt_of_le (b := 0) ?_ (nI_pos' (by omega))
      rcases (show N = 0 ∨ N = 1 ∨ N = 2 ∨ N = 3 ∨ N = 4 by omega) with rfl | rfl | rfl | rfl | rfl <;> decide
theorem l_loop (G : vG x RL cL_law 4 (some .boolean) 9) (S : sX x N q) (hN : N ≤ 2560) (ke : ∀ L s, V x 1604 L [.int (nI 1)] s) : ∀ (t i : Nat), i ≤ N → N + 1 ≤ i + t → ∀ (σ : vW) (n m K k l : Nat), Rel σ σ n m K k l → V x 18 [some (.ref 115), some (.ref 0), some (.ref 75), some (.int (nI i))] [] σ := by
  intro t
  induction t with
  | zero => exact fun i hi h σ n m K k l R => absurd h (by omega)
  | succ t ih =>
    intro i hi ht σ n m K k l R
    by_cases h5 : i + 5 ≤ N
    · have kk : ∀ (s : vW) (n m K k l : Nat), Rel s s n m K k l → V x 1597 [some (.ref 115), some (.ref 0), some (.ref 75), some (.int (nI i))] [] s := by
        intro s n m K k l R2
        refine v_iincN_4_3 (m := 5) G dL_law_1597 rfl ?_
        refine v_goto (tgt := 18) G dL_law_1600 rfl ?_
        exact ih (i + 5) h5 (by omega) s n m K k l R2
      refine v_iload_n (i := 3) G dL_law_18 rfl rfl ?_
      refine v_aload_n (i := 0) G dL_law_19 rfl rfl ?_
      refine l_slen (v := nI N) G S rfl dL_law_20 ?_
      refine v_iconst (v := nI 5) G dL_law_21 (by decide) ?_
      refine v_isub G dL_law_22 ?_
      refine v_icmp_gt (tgt := 1603) G dL_law_23 rfl (fun hf => absurd hf ?_) (fun _ => ?_)
      · rw [nI_subN (by omega)]
        intro hf
        have := nI_ltN (by omega) (by omega) hf
        omega
      refine v_aload_n (i := 0) G dL_law_26 rfl rfl ?_
      refine v_iload_n (i := 3) G dL_law_27 rfl rfl ?_
      refine l_sld G S (vp_in_nI (by omega) (by omega)) dL_law_28 ?_
      refine v_bipush (v := nI 63) G dL_law_29 (by decide) ?_
      refine v_iand G dL_law_31 ?_
      refine v_tabC (i := 0) (tgt := 220) G dL_law_32 rfl rfl (by decide) (by decide) (fun _ => L_feed G S h5 hN R kk) (fun h_0 => ?_)
      refine v_tabC (i := 1) (tgt := 243) G dL_law_32 rfl rfl (by decide) (by decide) (fun _ => L_end G S h5 hN R kk) (fun h_1 => ?_)
      refine v_tabC (i := 2) (tgt := 266) G dL_law_32 rfl rfl (by decide) (by decide) (fun _ => L_text G S h5 hN R kk) (fun h_2 => ?_)
      refine v_tabC (i := 3) (tgt := 279) G dL_law_32 rfl rfl (by decide) (by decide) (fun _ => L_fault G S h5 hN R kk) (fun h_3 => ?_)
      refine v_tabC (i := 4) (tgt := 292) G dL_law_32 rfl rfl (by decide) (by decide) (fun _ => L_rule G S h5 hN R kk) (fun h_4 => ?_)
      refine v_tabC (i := 5) (tgt := 315) G dL_law_32 rfl rfl (by decide) (by decide) (fun _ => L_one G S h5 hN R kk) (fun h_5 => ?_)
      refine v_tabC (i := 6) (tgt := 348) G dL_law_32 rfl rfl (by decide) (by decide) (fun _ => L_wall G S h5 hN R kk) (fun h_6 => ?_)
      refine v_tabC (i := 7) (tgt := 381) G dL_law_32 rfl rfl (by decide) (by decide) (fun _ => L_room G S h5 hN R kk) (fun h_7 => ?_)
      refine v_tabC (i := 8) (tgt := 414) G dL_law_32 rfl rfl (by decide) (by decide) (fun _ => L_act G S h5 hN R kk) (fun h_8 => ?_)
      refine v_tabC (i := 9) (tgt := 447) G dL_law_32 rfl rfl (by decide) (by decide) (fun _ => L_alter G S h5 hN R kk) (fun h_9 => ?_)
      refine v_tabC (i := 10) (tgt := 490) G dL_law_32 rfl rfl (by decide) (by decide) (fun _ => L_price G S h5 hN R kk) (fun h_10 => ?_)
      refine v_tabC (i := 11) (tgt := 523) G dL_law_32 rfl rfl (by decide) (by decide) (fun _ => L_build G S h5 hN R kk) (fun h_11 => ?_)
      refine v_tabC (i := 12) (tgt := 556) G dL_law_32 rfl rfl (by decide) (by decide) (fun _ => L_plan G S h5 hN R kk) (fun h_12 => ?_)
      refine v_tabC (i := 13) (tgt := 589) G dL_law_32 rfl rfl (by decide) (by decide) (fun _ => L_cut G S h5 hN R kk) (fun h_13 => ?_)
      refine v_tabC (i := 14) (tgt := 612) G dL_law_32 rfl rfl (by decide) (by decide) (fun _ => L_hang G S h5 hN R kk) (fun h_14 => ?_)
      refine v_tabC (i := 15) (tgt := 645) G dL_law_32 rfl rfl (by decide) (by decide) (fun _ => L_fill G S h5 hN R kk) (fun h_15 => ?_)
      refine v_tabC (i := 16) (tgt := 668) G dL_law_32 rfl rfl (by decide) (by decide) (fun _ => L_steps G S h5 hN R kk) (fun h_16 => ?_)
      refine v_tabC (i := 17) (tgt := 701) G dL_law_32 rfl rfl (by decide) (by decide) (fun _ => L_way G S h5 hN R kk) (fun h_17 => ?_)
      refine v_tabC (i := 18) (tgt := 744) G dL_law_32 rfl rfl (by decide) (by decide) (fun _ => L_meet G S h5 hN R kk) (fun h_18 => ?_)
      refine v_tabC (i := 19) (tgt := 777) G dL_law_32 rfl rfl (by decide) (by decide) (fun _ => L_runs G S h5 hN R kk) (fun h_19 => ?_)
      refine v_tabC (i := 20) (tgt := 800) G dL_law_32 rfl rfl (by decide) (by decide) (fun _ => L_ahead G S h5 hN R kk) (fun h_20 => ?_)
      refine v_tabC (i := 21) (tgt := 823) G dL_law_32 rfl rfl (by decide) (by decide) (fun _ => L_best G S h5 hN R kk) (fun h_21 => ?_)
      refine v_tabC (i := 22) (tgt := 866) G dL_law_32 rfl rfl (by decide) (by decide) (fun _ => L_friend G S h5 hN R kk) (fun h_22 => ?_)
      refine v_tabC (i := 23) (tgt := 909) G dL_law_32 rfl rfl (by decide) (by decide) (fun _ => L_gain G S h5 hN R kk) (fun h_23 => ?_)
      refine v_tabC (i := 24) (tgt := 942) G dL_law_32 rfl rfl (by decide) (by decide) (fun _ => L_shut G S h5 hN R kk) (fun h_24 => ?_)
      refine v_tabC (i := 25) (tgt := 985) G dL_law_32 rfl rfl (by decide) (by decide) (fun _ => L_leave G S h5 hN R kk) (fun h_25 => ?_)
      refine v_tabC (i := 26) (tgt := 1008) G dL_law_32 rfl rfl (by decide) (by decide) (fun _ => L_kindly G S h5 hN R kk) (fun h_26 => ?_)
      refine v_tabC (i := 27) (tgt := 1041) G dL_law_32 rfl rfl (by decide) (by decide) (fun _ => L_dear G S h5 hN R kk) (fun h_27 => ?_)
      refine v_tabC (i := 28) (tgt := 1074) G dL_law_32 rfl rfl (by decide) (by decide) (fun _ => L_luck G S h5 hN R kk) (fun h_28 => ?_)
      refine v_tabC (i := 29) (tgt := 1128) G dL_law_32 rfl rfl (by decide) (by decide) (fun _ => L_mean G S h5 hN R kk) (fun h_29 => ?_)
      refine v_tabC (i := 30) (tgt := 1172) G dL_law_32 rfl rfl (by decide) (by decide) (fun _ => L_see G S h5 hN R kk) (fun h_30 => ?_)
      refine v_tabC (i := 31) (tgt := 1231) G dL_law_32 rfl rfl (by decide) (by decide) (fun _ => L_forget G S h5 hN R kk) (fun h_31 => ?_)
      refine v_tabC (i := 32) (tgt := 1254) G dL_law_32 rfl rfl (by decide) (by decide) (fun _ => L_kinds G S h5 hN R kk) (fun h_32 => ?_)
      refine v_tabC (i := 33) (tgt := 1277) G dL_law_32 rfl rfl (by decide) (by decide) (fun _ => L_walls G S h5 hN R kk) (fun h_33 => ?_)
      refine v_tabC (i := 34) (tgt := 1300) G dL_law_32 rfl rfl (by decide) (by decide) (fun _ => L_ask G S h5 hN R kk) (fun h_34 => ?_)
      refine v_tabC (i := 35) (tgt := 1333) G dL_law_32 rfl rfl (by decide) (by decide) (fun _ => L_drift G S h5 hN R kk) (fun h_35 => ?_)
      refine v_tabC (i := 36) (tgt := 1376) G dL_law_32 rfl rfl (by decide) (by decide) (fun _ => L_keep G S h5 hN R kk) (fun h_36 => ?_)
      refine v_tabC (i := 37) (tgt := 1399) G dL_law_32 rfl rfl (by decide) (by decide) (fun _ => L_back G S h5 hN R kk) (fun h_37 => ?_)
      refine v_tabC (i := 38) (tgt := 1422) G dL_law_32 rfl rfl (by decide) (by decide) (fun _ => L_sheet G S h5 hN R kk) (fun h_38 => ?_)
      refine v_tabC (i := 39) (tgt := 1465) G dL_law_32 rfl rfl (by decide) (by decide) (fun _ => L_lay G S h5 hN R kk) (fun h_39 => ?_)
      refine v_tabC (i := 40) (tgt := 1508) G dL_law_32 rfl rfl (by decide) (by decide) (fun _ => L_read G S h5 hN R kk) (fun h_40 => ?_)
      refine v_tabC (i := 41) (tgt := 1561) G dL_law_32 rfl rfl (by decide) (by decide) (fun _ => L_torn G S h5 hN R kk) (fun h_41 => ?_)
      refine v_tabC (i := 42) (tgt := 1574) G dL_law_32 rfl rfl (by decide) (by decide) (fun _ => L_count G S h5 hN R kk) (fun h_42 => ?_)
      refine v_tabE (n := 43) (tgt := 1597) G dL_law_32 (fun j hj => ?_) rfl rfl (by decide) (kk _ _ _ _ _ _ R)
      match j, hj with
      | 0, _ => exact h_0
      | 1, _ => exact h_1
      | 2, _ => exact h_2
      | 3, _ => exact h_3
      | 4, _ => exact h_4
      | 5, _ => exact h_5
      | 6, _ => exact h_6
      | 7, _ => exact h_7
      | 8, _ => exact h_8
      | 9, _ => exact h_9
      | 10, _ => exact h_10
      | 11, _ => exact h_11
      | 12, _ => exact h_12
      | 13, _ => exact h_13
      | 14, _ => exact h_14
      | 15, _ => exact h_15
      | 16, _ => exact h_16
      | 17, _ => exact h_17
      | 18, _ => exact h_18
      | 19, _ => exact h_19
      | 20, _ => exact h_20
      | 21, _ => exact h_21
      | 22, _ => exact h_22
      | 23, _ => exact h_23
      | 24, _ => exact h_24
      | 25, _ => exact h_25
      | 26, _ => exact h_26
      | 27, _ => exact h_27
      | 28, _ => exact h_28
      | 29, _ => exact h_29
      | 30, _ => exact h_30
      | 31, _ => exact h_31
      | 32, _ => exact h_32
      | 33, _ => exact h_33
      | 34, _ => exact h_34
      | 35, _ => exact h_35
      | 36, _ => exact h_36
      | 37, _ => exact h_37
      | 38, _ => exact h_38
      | 39, _ => exact h_39
      | 40, _ => exact h_40
      | 41, _ => exact h_41
      | 42, _ => exact h_42
      | j + 43, hj => exact absurd hj (by omega)
    · exact l_exit G S hN ke hi h5
end LL
