/-! The model: reading a sheet -/
def mrG (σ : vW) (n m s : Nat) (l f : Int32) : Nat → Nat → Int32 × vW
  | 0, t => (nI (t / 2), vset (rmW σ n m s f.toNatClampNeg (t / 2)) 75 31 (nI 0))
  | r + 1, t => if rfC σ s l f t = nI 0 then
      (if t % 2 = 1 then (if 0 ≤ hgA (rmW σ n m s f.toNatClampNeg (t / 2)) n m (rdP0 σ s f.toNatClampNeg (t / 2)) (rdP1 σ s f.toNatClampNeg (t / 2)) then mrG σ n m s l f r (t + 1) else (-20 - nI (t / 2), cpW (rmW σ n m s f.toNatClampNeg (t / 2 + 1)) 195 0)) else mrG σ n m s l f r (t + 1))
    else (nI (t / 2), vset (rmW σ n m s f.toNatClampNeg (t / 2)) 75 31 (rfC σ s l f t))
theorem C_X6_hangsV {σ : vW} {f : Nat → Int32} {n m : Nat} {a w : Int32} (hp : pOK σ n m 0) : Ctr mX6_hangs 4 [.ref 75, .int a, .int w] (vrow σ 81 f) (vFar (some (.int (hgA σ n m a w))) (hgV σ n m a w)) := C_X6_hangs hp
def mReadR (σ : vW) (n m : Nat) (s l f c : Int32) : Int32 := if inZ s 4 = true then (if inZ l 3 = true then (if inZ c 21 = true then (mrG σ n m s.toNatClampNeg l f (2 * c.toNatClampNeg) 0).1 else -1) else -1) else -1
def mReadW (σ : vW) (n m : Nat) (s l f c : Int32) : vW := if inZ s 4 = true then (if inZ l 3 = true then (if inZ c 21 = true then (mrG σ n m s.toNatClampNeg l f (2 * c.toNatClampNeg) 0).2 else σ) else σ) else σ
theorem inL_rd {f : Int32} {t e : Nat} (ht : t < 1000) (he : e ≤ 40) (h : inL (f.toInt64 + (nI t).toInt64) (lN 0) (nI e - nI 1).toInt64 = true) : 0 ≤ f.toInt + t ∧ f.toInt + t < e := by
  have h := of_decide_eq_true h
  have h2 := inK_1 (n := e) (by omega)
  have h3 : (f.toInt64 + (nI t).toInt64).toInt = f.toInt + t := by
    rw [Int64.toInt_add, Int32.toInt_toInt64, Int32.toInt_toInt64, nI_toInt (by omega)]
    have a1 := f.toInt_lt
    have a2 := f.le_toInt
    exact Int.bmod_eq_of_le (by omega) (by omega)
  rw [h3, lN0_toInt] at h
  omega
theorem f_nI {f : Int32} (h : 0 ≤ f.toInt) : f = nI f.toNatClampNeg := by
  have a1 := f.toInt_lt
  have e : f.toInt = (f.toInt.toNat : Int) := by omega
  have e2 : f = nI f.toInt.toNat := by rw [← Int32.toInt_inj, nI_toInt (by omega)]; exact e
  have e3 : f.toNatClampNeg = f.toInt.toNat := by rw [e2, nI_clamp (by omega)]; rw [nI_toInt (by omega)]; omega
  rw [e3]
  exact e2
theorem f_cl {f : Int32} (h : 0 ≤ f.toInt) : (f.toNatClampNeg : Int) = f.toInt := by
  have a1 := f.toInt_lt
  have e : f.toInt = (f.toInt.toNat : Int) := by omega
  have e2 : f = nI f.toInt.toNat := by rw [← Int32.toInt_inj, nI_toInt (by omega)]; exact e
  have e3 : f.toNatClampNeg = f.toInt.toNat := by rw [e2, nI_clamp (by omega)]; rw [nI_toInt (by omega)]; omega
  rw [e3]
  omega
theorem idx_nI {a b : Nat} {c : Int32} (h : c = nI c.toNatClampNeg) : nI a + c + nI b = nI (a + c.toNatClampNeg + b) :=
  calc nI a + c + nI b = nI a + nI c.toNatClampNeg + nI b := by rw [← h]
    _ = nI (a + c.toNatClampNeg + b) := by rw [nI_add, nI_add]
set_option maxHeartbeats 4000000 in
theorem C_X6_read {σ : vW} {f : Nat → Int32} {n m : Nat} {s l c k : Int32} (hp : pOK σ n m 0) (hL : ∀ i, i < 4 → ∃ e, e ≤ 40 ∧ σ 86 i = nI e) : Ctr mX6_read 5 [.ref 75, .int s, .int l, .int c, .int k] (vrow σ 81 f) (vFar (some (.int (mReadR σ n m s l c k))) (mReadW σ n m s l c k)) := by
  refine Ctr.intro (by decide) (fun α => Nat.le_of_ble_eq_true rfl) (fun x G hQ => ?_)
  have G : vG x RX6 cX6_read 9 (some .int) 5 := G
  show V x 0 [some (.ref 75), some (.int s), some (.int l), some (.int c), some (.int k), none, none, none, none] [] (vrow σ 81 f)
  refine v_iload_9_1 G dX6_read_0 ?_
  refine v_i2l G dX6_read_1 ?_
  refine v_lconst (v := lN 0) G dX6_read_2 (by decide) ?_
  refine v_ldc2 G ct_X6_195 dX6_read_3 ?_
  refine v_cS3 G (C_inK 4 (by decide)) (by decide) md_X6_in st_X6_in ml_X6_49 (Nat.le_of_ble_eq_true rfl) dX6_read_6 ?_
  refine v_ifB_eq (tgt := 37) G dX6_read_9 rfl (fun h_9 => ?_) (fun h_9 => ?_)
  · refine v_iconst (v := (-1)) G dX6_read_37 (by decide) ?_
    exact v_iret G hQ dX6_read_38 (vFar.of (by simp only [mReadR, bI, h_9, if_true, if_false, Bool.false_eq_true, reduceIte, ite_self] <;> try rfl) (by simp only [mReadW, h_9, if_true, if_false, Bool.false_eq_true, reduceIte, ite_self] <;> try rfl))
  · obtain ⟨s0, hs0, rfl⟩ := inZ_ex h_9 (by omega)
    have cs0 : (nI s0).toNatClampNeg = s0 := nI_clamp (by omega)
    refine v_iload_9_2 G dX6_read_12 ?_
    refine v_i2l G dX6_read_13 ?_
    refine v_lconst (v := lN 0) G dX6_read_14 (by decide) ?_
    refine v_ldc2 G ct_X6_200 dX6_read_15 ?_
    refine v_cS3 G (C_inK 3 (by decide)) (by decide) md_X6_in st_X6_in ml_X6_49 (Nat.le_of_ble_eq_true rfl) dX6_read_18 ?_
    refine v_ifB_eq (tgt := 37) G dX6_read_21 rfl (fun h_21 => ?_) (fun h_21 => ?_)
    · refine v_iconst (v := (-1)) G dX6_read_37 (by decide) ?_
      exact v_iret G hQ dX6_read_38 (vFar.of (by simp only [mReadR, bI, h_9, cs0, h_21, if_true, if_false, Bool.false_eq_true, reduceIte, ite_self] <;> try rfl) (by simp only [mReadW, h_9, cs0, h_21, if_true, if_false, Bool.false_eq_true, reduceIte, ite_self] <;> try rfl))
    · refine v_iload_9_4 G dX6_read_24 ?_
      refine v_i2l G dX6_read_26 ?_
      refine v_lconst (v := lN 0) G dX6_read_27 (by decide) ?_
      refine v_ldc2 G ct_X6_261 dX6_read_28 ?_
      refine v_cS3 G (C_inK 21 (by decide)) (by decide) md_X6_in st_X6_in ml_X6_49 (Nat.le_of_ble_eq_true rfl) dX6_read_31 ?_
      refine v_ifB_ne (tgt := 39) G dX6_read_34 rfl (fun h_34 => ?_) (fun h_34 => ?_)
      · obtain ⟨e0, he0, rfl⟩ := inZ_ex h_34 (by omega)
        have ce0 : (nI e0).toNatClampNeg = e0 := nI_clamp (by omega)
        refine v_aload_9_0 G dX6_read_39 ?_
        refine v_iconst (v := nI 0) G dX6_read_40 (by decide) ?_
        refine v_sipush (v := nI 195) G dX6_read_41 (by decide) ?_
        refine v_cV2v G (C_X6_copies (a := 0) (b := 195) (by omega) (by omega) (by omega)) (by decide) md_X6_copies in_X6_copies (rv_X6 rfl) ml_X6_220 (Nat.le_of_ble_eq_true rfl) dX6_read_44 ?_
        refine v_iconst (v := nI 0) G dX6_read_47 (by decide) ?_
        refine v_istore_9_5 G dX6_read_48 rfl ?_
        refine v_iconst (v := nI 0) G dX6_read_50 (by decide) ?_
        refine v_istore_9_6 G dX6_read_51 rfl ?_
        refine v_iconst (v := nI 0) G dX6_read_53 (by decide) ?_
        refine v_istore_9_7 G dX6_read_54 rfl ?_
        have hR : mReadR σ n m (nI s0) l c (nI e0) = (mrG σ n m s0 l c (2 * e0) 0).1 := by simp only [mReadR, h_9, cs0, h_21, h_34, ce0, if_true]
        have hW : mReadW σ n m (nI s0) l c (nI e0) = (mrG σ n m s0 l c (2 * e0) 0).2 := by simp only [mReadW, h_9, cs0, h_21, h_34, ce0, if_true]
        rw [hR, hW] at hQ
        obtain ⟨e, he, ee⟩ := hL s0 hs0
        have n1 : ¬ nI 1 = 0 := by decide
        have n2 : ¬ nI 2 = 0 := by decide
        have n3 : ¬ nI 3 = 0 := by decide
        have n4 : ¬ nI 1 = nI 0 := by decide
        have n5 : ¬ nI 2 = nI 0 := by decide
        have n6 : ¬ nI 3 = nI 0 := by decide
        have keyF : ∀ (fc : Int32) (j t : Nat) (w : vW) (f : Nat → Int32), ¬ fc = 0 → t < 100 → mrG σ n m s0 l c (2 * e0) 0 = (nI j, vset w 75 31 fc) → V x 56 [some (.ref 75), some (.int (nI s0)), some (.int l), some (.int c), some (.int (nI e0)), some (.int fc), some (.int (nI j)), some (.int (nI t)), none] [] (vrow w 81 f) := by
          intro fc j t w f hfc ht hr
          refine v_iload_9_7 G dX6_read_56 ?_
          refine v_iconst (v := nI 2) G dX6_read_58 (by decide) ?_
          refine v_iload_9_4 G dX6_read_59 ?_
          refine v_imulN G dX6_read_61 ?_
          refine v_icmp_ge (tgt := 198) G dX6_read_62 rfl (fun h_62 => ?_) (fun h_62 => ?_)
          · refine v_aload_9_0 G dX6_read_198 ?_
            refine v_iload_9_5 G dX6_read_199 ?_
            refine m_putI G (by decide) vc_6 vt_6 lk_X6_263 fs_X6_31 (ft_X6_31 _) dX6_read_201 ?_
            refine v_iload_9_6 G dX6_read_204 ?_
            exact v_iret G hQ dX6_read_206 (vFar.of (by rw [hr]) (by rw [hr]))
          · refine v_iload_9_5 G dX6_read_65 ?_
            refine v_if_ne (tgt := 198) G dX6_read_67 rfl (fun h_67 => ?_) (fun h_67 => absurd h_67 hfc)
            refine v_aload_9_0 G dX6_read_198 ?_
            refine v_iload_9_5 G dX6_read_199 ?_
            refine m_putI G (by decide) vc_6 vt_6 lk_X6_263 fs_X6_31 (ft_X6_31 _) dX6_read_201 ?_
            refine v_iload_9_6 G dX6_read_204 ?_
            exact v_iret G hQ dX6_read_206 (vFar.of (by rw [hr]) (by rw [hr]))
        refine v_forFP (pc := 56) (2 * e0) (fun t => ((t) = 0 ∨ 0 ≤ c.toInt) ∧ mrG σ n m s0 l c (2 * e0) 0 = mrG σ n m s0 l c (2 * e0 - (t)) (t)) (fun t => ([some (.ref 75), some (.int (nI s0)), some (.int l), some (.int c), some (.int (nI e0)), some (.int (nI 0)), some (.int (nI (t / 2))), some (.int (nI t)), none], rmW σ n m s0 c.toNatClampNeg (t / 2))) ⟨Or.inl rfl, rfl⟩ (fun t ht hp0 ih f => ?_) (fun hp0 f => ?_) f
        · show V x 56 [some (.ref 75), some (.int (nI s0)), some (.int l), some (.int c), some (.int (nI e0)), some (.int (nI 0)), some (.int (nI (t / 2))), some (.int (nI t)), none] [] (vrow (rmW σ n m s0 c.toNatClampNeg (t / 2)) 81 f)
          have ih : (((t + 1) = 0 ∨ 0 ≤ c.toInt) ∧ mrG σ n m s0 l c (2 * e0) 0 = mrG σ n m s0 l c (2 * e0 - (t + 1)) (t + 1)) → ∀ f, V x 56 [some (.ref 75), some (.int (nI s0)), some (.int l), some (.int c), some (.int (nI e0)), some (.int (nI 0)), some (.int (nI ((t + 1) / 2))), some (.int (nI (t + 1))), none] [] (vrow (rmW σ n m s0 c.toNatClampNeg ((t + 1) / 2)) 81 f) := ih
          obtain ⟨hp1, hp2⟩ := hp0
          have hp2 : mrG σ n m s0 l c (2 * e0) 0 = mrG σ n m s0 l c (2 * e0 - t) t := hp2
          rw [show 2 * e0 - t = (2 * e0 - (t + 1)) + 1 by omega, mrG] at hp2
          have e85 : ∀ j, (rmW σ n m s0 c.toNatClampNeg j) 85 = σ 85 := fun j => rmW_ne (by decide) j
          have e86 : ∀ j, (rmW σ n m s0 c.toNatClampNeg j) 86 = σ 86 := fun j => rmW_ne (by decide) j
          have e87 : ∀ j, (rmW σ n m s0 c.toNatClampNeg j) 87 = σ 87 := fun j => rmW_ne (by decide) j
          rcases (show (∃ j, t = 2 * j) ∨ ∃ j, t = 2 * j + 1 from (Nat.mod_two_eq_zero_or_one t).elim (fun h => Or.inl ⟨t / 2, by omega⟩) (fun h => Or.inr ⟨t / 2, by omega⟩)) with ⟨j, rfl⟩ | ⟨j, rfl⟩
          · rw [show 2 * j / 2 = j by omega] at hp2 ⊢
            refine v_iload_9_7 G dX6_read_56 ?_
            refine v_iconst (v := nI 2) G dX6_read_58 (by decide) ?_
            refine v_iload_9_4 G dX6_read_59 ?_
            refine v_imulN G dX6_read_61 ?_
            refine v_icmp_ge (tgt := 198) G dX6_read_62 rfl (fun h_62 => absurd h_62 (nI_ge (by omega) (by omega))) (fun h_62 => ?_)
            refine v_iload_9_5 G dX6_read_65 ?_
            refine v_if_ne (tgt := 198) G dX6_read_67 rfl (fun h_67 => absurd h_67 (by decide)) (fun h_67 => ?_)
            refine v_aload_9_0 G dX6_read_70 ?_
            refine v_getR G vc_6 lk_X6_38 (fs_X6_28) dX6_read_71 ?_
            refine v_iload_9_1 G dX6_read_74 ?_
            refine m_ialdN G (by decide) (as_X6_28) (by first | assumption | omega | exact oneB_in (by assumption) | exact wallB_in (by assumption) | exact oneB_m1 (by assumption) | decide) (by decide) dX6_read_75 ?_
            rw [e85]
            refine v_bipush (v := (-4)) G dX6_read_76 (by decide) ?_
            refine v_icmp_ne (tgt := 85) G dX6_read_78 rfl (fun h_78 => ?_) (fun h_78 => ?_)
            · refine v_aload_9_0 G dX6_read_85 ?_
              refine v_getR G vc_6 lk_X6_38 (fs_X6_28) dX6_read_86 ?_
              refine v_iload_9_1 G dX6_read_89 ?_
              refine m_ialdN G (by decide) (as_X6_28) (by first | assumption | omega | exact oneB_in (by assumption) | exact wallB_in (by assumption) | exact oneB_m1 (by assumption) | decide) (by decide) dX6_read_90 ?_
              rw [e85]
              refine v_iload_9_2 G dX6_read_91 ?_
              refine v_icmp_eq (tgt := 99) G dX6_read_92 rfl (fun h_92 => ?_) (fun h_92 => ?_)
              · refine v_iload_9_3 G dX6_read_99 ?_
                refine v_i2l G dX6_read_100 ?_
                refine v_iload_9_7 G dX6_read_101 ?_
                refine v_i2l G dX6_read_103 ?_
                refine v_ladd G dX6_read_104 ?_
                refine v_lconst (v := lN 0) G dX6_read_105 (by decide) ?_
                refine v_aload_9_0 G dX6_read_106 ?_
                refine v_getR G vc_6 lk_X6_41 (fs_X6_29) dX6_read_107 ?_
                refine v_iload_9_1 G dX6_read_110 ?_
                refine m_ialdN G (by decide) (as_X6_29) (by first | assumption | omega | exact oneB_in (by assumption) | exact wallB_in (by assumption) | exact oneB_m1 (by assumption) | decide) (by decide) dX6_read_111 ?_
                rw [e86, ee]
                refine v_iconst (v := nI 1) G dX6_read_112 (by decide) ?_
                refine v_isub G dX6_read_113 ?_
                refine v_i2l G dX6_read_114 ?_
                refine v_cS3 G C_X6_in (by decide) md_X6_in st_X6_in ml_X6_49 (Nat.le_of_ble_eq_true rfl) dX6_read_115 ?_
                refine v_ifB_ne (tgt := 125) G dX6_read_118 rfl (fun h_118 => ?_) (fun h_118 => ?_)
                · refine v_iconst (v := nI 0) G dX6_read_125 (by decide) ?_
                  refine v_istore_9_5 G dX6_read_126 rfl ?_
                  refine v_iload_9_5 G dX6_read_128 ?_
                  refine v_if_ne (tgt := 192) G dX6_read_130 rfl (fun h_130 => absurd h_130 (by decide)) (fun h_130 => ?_)
                  refine v_iload_9_7 G dX6_read_133 ?_
                  refine v_iconst (v := nI 2) G dX6_read_135 (by decide) ?_
                  refine v_irem G dX6_read_136 (by first | assumption | omega | exact oneB_in (by assumption) | exact wallB_in (by assumption) | exact oneB_m1 (by assumption) | decide) ?_
                  rw [nI_remN (by omega) (by omega), show 2 * j % 2 = 0 by omega]
                  refine v_iconst (v := nI 1) G dX6_read_137 (by decide) ?_
                  refine v_icmp_ne (tgt := 192) G dX6_read_138 rfl (fun h_138 => ?_) (fun h_138 => absurd h_138 (by decide))
                  refine v_iincN_9_7 G dX6_read_192 rfl ?_
                  refine v_goto (tgt := 56) G dX6_read_195 rfl ?_
                  first
                    | (refine V.drop ?_ (keyF (nI 1) j (2 * j + 1) _ _ n1 (by omega) (hp2.trans (by rw [show rfC σ s0 l c (2 * j) = nI 1 by rw [rfC, if_pos h_78], if_neg n4]))); exact ⟨rfl, rfl, rfl, rfl, rfl, rfl, rfl, rfl, trivial⟩)
                    | (refine V.drop ?_ (keyF (nI 3) j (2 * j + 1) _ _ n3 (by omega) (hp2.trans (by rw [show rfC σ s0 l c (2 * j) = nI 3 by rw [rfC, if_neg h_78, if_neg h_92], if_neg n6]))); exact ⟨rfl, rfl, rfl, rfl, rfl, rfl, rfl, rfl, trivial⟩)
                    | (refine V.drop ?_ (keyF (nI 2) j (2 * j + 1) _ _ n2 (by omega) (hp2.trans (by rw [show rfC σ s0 l c (2 * j) = nI 2 by rw [rfC, if_neg h_78, if_pos h_92, ee, if_neg (by rw [h_118]; exact Bool.false_ne_true)], if_neg n5]))); exact ⟨rfl, rfl, rfl, rfl, rfl, rfl, rfl, rfl, trivial⟩)
                    | (have hz : rfC σ s0 l c (2 * j) = nI 0 := (by rw [rfC, if_neg h_78, if_pos h_92, ee, if_pos h_118])
                       have hr := inL_rd (by omega) he h_118
                       have hq := ih ⟨Or.inr (by rcases hp1 with q | q <;> omega), hp2.trans (by rw [if_pos hz, if_neg (by omega)])⟩ f
                       rw [show (2 * j + 1) / 2 = j by omega] at hq
                       exact V.drop (by simp only [vsubP, and_self]) hq)
                · refine v_iconst (v := nI 2) G dX6_read_121 (by decide) ?_
                  refine v_goto (tgt := 126) G dX6_read_122 rfl ?_
                  refine v_istore_9_5 G dX6_read_126 rfl ?_
                  refine v_iload_9_5 G dX6_read_128 ?_
                  refine v_if_ne (tgt := 192) G dX6_read_130 rfl (fun h_130 => ?_) (fun h_130 => absurd h_130 (by decide))
                  refine v_iincN_9_7 G dX6_read_192 rfl ?_
                  refine v_goto (tgt := 56) G dX6_read_195 rfl ?_
                  first
                    | (refine V.drop ?_ (keyF (nI 1) j (2 * j + 1) _ _ n1 (by omega) (hp2.trans (by rw [show rfC σ s0 l c (2 * j) = nI 1 by rw [rfC, if_pos h_78], if_neg n4]))); exact ⟨rfl, rfl, rfl, rfl, rfl, rfl, rfl, rfl, trivial⟩)
                    | (refine V.drop ?_ (keyF (nI 3) j (2 * j + 1) _ _ n3 (by omega) (hp2.trans (by rw [show rfC σ s0 l c (2 * j) = nI 3 by rw [rfC, if_neg h_78, if_neg h_92], if_neg n6]))); exact ⟨rfl, rfl, rfl, rfl, rfl, rfl, rfl, rfl, trivial⟩)
                    | (refine V.drop ?_ (keyF (nI 2) j (2 * j + 1) _ _ n2 (by omega) (hp2.trans (by rw [show rfC σ s0 l c (2 * j) = nI 2 by rw [rfC, if_neg h_78, if_pos h_92, ee, if_neg (by rw [h_118]; exact Bool.false_ne_true)], if_neg n5]))); exact ⟨rfl, rfl, rfl, rfl, rfl, rfl, rfl, rfl, trivial⟩)
                    | (have hz : rfC σ s0 l c (2 * j) = nI 0 := (by rw [rfC, if_neg h_78, if_pos h_92, ee, if_pos h_118])
                       have hr := inL_rd (by omega) he h_118
                       have hq := ih ⟨Or.inr (by rcases hp1 with q | q <;> omega), hp2.trans (by rw [if_pos hz, if_neg (by omega)])⟩ f
                       rw [show (2 * j + 1) / 2 = j by omega] at hq
                       exact V.drop (by simp only [vsubP, and_self]) hq)
              · refine v_iconst (v := nI 3) G dX6_read_95 (by decide) ?_
                refine v_goto (tgt := 126) G dX6_read_96 rfl ?_
                refine v_istore_9_5 G dX6_read_126 rfl ?_
                refine v_iload_9_5 G dX6_read_128 ?_
                refine v_if_ne (tgt := 192) G dX6_read_130 rfl (fun h_130 => ?_) (fun h_130 => absurd h_130 (by decide))
                refine v_iincN_9_7 G dX6_read_192 rfl ?_
                refine v_goto (tgt := 56) G dX6_read_195 rfl ?_
                first
                  | (refine V.drop ?_ (keyF (nI 1) j (2 * j + 1) _ _ n1 (by omega) (hp2.trans (by rw [show rfC σ s0 l c (2 * j) = nI 1 by rw [rfC, if_pos h_78], if_neg n4]))); exact ⟨rfl, rfl, rfl, rfl, rfl, rfl, rfl, rfl, trivial⟩)
                  | (refine V.drop ?_ (keyF (nI 3) j (2 * j + 1) _ _ n3 (by omega) (hp2.trans (by rw [show rfC σ s0 l c (2 * j) = nI 3 by rw [rfC, if_neg h_78, if_neg h_92], if_neg n6]))); exact ⟨rfl, rfl, rfl, rfl, rfl, rfl, rfl, rfl, trivial⟩)
                  | (refine V.drop ?_ (keyF (nI 2) j (2 * j + 1) _ _ n2 (by omega) (hp2.trans (by rw [show rfC σ s0 l c (2 * j) = nI 2 by rw [rfC, if_neg h_78, if_pos h_92, ee, if_neg (by rw [h_118]; exact Bool.false_ne_true)], if_neg n5]))); exact ⟨rfl, rfl, rfl, rfl, rfl, rfl, rfl, rfl, trivial⟩)
                  | (have hz : rfC σ s0 l c (2 * j) = nI 0 := (by rw [rfC, if_neg h_78, if_pos h_92, ee, if_pos h_118])
                     have hr := inL_rd (by omega) he h_118
                     have hq := ih ⟨Or.inr (by rcases hp1 with q | q <;> omega), hp2.trans (by rw [if_pos hz, if_neg (by omega)])⟩ f
                     rw [show (2 * j + 1) / 2 = j by omega] at hq
                     exact V.drop (by simp only [vsubP, and_self]) hq)
            · refine v_iconst (v := nI 1) G dX6_read_81 (by decide) ?_
              refine v_goto (tgt := 126) G dX6_read_82 rfl ?_
              refine v_istore_9_5 G dX6_read_126 rfl ?_
              refine v_iload_9_5 G dX6_read_128 ?_
              refine v_if_ne (tgt := 192) G dX6_read_130 rfl (fun h_130 => ?_) (fun h_130 => absurd h_130 (by decide))
              refine v_iincN_9_7 G dX6_read_192 rfl ?_
              refine v_goto (tgt := 56) G dX6_read_195 rfl ?_
              first
                | (refine V.drop ?_ (keyF (nI 1) j (2 * j + 1) _ _ n1 (by omega) (hp2.trans (by rw [show rfC σ s0 l c (2 * j) = nI 1 by rw [rfC, if_pos h_78], if_neg n4]))); exact ⟨rfl, rfl, rfl, rfl, rfl, rfl, rfl, rfl, trivial⟩)
                | (refine V.drop ?_ (keyF (nI 3) j (2 * j + 1) _ _ n3 (by omega) (hp2.trans (by rw [show rfC σ s0 l c (2 * j) = nI 3 by rw [rfC, if_neg h_78, if_neg h_92], if_neg n6]))); exact ⟨rfl, rfl, rfl, rfl, rfl, rfl, rfl, rfl, trivial⟩)
                | (refine V.drop ?_ (keyF (nI 2) j (2 * j + 1) _ _ n2 (by omega) (hp2.trans (by rw [show rfC σ s0 l c (2 * j) = nI 2 by rw [rfC, if_neg h_78, if_pos h_92, ee, if_neg (by rw [h_118]; exact Bool.false_ne_true)], if_neg n5]))); exact ⟨rfl, rfl, rfl, rfl, rfl, rfl, rfl, rfl, trivial⟩)
                | (have hz : rfC σ s0 l c (2 * j) = nI 0 := (by rw [rfC, if_neg h_78, if_pos h_92, ee, if_pos h_118])
                   have hr := inL_rd (by omega) he h_118
                   have hq := ih ⟨Or.inr (by rcases hp1 with q | q <;> omega), hp2.trans (by rw [if_pos hz, if_neg (by omega)])⟩ f
                   rw [show (2 * j + 1) / 2 = j by omega] at hq
                   exact V.drop (by simp only [vsubP, and_self]) hq)
          · rw [show (2 * j + 1) / 2 = j by omega] at hp2 ⊢
            refine v_iload_9_7 G dX6_read_56 ?_
            refine v_iconst (v := nI 2) G dX6_read_58 (by decide) ?_
            refine v_iload_9_4 G dX6_read_59 ?_
            refine v_imulN G dX6_read_61 ?_
            refine v_icmp_ge (tgt := 198) G dX6_read_62 rfl (fun h_62 => absurd h_62 (nI_ge (by omega) (by omega))) (fun h_62 => ?_)
            refine v_iload_9_5 G dX6_read_65 ?_
            refine v_if_ne (tgt := 198) G dX6_read_67 rfl (fun h_67 => absurd h_67 (by decide)) (fun h_67 => ?_)
            refine v_aload_9_0 G dX6_read_70 ?_
            refine v_getR G vc_6 lk_X6_38 (fs_X6_28) dX6_read_71 ?_
            refine v_iload_9_1 G dX6_read_74 ?_
            refine m_ialdN G (by decide) (as_X6_28) (by first | assumption | omega | exact oneB_in (by assumption) | exact wallB_in (by assumption) | exact oneB_m1 (by assumption) | decide) (by decide) dX6_read_75 ?_
            rw [e85]
            refine v_bipush (v := (-4)) G dX6_read_76 (by decide) ?_
            refine v_icmp_ne (tgt := 85) G dX6_read_78 rfl (fun h_78 => ?_) (fun h_78 => ?_)
            · refine v_aload_9_0 G dX6_read_85 ?_
              refine v_getR G vc_6 lk_X6_38 (fs_X6_28) dX6_read_86 ?_
              refine v_iload_9_1 G dX6_read_89 ?_
              refine m_ialdN G (by decide) (as_X6_28) (by first | assumption | omega | exact oneB_in (by assumption) | exact wallB_in (by assumption) | exact oneB_m1 (by assumption) | decide) (by decide) dX6_read_90 ?_
              rw [e85]
              refine v_iload_9_2 G dX6_read_91 ?_
              refine v_icmp_eq (tgt := 99) G dX6_read_92 rfl (fun h_92 => ?_) (fun h_92 => ?_)
              · refine v_iload_9_3 G dX6_read_99 ?_
                refine v_i2l G dX6_read_100 ?_
                refine v_iload_9_7 G dX6_read_101 ?_
                refine v_i2l G dX6_read_103 ?_
                refine v_ladd G dX6_read_104 ?_
                refine v_lconst (v := lN 0) G dX6_read_105 (by decide) ?_
                refine v_aload_9_0 G dX6_read_106 ?_
                refine v_getR G vc_6 lk_X6_41 (fs_X6_29) dX6_read_107 ?_
                refine v_iload_9_1 G dX6_read_110 ?_
                refine m_ialdN G (by decide) (as_X6_29) (by first | assumption | omega | exact oneB_in (by assumption) | exact wallB_in (by assumption) | exact oneB_m1 (by assumption) | decide) (by decide) dX6_read_111 ?_
                rw [e86, ee]
                refine v_iconst (v := nI 1) G dX6_read_112 (by decide) ?_
                refine v_isub G dX6_read_113 ?_
                refine v_i2l G dX6_read_114 ?_
                refine v_cS3 G C_X6_in (by decide) md_X6_in st_X6_in ml_X6_49 (Nat.le_of_ble_eq_true rfl) dX6_read_115 ?_
                refine v_ifB_ne (tgt := 125) G dX6_read_118 rfl (fun h_118 => ?_) (fun h_118 => ?_)
                · refine v_iconst (v := nI 0) G dX6_read_125 (by decide) ?_
                  refine v_istore_9_5 G dX6_read_126 rfl ?_
                  refine v_iload_9_5 G dX6_read_128 ?_
                  refine v_if_ne (tgt := 192) G dX6_read_130 rfl (fun h_130 => absurd h_130 (by decide)) (fun h_130 => ?_)
                  refine v_iload_9_7 G dX6_read_133 ?_
                  refine v_iconst (v := nI 2) G dX6_read_135 (by decide) ?_
                  refine v_irem G dX6_read_136 (by first | assumption | omega | exact oneB_in (by assumption) | exact wallB_in (by assumption) | exact oneB_m1 (by assumption) | decide) ?_
                  rw [nI_remN (by omega) (by omega), show (2 * j + 1) % 2 = 1 by omega]
                  refine v_iconst (v := nI 1) G dX6_read_137 (by decide) ?_
                  refine v_icmp_ne (tgt := 192) G dX6_read_138 rfl (fun h_138 => absurd rfl h_138) (fun h_138 => ?_)
                  refine v_bipush (v := nI 40) G dX6_read_141 (by decide) ?_
                  skip
                  refine v_iload_9_1 G dX6_read_143 ?_
                  refine v_imulN G dX6_read_144 ?_
                  refine v_iload_9_3 G dX6_read_145 ?_
                  refine v_iadd G dX6_read_146 ?_
                  refine v_iload_9_7 G dX6_read_147 ?_
                  refine v_iadd G dX6_read_149 ?_
                  obtain ⟨hr1, hr2⟩ := inL_rd (by omega) he h_118
                  have hc0 : 0 ≤ c.toInt := by rcases hp1 with q | q <;> omega
                  have hcn := f_nI hc0
                  have hct : (c.toNatClampNeg : Int) = c.toInt := f_cl hc0
                  have eix : nI (40 * s0) + c + nI (2 * j + 1) = nI (40 * s0 + c.toNatClampNeg + (2 * j + 1)) := idx_nI hcn
                  rw [eix]
                  refine v_istore_9_8 G dX6_read_150 rfl ?_
                  refine v_aload_9_0 G dX6_read_152 ?_
                  refine v_aload_9_0 G dX6_read_153 ?_
                  refine v_getR G vc_6 lk_X6_44 (fs_X6_30) dX6_read_154 ?_
                  refine v_iload_9_8 G dX6_read_157 ?_
                  refine v_iconst (v := nI 1) G dX6_read_159 (by decide) ?_
                  refine v_isub G dX6_read_160 ?_
                  rw [show nI (40 * s0 + c.toNatClampNeg + (2 * j + 1)) - nI 1 = nI (40 * s0 + c.toNatClampNeg + 2 * j) from nI_prd _]
                  refine m_ialdN G (by decide) (as_X6_30) (by first | assumption | omega | exact oneB_in (by assumption) | exact wallB_in (by assumption) | exact oneB_m1 (by assumption) | decide) (by decide) dX6_read_161 ?_
                  rw [e87, show σ 87 (40 * s0 + c.toNatClampNeg + 2 * j) = rdP0 σ s0 c.toNatClampNeg j from rfl]
                  refine v_aload_9_0 G dX6_read_162 ?_
                  refine v_getR G vc_6 lk_X6_44 (fs_X6_30) dX6_read_163 ?_
                  refine v_iload_9_8 G dX6_read_166 ?_
                  refine m_ialdN G (by decide) (as_X6_30) (by first | assumption | omega | exact oneB_in (by assumption) | exact wallB_in (by assumption) | exact oneB_m1 (by assumption) | decide) (by decide) dX6_read_168 ?_
                  rw [e87, show σ 87 (40 * s0 + c.toNatClampNeg + (2 * j + 1)) = rdP1 σ s0 c.toNatClampNeg j from rfl]
                  refine v_cE2 G (C_X6_hangsV (rmW_ok hp j)) (by decide) md_X6_hangs in_X6_hangs (rv_X6 rfl) ml_X6_211 (Nat.le_of_ble_eq_true rfl) dX6_read_169 (fun f => ?_)
                  refine v_if_ge (tgt := 189) G dX6_read_172 rfl (fun h_172 => ?_) (fun h_172 => ?_)
                  · refine v_iincN_9_6 G dX6_read_189 rfl ?_
                    refine v_iincN_9_7 G dX6_read_192 rfl ?_
                    refine v_goto (tgt := 56) G dX6_read_195 rfl ?_
                    first
                      | (refine V.drop ?_ (keyF (nI 1) j (2 * j + 1 + 1) _ _ n1 (by omega) (hp2.trans (by rw [show rfC σ s0 l c (2 * j + 1) = nI 1 by rw [rfC, if_pos h_78], if_neg n4]))); exact ⟨rfl, rfl, rfl, rfl, rfl, rfl, rfl, rfl, trivial⟩)
                      | (refine V.drop ?_ (keyF (nI 3) j (2 * j + 1 + 1) _ _ n3 (by omega) (hp2.trans (by rw [show rfC σ s0 l c (2 * j + 1) = nI 3 by rw [rfC, if_neg h_78, if_neg h_92], if_neg n6]))); exact ⟨rfl, rfl, rfl, rfl, rfl, rfl, rfl, rfl, trivial⟩)
                      | (refine V.drop ?_ (keyF (nI 2) j (2 * j + 1 + 1) _ _ n2 (by omega) (hp2.trans (by rw [show rfC σ s0 l c (2 * j + 1) = nI 2 by rw [rfC, if_neg h_78, if_pos h_92, ee, if_neg (by rw [h_118]; exact Bool.false_ne_true)], if_neg n5]))); exact ⟨rfl, rfl, rfl, rfl, rfl, rfl, rfl, rfl, trivial⟩)
                      | (have hq := ih ⟨Or.inr hc0, hp2.trans (by rw [if_pos (show rfC σ s0 l c (2 * j + 1) = nI 0 by rw [rfC, if_neg h_78, if_pos h_92, ee, if_pos h_118]), if_pos (by omega), if_pos h_172])⟩ f
                         rw [show (2 * j + 1 + 1) / 2 = j + 1 by omega] at hq
                         exact V.drop (by simp only [vsubP, and_self]) hq)
                  · refine v_aload_9_0 G dX6_read_175 ?_
                    refine v_sipush (v := nI 195) G dX6_read_176 (by decide) ?_
                    refine v_iconst (v := nI 0) G dX6_read_179 (by decide) ?_
                    refine v_cV2v G (C_X6_copies (a := 195) (b := 0) (by omega) (by omega) (by omega)) (by decide) md_X6_copies in_X6_copies (rv_X6 rfl) ml_X6_220 (Nat.le_of_ble_eq_true rfl) dX6_read_180 ?_
                    refine v_bipush (v := (-20)) G dX6_read_183 (by decide) ?_
                    refine v_iload_9_6 G dX6_read_185 ?_
                    refine v_isub G dX6_read_187 ?_
                    exact v_iret G hQ dX6_read_188 (vFar.of (by rw [hp2.trans (by rw [if_pos (show rfC σ s0 l c (2 * j + 1) = nI 0 by rw [rfC, if_neg h_78, if_pos h_92, ee, if_pos h_118]), if_pos (by omega), if_neg h_172])]) (by rw [hp2.trans (by rw [if_pos (show rfC σ s0 l c (2 * j + 1) = nI 0 by rw [rfC, if_neg h_78, if_pos h_92, ee, if_pos h_118]), if_pos (by omega), if_neg h_172])]; rfl))
                · refine v_iconst (v := nI 2) G dX6_read_121 (by decide) ?_
                  refine v_goto (tgt := 126) G dX6_read_122 rfl ?_
                  refine v_istore_9_5 G dX6_read_126 rfl ?_
                  refine v_iload_9_5 G dX6_read_128 ?_
                  refine v_if_ne (tgt := 192) G dX6_read_130 rfl (fun h_130 => ?_) (fun h_130 => absurd h_130 (by decide))
                  refine v_iincN_9_7 G dX6_read_192 rfl ?_
                  refine v_goto (tgt := 56) G dX6_read_195 rfl ?_
                  first
                    | (refine V.drop ?_ (keyF (nI 1) j (2 * j + 1 + 1) _ _ n1 (by omega) (hp2.trans (by rw [show rfC σ s0 l c (2 * j + 1) = nI 1 by rw [rfC, if_pos h_78], if_neg n4]))); exact ⟨rfl, rfl, rfl, rfl, rfl, rfl, rfl, rfl, trivial⟩)
                    | (refine V.drop ?_ (keyF (nI 3) j (2 * j + 1 + 1) _ _ n3 (by omega) (hp2.trans (by rw [show rfC σ s0 l c (2 * j + 1) = nI 3 by rw [rfC, if_neg h_78, if_neg h_92], if_neg n6]))); exact ⟨rfl, rfl, rfl, rfl, rfl, rfl, rfl, rfl, trivial⟩)
                    | (refine V.drop ?_ (keyF (nI 2) j (2 * j + 1 + 1) _ _ n2 (by omega) (hp2.trans (by rw [show rfC σ s0 l c (2 * j + 1) = nI 2 by rw [rfC, if_neg h_78, if_pos h_92, ee, if_neg (by rw [h_118]; exact Bool.false_ne_true)], if_neg n5]))); exact ⟨rfl, rfl, rfl, rfl, rfl, rfl, rfl, rfl, trivial⟩)
                    | (have hq := ih ⟨Or.inr hc0, hp2.trans (by rw [if_pos (show rfC σ s0 l c (2 * j + 1) = nI 0 by rw [rfC, if_neg h_78, if_pos h_92, ee, if_pos h_118]), if_pos (by omega), if_pos h_172])⟩ f
                       rw [show (2 * j + 1 + 1) / 2 = j + 1 by omega] at hq
                       exact V.drop (by simp only [vsubP, and_self]) hq)
              · refine v_iconst (v := nI 3) G dX6_read_95 (by decide) ?_
                refine v_goto (tgt := 126) G dX6_read_96 rfl ?_
                refine v_istore_9_5 G dX6_read_126 rfl ?_
                refine v_iload_9_5 G dX6_read_128 ?_
                refine v_if_ne (tgt := 192) G dX6_read_130 rfl (fun h_130 => ?_) (fun h_130 => absurd h_130 (by decide))
                refine v_iincN_9_7 G dX6_read_192 rfl ?_
                refine v_goto (tgt := 56) G dX6_read_195 rfl ?_
                first
                  | (refine V.drop ?_ (keyF (nI 1) j (2 * j + 1 + 1) _ _ n1 (by omega) (hp2.trans (by rw [show rfC σ s0 l c (2 * j + 1) = nI 1 by rw [rfC, if_pos h_78], if_neg n4]))); exact ⟨rfl, rfl, rfl, rfl, rfl, rfl, rfl, rfl, trivial⟩)
                  | (refine V.drop ?_ (keyF (nI 3) j (2 * j + 1 + 1) _ _ n3 (by omega) (hp2.trans (by rw [show rfC σ s0 l c (2 * j + 1) = nI 3 by rw [rfC, if_neg h_78, if_neg h_92], if_neg n6]))); exact ⟨rfl, rfl, rfl, rfl, rfl, rfl, rfl, rfl, trivial⟩)
                  | (refine V.drop ?_ (keyF (nI 2) j (2 * j + 1 + 1) _ _ n2 (by omega) (hp2.trans (by rw [show rfC σ s0 l c (2 * j + 1) = nI 2 by rw [rfC, if_neg h_78, if_pos h_92, ee, if_neg (by rw [h_118]; exact Bool.false_ne_true)], if_neg n5]))); exact ⟨rfl, rfl, rfl, rfl, rfl, rfl, rfl, rfl, trivial⟩)
                  | (have hq := ih ⟨Or.inr hc0, hp2.trans (by rw [if_pos (show rfC σ s0 l c (2 * j + 1) = nI 0 by rw [rfC, if_neg h_78, if_pos h_92, ee, if_pos h_118]), if_pos (by omega), if_pos h_172])⟩ f
                     rw [show (2 * j + 1 + 1) / 2 = j + 1 by omega] at hq
                     exact V.drop (by simp only [vsubP, and_self]) hq)
            · refine v_iconst (v := nI 1) G dX6_read_81 (by decide) ?_
              refine v_goto (tgt := 126) G dX6_read_82 rfl ?_
              refine v_istore_9_5 G dX6_read_126 rfl ?_
              refine v_iload_9_5 G dX6_read_128 ?_
              refine v_if_ne (tgt := 192) G dX6_read_130 rfl (fun h_130 => ?_) (fun h_130 => absurd h_130 (by decide))
              refine v_iincN_9_7 G dX6_read_192 rfl ?_
              refine v_goto (tgt := 56) G dX6_read_195 rfl ?_
              first
                | (refine V.drop ?_ (keyF (nI 1) j (2 * j + 1 + 1) _ _ n1 (by omega) (hp2.trans (by rw [show rfC σ s0 l c (2 * j + 1) = nI 1 by rw [rfC, if_pos h_78], if_neg n4]))); exact ⟨rfl, rfl, rfl, rfl, rfl, rfl, rfl, rfl, trivial⟩)
                | (refine V.drop ?_ (keyF (nI 3) j (2 * j + 1 + 1) _ _ n3 (by omega) (hp2.trans (by rw [show rfC σ s0 l c (2 * j + 1) = nI 3 by rw [rfC, if_neg h_78, if_neg h_92], if_neg n6]))); exact ⟨rfl, rfl, rfl, rfl, rfl, rfl, rfl, rfl, trivial⟩)
                | (refine V.drop ?_ (keyF (nI 2) j (2 * j + 1 + 1) _ _ n2 (by omega) (hp2.trans (by rw [show rfC σ s0 l c (2 * j + 1) = nI 2 by rw [rfC, if_neg h_78, if_pos h_92, ee, if_neg (by rw [h_118]; exact Bool.false_ne_true)], if_neg n5]))); exact ⟨rfl, rfl, rfl, rfl, rfl, rfl, rfl, rfl, trivial⟩)
                | (have hq := ih ⟨Or.inr hc0, hp2.trans (by rw [if_pos (show rfC σ s0 l c (2 * j + 1) = nI 0 by rw [rfC, if_neg h_78, if_pos h_92, ee, if_pos h_118]), if_pos (by omega), if_pos h_172])⟩ f
                   rw [show (2 * j + 1 + 1) / 2 = j + 1 by omega] at hq
                   exact V.drop (by simp only [vsubP, and_self]) hq)
        · show V x 56 [some (.ref 75), some (.int (nI s0)), some (.int l), some (.int c), some (.int (nI e0)), some (.int (nI 0)), some (.int (nI (2 * e0 / 2))), some (.int (nI (2 * e0))), none] [] (vrow (rmW σ n m s0 c.toNatClampNeg (2 * e0 / 2)) 81 f)
          obtain ⟨_, hp2⟩ := hp0
          have hp2 : mrG σ n m s0 l c (2 * e0) 0 = mrG σ n m s0 l c (2 * e0 - 2 * e0) (2 * e0) := hp2
          rw [Nat.sub_self, mrG] at hp2
          refine v_iload_9_7 G dX6_read_56 ?_
          refine v_iconst (v := nI 2) G dX6_read_58 (by decide) ?_
          refine v_iload_9_4 G dX6_read_59 ?_
          refine v_imulN G dX6_read_61 ?_
          refine v_icmp_ge (tgt := 198) G dX6_read_62 rfl (fun h_62 => ?_) (fun h_62 => absurd (nI_le (Nat.le_refl _) (by omega)) h_62)
          refine v_aload_9_0 G dX6_read_198 ?_
          refine v_iload_9_5 G dX6_read_199 ?_
          refine m_putI G (by decide) vc_6 vt_6 lk_X6_263 fs_X6_31 (ft_X6_31 _) dX6_read_201 ?_
          refine v_iload_9_6 G dX6_read_204 ?_
          exact v_iret G hQ dX6_read_206 (vFar.of (by rw [hp2]) (by rw [hp2]))
      · refine v_iconst (v := (-1)) G dX6_read_37 (by decide) ?_
        exact v_iret G hQ dX6_read_38 (vFar.of (by simp only [mReadR, bI, h_9, cs0, h_21, h_34, if_true, if_false, Bool.false_eq_true, reduceIte, ite_self] <;> try rfl) (by simp only [mReadW, h_9, cs0, h_21, h_34, if_true, if_false, Bool.false_eq_true, reduceIte, ite_self] <;> try rfl))
