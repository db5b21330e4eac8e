/-! The model: how far one comes from a room -/
def mgF (f : Nat → Int32) (a b d : Nat) : Nat → Int32 := if f a = nI d then (if f b = -4 then upF f b (nI (d + 1)) else if f b = nI d then (if f a = -4 then upF f a (nI (d + 1)) else f) else f) else if f b = nI d then (if f a = -4 then upF f a (nI (d + 1)) else f) else f
def mgM (F : Nat → Int32) (a b : Nat) (M : Int32) : Int32 := (M ||| (if F a = -4 then nI 0 else nI 1 <<< (nI a &&& 31))) ||| (if F b = -4 then nI 0 else nI 1 <<< (nI b &&& 31))
def mgX (a b d : Nat) (s : Int32 × (Nat → Int32)) : Int32 × (Nat → Int32) := (mgM (mgF s.2 a b d) a b s.1, mgF s.2 a b d)
def mgS (R : Nat → Int32) (n : Nat) (J : Int32) (g q d w : Nat) (s : Int32 × (Nat → Int32)) : Int32 × (Nat → Int32) := if mPass R n J g w q = true then mgX (R (g + 26 + w)).toNatClampNeg (R (g + 35 + w)).toNatClampNeg d s else s
def mgW (R : Nat → Int32) (n : Nat) (J : Int32) (g q d : Nat) (s : Int32 × (Nat → Int32)) : Nat → Int32 × (Nat → Int32)
  | 0 => s
  | w + 1 => mgS R n J g q d w (mgW R n J g q d s w)
def mgD (R : Nat → Int32) (n : Nat) (J : Int32) (g q m : Nat) (s : Int32 × (Nat → Int32)) : Nat → Int32 × (Nat → Int32)
  | 0 => s
  | d + 1 => mgW R n J g q d (mgD R n J g q m s d) m
def mgI (r : Nat) (f : Nat → Int32) (k : Nat) : Nat → Int32 := fun i => if i < k then (if nI i = nI r then nI 0 else -4) else f i
def mgA (R : Nat → Int32) (n : Nat) (J : Int32) (g q m r : Nat) (f : Nat → Int32) : Int32 × (Nat → Int32) := mgD R n J g q m (nI 1 <<< (nI r &&& 31), mgI r f 8) 7
theorem mgI_0 (r : Nat) (f : Nat → Int32) : mgI r f 0 = f := by funext i; simp [mgI]
theorem mgI_s (r : Nat) (f : Nat → Int32) (k : Nat) : upF (mgI r f k) k (if nI k = nI r then nI 0 else -4) = mgI r f (k + 1) := by
  funext i
  by_cases h : i = k
  · subst h; simp [upF, upd, mgI]
  · simp only [upF, upd, if_neg h, mgI]
    by_cases h2 : i < k
    · simp only [if_pos h2, if_pos (show i < k + 1 by omega)]
    · simp only [if_neg h2, if_neg (show ¬ i < k + 1 by omega)]
/-- the walls of a page: between rooms -/
def wOK (R : Nat → Int32) (g m : Nat) : Prop := ∀ w, w < m → ∃ a b, a < 8 ∧ b < 8 ∧ R (g + 26 + w) = nI a ∧ R (g + 35 + w) = nI b
set_option maxHeartbeats 4000000 in
theorem C_X6_goesFrom {σ : vW} {f : Nat → Int32} {n m g q r : Nat} (hn : σ 75 1 = nI n) (hn5 : n ≤ 5) (hg : g ≤ 260) (hq5 : q < 5) (hm : σ 76 (g + 25) = nI m) (hm9 : m ≤ 9) (hE : wOK (σ 76) g m) (hr : r < 8) : Ctr mX6_goesFrom 2 [.ref 75, .int (nI g), .int (nI q), .int (nI r)] (vrow σ 81 f) (vDet (some (.int (mgA (σ 76) n (σ 75 20) g q m r f).1)) (vrow σ 81 (mgA (σ 76) n (σ 75 20) g q m r f).2)) := by
  refine Ctr.intro (by decide) (fun α => Nat.le_of_ble_eq_true rfl) (fun x G hQ => ?_)
  have G : vG x RX6 cX6_goesFrom 9 (some .int) 2 := G
  show V x 0 [some (.ref 75), some (.int (nI g)), some (.int (nI q)), some (.int (nI r)), none, none, none, none, none] [] (vrow σ 81 f)
  refine v_iconst (v := nI 0) G dX6_goesFrom_0 (by decide) ?_
  refine v_istore_9_4 G dX6_goesFrom_1 rfl ?_
  rw [← mgI_0 r f]
  refine v_for (pc := 3) (8) (fun i => ([some (.ref 75), some (.int (nI g)), some (.int (nI q)), some (.int (nI r)), some (.int (nI i)), none, none, none, none], (vrow σ 81 (mgI r f i)))) (fun i hk ih => ?_) ?_
  · show V x 3 [some (.ref 75), some (.int (nI g)), some (.int (nI q)), some (.int (nI r)), some (.int (nI i)), none, none, none, none] [] (vrow σ 81 (mgI r f i))
    have ih : V x 3 [some (.ref 75), some (.int (nI g)), some (.int (nI q)), some (.int (nI r)), some (.int (nI (i + 1))), none, none, none, none] [] (vrow σ 81 (mgI r f (i + 1))) := ih
    refine v_iload_9_4 G dX6_goesFrom_3 ?_
    refine v_bipush (v := nI 8) G dX6_goesFrom_5 (by decide) ?_
    refine v_icmp_ge (tgt := 35) G dX6_goesFrom_7 rfl (fun h_7 => absurd h_7 (by exact nI_ge hk (by omega))) (fun h_7 => ?_)
    refine v_aload_9_0 G dX6_goesFrom_10 ?_
    refine v_getR G vc_6 lk_X6_25 (fs_X6_21) dX6_goesFrom_11 ?_
    refine v_iload_9_4 G dX6_goesFrom_14 ?_
    refine v_iload_9_4 G dX6_goesFrom_16 ?_
    refine v_iload_9_3 G dX6_goesFrom_18 ?_
    refine v_icmp_ne (tgt := 26) G dX6_goesFrom_19 rfl (fun h_19 => ?_) (fun h_19 => ?_)
    · refine v_bipush (v := (-4)) G dX6_goesFrom_26 (by decide) ?_
      refine m_fastN G (by first | assumption | omega | exact oneB_in (by assumption) | exact wallB_in (by assumption) | exact oneB_m1 (by assumption) | decide) dX6_goesFrom_28 ?_
      refine v_iincN_9_4 G dX6_goesFrom_29 rfl ?_
      refine v_goto (tgt := 3) G dX6_goesFrom_32 rfl ?_
      rw [← mgI_s] at ih
      simp only [h_7, h_19, if_true, if_false] at ih
      exact ih
    · refine v_iconst (v := nI 0) G dX6_goesFrom_22 (by decide) ?_
      refine v_goto (tgt := 28) G dX6_goesFrom_23 rfl ?_
      refine m_fastN G (by first | assumption | omega | exact oneB_in (by assumption) | exact wallB_in (by assumption) | exact oneB_m1 (by assumption) | decide) dX6_goesFrom_28 ?_
      refine v_iincN_9_4 G dX6_goesFrom_29 rfl ?_
      refine v_goto (tgt := 3) G dX6_goesFrom_32 rfl ?_
      rw [← mgI_s] at ih
      simp only [h_7, h_19, if_true, if_false] at ih
      exact ih
  · show V x 3 [some (.ref 75), some (.int (nI g)), some (.int (nI q)), some (.int (nI r)), some (.int (nI 8)), none, none, none, none] [] (vrow σ 81 (mgI r f 8))
    refine v_iload_9_4 G dX6_goesFrom_3 ?_
    refine v_bipush (v := nI 8) G dX6_goesFrom_5 (by decide) ?_
    refine v_icmp_ge (tgt := 35) G dX6_goesFrom_7 rfl (fun h_7 => ?_) (fun h_7 => absurd (by exact nI_le (Nat.le_refl _) (by omega)) h_7)
    skip
    refine v_iconst (v := nI 1) G dX6_goesFrom_35 (by decide) ?_
    refine v_iload_9_3 G dX6_goesFrom_36 ?_
    refine v_ishl G dX6_goesFrom_37 ?_
    refine v_istore_9_4 G dX6_goesFrom_38 rfl ?_
    refine v_iconst (v := nI 0) G dX6_goesFrom_40 (by decide) ?_
    refine v_istore_9_5 G dX6_goesFrom_41 rfl ?_
    generalize hs0 : ((nI 1 <<< (nI r &&& 31), mgI r f 8) : Int32 × (Nat → Int32)) = s0
    rw [show mgI r f 8 = s0.2 by rw [← hs0], show nI 1 <<< (nI r &&& 31) = s0.1 by rw [← hs0]]
    have hres : mgA (σ 76) n (σ 75 20) g q m r f = mgD (σ 76) n (σ 75 20) g q m s0 7 := by rw [mgA, hs0]
    rw [hres] at hQ
    refine V.drop (L' := [some (.ref 75), some (.int (nI g)), some (.int (nI q)), some (.int (nI r)), some (.int s0.1), some (.int (nI 0)), none, none, none]) (by simp only [vsubP, and_self]) ?_
    refine v_for (pc := 43) (7) (fun d => ([some (.ref 75), some (.int (nI g)), some (.int (nI q)), some (.int (nI r)), some (.int (mgD (σ 76) n (σ 75 20) g q m s0 d).1), some (.int (nI d)), none, none, none], (vrow σ 81 (mgD (σ 76) n (σ 75 20) g q m s0 d).2))) (fun d hd ihd => ?_) ?_
    · show V x 43 [some (.ref 75), some (.int (nI g)), some (.int (nI q)), some (.int (nI r)), some (.int (mgD (σ 76) n (σ 75 20) g q m s0 d).1), some (.int (nI d)), none, none, none] [] (vrow σ 81 (mgD (σ 76) n (σ 75 20) g q m s0 d).2)
      have ihd : V x 43 [some (.ref 75), some (.int (nI g)), some (.int (nI q)), some (.int (nI r)), some (.int (mgD (σ 76) n (σ 75 20) g q m s0 (d + 1)).1), some (.int (nI (d + 1))), none, none, none] [] (vrow σ 81 (mgD (σ 76) n (σ 75 20) g q m s0 (d + 1)).2) := ihd
      refine v_iload_9_5 G dX6_goesFrom_43 ?_
      refine v_bipush (v := nI 7) G dX6_goesFrom_45 (by decide) ?_
      refine v_icmp_ge (tgt := 241) G dX6_goesFrom_47 rfl (fun h_47 => absurd h_47 (by exact nI_ge hd (by omega))) (fun h_47 => ?_)
      refine v_iconst (v := nI 0) G dX6_goesFrom_50 (by decide) ?_
      refine v_istore_9_6 G dX6_goesFrom_51 rfl ?_
      refine v_for (pc := 53) (m) (fun w => ([some (.ref 75), some (.int (nI g)), some (.int (nI q)), some (.int (nI r)), some (.int (mgW (σ 76) n (σ 75 20) g q d (mgD (σ 76) n (σ 75 20) g q m s0 d) w).1), some (.int (nI d)), some (.int (nI w)), none, none], (vrow σ 81 (mgW (σ 76) n (σ 75 20) g q d (mgD (σ 76) n (σ 75 20) g q m s0 d) w).2))) (fun w hw ihw => ?_) ?_
      · show V x 53 [some (.ref 75), some (.int (nI g)), some (.int (nI q)), some (.int (nI r)), some (.int (mgW (σ 76) n (σ 75 20) g q d (mgD (σ 76) n (σ 75 20) g q m s0 d) w).1), some (.int (nI d)), some (.int (nI w)), none, none] [] (vrow σ 81 (mgW (σ 76) n (σ 75 20) g q d (mgD (σ 76) n (σ 75 20) g q m s0 d) w).2)
        have ihw : V x 53 [some (.ref 75), some (.int (nI g)), some (.int (nI q)), some (.int (nI r)), some (.int (mgW (σ 76) n (σ 75 20) g q d (mgD (σ 76) n (σ 75 20) g q m s0 d) (w + 1)).1), some (.int (nI d)), some (.int (nI (w + 1))), none, none] [] (vrow σ 81 (mgW (σ 76) n (σ 75 20) g q d (mgD (σ 76) n (σ 75 20) g q m s0 d) (w + 1)).2) := ihw
        obtain ⟨a, b, ha, hb, ea, eb⟩ := hE w hw
        have hst : mgW (σ 76) n (σ 75 20) g q d (mgD (σ 76) n (σ 75 20) g q m s0 d) (w + 1) = mgS (σ 76) n (σ 75 20) g q d w (mgW (σ 76) n (σ 75 20) g q d (mgD (σ 76) n (σ 75 20) g q m s0 d) w) := rfl
        have ca : (nI a).toNatClampNeg = a := nI_clamp (by omega)
        have cb : (nI b).toNatClampNeg = b := nI_clamp (by omega)
        rw [hst] at ihw
        generalize (mgW (σ 76) n (σ 75 20) g q d (mgD (σ 76) n (σ 75 20) g q m s0 d) w) = s1 at ihw ⊢
        obtain ⟨M, f1⟩ := s1
        show V x 53 [some (.ref 75), some (.int (nI g)), some (.int (nI q)), some (.int (nI r)), some (.int M), some (.int (nI d)), some (.int (nI w)), none, none] [] (vrow σ 81 f1)
        have hd4 : ¬ nI d = -4 := nI_nm4 (by omega)
        have hd5 : ¬ -4 = nI d := fun e => hd4 e.symm
        have hX : mPass (σ 76) n (σ 75 20) g w q = true → mgS (σ 76) n (σ 75 20) g q d w (M, f1) = (mgM (mgF f1 a b d) a b M, mgF f1 a b d) := fun e => by rw [mgS, if_pos e, ea, eb, ca, cb, mgX]
        have hY : mPass (σ 76) n (σ 75 20) g w q = false → mgS (σ 76) n (σ 75 20) g q d w (M, f1) = (M, f1) := fun e => by rw [mgS, e, if_neg Bool.false_ne_true]
        have key : ∀ F, V x 53 [some (.ref 75), some (.int (nI g)), some (.int (nI q)), some (.int (nI r)), some (.int (mgM F a b M)), some (.int (nI d)), some (.int (nI (w + 1))), none, none] [] (vrow σ 81 F) → V x 179 [some (.ref 75), some (.int (nI g)), some (.int (nI q)), some (.int (nI r)), some (.int M), some (.int (nI d)), some (.int (nI w)), some (.int (nI a)), some (.int (nI b))] [] (vrow σ 81 F) := by
          intro F ihF
          refine v_iload_9_4 G dX6_goesFrom_179 ?_
          refine v_aload_9_0 G dX6_goesFrom_181 ?_
          refine v_getR G vc_6 lk_X6_25 (fs_X6_21) dX6_goesFrom_182 ?_
          refine v_iload_9_7 G dX6_goesFrom_185 ?_
          refine m_faldN G (by first | assumption | omega | exact oneB_in (by assumption) | exact wallB_in (by assumption) | exact oneB_m1 (by assumption) | decide) dX6_goesFrom_187 ?_
          refine v_bipush (v := (-4)) G dX6_goesFrom_188 (by decide) ?_
          refine v_icmp_eq (tgt := 200) G dX6_goesFrom_190 rfl (fun h_190 => ?_) (fun h_190 => ?_)
          · refine v_iconst (v := nI 0) G dX6_goesFrom_200 (by decide) ?_
            refine v_ior G dX6_goesFrom_201 ?_
            refine v_istore_9_4 G dX6_goesFrom_202 rfl ?_
            refine v_iload_9_4 G dX6_goesFrom_204 ?_
            refine v_aload_9_0 G dX6_goesFrom_206 ?_
            refine v_getR G vc_6 lk_X6_25 (fs_X6_21) dX6_goesFrom_207 ?_
            refine v_iload_9_8 G dX6_goesFrom_210 ?_
            refine m_faldN G (by first | assumption | omega | exact oneB_in (by assumption) | exact wallB_in (by assumption) | exact oneB_m1 (by assumption) | decide) dX6_goesFrom_212 ?_
            refine v_bipush (v := (-4)) G dX6_goesFrom_213 (by decide) ?_
            refine v_icmp_eq (tgt := 225) G dX6_goesFrom_215 rfl (fun h_215 => ?_) (fun h_215 => ?_)
            · refine v_iconst (v := nI 0) G dX6_goesFrom_225 (by decide) ?_
              refine v_ior G dX6_goesFrom_226 ?_
              refine v_istore_9_4 G dX6_goesFrom_227 rfl ?_
              refine v_iincN_9_6 G dX6_goesFrom_229 rfl ?_
              refine v_goto (tgt := 53) G dX6_goesFrom_232 rfl ?_
              simp only [mgM, h_190, h_215, if_true, if_false] at ihF
              exact V.drop (by simp only [vsubP, and_self]) ihF
            · refine v_iconst (v := nI 1) G dX6_goesFrom_218 (by decide) ?_
              refine v_iload_9_8 G dX6_goesFrom_219 ?_
              refine v_ishl G dX6_goesFrom_221 ?_
              refine v_goto (tgt := 226) G dX6_goesFrom_222 rfl ?_
              refine v_ior G dX6_goesFrom_226 ?_
              refine v_istore_9_4 G dX6_goesFrom_227 rfl ?_
              refine v_iincN_9_6 G dX6_goesFrom_229 rfl ?_
              refine v_goto (tgt := 53) G dX6_goesFrom_232 rfl ?_
              simp only [mgM, h_190, h_215, if_true, if_false] at ihF
              exact V.drop (by simp only [vsubP, and_self]) ihF
          · refine v_iconst (v := nI 1) G dX6_goesFrom_193 (by decide) ?_
            refine v_iload_9_7 G dX6_goesFrom_194 ?_
            refine v_ishl G dX6_goesFrom_196 ?_
            refine v_goto (tgt := 201) G dX6_goesFrom_197 rfl ?_
            refine v_ior G dX6_goesFrom_201 ?_
            refine v_istore_9_4 G dX6_goesFrom_202 rfl ?_
            refine v_iload_9_4 G dX6_goesFrom_204 ?_
            refine v_aload_9_0 G dX6_goesFrom_206 ?_
            refine v_getR G vc_6 lk_X6_25 (fs_X6_21) dX6_goesFrom_207 ?_
            refine v_iload_9_8 G dX6_goesFrom_210 ?_
            refine m_faldN G (by first | assumption | omega | exact oneB_in (by assumption) | exact wallB_in (by assumption) | exact oneB_m1 (by assumption) | decide) dX6_goesFrom_212 ?_
            refine v_bipush (v := (-4)) G dX6_goesFrom_213 (by decide) ?_
            refine v_icmp_eq (tgt := 225) G dX6_goesFrom_215 rfl (fun h_215 => ?_) (fun h_215 => ?_)
            · refine v_iconst (v := nI 0) G dX6_goesFrom_225 (by decide) ?_
              refine v_ior G dX6_goesFrom_226 ?_
              refine v_istore_9_4 G dX6_goesFrom_227 rfl ?_
              refine v_iincN_9_6 G dX6_goesFrom_229 rfl ?_
              refine v_goto (tgt := 53) G dX6_goesFrom_232 rfl ?_
              simp only [mgM, h_190, h_215, if_true, if_false] at ihF
              exact V.drop (by simp only [vsubP, and_self]) ihF
            · refine v_iconst (v := nI 1) G dX6_goesFrom_218 (by decide) ?_
              refine v_iload_9_8 G dX6_goesFrom_219 ?_
              refine v_ishl G dX6_goesFrom_221 ?_
              refine v_goto (tgt := 226) G dX6_goesFrom_222 rfl ?_
              refine v_ior G dX6_goesFrom_226 ?_
              refine v_istore_9_4 G dX6_goesFrom_227 rfl ?_
              refine v_iincN_9_6 G dX6_goesFrom_229 rfl ?_
              refine v_goto (tgt := 53) G dX6_goesFrom_232 rfl ?_
              simp only [mgM, h_190, h_215, if_true, if_false] at ihF
              exact V.drop (by simp only [vsubP, and_self]) ihF
        refine v_iload_9_6 G dX6_goesFrom_53 ?_
        refine v_aload_9_0 G dX6_goesFrom_55 ?_
        refine v_getR G vc_6 lk_X6_7 (fs_X6_0) dX6_goesFrom_56 ?_
        refine v_iload_9_1 G dX6_goesFrom_59 ?_
        refine v_bipush (v := nI 25) G dX6_goesFrom_60 (by decide) ?_
        refine v_iaddN G dX6_goesFrom_62 ?_
        refine m_ialdN G (by decide) (as_X6_0) (by first | assumption | omega | exact oneB_in (by assumption) | exact wallB_in (by assumption) | exact oneB_m1 (by assumption) | decide) (by decide) dX6_goesFrom_63 ?_
        refine v_icmp_ge (tgt := 235) G dX6_goesFrom_64 rfl (fun h_64 => absurd h_64 (by rw [hm]; exact nI_ge hw (by omega))) (fun h_64 => ?_)
        refine v_aload_9_0 G dX6_goesFrom_67 ?_
        refine v_iload_9_1 G dX6_goesFrom_68 ?_
        refine v_iload_9_6 G dX6_goesFrom_69 ?_
        refine v_iload_9_2 G dX6_goesFrom_71 ?_
        refine v_cV3 G (C_X6_passesOn (by first | assumption | omega | exact oneB_in (by assumption) | exact wallB_in (by assumption) | exact oneB_m1 (by assumption) | decide) (by first | assumption | omega | exact oneB_in (by assumption) | exact wallB_in (by assumption) | exact oneB_m1 (by assumption) | decide) (by first | assumption | omega | exact oneB_in (by assumption) | exact wallB_in (by assumption) | exact oneB_m1 (by assumption) | decide) (by first | assumption | omega | exact oneB_in (by assumption) | exact wallB_in (by assumption) | exact oneB_m1 (by assumption) | decide)) (by decide) md_X6_passesOn in_X6_passesOn (rv_X6 rfl) ml_X6_163 (Nat.le_of_ble_eq_true rfl) dX6_goesFrom_72 ?_
        refine v_ifB_eq (tgt := 229) G dX6_goesFrom_75 rfl (fun h_75 => ?_) (fun h_75 => ?_)
        · refine v_iincN_9_6 G dX6_goesFrom_229 rfl ?_
          refine v_goto (tgt := 53) G dX6_goesFrom_232 rfl ?_
          rw [hY h_75] at ihw
          exact ihw
        · refine v_aload_9_0 G dX6_goesFrom_78 ?_
          refine v_getR G vc_6 lk_X6_7 (fs_X6_0) dX6_goesFrom_79 ?_
          refine v_iload_9_1 G dX6_goesFrom_82 ?_
          refine v_bipush (v := nI 26) G dX6_goesFrom_83 (by decide) ?_
          refine v_iaddN G dX6_goesFrom_85 ?_
          refine v_iload_9_6 G dX6_goesFrom_86 ?_
          refine v_iaddN G dX6_goesFrom_88 ?_
          refine m_ialdN G (by decide) (as_X6_0) (by first | assumption | omega | exact oneB_in (by assumption) | exact wallB_in (by assumption) | exact oneB_m1 (by assumption) | decide) (by decide) dX6_goesFrom_89 ?_
          rw [ea]
          refine v_istore_9_7 G dX6_goesFrom_90 rfl ?_
          refine v_aload_9_0 G dX6_goesFrom_92 ?_
          refine v_getR G vc_6 lk_X6_7 (fs_X6_0) dX6_goesFrom_93 ?_
          refine v_iload_9_1 G dX6_goesFrom_96 ?_
          refine v_bipush (v := nI 35) G dX6_goesFrom_97 (by decide) ?_
          refine v_iaddN G dX6_goesFrom_99 ?_
          refine v_iload_9_6 G dX6_goesFrom_100 ?_
          refine v_iaddN G dX6_goesFrom_102 ?_
          refine m_ialdN G (by decide) (as_X6_0) (by first | assumption | omega | exact oneB_in (by assumption) | exact wallB_in (by assumption) | exact oneB_m1 (by assumption) | decide) (by decide) dX6_goesFrom_103 ?_
          rw [eb]
          refine v_istore_9_8 G dX6_goesFrom_104 rfl ?_
          refine v_aload_9_0 G dX6_goesFrom_106 ?_
          refine v_getR G vc_6 lk_X6_25 (fs_X6_21) dX6_goesFrom_107 ?_
          refine v_iload_9_7 G dX6_goesFrom_110 ?_
          refine m_faldN G (by first | assumption | omega | exact oneB_in (by assumption) | exact wallB_in (by assumption) | exact oneB_m1 (by assumption) | decide) dX6_goesFrom_112 ?_
          refine v_iload_9_5 G dX6_goesFrom_113 ?_
          refine v_icmp_ne (tgt := 144) G dX6_goesFrom_115 rfl (fun h_115 => ?_) (fun h_115 => ?_)
          · refine v_aload_9_0 G dX6_goesFrom_144 ?_
            refine v_getR G vc_6 lk_X6_25 (fs_X6_21) dX6_goesFrom_145 ?_
            refine v_iload_9_8 G dX6_goesFrom_148 ?_
            refine m_faldN G (by first | assumption | omega | exact oneB_in (by assumption) | exact wallB_in (by assumption) | exact oneB_m1 (by assumption) | decide) dX6_goesFrom_150 ?_
            refine v_iload_9_5 G dX6_goesFrom_151 ?_
            refine v_icmp_ne (tgt := 179) G dX6_goesFrom_153 rfl (fun h_153 => ?_) (fun h_153 => ?_)
            · first
                | exact absurd (h_115.symm.trans h_165) hd4
                | (rw [hX h_75] at ihw; simp only [mgF, h_64, h_75, h_115, h_153, hd4, hd5, ite_self, if_true, if_false] at ihw; exact key _ ihw)
            · refine v_aload_9_0 G dX6_goesFrom_156 ?_
              refine v_getR G vc_6 lk_X6_25 (fs_X6_21) dX6_goesFrom_157 ?_
              refine v_iload_9_7 G dX6_goesFrom_160 ?_
              refine m_faldN G (by first | assumption | omega | exact oneB_in (by assumption) | exact wallB_in (by assumption) | exact oneB_m1 (by assumption) | decide) dX6_goesFrom_162 ?_
              refine v_bipush (v := (-4)) G dX6_goesFrom_163 (by decide) ?_
              refine v_icmp_ne (tgt := 179) G dX6_goesFrom_165 rfl (fun h_165 => ?_) (fun h_165 => ?_)
              · first
                  | exact absurd (h_115.symm.trans h_165) hd4
                  | (rw [hX h_75] at ihw; simp only [mgF, h_64, h_75, h_115, h_153, h_165, hd4, hd5, ite_self, if_true, if_false] at ihw; exact key _ ihw)
              · refine v_aload_9_0 G dX6_goesFrom_168 ?_
                refine v_getR G vc_6 lk_X6_25 (fs_X6_21) dX6_goesFrom_169 ?_
                refine v_iload_9_7 G dX6_goesFrom_172 ?_
                refine v_iload_9_5 G dX6_goesFrom_174 ?_
                refine v_iconst (v := nI 1) G dX6_goesFrom_176 (by decide) ?_
                refine v_iaddN G dX6_goesFrom_177 ?_
                refine m_fastN G (by first | assumption | omega | exact oneB_in (by assumption) | exact wallB_in (by assumption) | exact oneB_m1 (by assumption) | decide) dX6_goesFrom_178 ?_
                first
                  | exact absurd (h_115.symm.trans h_165) hd4
                  | (rw [hX h_75] at ihw; simp only [mgF, h_64, h_75, h_115, h_153, h_165, hd4, hd5, ite_self, if_true, if_false] at ihw; exact key _ ihw)
          · refine v_aload_9_0 G dX6_goesFrom_118 ?_
            refine v_getR G vc_6 lk_X6_25 (fs_X6_21) dX6_goesFrom_119 ?_
            refine v_iload_9_8 G dX6_goesFrom_122 ?_
            refine m_faldN G (by first | assumption | omega | exact oneB_in (by assumption) | exact wallB_in (by assumption) | exact oneB_m1 (by assumption) | decide) dX6_goesFrom_124 ?_
            refine v_bipush (v := (-4)) G dX6_goesFrom_125 (by decide) ?_
            refine v_icmp_ne (tgt := 144) G dX6_goesFrom_127 rfl (fun h_127 => ?_) (fun h_127 => ?_)
            · refine v_aload_9_0 G dX6_goesFrom_144 ?_
              refine v_getR G vc_6 lk_X6_25 (fs_X6_21) dX6_goesFrom_145 ?_
              refine v_iload_9_8 G dX6_goesFrom_148 ?_
              refine m_faldN G (by first | assumption | omega | exact oneB_in (by assumption) | exact wallB_in (by assumption) | exact oneB_m1 (by assumption) | decide) dX6_goesFrom_150 ?_
              refine v_iload_9_5 G dX6_goesFrom_151 ?_
              refine v_icmp_ne (tgt := 179) G dX6_goesFrom_153 rfl (fun h_153 => ?_) (fun h_153 => ?_)
              · first
                  | exact absurd (h_115.symm.trans h_165) hd4
                  | (rw [hX h_75] at ihw; simp only [mgF, h_64, h_75, h_115, h_127, h_153, hd4, hd5, ite_self, if_true, if_false] at ihw; exact key _ ihw)
              · refine v_aload_9_0 G dX6_goesFrom_156 ?_
                refine v_getR G vc_6 lk_X6_25 (fs_X6_21) dX6_goesFrom_157 ?_
                refine v_iload_9_7 G dX6_goesFrom_160 ?_
                refine m_faldN G (by first | assumption | omega | exact oneB_in (by assumption) | exact wallB_in (by assumption) | exact oneB_m1 (by assumption) | decide) dX6_goesFrom_162 ?_
                refine v_bipush (v := (-4)) G dX6_goesFrom_163 (by decide) ?_
                refine v_icmp_ne (tgt := 179) G dX6_goesFrom_165 rfl (fun h_165 => ?_) (fun h_165 => ?_)
                · first
                    | exact absurd (h_115.symm.trans h_165) hd4
                    | (rw [hX h_75] at ihw; simp only [mgF, h_64, h_75, h_115, h_127, h_153, h_165, hd4, hd5, ite_self, if_true, if_false] at ihw; exact key _ ihw)
                · refine v_aload_9_0 G dX6_goesFrom_168 ?_
                  refine v_getR G vc_6 lk_X6_25 (fs_X6_21) dX6_goesFrom_169 ?_
                  refine v_iload_9_7 G dX6_goesFrom_172 ?_
                  refine v_iload_9_5 G dX6_goesFrom_174 ?_
                  refine v_iconst (v := nI 1) G dX6_goesFrom_176 (by decide) ?_
                  refine v_iaddN G dX6_goesFrom_177 ?_
                  refine m_fastN G (by first | assumption | omega | exact oneB_in (by assumption) | exact wallB_in (by assumption) | exact oneB_m1 (by assumption) | decide) dX6_goesFrom_178 ?_
                  first
                    | exact absurd (h_115.symm.trans h_165) hd4
                    | (rw [hX h_75] at ihw; simp only [mgF, h_64, h_75, h_115, h_127, h_153, h_165, hd4, hd5, ite_self, if_true, if_false] at ihw; exact key _ ihw)
            · refine v_aload_9_0 G dX6_goesFrom_130 ?_
              refine v_getR G vc_6 lk_X6_25 (fs_X6_21) dX6_goesFrom_131 ?_
              refine v_iload_9_8 G dX6_goesFrom_134 ?_
              refine v_iload_9_5 G dX6_goesFrom_136 ?_
              refine v_iconst (v := nI 1) G dX6_goesFrom_138 (by decide) ?_
              refine v_iaddN G dX6_goesFrom_139 ?_
              refine m_fastN G (by first | assumption | omega | exact oneB_in (by assumption) | exact wallB_in (by assumption) | exact oneB_m1 (by assumption) | decide) dX6_goesFrom_140 ?_
              refine v_goto (tgt := 179) G dX6_goesFrom_141 rfl ?_
              first
                | exact absurd (h_115.symm.trans h_165) hd4
                | (rw [hX h_75] at ihw; simp only [mgF, h_64, h_75, h_115, h_127, hd4, hd5, ite_self, if_true, if_false] at ihw; exact key _ ihw)
      · show V x 53 [some (.ref 75), some (.int (nI g)), some (.int (nI q)), some (.int (nI r)), some (.int (mgW (σ 76) n (σ 75 20) g q d (mgD (σ 76) n (σ 75 20) g q m s0 d) m).1), some (.int (nI d)), some (.int (nI m)), none, none] [] (vrow σ 81 (mgW (σ 76) n (σ 75 20) g q d (mgD (σ 76) n (σ 75 20) g q m s0 d) m).2)
        refine v_iload_9_6 G dX6_goesFrom_53 ?_
        refine v_aload_9_0 G dX6_goesFrom_55 ?_
        refine v_getR G vc_6 lk_X6_7 (fs_X6_0) dX6_goesFrom_56 ?_
        refine v_iload_9_1 G dX6_goesFrom_59 ?_
        refine v_bipush (v := nI 25) G dX6_goesFrom_60 (by decide) ?_
        refine v_iaddN G dX6_goesFrom_62 ?_
        refine m_ialdN G (by decide) (as_X6_0) (by first | assumption | omega | exact oneB_in (by assumption) | exact wallB_in (by assumption) | exact oneB_m1 (by assumption) | decide) (by decide) dX6_goesFrom_63 ?_
        refine v_icmp_ge (tgt := 235) G dX6_goesFrom_64 rfl (fun h_64 => ?_) (fun h_64 => absurd (by rw [hm]; exact nI_le (Nat.le_refl _) (by omega)) h_64)
        refine v_iincN_9_5 G dX6_goesFrom_235 rfl ?_
        refine v_goto (tgt := 43) G dX6_goesFrom_238 rfl ?_
        refine V.drop ?_ ihd
        exact ⟨rfl, rfl, rfl, rfl, rfl, rfl, trivial⟩
    · show V x 43 [some (.ref 75), some (.int (nI g)), some (.int (nI q)), some (.int (nI r)), some (.int (mgD (σ 76) n (σ 75 20) g q m s0 7).1), some (.int (nI 7)), none, none, none] [] (vrow σ 81 (mgD (σ 76) n (σ 75 20) g q m s0 7).2)
      refine v_iload_9_5 G dX6_goesFrom_43 ?_
      refine v_bipush (v := nI 7) G dX6_goesFrom_45 (by decide) ?_
      refine v_icmp_ge (tgt := 241) G dX6_goesFrom_47 rfl (fun h_47 => ?_) (fun h_47 => absurd (by exact nI_le (Nat.le_refl _) (by omega)) h_47)
      refine v_iload_9_4 G dX6_goesFrom_241 ?_
      exact v_iret G hQ dX6_goesFrom_243 vDet.mk
