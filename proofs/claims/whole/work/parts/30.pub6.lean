/-! DoorTown's public calls: ask, drift, images, sheets -/
theorem frV_enc {f g : Nat → Int32} {v0 : Int32} : ∀ {n : Nat}, (∀ k, k < n → f k = g k) → frV f v0 n = frV g v0 n
  | 0, _ => rfl
  | n + 1, h => by rw [frV, frV, frV_enc (fun k hk => h k (by omega)), h n (by omega)]
/-- the worlds of ask() -/
def askW (σ : vW) (m s p : Nat) : Nat → vW
  | 0 => mvs σ p m
  | q + 1 => crW (askW σ m s p q) m p q (wsB σ m s p m) m
theorem crW_ne2 {σ : vW} {m p q b : Nat} {walls : Int32} (h : b < 32) (k : Nat) : (crW σ m p q walls k) b = σ b := by rw [crW_ne (by omega) (by omega) (by omega), becW_ne (by omega)]
theorem askW_ne {σ : vW} {m s p b : Nat} (h : b < 32) : ∀ q, (askW σ m s p q) b = σ b
  | 0 => by rw [askW, mvs_ne (by omega) (by omega), becW_ne (by omega)]
  | q + 1 => by rw [askW, crW_ne2 h, askW_ne h q]
/-- the smaller of f k, kept with its place when below what is kept -/
def lwV (f : Nat → Int32) (v0 : Int32) : Nat → Int32
  | 0 => v0
  | k + 1 => if lwV f v0 k ≤ f k then lwV f v0 k else f k
def lwA (f : Nat → Int32) (enc : Nat → Nat) (a0 v0 : Int32) : Nat → Int32
  | 0 => a0
  | k + 1 => if lwV f v0 k ≤ f k then lwA f enc a0 v0 k else nI (enc k)
def asF (σ : vW) (m s p q r : Nat) : Int32 := maxI ((askW σ m s p (q + 1)) 66 r) (nI (bcN (wsB σ m s p m)) - (askW σ m s p (q + 1)) 66 r)
def asV (σ : vW) (m s p : Nat) : Nat → Int32
  | 0 => nI (bcN (wsB σ m s p m))
  | q + 1 => lwV (asF σ m s p q) (asV σ m s p q) 8
def asA (σ : vW) (m s p : Nat) : Nat → Int32
  | 0 => -4
  | q + 1 => lwA (asF σ m s p q) (fun r => 10 * q + r) (asA σ m s p q) (asV σ m s p q) 8
def askR (σ : vW) (n m s : Nat) (p w : Int32) : Int32 := if p1Ok σ p w = true then askd (asA σ m s p.toNatClampNeg n) (asV σ m s p.toNatClampNeg n) w else -1
set_option maxHeartbeats 4000000 in
theorem C_X5_ask {σ : vW} {n m s : Nat} {p w : Int32} (hn : σ 21 10 = nI n) (hn5 : n ≤ 5) (hm : σ 21 11 = nI m) (hm9 : m ≤ 9) (hs : σ 4 3 = nI s) (hs6 : s ≤ 6) (hw : ∀ i, i < s → ∃ p, p < 5 ∧ σ 5 i = nI p) : Ctr mX5_ask 6 [.ref 0, .int p, .int w] σ (vDet (some (.int (askR σ n m s p w))) (if p1Ok σ p w = true then askW σ m s p.toNatClampNeg n else σ)) := by
  have hT := TB21
  have hn' : ∀ p q, (askW σ m s p q) 21 10 = nI n := fun p q => by rw [askW_ne (by decide)]; exact hn
  have hm' : ∀ p q, (askW σ m s p q) 21 11 = nI m := fun p q => by rw [askW_ne (by decide)]; exact hm
  refine Ctr.intro (by decide) (fun α => Nat.le_of_ble_eq_true rfl) (fun x G hQ => ?_)
  have G : vG x RX5 cX5_ask 10 (some .int) 6 := G
  show V x 0 [some (.ref 0), some (.int p), some (.int w), none, none, none, none, none, none, none] [] σ
  refine v_aload_10_0 G dX5_ask_0 ?_
  refine v_getR G vc_5 lk_X5_19 (fs_X5_1) dX5_ask_1 ?_
  refine v_iload_10_1 G dX5_ask_4 ?_
  refine v_cV1 G (C_X4_isOne (by first | assumption | omega | exact oneB_in (by assumption) | exact wallB_in (by assumption) | exact oneB_m1 (by assumption) | decide)) (by decide) md_X4_isOne in_X4_isOne (rv_X4 (by first | assumption | exact imgP_TB | exact shP_SB) rfl) ml_X5_120 (Nat.le_of_ble_eq_true rfl) dX5_ask_5 ?_
  refine v_ifB_eq (tgt := 19) G dX5_ask_8 rfl (fun h_8 => ?_) (fun h_8 => ?_)
  · refine v_iconst (v := (-1)) G dX5_ask_19 (by decide) ?_
    exact v_iret G hQ dX5_ask_20 (vDet.of (by simp only [askR, p1Ok, bI, h_8, if_true, if_false, Bool.false_eq_true, reduceIte, ite_self] <;> try rfl) (by simp only [p1Ok, h_8, if_true, if_false, Bool.false_eq_true, reduceIte, ite_self] <;> try rfl))
  · obtain ⟨k0, hk0, rfl⟩ := oneB_ex hn hn5 h_8
    have ck0 : (nI k0).toNatClampNeg = k0 := nI_clamp (by omega)
    refine v_iload_10_2 G dX5_ask_11 ?_
    refine v_iconst (v := nI 1) G dX5_ask_12 (by decide) ?_
    refine v_cS2 G (C_X5_isUpTo) (by decide) md_X5_isUpTo st_X5_isUpTo ml_X5_52 (Nat.le_of_ble_eq_true rfl) dX5_ask_13 ?_
    refine v_ifB_ne (tgt := 21) G dX5_ask_16 rfl (fun h_16 => ?_) (fun h_16 => ?_)
    · refine v_aload_10_0 G dX5_ask_21 ?_
      refine v_iload_10_1 G dX5_ask_22 ?_
      refine v_cV1 G (C_X5_wallsAsSeen (n := n) (by omega) hm hm9 hs hs6 hw) (by decide) md_X5_wallsAsSeen in_X5_wallsAsSeen (rv_X5 rfl) ml_X5_248 (Nat.le_of_ble_eq_true rfl) dX5_ask_23 ?_
      refine v_istore_10_3 G dX5_ask_26 rfl ?_
      refine v_iload_10_3 G dX5_ask_27 ?_
      refine v_cS1 G (C_bitCount) (by decide) md_J6_bitCount_0f7a4 st_J6_bitCount_0f7a4 ml_X5_105 (Nat.le_of_ble_eq_true rfl) dX5_ask_28 ?_
      refine v_istore_10_4 G dX5_ask_31 rfl ?_
      refine v_bipush (v := (-4)) G dX5_ask_33 (by decide) ?_
      refine v_istore_10_5 G dX5_ask_35 rfl ?_
      refine v_iload_10_4 G dX5_ask_37 ?_
      refine v_istore_10_6 G dX5_ask_39 rfl ?_
      refine v_iconst (v := nI 0) G dX5_ask_41 (by decide) ?_
      refine v_istore_10_7 G dX5_ask_42 rfl ?_
      refine v_for (pc := 44) (n) (fun q => ([some (.ref 0), some (.int (nI k0)), some (.int w), some (.int (wsB σ m s k0 m)), some (.int (nI (bcN (wsB σ m s k0 m)))), some (.int (asA σ m s k0 q)), some (.int (asV σ m s k0 q)), some (.int (nI q)), none, none], (askW σ m s k0 q))) (fun q hq ihq => ?_) ?_
      · show V x 44 [some (.ref 0), some (.int (nI k0)), some (.int w), some (.int (wsB σ m s k0 m)), some (.int (nI (bcN (wsB σ m s k0 m)))), some (.int (asA σ m s k0 q)), some (.int (asV σ m s k0 q)), some (.int (nI q)), none, none] [] (askW σ m s k0 q)
        have ihq : V x 44 [some (.ref 0), some (.int (nI k0)), some (.int w), some (.int (wsB σ m s k0 m)), some (.int (nI (bcN (wsB σ m s k0 m)))), some (.int (asA σ m s k0 (q + 1))), some (.int (asV σ m s k0 (q + 1))), some (.int (nI (q + 1))), none, none] [] (askW σ m s k0 (q + 1)) := ihq
        refine v_iload_10_7 G dX5_ask_44 ?_
        refine v_aload_10_0 G dX5_ask_46 ?_
        refine v_getR G vc_5 lk_X5_19 (fs_X5_1) dX5_ask_47 ?_
        refine v_getI G vc_4 lk_X5_95 (fs_X4_10 (by first | assumption | exact imgP_TB)) dX5_ask_50 ?_
        refine v_icmp_ge (tgt := 129) G dX5_ask_53 rfl (fun h_53 => absurd h_53 (by rw [hn']; exact nI_ge hq (by omega))) (fun h_53 => ?_)
        refine v_aload_10_0 G dX5_ask_56 ?_
        refine v_iload_10_1 G dX5_ask_57 ?_
        refine v_iload_10_3 G dX5_ask_58 ?_
        refine v_iload_10_7 G dX5_ask_59 ?_
        refine v_cV3v G (C_X5_countReaching (by omega) (by omega) (hm' _ _) hm9) (by decide) md_X5_countReaching in_X5_countReaching (rv_X5 rfl) ml_X5_251 (Nat.le_of_ble_eq_true rfl) dX5_ask_61 ?_
        refine v_iconst (v := nI 0) G dX5_ask_64 (by decide) ?_
        refine v_istore_10_8 G dX5_ask_65 rfl ?_
        refine v_for (pc := 67) (8) (fun k => ([some (.ref 0), some (.int (nI k0)), some (.int w), some (.int (wsB σ m s k0 m)), some (.int (nI (bcN (wsB σ m s k0 m)))), some (.int (lwA (asF σ m s k0 q) (fun r => 10 * q + r) (asA σ m s k0 q) (asV σ m s k0 q) k)), some (.int (lwV (asF σ m s k0 q) (asV σ m s k0 q) k)), some (.int (nI q)), some (.int (nI k)), none], (askW σ m s k0 (q + 1)))) (fun k hk ih => ?_) ?_
        · show V x 67 [some (.ref 0), some (.int (nI k0)), some (.int w), some (.int (wsB σ m s k0 m)), some (.int (nI (bcN (wsB σ m s k0 m)))), some (.int (lwA (asF σ m s k0 q) (fun r => 10 * q + r) (asA σ m s k0 q) (asV σ m s k0 q) k)), some (.int (lwV (asF σ m s k0 q) (asV σ m s k0 q) k)), some (.int (nI q)), some (.int (nI k)), none] [] (askW σ m s k0 (q + 1))
          have ih : V x 67 [some (.ref 0), some (.int (nI k0)), some (.int w), some (.int (wsB σ m s k0 m)), some (.int (nI (bcN (wsB σ m s k0 m)))), some (.int (lwA (asF σ m s k0 q) (fun r => 10 * q + r) (asA σ m s k0 q) (asV σ m s k0 q) (k + 1))), some (.int (lwV (asF σ m s k0 q) (asV σ m s k0 q) (k + 1))), some (.int (nI q)), some (.int (nI (k + 1))), none] [] (askW σ m s k0 (q + 1)) := ih
          have hfs : asF σ m s k0 q k = maxI ((askW σ m s k0 (q + 1)) 66 k) (nI (bcN (wsB σ m s k0 m)) - (askW σ m s k0 (q + 1)) 66 k) := rfl
          refine v_iload_10_8 G dX5_ask_67 ?_
          refine v_bipush (v := nI 8) G dX5_ask_69 (by decide) ?_
          refine v_icmp_ge (tgt := 123) G dX5_ask_71 rfl (fun h_71 => absurd h_71 (by exact nI_ge hk (by omega))) (fun h_71 => ?_)
          refine v_aload_10_0 G dX5_ask_74 ?_
          refine v_getR G vc_5 lk_X5_48 (fs_X5_7) dX5_ask_75 ?_
          refine v_iload_10_8 G dX5_ask_78 ?_
          refine v_ialdN G (as_X5_7) (by first | assumption | omega | exact oneB_in (by assumption) | exact wallB_in (by assumption) | exact oneB_m1 (by assumption) | decide) (by first | decide | omega) dX5_ask_80 ?_
          refine v_iload_10_4 G dX5_ask_81 ?_
          refine v_aload_10_0 G dX5_ask_83 ?_
          refine v_getR G vc_5 lk_X5_48 (fs_X5_7) dX5_ask_84 ?_
          refine v_iload_10_8 G dX5_ask_87 ?_
          refine v_ialdN G (as_X5_7) (by first | assumption | omega | exact oneB_in (by assumption) | exact wallB_in (by assumption) | exact oneB_m1 (by assumption) | decide) (by first | decide | omega) dX5_ask_89 ?_
          refine v_isub G dX5_ask_90 ?_
          refine v_mmax G (by decide) (Nat.le_of_ble_eq_true rfl) ml_X5_255 dX5_ask_91 ?_
          refine v_istore_10_9 G dX5_ask_94 rfl ?_
          refine v_iload_10_9 G dX5_ask_96 ?_
          refine v_iload_10_6 G dX5_ask_98 ?_
          refine v_icmp_ge (tgt := 117) G dX5_ask_100 rfl (fun h_100 => ?_) (fun h_100 => ?_)
          · refine v_iincN_10_8 G dX5_ask_117 rfl ?_
            refine v_goto (tgt := 67) G dX5_ask_120 rfl ?_
            simp only [lwA, lwV, hfs, h_71, h_100, if_true, if_false, Bool.false_eq_true, reduceIte] at ih
            exact V.drop (by simp only [vsubP, and_self]) ih
          · refine v_bipush (v := nI 10) G dX5_ask_103 (by decide) ?_
            refine v_iload_10_7 G dX5_ask_105 ?_
            refine v_imulN G dX5_ask_107 ?_
            refine v_iload_10_8 G dX5_ask_108 ?_
            refine v_iaddN G dX5_ask_110 ?_
            refine v_istore_10_5 G dX5_ask_111 rfl ?_
            refine v_iload_10_9 G dX5_ask_113 ?_
            refine v_istore_10_6 G dX5_ask_115 rfl ?_
            refine v_iincN_10_8 G dX5_ask_117 rfl ?_
            refine v_goto (tgt := 67) G dX5_ask_120 rfl ?_
            simp only [lwA, lwV, hfs, h_71, h_100, if_true, if_false, Bool.false_eq_true, reduceIte] at ih
            exact V.drop (by simp only [vsubP, and_self]) ih
        · show V x 67 [some (.ref 0), some (.int (nI k0)), some (.int w), some (.int (wsB σ m s k0 m)), some (.int (nI (bcN (wsB σ m s k0 m)))), some (.int (lwA (asF σ m s k0 q) (fun r => 10 * q + r) (asA σ m s k0 q) (asV σ m s k0 q) 8)), some (.int (lwV (asF σ m s k0 q) (asV σ m s k0 q) 8)), some (.int (nI q)), some (.int (nI 8)), none] [] (askW σ m s k0 (q + 1))
          refine v_iload_10_8 G dX5_ask_67 ?_
          refine v_bipush (v := nI 8) G dX5_ask_69 (by decide) ?_
          refine v_icmp_ge (tgt := 123) G dX5_ask_71 rfl (fun h_71 => ?_) (fun h_71 => absurd (by exact nI_le (Nat.le_refl _) (by omega)) h_71)
          refine v_iincN_10_7 G dX5_ask_123 rfl ?_
          refine v_goto (tgt := 44) G dX5_ask_126 rfl ?_
          exact V.drop (by simp only [vsubP, asA, asV, and_self]) ihq
      · show V x 44 [some (.ref 0), some (.int (nI k0)), some (.int w), some (.int (wsB σ m s k0 m)), some (.int (nI (bcN (wsB σ m s k0 m)))), some (.int (asA σ m s k0 n)), some (.int (asV σ m s k0 n)), some (.int (nI n)), none, none] [] (askW σ m s k0 n)
        refine v_iload_10_7 G dX5_ask_44 ?_
        refine v_aload_10_0 G dX5_ask_46 ?_
        refine v_getR G vc_5 lk_X5_19 (fs_X5_1) dX5_ask_47 ?_
        refine v_getI G vc_4 lk_X5_95 (fs_X4_10 (by first | assumption | exact imgP_TB)) dX5_ask_50 ?_
        refine v_icmp_ge (tgt := 129) G dX5_ask_53 rfl (fun h_53 => ?_) (fun h_53 => absurd (by rw [hn']; exact nI_le (Nat.le_refl _) (by omega)) h_53)
        refine v_iload_10_5 G dX5_ask_129 ?_
        refine v_bipush (v := (-4)) G dX5_ask_131 (by decide) ?_
        refine v_icmp_eq (tgt := 140) G dX5_ask_133 rfl (fun h_133 => ?_) (fun h_133 => ?_)
        · refine v_iload_10_5 G dX5_ask_140 ?_
          refine v_goto (tgt := 147) G dX5_ask_142 rfl ?_
          exact v_iret G hQ dX5_ask_147 (vDet.of (by simp only [askR, p1Ok, askd, h_8, ck0, h_16, bI, h_53, h_133, if_true, if_false, Bool.false_eq_true, reduceIte, ite_self] <;> try rfl) (by simp only [p1Ok, h_8, ck0, h_16, h_53, h_133, if_true, if_false, Bool.false_eq_true, reduceIte, ite_self] <;> try rfl))
        · refine v_iload_10_2 G dX5_ask_136 ?_
          refine v_if_ne (tgt := 145) G dX5_ask_137 rfl (fun h_137 => ?_) (fun h_137 => ?_)
          · refine v_iload_10_6 G dX5_ask_145 ?_
            exact v_iret G hQ dX5_ask_147 (vDet.of (by simp only [askR, p1Ok, askd, h_8, ck0, h_16, bI, h_53, h_133, h_137, if_true, if_false, Bool.false_eq_true, reduceIte, ite_self] <;> try rfl) (by simp only [p1Ok, h_8, ck0, h_16, h_53, h_133, h_137, if_true, if_false, Bool.false_eq_true, reduceIte, ite_self] <;> try rfl))
          · refine v_iload_10_5 G dX5_ask_140 ?_
            refine v_goto (tgt := 147) G dX5_ask_142 rfl ?_
            exact v_iret G hQ dX5_ask_147 (vDet.of (by simp only [askR, p1Ok, askd, h_8, ck0, h_16, bI, h_53, h_133, h_137, if_true, if_false, Bool.false_eq_true, reduceIte, ite_self] <;> try rfl) (by simp only [p1Ok, h_8, ck0, h_16, h_53, h_133, h_137, if_true, if_false, Bool.false_eq_true, reduceIte, ite_self] <;> try rfl))
    · refine v_iconst (v := (-1)) G dX5_ask_19 (by decide) ?_
      exact v_iret G hQ dX5_ask_20 (vDet.of (by simp only [askR, p1Ok, bI, h_8, ck0, h_16, if_true, if_false, Bool.false_eq_true, reduceIte, ite_self] <;> try rfl) (by simp only [p1Ok, h_8, ck0, h_16, if_true, if_false, Bool.false_eq_true, reduceIte, ite_self] <;> try rfl))
/-- the seed's numbers, the worlds of drift() -/
def dsN (seed : Int32) : Nat → Int32
  | 0 => seed
  | k + 1 => dsN seed k * 1103515245 + nI 12345
def dsG (seed : Int32) (k : Nat) : Int32 := ushr (dsN seed (k + 1)) (nI 16) &&& nI 32767
def dsW (σ : vW) (n m : Nat) (seed : Int32) : Nat → vW
  | 0 => becW σ 32 21
  | k + 1 => drW (dsW σ n m seed k) 32 n m (dsG seed k)
theorem dsW_ne {σ : vW} {n m b : Nat} {seed : Int32} (h1 : b ≠ 36) (h2 : b ≠ 39) : ∀ k, (dsW σ n m seed k) b = (becW σ 32 21) b
  | 0 => rfl
  | k + 1 => by rw [dsW, drW_ne h1 h2, dsW_ne h1 h2 k]
def dsOk (c w : Int32) : Bool := if c < nI 1 then false else if nI 60 < c then false else if upToB w (nI 1) = true then true else false
def dsOk2 (σ : vW) : Bool := if σ 21 10 = 0 then false else if σ 21 11 = 0 then false else true
def driftR (σ : vW) (n m : Nat) (seed c w : Int32) : Int32 := if dsOk c w = true then (if dsOk2 σ = true then (if w = 0 then allTo (dsW σ n m seed c.toNatClampNeg) 32 m n else nI (bcN (hungTo (dsW σ n m seed c.toNatClampNeg) 32 m))) else -2) else -1
def driftW (σ : vW) (n m : Nat) (seed c w : Int32) : vW := if dsOk c w = true then (if dsOk2 σ = true then dsW σ n m seed c.toNatClampNeg else σ) else σ
theorem drift_ex {c : Int32} (h1 : ¬ c < nI 1) (h2 : ¬ nI 60 < c) : ∃ k, k < 61 ∧ c = nI k := by
  have h3 : vp_in c 61 := by
    rw [vp_in_iff]
    simp only [lt_toInt, nI_toInt (show 60 < 2 ^ 31 by decide), nI_toInt (show 1 < 2 ^ 31 by decide)] at h1 h2
    omega
  exact vp_in_of h3 (by decide)
set_option maxHeartbeats 4000000 in
theorem C_X5_drift {σ : vW} {n m : Nat} {seed c w : Int32} (hn : σ 21 10 = nI n) (hn5 : n ≤ 5) (hm : σ 21 11 = nI m) (hm9 : m ≤ 9) : Ctr mX5_drift 5 [.ref 0, .int seed, .int c, .int w] σ (vDet (some (.int (driftR σ n m seed c w))) (driftW σ n m seed c w)) := by
  have hT := TB21
  have hR := TB32
  have hn' : ∀ k, (dsW σ n m seed k) 32 10 = nI n := fun k => by rw [dsW_ne (by decide) (by decide), becW_10]; exact hn
  have hm' : ∀ k, (dsW σ n m seed k) 32 11 = nI m := fun k => by rw [dsW_ne (by decide) (by decide), becW_11]; exact hm
  have z1 : ¬ σ 21 10 = 0 → 0 < n := fun h => by
    rcases Nat.eq_zero_or_pos n with q | q
    · subst q; exact absurd (by rw [hn]; rfl) h
    · exact q
  have z2 : ¬ σ 21 11 = 0 → 0 < m := fun h => by
    rcases Nat.eq_zero_or_pos m with q | q
    · subst q; exact absurd (by rw [hm]; rfl) h
    · exact q
  refine Ctr.intro (by decide) (fun α => Nat.le_of_ble_eq_true rfl) (fun x G hQ => ?_)
  have G : vG x RX5 cX5_drift 6 (some .int) 5 := G
  show V x 0 [some (.ref 0), some (.int seed), some (.int c), some (.int w), none, none] [] σ
  refine v_iload_6_2 G dX5_drift_0 ?_
  refine v_iconst (v := nI 1) G dX5_drift_1 (by decide) ?_
  refine v_icmp_lt (tgt := 19) G dX5_drift_2 rfl (fun h_2 => ?_) (fun h_2 => ?_)
  · refine v_iconst (v := (-1)) G dX5_drift_19 (by decide) ?_
    exact v_iret G hQ dX5_drift_20 (vDet.of (by simp only [driftR, dsOk, dsOk2, bI, h_2, if_true, if_false, Bool.false_eq_true, reduceIte, ite_self] <;> try rfl) (by simp only [driftW, dsOk, dsOk2, h_2, if_true, if_false, Bool.false_eq_true, reduceIte, ite_self] <;> try rfl))
  · refine v_iload_6_2 G dX5_drift_5 ?_
    refine v_bipush (v := nI 60) G dX5_drift_6 (by decide) ?_
    refine v_icmp_gt (tgt := 19) G dX5_drift_8 rfl (fun h_8 => ?_) (fun h_8 => ?_)
    · refine v_iconst (v := (-1)) G dX5_drift_19 (by decide) ?_
      exact v_iret G hQ dX5_drift_20 (vDet.of (by simp only [driftR, dsOk, dsOk2, bI, h_2, h_8, if_true, if_false, Bool.false_eq_true, reduceIte, ite_self] <;> try rfl) (by simp only [driftW, dsOk, dsOk2, h_2, h_8, if_true, if_false, Bool.false_eq_true, reduceIte, ite_self] <;> try rfl))
    · obtain ⟨k0, hk0, rfl⟩ := drift_ex h_2 h_8
      have ck0 : (nI k0).toNatClampNeg = k0 := nI_clamp (by omega)
      refine v_iload_6_3 G dX5_drift_11 ?_
      refine v_iconst (v := nI 1) G dX5_drift_12 (by decide) ?_
      refine v_cS2 G (C_X5_isUpTo) (by decide) md_X5_isUpTo st_X5_isUpTo ml_X5_52 (Nat.le_of_ble_eq_true rfl) dX5_drift_13 ?_
      refine v_ifB_ne (tgt := 21) G dX5_drift_16 rfl (fun h_16 => ?_) (fun h_16 => ?_)
      · refine v_aload_6_0 G dX5_drift_21 ?_
        refine v_getR G vc_5 lk_X5_19 (fs_X5_1) dX5_drift_22 ?_
        refine v_getI G vc_4 lk_X5_95 (fs_X4_10 (by first | assumption | exact imgP_TB)) dX5_drift_25 ?_
        refine v_if_eq (tgt := 41) G dX5_drift_28 rfl (fun h_28 => ?_) (fun h_28 => ?_)
        · refine v_bipush (v := (-2)) G dX5_drift_41 (by decide) ?_
          exact v_iret G hQ dX5_drift_43 (vDet.of (by simp only [driftR, dsOk, dsOk2, bI, h_2, h_8, ck0, h_16, h_28, if_true, if_false, Bool.false_eq_true, reduceIte, ite_self] <;> try rfl) (by simp only [driftW, dsOk, dsOk2, h_2, h_8, ck0, h_16, h_28, if_true, if_false, Bool.false_eq_true, reduceIte, ite_self] <;> try rfl))
        · refine v_aload_6_0 G dX5_drift_31 ?_
          refine v_getR G vc_5 lk_X5_19 (fs_X5_1) dX5_drift_32 ?_
          refine v_getI G vc_4 lk_X5_98 (fs_X4_11 (by first | assumption | exact imgP_TB)) dX5_drift_35 ?_
          refine v_if_ne (tgt := 44) G dX5_drift_38 rfl (fun h_38 => ?_) (fun h_38 => ?_)
          · refine v_aload_6_0 G dX5_drift_44 ?_
            refine v_getR G vc_5 lk_X5_23 (fs_X5_2) dX5_drift_45 ?_
            refine v_aload_6_0 G dX5_drift_48 ?_
            refine v_getR G vc_5 lk_X5_19 (fs_X5_1) dX5_drift_49 ?_
            refine v_cV1v G (C_X4_become hR hT (by decide)) (by decide) md_X4_become in_X4_become (rv_X4 (by first | assumption | exact imgP_TB | exact shP_SB) rfl) ml_X5_85 (Nat.le_of_ble_eq_true rfl) dX5_drift_52 ?_
            refine v_iload_6_1 G dX5_drift_55 ?_
            refine v_istore_6_4 G dX5_drift_56 rfl ?_
            refine v_iconst (v := nI 0) G dX5_drift_58 (by decide) ?_
            refine v_istore_6_5 G dX5_drift_59 rfl ?_
            refine v_for (pc := 61) (k0) (fun k => ([some (.ref 0), some (.int seed), some (.int (nI k0)), some (.int w), some (.int (dsN seed k)), some (.int (nI k))], (dsW σ n m seed k))) (fun k hk ih => ?_) ?_
            · show V x 61 [some (.ref 0), some (.int seed), some (.int (nI k0)), some (.int w), some (.int (dsN seed k)), some (.int (nI k))] [] (dsW σ n m seed k)
              have ih : V x 61 [some (.ref 0), some (.int seed), some (.int (nI k0)), some (.int w), some (.int (dsN seed (k + 1))), some (.int (nI (k + 1)))] [] (dsW σ n m seed (k + 1)) := ih
              refine v_iload_6_5 G dX5_drift_61 ?_
              refine v_iload_6_2 G dX5_drift_63 ?_
              refine v_icmp_ge (tgt := 101) G dX5_drift_64 rfl (fun h_64 => absurd h_64 (by exact nI_ge hk (by omega))) (fun h_64 => ?_)
              refine v_iload_6_4 G dX5_drift_67 ?_
              refine v_ldc_w G ct_X5_260 dX5_drift_69 ?_
              refine v_imul G dX5_drift_72 ?_
              refine v_sipush (v := nI 12345) G dX5_drift_73 (by decide) ?_
              refine v_iadd G dX5_drift_76 ?_
              refine v_istore_6_4 G dX5_drift_77 rfl ?_
              refine v_aload_6_0 G dX5_drift_79 ?_
              refine v_getR G vc_5 lk_X5_23 (fs_X5_2) dX5_drift_80 ?_
              refine v_iload_6_4 G dX5_drift_83 ?_
              refine v_bipush (v := nI 16) G dX5_drift_85 (by decide) ?_
              refine v_iushr G dX5_drift_87 ?_
              refine v_sipush (v := nI 32767) G dX5_drift_88 (by decide) ?_
              refine v_iand G dX5_drift_91 ?_
              refine v_cV1v G (C_X4_driftOnce hR (hn' _) (z1 h_28) hn5 (hm' _) (z2 h_38) hm9) (by decide) md_X4_driftOnce in_X4_driftOnce (rv_X4 (by first | assumption | exact imgP_TB | exact shP_SB) rfl) ml_X5_261 (Nat.le_of_ble_eq_true rfl) dX5_drift_92 ?_
              refine v_iincN_6_5 G dX5_drift_95 rfl ?_
              refine v_goto (tgt := 61) G dX5_drift_98 rfl ?_
              exact ih
            · show V x 61 [some (.ref 0), some (.int seed), some (.int (nI k0)), some (.int w), some (.int (dsN seed k0)), some (.int (nI k0))] [] (dsW σ n m seed k0)
              refine v_iload_6_5 G dX5_drift_61 ?_
              refine v_iload_6_2 G dX5_drift_63 ?_
              refine v_icmp_ge (tgt := 101) G dX5_drift_64 rfl (fun h_64 => ?_) (fun h_64 => absurd (by exact nI_le (Nat.le_refl _) (by omega)) h_64)
              refine v_iload_6_3 G dX5_drift_101 ?_
              refine v_if_ne (tgt := 115) G dX5_drift_102 rfl (fun h_102 => ?_) (fun h_102 => ?_)
              · refine v_aload_6_0 G dX5_drift_115 ?_
                refine v_getR G vc_5 lk_X5_23 (fs_X5_2) dX5_drift_116 ?_
                refine v_cV0 G (C_X4_hungWalls hR (hm' _) hm9) (by decide) md_X4_hungWalls in_X4_hungWalls (rv_X4 (by first | assumption | exact imgP_TB | exact shP_SB) rfl) ml_X5_101 (Nat.le_of_ble_eq_true rfl) dX5_drift_119 ?_
                refine v_cS1 G (C_bitCount) (by decide) md_J6_bitCount_0f7a4 st_J6_bitCount_0f7a4 ml_X5_105 (Nat.le_of_ble_eq_true rfl) dX5_drift_122 ?_
                exact v_iret G hQ dX5_drift_125 (vDet.of (by simp only [driftR, dsOk, dsOk2, h_2, h_8, ck0, h_16, h_28, h_38, bI, h_64, h_102, if_true, if_false, Bool.false_eq_true, reduceIte, ite_self] <;> try rfl) (by simp only [driftW, dsOk, dsOk2, h_2, h_8, ck0, h_16, h_28, h_38, h_64, h_102, if_true, if_false, Bool.false_eq_true, reduceIte, ite_self] <;> try rfl))
              · refine v_aload_6_0 G dX5_drift_105 ?_
                refine v_getR G vc_5 lk_X5_23 (fs_X5_2) dX5_drift_106 ?_
                refine v_cV0 G (C_X4_reachedByAll hR (hn' _) hn5 (hm' _) hm9) (by decide) md_X4_reachedByAll in_X4_reachedByAll (rv_X4 (by first | assumption | exact imgP_TB | exact shP_SB) rfl) ml_X5_207 (Nat.le_of_ble_eq_true rfl) dX5_drift_109 ?_
                refine v_goto (tgt := 125) G dX5_drift_112 rfl ?_
                exact v_iret G hQ dX5_drift_125 (vDet.of (by simp only [driftR, dsOk, dsOk2, h_2, h_8, ck0, h_16, h_28, h_38, bI, h_64, h_102, if_true, if_false, Bool.false_eq_true, reduceIte, ite_self] <;> try rfl) (by simp only [driftW, dsOk, dsOk2, h_2, h_8, ck0, h_16, h_28, h_38, h_64, h_102, if_true, if_false, Bool.false_eq_true, reduceIte, ite_self] <;> try rfl))
          · refine v_bipush (v := (-2)) G dX5_drift_41 (by decide) ?_
            exact v_iret G hQ dX5_drift_43 (vDet.of (by simp only [driftR, dsOk, dsOk2, bI, h_2, h_8, ck0, h_16, h_28, h_38, if_true, if_false, Bool.false_eq_true, reduceIte, ite_self] <;> try rfl) (by simp only [driftW, dsOk, dsOk2, h_2, h_8, ck0, h_16, h_28, h_38, if_true, if_false, Bool.false_eq_true, reduceIte, ite_self] <;> try rfl))
      · refine v_iconst (v := (-1)) G dX5_drift_19 (by decide) ?_
        exact v_iret G hQ dX5_drift_20 (vDet.of (by simp only [driftR, dsOk, dsOk2, bI, h_2, h_8, ck0, h_16, if_true, if_false, Bool.false_eq_true, reduceIte, ite_self] <;> try rfl) (by simp only [driftW, dsOk, dsOk2, h_2, h_8, ck0, h_16, if_true, if_false, Bool.false_eq_true, reduceIte, ite_self] <;> try rfl))
def imgP (k : Nat) : Nat := if k = 0 then 43 else 54
theorem imgP_TB {k : Nat} : TB (imgP k) := by unfold imgP; split <;> simp [TB]
theorem imgP_ne {k : Nat} : imgP k ≠ 21 := by unfold imgP; split <;> decide
theorem imgP_rf {k : Nat} (h : k ≤ 1) : vR8 k = some (imgP k) := by
  rcases (show k = 0 ∨ k = 1 by omega) with rfl | rfl <;> rfl
def keepR (σ : vW) (k : Int32) : Int32 := if upToB k (nI 1) = true then (if σ 9 k.toNatClampNeg = 0 then nI 0 else nI 1) else -1
def keepW (σ : vW) (k : Int32) : vW := if upToB k (nI 1) = true then vset (becW σ (imgP k.toNatClampNeg) 21) 9 k.toNatClampNeg (nI 1) else σ
set_option maxHeartbeats 4000000 in
theorem C_X5_keep {σ : vW} {k : Int32} : Ctr mX5_keep 2 [.ref 0, .int k] σ (vDet (some (.int (keepR σ k))) (keepW σ k)) := by
  have hT := TB21
  refine Ctr.intro (by decide) (fun α => Nat.le_of_ble_eq_true rfl) (fun x G hQ => ?_)
  have G : vG x RX5 cX5_keep 3 (some .int) 2 := G
  show V x 0 [some (.ref 0), some (.int k), none] [] σ
  refine v_iload_3_1 G dX5_keep_0 ?_
  refine v_iconst (v := nI 1) G dX5_keep_1 (by decide) ?_
  refine v_cS2 G (C_X5_isUpTo) (by decide) md_X5_isUpTo st_X5_isUpTo ml_X5_52 (Nat.le_of_ble_eq_true rfl) dX5_keep_2 ?_
  refine v_ifB_ne (tgt := 10) G dX5_keep_5 rfl (fun h_5 => ?_) (fun h_5 => ?_)
  · obtain ⟨j, hj, rfl⟩ := upToB_ex (by decide) h_5
    have cj : (nI j).toNatClampNeg = j := nI_clamp (by omega)
    refine v_aload_3_0 G dX5_keep_10 ?_
    refine v_getR G vc_5 lk_X5_37 (fs_X5_5) dX5_keep_11 ?_
    refine v_iload_3_1 G dX5_keep_14 ?_
    refine v_zaldN G (as_X5_5) (by first | assumption | omega | exact imgP_rf hj | exact imgP_TB) (by first | decide | omega) dX5_keep_15 ?_
    refine v_if_eq (tgt := 23) G dX5_keep_16 rfl (fun h_16 => ?_) (fun h_16 => ?_)
    · refine v_iconst (v := nI 0) G dX5_keep_23 (by decide) ?_
      refine v_istore_3_2 G dX5_keep_24 rfl ?_
      refine v_aload_3_0 G dX5_keep_25 ?_
      refine v_getR G vc_5 lk_X5_33 (fs_X5_4) dX5_keep_26 ?_
      refine v_iload_3_1 G dX5_keep_29 ?_
      refine v_aaldN G qs_X5_4 (by first | assumption | omega | exact imgP_rf hj | exact imgP_TB) (by first | decide | omega) (by first | assumption | omega | exact imgP_rf hj | exact imgP_TB) dX5_keep_30 ?_
      refine v_aload_3_0 G dX5_keep_31 ?_
      refine v_getR G vc_5 lk_X5_19 (fs_X5_1) dX5_keep_32 ?_
      refine v_cV1v G (C_X4_become imgP_TB hT imgP_ne.symm) (by decide) md_X4_become in_X4_become (rv_X4 (by first | assumption | exact imgP_TB | exact shP_SB) rfl) ml_X5_85 (Nat.le_of_ble_eq_true rfl) dX5_keep_35 ?_
      refine v_aload_3_0 G dX5_keep_38 ?_
      refine v_getR G vc_5 lk_X5_37 (fs_X5_5) dX5_keep_39 ?_
      refine v_iload_3_1 G dX5_keep_42 ?_
      refine v_iconst (v := nI 1) G dX5_keep_43 (by decide) ?_
      refine v_zastN G (as_X5_5) (by first | assumption | omega | exact imgP_rf hj | exact imgP_TB) (by first | decide | omega) (by first | exact Or.inl rfl | exact Or.inr rfl | exact bI_01 _ | assumption) dX5_keep_44 ?_
      refine v_iload_3_2 G dX5_keep_45 ?_
      exact v_iret G hQ dX5_keep_46 (vDet.of (by simp only [keepR, bI, h_5, cj, h_16, if_true, if_false, Bool.false_eq_true, reduceIte, ite_self] <;> try rfl) (by simp only [keepW, h_5, cj, h_16, if_true, if_false, Bool.false_eq_true, reduceIte, ite_self] <;> try rfl))
    · refine v_iconst (v := nI 1) G dX5_keep_19 (by decide) ?_
      refine v_goto (tgt := 24) G dX5_keep_20 rfl ?_
      refine v_istore_3_2 G dX5_keep_24 rfl ?_
      refine v_aload_3_0 G dX5_keep_25 ?_
      refine v_getR G vc_5 lk_X5_33 (fs_X5_4) dX5_keep_26 ?_
      refine v_iload_3_1 G dX5_keep_29 ?_
      refine v_aaldN G qs_X5_4 (by first | assumption | omega | exact imgP_rf hj | exact imgP_TB) (by first | decide | omega) (by first | assumption | omega | exact imgP_rf hj | exact imgP_TB) dX5_keep_30 ?_
      refine v_aload_3_0 G dX5_keep_31 ?_
      refine v_getR G vc_5 lk_X5_19 (fs_X5_1) dX5_keep_32 ?_
      refine v_cV1v G (C_X4_become imgP_TB hT imgP_ne.symm) (by decide) md_X4_become in_X4_become (rv_X4 (by first | assumption | exact imgP_TB | exact shP_SB) rfl) ml_X5_85 (Nat.le_of_ble_eq_true rfl) dX5_keep_35 ?_
      refine v_aload_3_0 G dX5_keep_38 ?_
      refine v_getR G vc_5 lk_X5_37 (fs_X5_5) dX5_keep_39 ?_
      refine v_iload_3_1 G dX5_keep_42 ?_
      refine v_iconst (v := nI 1) G dX5_keep_43 (by decide) ?_
      refine v_zastN G (as_X5_5) (by first | assumption | omega | exact imgP_rf hj | exact imgP_TB) (by first | decide | omega) (by first | exact Or.inl rfl | exact Or.inr rfl | exact bI_01 _ | assumption) dX5_keep_44 ?_
      refine v_iload_3_2 G dX5_keep_45 ?_
      exact v_iret G hQ dX5_keep_46 (vDet.of (by simp only [keepR, bI, h_5, cj, h_16, if_true, if_false, Bool.false_eq_true, reduceIte, ite_self] <;> try rfl) (by simp only [keepW, h_5, cj, h_16, if_true, if_false, Bool.false_eq_true, reduceIte, ite_self] <;> try rfl))
  · refine v_iconst (v := (-1)) G dX5_keep_8 (by decide) ?_
    exact v_iret G hQ dX5_keep_9 (vDet.of (by simp only [keepR, bI, h_5, if_true, if_false, Bool.false_eq_true, reduceIte, ite_self] <;> try rfl) (by simp only [keepW, h_5, if_true, if_false, Bool.false_eq_true, reduceIte, ite_self] <;> try rfl))
def backR (σ : vW) (k : Int32) (m : Nat) : Int32 := if upToB k (nI 1) = true then (if σ 9 k.toNatClampNeg = 0 then -2 else nI (bcN (hungTo (becW σ 21 (imgP k.toNatClampNeg)) 21 m))) else -1
def backW (σ : vW) (k : Int32) : vW := if upToB k (nI 1) = true then (if σ 9 k.toNatClampNeg = 0 then σ else becW σ 21 (imgP k.toNatClampNeg)) else σ
set_option maxHeartbeats 4000000 in
theorem C_X5_back {σ : vW} {k : Int32} {mi : Nat → Nat} (hm : ∀ j, j ≤ 1 → ¬ σ 9 j = 0 → σ (imgP j) 11 = nI (mi j) ∧ mi j ≤ 9) : Ctr mX5_back 2 [.ref 0, .int k] σ (vDet (some (.int (backR σ k (mi k.toNatClampNeg)))) (backW σ k)) := by
  have hT := TB21
  refine Ctr.intro (by decide) (fun α => Nat.le_of_ble_eq_true rfl) (fun x G hQ => ?_)
  have G : vG x RX5 cX5_back 2 (some .int) 2 := G
  show V x 0 [some (.ref 0), some (.int k)] [] σ
  refine v_iload_2_1 G dX5_back_0 ?_
  refine v_iconst (v := nI 1) G dX5_back_1 (by decide) ?_
  refine v_cS2 G (C_X5_isUpTo) (by decide) md_X5_isUpTo st_X5_isUpTo ml_X5_52 (Nat.le_of_ble_eq_true rfl) dX5_back_2 ?_
  refine v_ifB_ne (tgt := 10) G dX5_back_5 rfl (fun h_5 => ?_) (fun h_5 => ?_)
  · obtain ⟨j, hj, rfl⟩ := upToB_ex (by decide) h_5
    have cj : (nI j).toNatClampNeg = j := nI_clamp (by omega)
    refine v_aload_2_0 G dX5_back_10 ?_
    refine v_getR G vc_5 lk_X5_37 (fs_X5_5) dX5_back_11 ?_
    refine v_iload_2_1 G dX5_back_14 ?_
    refine v_zaldN G (as_X5_5) (by first | assumption | omega | exact imgP_rf hj | exact imgP_TB) (by first | decide | omega) dX5_back_15 ?_
    refine v_if_ne (tgt := 22) G dX5_back_16 rfl (fun h_16 => ?_) (fun h_16 => ?_)
    · refine v_aload_2_0 G dX5_back_22 ?_
      refine v_getR G vc_5 lk_X5_19 (fs_X5_1) dX5_back_23 ?_
      refine v_aload_2_0 G dX5_back_26 ?_
      refine v_getR G vc_5 lk_X5_33 (fs_X5_4) dX5_back_27 ?_
      refine v_iload_2_1 G dX5_back_30 ?_
      refine v_aaldN G qs_X5_4 (by first | assumption | omega | exact imgP_rf hj | exact imgP_TB) (by first | decide | omega) (by first | assumption | omega | exact imgP_rf hj | exact imgP_TB) dX5_back_31 ?_
      refine v_cV1v G (C_X4_become hT imgP_TB imgP_ne) (by decide) md_X4_become in_X4_become (rv_X4 (by first | assumption | exact imgP_TB | exact shP_SB) rfl) ml_X5_85 (Nat.le_of_ble_eq_true rfl) dX5_back_32 ?_
      refine v_aload_2_0 G dX5_back_35 ?_
      refine v_getR G vc_5 lk_X5_19 (fs_X5_1) dX5_back_36 ?_
      refine v_cV0 G (C_X4_hungWalls hT (by rw [becW_11]; exact (hm j hj h_16).1) (hm j hj h_16).2) (by decide) md_X4_hungWalls in_X4_hungWalls (rv_X4 (by first | assumption | exact imgP_TB | exact shP_SB) rfl) ml_X5_101 (Nat.le_of_ble_eq_true rfl) dX5_back_39 ?_
      refine v_cS1 G (C_bitCount) (by decide) md_J6_bitCount_0f7a4 st_J6_bitCount_0f7a4 ml_X5_105 (Nat.le_of_ble_eq_true rfl) dX5_back_42 ?_
      exact v_iret G hQ dX5_back_45 (vDet.of (by simp only [backR, bI, h_5, cj, h_16, if_true, if_false, Bool.false_eq_true, reduceIte, ite_self] <;> try rfl) (by simp only [backW, h_5, cj, h_16, if_true, if_false, Bool.false_eq_true, reduceIte, ite_self] <;> try rfl))
    · refine v_bipush (v := (-2)) G dX5_back_19 (by decide) ?_
      exact v_iret G hQ dX5_back_21 (vDet.of (by simp only [backR, bI, h_5, cj, h_16, if_true, if_false, Bool.false_eq_true, reduceIte, ite_self] <;> try rfl) (by simp only [backW, h_5, cj, h_16, if_true, if_false, Bool.false_eq_true, reduceIte, ite_self] <;> try rfl))
  · refine v_iconst (v := (-1)) G dX5_back_8 (by decide) ?_
    exact v_iret G hQ dX5_back_9 (vDet.of (by simp only [backR, bI, h_5, if_true, if_false, Bool.false_eq_true, reduceIte, ite_self] <;> try rfl) (by simp only [backW, h_5, if_true, if_false, Bool.false_eq_true, reduceIte, ite_self] <;> try rfl))
