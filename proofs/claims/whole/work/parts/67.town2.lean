/-! The pure part: changes that both sides make alike -/
section T2
variable {s s' : vW} {R R' : Nat → Int32} {t t' g g' n m K : Nat}
/-- copies: what both sides know of a town -/
theorem TP.mv (h : TP s R t g n m K) (h0 : ∀ j, 10 ≤ j → j ≤ 12 → s' t' j = s t j) (h5 : ∀ i j, 1 ≤ i → i ≤ 4 → j < 5 → s' (t' + i) j = s (t + i) j) (h9 : ∀ i j, 5 ≤ i → i ≤ 7 → j < 9 → s' (t' + i) j = s (t + i) j) (h8 : ∀ j, j < 8 → s' (t' + 8) j = s (t + 8) j) (h6 : ∀ i j, 9 ≤ i → i ≤ 10 → j < 6 → s' (t' + i) j = s (t + i) j) (hR : ∀ i, i < 65 → R' (g' + i) = R (g + i)) : TP s' R' t' g' n m K := by
  have n5 := h.n5
  have m9 := h.m9
  have K6 := h.K6
  have hd := h.door
  have r : ∀ c i, c + i < 65 → R' (g' + c + i) = R (g + c + i) := fun c i hi => by
    rw [Nat.add_assoc, Nat.add_assoc]
    exact hR _ hi
  refine ⟨⟨by rw [h0 10 (by omega) (by omega)]; exact h.hn, n5, by rw [h0 11 (by omega) (by omega)]; exact h.hm, m9, by rw [h0 12 (by omega) (by omega)]; exact h.hK, K6, by rw [hR 25 (by omega)]; exact h.gm, by rw [hR 52 (by omega)]; exact h.gK⟩, fun p hp => ⟨?_, ?_, ?_⟩, fun q hq => ?_, ⟨fun p hp => ?_, fun w hw => ?_, fun p w hp hw => ?_⟩, fun w hw => ⟨?_, ?_⟩, fun w hw => ?_, fun i hi => ?_, fun k hk => ?_⟩
  · rw [h5 1 p (by omega) (by omega) (by omega), hR p (by omega)]
    exact h.kind hp
  · rw [h5 2 p (by omega) (by omega) (by omega), r 5 p (by omega)]
    exact h.hous hp
  · rw [h5 3 p (by omega) (by omega) (by omega), r 10 p (by omega)]
    exact h.home hp
  · rw [r 10 q (by omega)]
    exact h.hom8 hq
  · rw [h5 4 p (by omega) (by omega) (by omega), r 15 p (by omega), r 20 p (by omega)]
    exact hd.1 p hp
  · rw [h9 7 w (by omega) (by omega) hw]
    rcases hd.2.1 w hw with q | ⟨p, hp, q1, q2⟩
    · exact Or.inl q
    · exact Or.inr ⟨p, hp, q1, by rw [h5 4 p (by omega) (by omega) (by omega)]; exact q2⟩
  · rw [h5 4 p (by omega) (by omega) (by omega), h9 7 w (by omega) (by omega) hw]
    exact hd.2.2 p w hp hw
  · rw [h9 5 w (by omega) (by omega) (by omega), r 26 w (by omega)]
    exact (h.wall hw).1
  · rw [h9 6 w (by omega) (by omega) (by omega), r 35 w (by omega)]
    exact (h.wall hw).2
  · rw [r 26 w (by omega), r 35 w (by omega)]
    exact h.wOK w hw
  · rw [h8 i hi, r 44 i (by omega)]
    exact h.wor9 hi
  · rw [h6 9 k (by omega) (by omega) (by omega), h6 10 k (by omega) (by omega) (by omega), r 53 k (by omega), r 59 k (by omega)]
    exact h.act hk
/-- changed doors -/
theorem TP.doors (h : TP s R t g n m K) (hs : ∀ i, i ≤ 10 → i ≠ 4 → i ≠ 7 → s' (t + i) = s (t + i)) (hR : ∀ i, i < 65 → ¬ (15 ≤ i ∧ i < 25) → R' (g + i) = R (g + i)) (hd : dOK s' R' t g n m) : TP s' R' t g n m K := by
  have n5 := h.n5
  have m9 := h.m9
  have K6 := h.K6
  have e0 : s' t = s t := hs 0 (by omega) (by omega) (by omega)
  have r : ∀ c i, c + i < 65 → ¬ (15 ≤ c + i ∧ c + i < 25) → R' (g + c + i) = R (g + c + i) := fun c i hi hn => by
    rw [Nat.add_assoc]
    exact hR _ hi hn
  refine ⟨⟨by rw [e0]; exact h.hn, n5, by rw [e0]; exact h.hm, m9, by rw [e0]; exact h.hK, K6, by rw [hR 25 (by omega) (by omega)]; exact h.gm, by rw [hR 52 (by omega) (by omega)]; exact h.gK⟩, fun p hp => ⟨?_, ?_, ?_⟩, fun q hq => ?_, hd, fun w hw => ⟨?_, ?_⟩, fun w hw => ?_, fun i hi => ?_, fun k hk => ?_⟩
  · rw [hs 1 (by omega) (by omega) (by omega), hR p (by omega) (by omega)]
    exact h.kind hp
  · rw [hs 2 (by omega) (by omega) (by omega), r 5 p (by omega) (by omega)]
    exact h.hous hp
  · rw [hs 3 (by omega) (by omega) (by omega), r 10 p (by omega) (by omega)]
    exact h.home hp
  · rw [r 10 q (by omega) (by omega)]
    exact h.hom8 hq
  · rw [hs 5 (by omega) (by omega) (by omega), r 26 w (by omega) (by omega)]
    exact (h.wall hw).1
  · rw [hs 6 (by omega) (by omega) (by omega), r 35 w (by omega) (by omega)]
    exact (h.wall hw).2
  · rw [r 26 w (by omega) (by omega), r 35 w (by omega) (by omega)]
    exact h.wOK w hw
  · rw [hs 8 (by omega) (by omega) (by omega), r 44 i (by omega) (by omega)]
    exact h.wor9 hi
  · rw [hs 9 (by omega) (by omega) (by omega), hs 10 (by omega) (by omega) (by omega), r 53 k (by omega) (by omega), r 59 k (by omega) (by omega)]
    exact h.act hk
theorem TP.one (h : TP s R t g n m K) {a : Int32} : oneB (s t 10) a = inZ a n := by rw [h.hn, oneB_inZ h.n5]
theorem TP.wal (h : TP s R t g n m K) {a : Int32} : wallB (s t 11) a = inZ a m := by rw [h.hm, wallB_inZ h.m9]
/-- free: both sides -/
theorem TP.free (h : TP s R t g n m K) {p : Nat} (hp : p < n) : s (t + 4) p = -1 ↔ mFree R g p = true := by
  have n5 := h.n5
  have m9 := h.m9
  have z0 : nI 0 = 0 := rfl
  have z1 : ¬ nI 1 = 0 := by decide
  have z2 : ¬ (-2 : Int32) = -1 := by decide
  unfold mFree
  rcases h.door.1 p hp with ⟨a, b, c⟩ | ⟨a, b, c⟩ | ⟨v, hv, a, b, c⟩
  · rw [a, b, c, if_pos z0, if_pos z0]
    exact ⟨fun _ => rfl, fun _ => rfl⟩
  · rw [a, b, c, if_pos z0, if_neg z1]
    exact ⟨fun q => absurd q z2, fun q => absurd q Bool.false_ne_true⟩
  · rw [a, b, if_neg (show ¬ nI (v + 1) = 0 from fun q => by have := nI_eqN (b := 0) (by omega) (by omega) q; omega)]
    exact ⟨fun q => absurd q (nI_nm1 (by omega)), fun q => absurd q Bool.false_ne_true⟩
theorem TP.none (h : TP s R t g n m K) {w : Nat} (hw : w < 9) : s (t + 7) w = -1 ↔ mDoor R n g (nI w) = -4 := by
  have n5 := h.n5
  rcases dOK_door h.door h.m9 n5 hw with ⟨a, b⟩ | ⟨p, hp, a, b⟩
  · rw [a, b]
    exact ⟨fun _ => rfl, fun _ => rfl⟩
  · rw [a, b]
    exact ⟨fun q => absurd q (nI_nm1 (by omega)), fun q => absurd q (nI_nm4 (by omega))⟩
theorem TP.can (h : TP s R t g n m K) {p w : Nat} (hp : p < n) (hw : w < m) : canB s t (nI p) (nI w) = mCan R n g p (nI w) := by
  have n5 := h.n5
  have m9 := h.m9
  have e1 := h.free hp
  have e2 := h.none (w := w) (by omega)
  rw [canB, h.one, h.wal, inZ_nI (by omega), inZ_nI (by omega), decide_eq_true hp, decide_eq_true hw, if_pos rfl, if_pos rfl, nI_clamp (by omega), nI_clamp (by omega), mCan]
  by_cases q1 : s (t + 4) p = -1
  · rw [if_pos q1, if_pos (e1.mp q1)]
    by_cases q2 : s (t + 7) w = -1
    · rw [if_pos q2, if_pos (e2.mp q2)]
    · rw [if_neg q2, if_neg (fun q => q2 (e2.mpr q))]
  · rw [if_neg q1, if_neg (fun q => q1 (e1.mpr q))]
theorem TP.canN (h : TP s R t g n m K) {a b : Int32} (hc : canB s t a b = true) : ∃ p w, p < n ∧ w < m ∧ a = nI p ∧ b = nI w := by
  unfold canB at hc
  split at hc
  · rename_i h1
    split at hc
    · rename_i h2
      obtain ⟨p, hp, rfl⟩ := oneB_ex h.hn h.n5 h1
      obtain ⟨w, hw, rfl⟩ := wallB_ex h.hm h.m9 h2
      exact ⟨p, w, hp, hw, rfl, rfl⟩
    · exact absurd hc Bool.false_ne_true
  · exact absurd hc Bool.false_ne_true
def hgR (R : Nat → Int32) (n g p : Nat) (w : Int32) : Nat → Int32 := if mCan R n g p w = true then upd R (g + 15 + p) (w + nI 1) else R
theorem mHgW_76 {u : vW} {p : Nat} {w : Int32} : (mHgW u n g p w) 76 = hgR (u 76) n g p w := by
  unfold mHgW hgR
  split
  · rw [vset_row, vrow_at]
  · rfl
theorem canB_own {p w : Nat} (hp : p < 5) (hw : w < 9) (h : canB s t (nI p) (nI w) = true) : s (t + 4) p = -1 ∧ s (t + 7) w = -1 := by
  unfold canB at h
  rw [nI_clamp (by omega), nI_clamp (by omega)] at h
  split at h
  · split at h
    · split at h
      · split at h
        · exact ⟨by assumption, by assumption⟩
        · exact absurd h Bool.false_ne_true
      · exact absurd h Bool.false_ne_true
    · exact absurd h Bool.false_ne_true
  · exact absurd h Bool.false_ne_true
theorem m2_nI {v : Nat} (hv : v < 100) : ¬ (-2 : Int32) = nI v := fun q => by
  have h2 := congrArg Int32.toInt q
  rw [nI_toInt (by omega)] at h2
  have h3 : ((-2 : Int32)).toInt = -2 := by decide
  omega
/-- a door hung -/
theorem TP.hang (h : TP s R t g n m K) {p w : Nat} (hp : p < n) (hw : w < m) (hc : canB s t (nI p) (nI w) = true) : TP (hangW s t (nI p) (nI w)) (hgR R n g p (nI w)) t g n m K := by
  have n5 := h.n5
  have m9 := h.m9
  have hd := h.door
  obtain ⟨c1, c2⟩ := canB_own (by omega) (by omega) hc
  have a4 : ∀ i, (hangW s t (nI p) (nI w)) (t + 4) i = if i = p then nI w else s (t + 4) i := fun i => by
    rw [hangW, vset_ne (by omega), nI_clamp (by omega), vset_row, vrow_at]
    rfl
  have a7 : ∀ i, (hangW s t (nI p) (nI w)) (t + 7) i = if i = w then nI p else s (t + 7) i := fun i => by
    rw [hangW, vset_row, vrow_at, nI_clamp (by omega), nI_clamp (by omega), vset_ne (by omega)]
    rfl
  have hR : hgR R n g p (nI w) = upd R (g + 15 + p) (nI w + nI 1) := by rw [hgR, if_pos (by rw [← h.can hp hw]; exact hc)]
  rw [hR]
  refine h.doors (fun i hi h4 h7 => hangW_ne (by omega) (by omega)) (fun i hi hn => upd_ne (by omega)) ⟨fun p' hp' => ?_, fun w' hw' => ?_, fun p' w' hp' hw' => ?_⟩
  · rw [a4]
    by_cases e : p' = p
    · subst e
      rw [if_pos rfl, upd_at, upd_ne (by omega)]
      refine Or.inr (Or.inr ⟨w, hw, rfl, nI_add _ _, ?_⟩)
      rcases hd.1 p' hp with ⟨_, _, q⟩ | ⟨q, _, _⟩ | ⟨v, hv, q, _⟩
      · exact q
      · rw [c1] at q
        exact absurd q (by decide)
      · rw [c1] at q
        exact absurd q.symm (nI_nm1 (by omega))
    · rw [if_neg e, upd_ne (by omega), upd_ne (by omega)]
      exact hd.1 p' hp'
  · rw [a7]
    by_cases e : w' = w
    · subst e
      rw [if_pos rfl]
      exact Or.inr ⟨p, hp, rfl, by rw [a4, if_pos rfl]⟩
    · rw [if_neg e]
      rcases hd.2.1 w' hw' with q | ⟨p', hp', q1, q2⟩
      · exact Or.inl q
      · refine Or.inr ⟨p', hp', q1, ?_⟩
        rw [a4, if_neg (fun z => by rw [z, c1] at q2; exact nI_nm1 (by omega) q2.symm)]
        exact q2
  · rw [a4, a7]
    by_cases e : p' = p
    · subst e
      rw [if_pos rfl]
      intro q
      rw [if_pos (nI_eqN (by omega) (by omega) q).symm]
    · rw [if_neg e]
      intro q
      have q2 := hd.2.2 p' w' hp' hw' q
      rw [if_neg (fun z => by rw [z, c2] at q2; exact nI_nm1 (by omega) q2.symm)]
      exact q2
/-- a door taken away: for good (-2), or not (-1) -/
theorem takeW_0 {w : Nat} {th : Int32} (h : TP s R t g n m K) (hw : w < m) (h0 : s (t + 7) w = -1) : takeW s t (nI w) th = s := by
  have m9 := h.m9
  rw [takeW, takeO, h.wal, inZ_nI (by omega), decide_eq_true hw, if_pos rfl, nI_clamp (by omega), h0, oneB_neg1, if_neg Bool.false_ne_true]
theorem takeR_eq {w : Nat} (h : TP s R t g n m K) (hw : w < m) : (s (t + 7) w = -1 ∧ takeR s t (nI w) = -1) ∨ ∃ o, o < n ∧ s (t + 7) w = nI o ∧ takeR s t (nI w) = nI o := by
  have m9 := h.m9
  have n5 := h.n5
  rw [takeR, takeO, h.wal, inZ_nI (by omega), decide_eq_true hw, if_pos rfl, nI_clamp (by omega)]
  rcases h.door.2.1 w (by omega) with q | ⟨o, ho, q, _⟩
  · exact Or.inl ⟨q, by rw [q, oneB_neg1, if_neg Bool.false_ne_true]⟩
  · exact Or.inr ⟨o, ho, q, by rw [q, h.one, inZ_nI (by omega), decide_eq_true ho, if_pos rfl]⟩
def tkR (R : Nat → Int32) (g o : Nat) (v : Int32) : Nat → Int32 := upd (upd R (g + 15 + o) (nI 0)) (g + 20 + o) v
theorem TP.take {w o : Nat} {th v : Int32} (h : TP s R t g n m K) (hw : w < m) (ho : o < n) (h7 : s (t + 7) w = nI o) (hv : (th = -1 ∧ v = nI 0) ∨ (th = -2 ∧ v = nI 1)) : TP (takeW s t (nI w) th) (tkR R g o v) t g n m K := by
  have n5 := h.n5
  have m9 := h.m9
  have hd := h.door
  have h4 : s (t + 4) o = nI w := by
    rcases hd.2.1 w (by omega) with q | ⟨o', ho', q1, q2⟩
    · rw [h7] at q
      exact absurd q (nI_nm1 (by omega))
    · rw [h7] at q1
      rw [nI_eqN (by omega) (by omega) q1]
      exact q2
  have hW : takeW s t (nI w) th = vset (vset s (t + 7) w (-1)) (t + 4) o th := by
    rw [takeW, takeO, h.wal, inZ_nI (by omega), decide_eq_true hw, if_pos rfl, nI_clamp (by omega), h7, h.one, inZ_nI (by omega), decide_eq_true ho, if_pos rfl, nI_clamp (by omega)]
  have a4 : ∀ i, (takeW s t (nI w) th) (t + 4) i = if i = o then th else s (t + 4) i := fun i => by
    rw [hW, vset_row, vrow_at, vset_ne (by omega)]
    rfl
  have a7 : ∀ i, (takeW s t (nI w) th) (t + 7) i = if i = w then -1 else s (t + 7) i := fun i => by
    rw [hW, vset_ne (by omega), vset_row, vrow_at]
    rfl
  have r15 : ∀ i, i < 5 → tkR R g o v (g + 15 + i) = if i = o then nI 0 else R (g + 15 + i) := fun i hi => by
    rw [tkR, upd_ne (by omega)]
    by_cases e : i = o
    · rw [e, upd_at, if_pos rfl]
    · rw [upd_ne (by omega), if_neg e]
  have r20 : ∀ i, i < 5 → tkR R g o v (g + 20 + i) = if i = o then v else R (g + 20 + i) := fun i hi => by
    rw [tkR]
    by_cases e : i = o
    · rw [e, upd_at, if_pos rfl]
    · rw [upd_ne (by omega), upd_ne (by omega), if_neg e]
  have hth : ∀ x, x < 100 → ¬ th = nI x := fun x hx => by
    rcases hv with ⟨q, _⟩ | ⟨q, _⟩
    · rw [q]
      exact fun z => nI_nm1 (by omega) z.symm
    · rw [q]
      exact m2_nI hx
  refine h.doors (fun i hi h4 h7 => takeW_ne (by omega) (by omega)) (fun i hi hn => by rw [tkR, upd_ne (by omega), upd_ne (by omega)]) ⟨fun p' hp' => ?_, fun w' hw' => ?_, fun p' w' hp' hw' => ?_⟩
  · rw [a4, r15 _ (by omega), r20 _ (by omega)]
    by_cases e : p' = o
    · rw [if_pos e, if_pos e, if_pos e]
      rcases hv with ⟨q1, q2⟩ | ⟨q1, q2⟩
      · exact Or.inl ⟨q1, rfl, q2⟩
      · exact Or.inr (Or.inl ⟨q1, rfl, q2⟩)
    · rw [if_neg e, if_neg e, if_neg e]
      exact hd.1 p' hp'
  · rw [a7]
    by_cases e : w' = w
    · rw [if_pos e]
      exact Or.inl rfl
    · rw [if_neg e]
      rcases hd.2.1 w' hw' with q | ⟨p', hp', q1, q2⟩
      · exact Or.inl q
      · refine Or.inr ⟨p', hp', q1, ?_⟩
        rw [a4, if_neg (fun z => by rw [z, h4] at q2; exact e (nI_eqN (by omega) (by omega) q2).symm)]
        exact q2
  · rw [a4, a7]
    by_cases e : p' = o
    · rw [if_pos e]
      exact fun q => absurd q (hth w' (by omega))
    · rw [if_neg e]
      intro q
      have q2 := hd.2.2 p' w' hp' hw' q
      rw [if_neg (fun z => by rw [z, h7] at q2; exact e (nI_eqN (by omega) (by omega) q2).symm)]
      exact q2
end T2
/-- a town copied -/
theorem becW_1 {σ : vW} {t o i : Nat} (hto : o + 10 < t ∨ t + 10 < o) (h1 : 1 ≤ i) (h2 : i ≤ 10) : ∃ N, (becW σ t o) (t + i) = va_cpy (σ (o + i)) (σ (t + i)) 0 0 N ∧ N = (if i ≤ 4 then 5 else if i ≤ 7 then 9 else if i = 8 then 8 else 6) := by
  unfold becW
  rcases (show i = 1 ∨ i = 2 ∨ i = 3 ∨ i = 4 ∨ i = 5 ∨ i = 6 ∨ i = 7 ∨ i = 8 ∨ i = 9 ∨ i = 10 by omega) with rfl | rfl | rfl | rfl | rfl | rfl | rfl | rfl | rfl | rfl
  all_goals first
    | (refine ⟨_, ?_, rfl⟩; (repeat rw [cpy5_ne (by omega)]); rw [cpy5_at]; (repeat rw [cpy5_ne (by omega)]); (repeat rw [vset_ne (by omega)]); rfl)
theorem becW_c {σ : vW} {t o i j : Nat} (hto : o + 10 < t ∨ t + 10 < o) (h1 : 1 ≤ i) (h2 : i ≤ 10) (hj : j < (if i ≤ 4 then 5 else if i ≤ 7 then 9 else if i = 8 then 8 else 6)) : (becW σ t o) (t + i) j = σ (o + i) j := by
  obtain ⟨N, e, eN⟩ := becW_1 (σ := σ) hto h1 h2
  rw [e, va_cpy0 (by omega)]
theorem TP.copy {s : vW} {R R' : Nat → Int32} {t o g g' n m K : Nat} (h : TP s R o g n m K) (hto : o + 10 < t ∨ t + 10 < o) (hR : ∀ i, i < 65 → R' (g' + i) = R (g + i)) : TP (becW s t o) R' t g' n m K := by
  refine h.mv (fun j h1 h2 => ?_) (fun i j h1 h2 hj => ?_) (fun i j h1 h2 hj => ?_) (fun j hj => ?_) (fun i j h1 h2 hj => ?_) hR
  · rcases (show j = 10 ∨ j = 11 ∨ j = 12 by omega) with rfl | rfl | rfl
    · exact becW_10
    · exact becW_11
    · exact becW_12
  · exact becW_c hto h1 (by omega) (by rw [if_pos h2]; exact hj)
  · exact becW_c hto (by omega) (by omega) (by rw [if_neg (by omega), if_pos h2]; exact hj)
  · exact becW_c hto (by omega) (by omega) (by rw [if_neg (by omega), if_neg (by omega), if_pos rfl]; exact hj)
  · exact becW_c hto (by omega) (by omega) (by rw [if_neg (by omega), if_neg (by omega), if_neg (by omega)]; exact hj)
