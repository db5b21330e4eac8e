/-! The pure part: a door put elsewhere; walls, whom to watch next -/
section MO
variable {a b s : vW} {R R' : Nat → Int32} {t g n m K k l : Nat}
/-- one's door taken off -/
theorem mv1_TP (h : TP s R t g n m K) {p : Nat} (hp : p < n) : TP (mv1 s t (nI p)) (tkR R g p (nI 0)) t g n m K ∧ ∀ w, w < m → (mv1 s t (nI p)) (t + 7) w = if s (t + 7) w = nI p then -1 else s (t + 7) w := by
  have n5 := h.n5
  have m9 := h.m9
  have hd := h.door
  have hw0 : ∀ x : Int32, (x = -1 ∨ x = -2) → takeW s t x (-1) = s := fun x hx => by
    have : wallB (s t 11) x = false := by
      unfold wallB
      rw [if_pos (by rcases hx with z | z <;> rw [z] <;> decide)]
    rw [takeW, takeO, this, if_neg Bool.false_ne_true, oneB_neg1, if_neg Bool.false_ne_true]
  have hown : ∀ w, w < m → (s (t + 7) w = nI p ↔ s (t + 4) p = nI w) := fun w hw => by
    constructor
    · intro z
      rcases hd.2.1 w (by omega) with q | ⟨o, ho, q1, q2⟩
      · rw [z] at q
        exact absurd q (nI_nm1 (by omega))
      · rw [z] at q1
        rw [nI_eqN (by omega) (by omega) q1]
        exact q2
    · exact fun z => hd.2.2 p w hp (by omega) z
  have hnone : (s (t + 4) p = -1 ∨ s (t + 4) p = -2) → TP (vset s (t + 4) p (-1)) (tkR R g p (nI 0)) t g n m K ∧ ∀ w, w < m → (vset s (t + 4) p (-1)) (t + 7) w = if s (t + 7) w = nI p then -1 else s (t + 7) w := by
    intro hx
    have a4 : ∀ i, (vset s (t + 4) p (-1)) (t + 4) i = if i = p then -1 else s (t + 4) i := fun i => by
      rw [vset_row, vrow_at]
      rfl
    have hno : ∀ w, w < 100 → ¬ s (t + 4) p = nI w := fun w hw z => by
      rcases hx with q | q
      · rw [q] at z
        exact nI_nm1 (by omega) z.symm
      · rw [q] at z
        exact m2_nI hw z
    have h15 : R (g + 15 + p) = nI 0 := by
      rcases hd.1 p hp with ⟨_, z, _⟩ | ⟨_, z, _⟩ | ⟨v, hv, z, _⟩
      · exact z
      · exact z
      · exact absurd z (hno v (by omega))
    have r15 : ∀ i, i < 5 → tkR R g p (nI 0) (g + 15 + i) = R (g + 15 + i) := fun i hi => by
      rw [tkR, upd_ne (by omega)]
      by_cases e : i = p
      · rw [e, upd_at, h15]
      · rw [upd_ne (by omega)]
    have r20 : ∀ i, i < 5 → tkR R g p (nI 0) (g + 20 + i) = if i = p then nI 0 else R (g + 20 + i) := fun i hi => by
      rw [tkR]
      by_cases e : i = p
      · rw [e, upd_at, if_pos rfl]
      · rw [upd_ne (by omega), upd_ne (by omega), if_neg e]
    refine ⟨h.doors (fun i _ h4 _ => vset_ne (by omega)) (fun i hi hn => by rw [tkR, upd_ne (by omega), upd_ne (by omega)]) ⟨fun i hi => ?_, fun w hw => ?_, fun i w hi hw => ?_⟩, fun w hw => ?_⟩
    · rw [a4, r15 i (by omega), r20 i (by omega)]
      by_cases e : i = p
      · rw [if_pos e, if_pos e, e]
        exact Or.inl ⟨rfl, h15, rfl⟩
      · rw [if_neg e, if_neg e]
        exact hd.1 i hi
    · rw [vset_ne (by omega)]
      rcases hd.2.1 w hw with q | ⟨o, ho, q1, q2⟩
      · exact Or.inl q
      · refine Or.inr ⟨o, ho, q1, ?_⟩
        rw [a4, if_neg (fun z => by rw [z] at q2; exact hno w (by omega) q2)]
        exact q2
    · rw [a4, vset_ne (by omega)]
      by_cases e : i = p
      · rw [if_pos e]
        exact fun z => absurd z.symm (nI_nm1 (by omega))
      · rw [if_neg e]
        exact hd.2.2 i w hi hw
    · rw [vset_ne (by omega), if_neg (fun z => hno w (by omega) ((hown w hw).mp z))]
  rw [mv1, nI_clamp (by omega)]
  rcases hd.1 p hp with ⟨z, _⟩ | ⟨z, _⟩ | ⟨v, hv, z, _⟩
  · rw [hw0 _ (Or.inl z)]
    exact hnone (Or.inl z)
  · rw [hw0 _ (Or.inr z)]
    exact hnone (Or.inr z)
  · have h7 := hd.2.2 p v hp (by omega) z
    have hT := h.take (v := nI 0) (th := -1) hv hp h7 (Or.inl ⟨rfl, rfl⟩)
    rw [z]
    have hW : takeW s t (nI v) (-1) = vset (vset s (t + 7) v (-1)) (t + 4) p (-1) := by
      rw [takeW, takeO, h.wal, inZ_nI (by omega), decide_eq_true hv, if_pos rfl, nI_clamp (by omega), h7, h.one, inZ_nI (by omega), decide_eq_true hp, if_pos rfl, nI_clamp (by omega)]
    have e : vset (takeW s t (nI v) (-1)) (t + 4) p (-1) = takeW s t (nI v) (-1) := by rw [hW, vset_same2]
    rw [e]
    refine ⟨hT, fun w hw => ?_⟩
    rw [hW, vset_ne (by omega), vset_row, vrow_at]
    by_cases ew : w = v
    · rw [ew, upd_at, if_pos h7]
    · rw [upd_ne ew, if_neg (fun q => ew (nI_eqN (by omega) (by omega) ((hown w hw).mp q |>.symm.trans z)))]
/-- a move: both sides -/
theorem mv_TP (h : TP s R t g n m K) {p w : Nat} (hp : p < n) (hw : w < m) : (mvB s t (nI p) (nI w) = true ↔ s (t + 7) w = -1 ∨ s (t + 7) w = nI p) ∧ (mvB s t (nI p) (nI w) = true → TP (mvW s t (nI p) (nI w)) (upd (tkR R g p (nI 0)) (g + 15 + p) (nI (w + 1))) t g n m K) ∧ (¬ mvB s t (nI p) (nI w) = true → mvW s t (nI p) (nI w) = s) := by
  have n5 := h.n5
  have m9 := h.m9
  obtain ⟨hT, ho⟩ := mv1_TP h hp
  have z0 : nI 0 = 0 := rfl
  have hfree : mFree (tkR R g p (nI 0)) g p = true := by
    have e1 : tkR R g p (nI 0) (g + 15 + p) = 0 := by rw [tkR, upd_ne (by omega), upd_at]; rfl
    have e2 : tkR R g p (nI 0) (g + 20 + p) = 0 := by rw [tkR, upd_at]; rfl
    rw [mFree, if_pos e1, if_pos e2]
  have hcan : (s (t + 7) w = -1 ∨ s (t + 7) w = nI p) → canB (mv1 s t (nI p)) t (nI p) (nI w) = true := fun hx => by
    have e1 : (mv1 s t (nI p)) (t + 7) w = -1 := by
      rw [ho w hw]
      rcases hx with z | z
      · rw [z]
        exact ite_self _
      · rw [if_pos z]
    have e2 := (hT.none (w := w) (by omega)).mp e1
    rw [hT.can hp hw, mCan, if_pos hfree, if_pos e2]
  have hB : mvB s t (nI p) (nI w) = true ↔ s (t + 7) w = -1 ∨ s (t + 7) w = nI p := by
    rw [mvB, h.one, h.wal, inZ_nI (by omega), inZ_nI (by omega), decide_eq_true hp, decide_eq_true hw, if_pos rfl, if_pos rfl, nI_clamp (by omega)]
    by_cases e1 : s (t + 7) w = -1
    · rw [if_pos e1]
      exact ⟨fun _ => Or.inl e1, fun q => hcan q⟩
    · rw [if_neg e1]
      by_cases e2 : s (t + 7) w = nI p
      · rw [if_pos e2]
        exact ⟨fun _ => Or.inr e2, fun q => hcan q⟩
      · rw [if_neg e2]
        exact ⟨fun q => absurd q Bool.false_ne_true, fun q => absurd q (by rintro (z | z) <;> contradiction)⟩
  have hOk : mvOk s t (nI p) (nI w) = true ↔ s (t + 7) w = -1 ∨ s (t + 7) w = nI p := by
    rw [mvOk, h.one, h.wal, inZ_nI (by omega), inZ_nI (by omega), decide_eq_true hp, decide_eq_true hw, if_pos rfl, if_pos rfl, nI_clamp (by omega)]
    by_cases e1 : s (t + 7) w = -1
    · rw [if_pos e1]
      exact ⟨fun _ => Or.inl e1, fun _ => rfl⟩
    · rw [if_neg e1]
      by_cases e2 : s (t + 7) w = nI p
      · rw [if_pos e2]
        exact ⟨fun _ => Or.inr e2, fun _ => rfl⟩
      · rw [if_neg e2]
        exact ⟨fun q => absurd q Bool.false_ne_true, fun q => absurd q (by rintro (z | z) <;> contradiction)⟩
  refine ⟨hB, fun q => ?_, fun q => ?_⟩
  · have q2 := hB.mp q
    have hc := hcan q2
    have hH := hT.hang hp hw hc
    rw [mvW, if_pos (hOk.mpr q2), if_pos hc]
    rw [hgR, if_pos (by rw [← hT.can hp hw]; exact hc), nI_add] at hH
    exact hH
  · rw [mvW, if_neg (fun z => q (hB.mpr (hOk.mp z)))]
/-- the page with one's door off -/
def offR (R : Nat → Int32) (g p : Nat) : Nat → Int32 := tkR R g p (nI 0)
theorem offR_off {p : Nat} {v : Int32} : offR (upd (offR R g p) (g + 15 + p) v) g p = offR R g p := by
  funext i
  show tkR (upd (tkR R g p (nI 0)) (g + 15 + p) v) g p (nI 0) i = tkR R g p (nI 0) i
  unfold tkR
  by_cases e1 : i = g + 20 + p
  · rw [e1, upd_at, upd_at]
  · rw [upd_ne e1, upd_ne e1]
    by_cases e2 : i = g + 15 + p
    · rw [e2, upd_at, upd_at]
    · rw [upd_ne e2, upd_ne e2, upd_ne e2, upd_ne e1, upd_ne e2]
/-- a trial town in which one's door hangs anywhere -/
def anyP (s : vW) (R : Nat → Int32) (t g n m K p : Nat) : Prop := ∃ R', TP s R' t g n m K ∧ offR R' g p = R
theorem any_mv {p w : Nat} (h : anyP s (offR R g p) t g n m K p) (hp : p < n) (hw : w < m) : anyP (mvW s t (nI p) (nI w)) (offR R g p) t g n m K p ∧ (mvB s t (nI p) (nI w) = true ↔ mDoor (offR R g p) n g (nI w) = -4) ∧ (mvB s t (nI p) (nI w) = true → TP (mvW s t (nI p) (nI w)) (upd (offR R g p) (g + 15 + p) (nI (w + 1))) t g n m K) := by
  obtain ⟨R', hT, hR⟩ := h
  have n5 := hT.n5
  have m9 := hT.m9
  obtain ⟨h1, h2, h3⟩ := mv_TP hT hp hw
  obtain ⟨hO, ho⟩ := mv1_TP hT hp
  have hx : tkR R' g p (nI 0) = offR R g p := hR
  rw [hx] at h2 hO
  have hB : mvB s t (nI p) (nI w) = true ↔ mDoor (offR R g p) n g (nI w) = -4 := by
    rw [h1, ← hO.none (w := w) (by omega), ho w hw]
    by_cases e : s (t + 7) w = nI p
    · rw [if_pos e]
      exact ⟨fun _ => rfl, fun _ => Or.inr e⟩
    · rw [if_neg e]
      exact ⟨fun z => z.elim (fun y => y) (fun y => absurd y e), fun z => Or.inl z⟩
  refine ⟨?_, hB, h2⟩
  by_cases q : mvB s t (nI p) (nI w) = true
  · exact ⟨_, h2 q, offR_off⟩
  · rw [h3 q]
    exact ⟨R', hT, hR⟩
theorem any_0 (h : TP a (b 76) 21 0 n m K) {c : vW} (hc : ∀ r, 21 ≤ r → r ≤ 31 → c r = a r) (p : Nat) : anyP (becW c 32 21) (offR ((cpW b 0 260) 76) 260 p) 32 260 n m K p := by
  have h2 : TP c (b 76) 21 0 n m K := h.mv0 hc (fun _ _ _ => rfl)
  exact ⟨_, h2.tri, rfl⟩
/-- walls one's door may hang in: both sides -/
theorem alw_eq (h : TP a (b 76) 21 0 n m K) {p w : Nat} (hp : p < n) (hw : w < m) : alw b n p w = true ↔ mDoor (offR ((cpW b 0 260) 76) 260 p) n 260 (nI w) = -4 := by
  have n5 := h.n5
  have m9 := h.m9
  obtain ⟨hO, ho⟩ := mv1_TP h.tri hp
  have e7 : (becW a 32 21) (32 + 7) w = a (21 + 7) w := becW_c (by omega) (by omega) (by omega) (by show w < 9; omega)
  rw [offR, ← hO.none (w := w) (by omega), ho w hw, e7, alw]
  rcases dOK_door h.door m9 n5 (w := w) (by omega) with ⟨e1, e2⟩ | ⟨o, hoo, e1, e2⟩
  · rw [e1, e2, if_pos rfl]
    exact ⟨fun _ => ite_self _, fun _ => rfl⟩
  · rw [e1, e2, if_neg (nI_nm4 (by omega))]
    by_cases e : nI o = nI p
    · rw [if_pos e, if_pos e]
      exact ⟨fun _ => rfl, fun _ => rfl⟩
    · rw [if_neg e, if_neg e]
      exact ⟨fun z => absurd z Bool.false_ne_true, fun z => absurd z (nI_nm1 (by omega))⟩
/-- the model's page of the move tells the same ways -/
theorem woT_reach (h : TP s (upd (offR ((cpW b 0 260) 76) 260 k) (260 + 15 + k) (nI (l + 1))) t 260 n m K) {q : Nat} (hq : q < 5) (hk : k < 5) : mReachQ (woT b k l) n (nI 0) 260 m q = mReachQ (upd (offR ((cpW b 0 260) 76) 260 k) (260 + 15 + k) (nI (l + 1))) n (nI 0) 260 m q := by
  refine reach_ext h.n5 h.m9 hq h.wOK (h.hom8 hq) (Or.inr trivial) (fun i hi hn => ?_)
  rw [woT]
  by_cases e : 260 + i = 275 + k
  · rw [e, upd_at, show 275 + k = 260 + 15 + k by omega, upd_at]
  · rw [upd_ne e, upd_ne (by omega), offR, tkR, upd_ne (by omega), upd_ne (by omega)]
theorem asG_ext {R R' E : Nat → Int32} {J : Int32} (h : ∀ q, q < 5 → mReachQ R' n J g m q = mReachQ R n J g m q) : ∀ i, (∀ j, j < i → ∃ p, p < 5 ∧ E (3 * j) = nI p) → asG R' n J m g E i = asG R n J m g E i
  | 0, _ => rfl
  | i + 1, hE => by
    obtain ⟨p, hp, e⟩ := hE i (by omega)
    rw [asG, asG, asG_ext h i (fun j hj => hE j (by omega)), e, nI_clamp (by omega), h p hp]
theorem mvs_any (h : TP a (b 76) 21 0 n m K) {p : Nat} (hp : p < n) : ∀ i, i ≤ m → anyP (mvs a p i) (offR ((cpW b 0 260) 76) 260 p) 32 260 n m K p
  | 0, _ => any_0 h (fun _ _ _ => rfl) p
  | i + 1, hi => (any_mv (mvs_any h hp i (by omega)) hp (by omega)).1
theorem ws_eq (h : Rel a b n m K k l) {p : Nat} (hp : p < n) : ∀ i, i ≤ m → wsB a m k p i = woM b n m k p i
  | 0, _ => rfl
  | i + 1, hi => by
    have hT := h.1.1
    have n5 := hT.n5
    obtain ⟨_, m2, m3⟩ := any_mv (mvs_any hT hp i (by omega)) hp (show i < m by omega)
    have ha := alw_eq hT hp (show i < m by omega)
    rw [wsB, woM, ws_eq h hp i (by omega), h.1.2.2]
    by_cases q : mvB (mvs a p i) 32 (nI p) (nI i) = true
    · rw [if_pos q, if_pos (ha.mpr (m2.mp q))]
      have hT2 := m3 q
      have hh := hold_eq hT2 (a := a) (u := b) (k := k) (by rw [mvW_ne (by decide) (by decide), mvs_ne (by decide) (by decide), becW_ne (by decide)]) (by rw [mvW_ne (by decide) (by decide), mvs_ne (by decide) (by decide), becW_ne (by decide)]) (by rw [mvW_ne (by decide) (by decide), mvs_ne (by decide) (by decide), becW_ne (by decide)]) h.2.1
      have hx := asG_ext (g := 260) (m := m) (n := n) (J := nI 0) (E := b 82) (fun q hq => woT_reach hT2 hq (by omega)) k (fun j hj => by
        obtain ⟨p', r, hp', hr, e1, e2, e3, e4, e5, e6⟩ := h.2.1.2.2.2 j hj
        exact ⟨p', by omega, e4⟩)
      rw [hx, ← hh]
      show (if holdB (mvs a p (i + 1)) 32 m k = true then _ else _) = _ ||| if holdB (mvs a p (i + 1)) 32 m k = true then _ else _
      split
      · rfl
      · rw [or_0]
    · rw [if_neg q, if_neg (fun z => q (m2.mpr (ha.mp z)))]
theorem walls_eq (h : Rel a b n m K k l) {x : Int32} : wallsR a m k x = mWallsR b n m k x := by
  have hT := h.1.1
  have n5 := hT.n5
  rw [wallsR, mWallsR, hT.one]
  by_cases q : inZ x n = true
  · obtain ⟨p, hp, rfl⟩ := inZ_ex q (by omega)
    rw [if_pos q, if_pos q, nI_clamp (by omega)]
    exact ws_eq h hp m (Nat.le_refl m)
  · rw [if_neg q, if_neg q]
theorem aSame_mvs {p i : Nat} : aSame (mvs a p i) a := fun r _ _ h _ _ => by rw [mvs_ne (by omega) (by omega), becW_ne (by omega)]
end MO
