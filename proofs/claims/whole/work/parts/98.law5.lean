theorem s_115 (E : vE) (b : Nat) : ∃ E2 : vE, E2.2 = E.2 ∧ E2.1 115 = b ∧ ∀ k, k ≠ 115 → E2.1 k = E.1 k := ⟨(fun k => if k = 115 then b else E.1 k, E.2), rfl, (by show (if 115 = 115 then b else E.1 115) = b; exact if_pos rfl), fun k hk => (by show (if k = 115 then b else E.1 k) = E.1 k; exact if_neg hk)⟩
theorem uI.as {E E2 : vE} {s : State} (hI : uI E s) (h : E2.2 = E.2) : uI E2 s := by
  unfold uI vtys
  rw [h]
  exact hI
theorem room_ok : 9 ≤ room_1.frames ∧ 40 * 9 ≤ room_1.locals ∧ 600000 ≤ room_1.cells ∧ 7302250 ≤ room_1.slots := by
  refine ⟨by decide, by decide, by decide, by decide⟩
set_option maxHeartbeats 4000000 in
set_option maxRecDepth 100000 in
theorem whole_mid {x : vX} {A : Nat → Prop} (G : uG x A RL cL_law 4 (some .boolean) 9 600000 7302250) (b : Nat) (hgo : ∀ (h : Nat) (f5 : Nat → Nat) (g : Nat) (f6 : Nat → Nat), UU x A (sWs (xE x) h (f5 1) (f5 2) (f5 3) (f5 4) (f5 5) (f5 6) (f5 7) (f5 8) (f5 9) (f5 10) (f5 11) (f5 12) (f5 13) (f5 14) (f5 15) (f5 16) (f5 17) (f5 18) (f5 19) (f5 20) (f5 21) (f5 22) (f5 23) (f5 24) (f5 25) (f5 26) (f5 27) (f5 28) (f5 29) (f5 30) (f5 31) (f5 32) (f5 33) (f5 34) (f5 35) (f5 36) (f5 37) (f5 38) (f5 39) (f5 40) (f5 41) (f5 42) (f5 43) (f5 44) (f5 45) (f5 46) (f5 47) (f5 48) (f5 49) (f5 50) (f5 51) (f5 52) (f5 53) (f5 54) (f5 55) (f5 56) (f5 57) (f5 58) (f5 59) (f5 60) (f5 61) (f5 62) (f5 63) (f5 64) (f5 65) (f5 66) (f5 67) (f5 68) (f5 69) (f5 70) (f5 71) (f5 72) (f5 73) (f5 74) g (f6 1) (f6 2) (f6 3) (f6 4) (f6 5) (f6 6) (f6 7) (f6 8) (f6 9) (f6 10) (f6 11) (f6 12)) 88 1656 18 [(3, .int (nI 0)), (2, .ref g), (1, .ref h), (0, .ref b)] []) : UU x A [] 0 0 0 [(0, .ref b)] [] := by
  refine u_new (fs := [.null, .null, .null, .null, .null, .null, .null, .null, .int 0, .int 0]) G rfl vc_5 vt_5 (inBIG (by decide +kernel) rfl) (inBIG (by decide +kernel) rfl) (inBIG (by decide +kernel) rfl) (fun j hj => by match j, hj with | 0, _ => rfl | 1, _ => rfl | 2, _ => rfl | 3, _ => rfl | 4, _ => rfl | 5, _ => rfl | 6, _ => rfl | 7, _ => rfl | 8, _ => rfl | 9, _ => rfl) (Nat.le_of_ble_eq_true rfl) (Nat.le_of_ble_eq_true rfl) dL_law_0 (fun h => ?_)
  refine u_dup G dL_law_3 rfl ?_
  refine u_call (k := 1) (n := 10) (st := [.ref h]) (wr := []) G K_X5_init rfl rfl (by decide) md_X5_init (inBIG (by decide +kernel) rfl) ml_L_9 (Nat.le_of_ble_eq_true rfl) (Nat.le_of_ble_eq_true rfl) (Nat.le_of_ble_eq_true rfl) dL_law_4 ?_
  rintro _ ⟨f5, rfl⟩
  refine u_astore (L' := [(1, .ref h), (0, .ref b)]) G dL_law_7 rfl (by decide) rfl ?_
  refine u_new (fs := [.null, .int 0, .null, .int 0, .int 0, .int 0, .int 0, .int 0, .int 0, .null, .int 0, .int 0, .int 0, .int 0, .int 0, .int 0, .int 0, .int 0, .null, .null, .int 0, .null, .int 0, .int 0, .null, .int 0, .null, .null, .null, .null, .null, .int 0]) G rfl vc_6 vt_6 (inBIG (by decide +kernel) rfl) (inBIG (by decide +kernel) rfl) (inBIG (by decide +kernel) rfl) bl_X6 (Nat.le_of_ble_eq_true rfl) (Nat.le_of_ble_eq_true rfl) dL_law_8 (fun g => ?_)
  refine u_dup G dL_law_11 rfl ?_
  refine u_call (k := 76) (n := 825) (st := [.ref g]) G K_X6_init rfl rfl (by decide) md_X6_init (inBIG (by decide +kernel) rfl) ml_L_12 (Nat.le_of_ble_eq_true rfl) (Nat.le_of_ble_eq_true rfl) (Nat.le_of_ble_eq_true rfl) dL_law_12 ?_
  rintro _ ⟨f6, rfl⟩
  refine u_astore (L' := [(2, .ref g), (1, .ref h), (0, .ref b)]) G dL_law_15 rfl (by decide) rfl ?_
  refine u_iconst (v := nI 0) G dL_law_16 (by decide) ?_
  refine u_istore (L' := [(3, .int (nI 0)), (2, .ref g), (1, .ref h), (0, .ref b)]) G dL_law_17 rfl (by decide) rfl ?_
  exact hgo h f5 g f6
set_option maxHeartbeats 4000000 in
set_option maxRecDepth 100000 in
/-- YOUR PART: from the entry, for every script of at most 2560 ints, the law comes to its end with true ('hflags': the launch's flags, for a law that throws: no stack traces) -/
theorem whole_start {p : Program} {e : Env} {s : State} {m : MethodId} {below : List Frame} {meth : Method} {c : Code} (l : Launch) (hflags : l.flags = flags0) {b L : Nat} {xs : Nat → Int32} (hL : L ≤ 2560) (C0 : lw_At p s m meth c b L xs) : W p l e room_1 s m #[Value.ref b] below meth c s.heap [] 0 0 (lw_Z below #[Value.ref b] s) (entryFrame m ([Value.ref b] : List Value).toArray 4) := by
  obtain ⟨hx, hb, hr, hml, hown, hts, hX, hbl, hlocks, hgv⟩ := id C0
  obtain ⟨E, hI, hS7, hR7, hZ1, hZ2⟩ := s_env hts hgv
  have hbig : ∀ w ∈ BIG, w.before #[Value.ref b] s = true := fun w hw => hts w (BIG_tbl hw)
  obtain ⟨E2, h2a, h2b, h2c⟩ := s_115 E b
  have hI2 : uI E2 s := hI.as h2a
  have hl := lv_entry ([.ref b]) (n := 4) (Nat.le_of_ble_eq_true rfl)
  rw [lg_entry_eq]
  exact whole_mid (x := (p, l, e, room_1, s, m, #[Value.ref b], below, meth, c, E2, lw_Z below #[Value.ref b] s, 0, 0)) (A := fun q => s.heap.size ≤ q) ⟨hx, hb, hml, hr, hown, hbig, hI2, hlocks, fun q h => h, room_ok⟩ b (fun h f5 g f6 => whole_go l hL C0 hI2 h2a h2b h2c hS7 hR7 hZ1 hZ2 h (f5 1) (f5 2) (f5 3) (f5 4) (f5 5) (f5 6) (f5 7) (f5 8) (f5 9) (f5 10) (f5 11) (f5 12) (f5 13) (f5 14) (f5 15) (f5 16) (f5 17) (f5 18) (f5 19) (f5 20) (f5 21) (f5 22) (f5 23) (f5 24) (f5 25) (f5 26) (f5 27) (f5 28) (f5 29) (f5 30) (f5 31) (f5 32) (f5 33) (f5 34) (f5 35) (f5 36) (f5 37) (f5 38) (f5 39) (f5 40) (f5 41) (f5 42) (f5 43) (f5 44) (f5 45) (f5 46) (f5 47) (f5 48) (f5 49) (f5 50) (f5 51) (f5 52) (f5 53) (f5 54) (f5 55) (f5 56) (f5 57) (f5 58) (f5 59) (f5 60) (f5 61) (f5 62) (f5 63) (f5 64) (f5 65) (f5 66) (f5 67) (f5 68) (f5 69) (f5 70) (f5 71) (f5 72) (f5 73) (f5 74) g (f6 1) (f6 2) (f6 3) (f6 4) (f6 5) (f6 6) (f6 7) (f6 8) (f6 9) (f6 10) (f6 11) (f6 12)) s.heap [] _ (fun k q h => by simp at h) ⟨fun i j p q h => by simp at h, fun k q h => by simp at h⟩ va_S.rf (by
    show lv_has _ c.maxLocals _
    rw [hml]
    exact hl)
