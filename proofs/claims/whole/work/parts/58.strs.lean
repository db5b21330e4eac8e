/-! Strings of the program's reader: places 100 .. 106 -/
section VS
variable {x : vX} {own : String} {cc : ByteArray} {nL dd : Nat} {ret : Option FieldType} {pc : Nat} {L : List (Option Value)} {st : List Value} {σ : vW}
theorem v_ldcS {i : Nat} (G : vG x "DoorTown$Reader" cc nL ret dd) (hi : i < 7) (dg : decode cc pc = .ok (.ldc (vStrIx.getD i 0), 2)) (k : V x (pc + 2) L (.ref (100 + i) :: st) σ) : V x pc L st σ := by
  intro H locs ls hP hS hl
  exact va_ldcS G.1 G.2.1 G.2.2.2.2.1 (G.2.2.2.2.2.2.1.2.2.2.1 i hi) dg (k H locs ls hP hS hl)
theorem v_aret {Post : Option Value → vW → Prop} {q : Nat} {nm : String} (G : vG x own cc nL (some (.object nm)) dd) (hQ : vEnd x Post) (dg : decode cc pc = .ok (.areturn, 1)) (h : Post (some (.ref q)) σ) : V x pc L [.ref q] σ := by
  intro H locs ls hP hS hl
  rw [hQ]
  exact W.aret G.1 G.2.1 G.2.2.2.1 (Or.inl ⟨_, rfl⟩) (Or.inr ⟨_, rfl⟩) (v_fin (r := some (.ref q)) hP hS h) hS.2.2 dg G.2.2.2.2.2.2.2.1
/-- a call of a string's own method -/
theorem v_callSt {mi : vMI} {i d n idx : Nat} {av : List Value} {Post : Option Value → vW → Prop} (G : vG x own cc nL ret dd) (C : Ctr mi d (.ref (100 + i) :: av) σ Post) (hd : d < dd) (md : vMd mi n) (hi : vIn mi) (hc : mi.1.cls = "java/lang/String") (h7 : i < 7) (lk : Cond.methodLink own idx mi.1 ∈ BIG) (hn : av.length = n) (hw : (st.map fun v => v.category).sum ≤ 8) (dg : decode cc pc = .ok (.invokevirtual idx, 3)) (k0 : ∀ (r : Option Value) (σ' : vW), Post r σ' → V x (pc + 3) L (r.toList ++ st) σ') : V x pc L (av.reverse ++ .ref (100 + i) :: st) σ := by
  intro H locs ls hP hS hl
  have hroom := G.2.2.2.2.2.2.2.2.2
  have hg := G.2.2.2.2.2.1
  obtain ⟨cell, g1, g2, g3⟩ := vk_recv G.2.2.2.2.2.2.1.2.2.1 h7 hS
  rw [← hc] at g3
  refine v_after (rest := st) (va_runV (As := av.map (vm (xE x).1)) (b := (xE x).1 (100 + i)) ⟨G.1, G.2.1, G.2.2.1, G.2.2.2.2.1, hg⟩ (C (xl x) (xE x) G.2.2.2.2.2.2.2.2.1) ⟨callB_of n hg (v_bigGood md.1) rfl rfl rfl (hg _ md.2.1) (hg _ lk) md.2.2.1 ⟨?_, ?_⟩, hg _ hi.1, hg _ hi.2⟩ ⟨v_blind, ⟨cell, g1, g2, g3⟩, v_pre (av := .ref (100 + i) :: av) G hP hS⟩ rfl (by rw [List.length_map]; exact hn) (by show ls.size = nL; rw [hl.1]; exact G.2.2.1) ?_ (lv_room ?_) dg hroom.2.2) hS hl k0
  · show d + 1 ≤ _
    omega
  · have := md.2.2.2
    show 8 + (mi.2.2.1 + 11) + 40 * d ≤ _
    omega
  · show (av.reverse ++ .ref (100 + i) :: st).map _ = _
    simp [vm]
  · rw [v_catsum]
    exact hw
end VS
/-- the name of a kind: own, house, stranger; else gaol -/
def nkI (k : Int32) : Nat := if k = nI 0 then 0 else if k = nI 1 then 1 else if k = nI 2 then 2 else 3
theorem nkI_lt (k : Int32) : nkI k < 7 := by
  unfold nkI
  split
  · omega
  · split
    · omega
    · split <;> omega
set_option maxHeartbeats 4000000 in
theorem C_X0_nameOfKind {σ : vW} {k : Int32} : Ctr mX0_nameOfKind 0 [.int k] σ (vDet (some (.ref (100 + nkI k))) σ) := by
  refine Ctr.intro (by decide) (fun α => Nat.le_of_ble_eq_true rfl) (fun x G hQ => ?_)
  have G : vG x RX0 cX0_nameOfKind 1 (some (.object "java/lang/String")) 0 := G
  show V x 0 [some (.int k)] [] σ
  refine v_iload_n (i := 0) G dX0_nameOfKind_0 rfl rfl ?_
  refine v_tabC (i := 0) (tgt := 28) G dX0_nameOfKind_1 rfl rfl (by decide) (by decide) (fun h0 => ?_) (fun h0 => ?_)
  · refine v_ldcS (i := 0) G (by decide) dX0_nameOfKind_28 ?_
    exact v_aret G hQ dX0_nameOfKind_30 (vDet.of (by rw [nkI, if_pos h0]) rfl)
  · refine v_tabC (i := 1) (tgt := 31) G dX0_nameOfKind_1 rfl rfl (by decide) (by decide) (fun h1 => ?_) (fun h1 => ?_)
    · refine v_ldcS (i := 1) G (by decide) dX0_nameOfKind_31 ?_
      exact v_aret G hQ dX0_nameOfKind_33 (vDet.of (by rw [nkI, if_neg h0, if_pos h1]) rfl)
    · refine v_tabC (i := 2) (tgt := 34) G dX0_nameOfKind_1 rfl rfl (by decide) (by decide) (fun h2 => ?_) (fun h2 => ?_)
      · refine v_ldcS (i := 2) G (by decide) dX0_nameOfKind_34 ?_
        exact v_aret G hQ dX0_nameOfKind_36 (vDet.of (by rw [nkI, if_neg h0, if_neg h1, if_pos h2]) rfl)
      · refine v_tabE (n := 3) (tgt := 37) G dX0_nameOfKind_1 (fun i hi => by rcases (show i = 0 ∨ i = 1 ∨ i = 2 by omega) with rfl | rfl | rfl <;> assumption) rfl rfl (by decide) ?_
        refine v_ldcS (i := 3) G (by decide) dX0_nameOfKind_37 ?_
        exact v_aret G hQ dX0_nameOfKind_39 (vDet.of (by rw [nkI, if_neg h0, if_neg h1, if_neg h2]) rfl)
