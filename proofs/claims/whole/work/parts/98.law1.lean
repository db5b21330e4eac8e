/-! At the loop's first head both sides tell the same; the law's rows. -/
theorem sg0_own : ∀ w, w < 9 → sg0 28 w = -1 := by decide +kernel
theorem sg0_cut : ∀ i, i < 8 → sg0 79 i = nI (cutN i) := by decide +kernel
theorem sg0_TP : TP sg0 (sg0 76) 21 0 0 0 0 := by
  refine ⟨⟨rfl, by decide, rfl, by decide, rfl, by decide, rfl, rfl⟩, fun p hp => absurd hp (by omega), fun q _ => ⟨0, by decide, rfl⟩, ⟨fun p hp => absurd hp (by omega), fun w hw => Or.inl (sg0_own w hw), fun p w hp => absurd hp (by omega)⟩, fun w hw => absurd hw (by omega), fun w hw => absurd hw (by omega), fun r _ => ⟨rfl, 0, by decide, rfl⟩, fun k hk => absurd hk (by omega)⟩
theorem sg0_rel : Rel sg0 sg0 0 0 0 0 0 := by
  refine ⟨⟨sg0_TP, rfl, rfl⟩, ⟨rfl, by decide, rfl, fun i hi => absurd hi (by omega)⟩, fun i _ => ⟨rfl, Or.inl rfl⟩, ⟨rfl, by decide, rfl, fun j hj => absurd hj (by omega)⟩, ⟨fun q hq => Or.inl ?_, fun q _ => ⟨0, by decide, rfl⟩⟩, rfl, rfl, sg0_cut, ?_⟩
  · rcases (show q = 0 ∨ q = 1 ∨ q = 2 ∨ q = 3 by omega) with rfl | rfl | rfl | rfl
    all_goals exact ⟨by decide, rfl⟩
  · decide +kernel
/-- worlds behind a call of either side -/
theorem Rel.after {a b s : vW} {n m K k l : Nat} {f : Nat → Int32} (h : Rel a b n m K k l) (hb : fM b a) (hs : s = vrow b 81 f) : Rel s s n m K k l := by
  subst hs
  refine ((h.qry (b' := vrow b 81 f) (fun _ _ _ _ _ _ => rfl) (scr_far (scr_refl _))).glue (a' := vrow b 81 f) (fun r hr => ?_) (fun _ _ => rfl))
  rw [vrow_ne (by omega)]
  exact hb r hr
theorem Rel.mid {a s : vW} {n m K k l : Nat} (h : Rel s s n m K k l) (ha : fP a s) : Rel s a n m K k l := h.glue (fun _ _ => rfl) ha
/-- a query on both sides: the program's scratch, the model's -/
theorem Rel.ques {a s t : vW} {n m K k l : Nat} (h : Rel s s n m K k l) (ha : aSame a s) (hp : fP a s) (ht : scr t a) : Rel t t n m K k l := by
  have h1 : Rel s a n m K k l := h.mid hp
  have h2 : Rel a t n m K k l := h1.qry ha ht
  exact h2.glue (fun r hr => ht.1 r (by omega) (by omega) (by omega) (by omega)) (fun _ _ => rfl)
theorem aSame.rfl {s : vW} : aSame s s := fun _ _ _ _ _ _ => Eq.refl _
theorem aSame.ite {c : Prop} {q : Decidable c} {a s : vW} (h : aSame a s) : aSame (if c then a else s) s := by
  split
  · exact h
  · exact aSame.rfl
theorem Rel.who {s : vW} {n m K k l : Nat} (h : Rel s s n m K k l) : ∀ i, i < k → ∃ p, p < 5 ∧ s 5 i = nI p := fun i hi => by
  obtain ⟨p, r, h1, h2, h3, h4, _⟩ := h.2.1.2.2.2 i hi
  exact ⟨p, by have := h.1.1.n5; omega, h3⟩
theorem Rel.lane {a b : vW} {n m K k l : Nat} (h : Rel a b n m K k l) (x : Int32) : ∃ e, e ≤ 40 ∧ ∀ q, q < 4 → x = nI q → b 86 q = nI e := by
  by_cases hx : x.toNatClampNeg < 4
  · obtain ⟨e, h1, h2⟩ := h.2.2.2.2.1.2 _ hx
    refine ⟨e, h1, fun q hq e1 => ?_⟩
    rw [e1, nI_clamp (by omega)] at h2
    exact h2
  · exact ⟨0, by decide, fun q hq e1 => absurd (by rw [e1, nI_clamp (by omega)]; exact hq) hx⟩
theorem Ctr.here {mi : vMI} {d : Nat} {av : List Value} {σ : vW} {Post : Option Value → vW → Prop} (C : Ctr mi d av (vrow σ 81 (σ 81)) Post) : Ctr mi d av σ Post := by
  rw [vrow_same] at C
  exact C
/-- the script, at place 115 -/
def sX (x : vX) (n : Nat) (q : Nat → Int32) : Prop := va_X ((xE x).1 115) n q (xs x) (xs x).heap ∧ (xE x).1 115 < (xs x).heap.size ∧ ¬ vA (xE x) ((xE x).1 115)
section LR
variable {x : vX} {own : String} {cc : ByteArray} {nL dd : Nat} {ret : Option FieldType} {pc : Nat} {L : List (Option Value)} {st : List Value} {σ : vW} {N : Nat} {q : Nat → Int32}
theorem l_sld {i : Int32} (G : vG x own cc nL ret dd) (S : sX x N q) (hin : vp_in i N) (dg : decode cc pc = .ok (.iaload, 1)) (k0 : V x (pc + 1) L (.int (q i.toNatClampNeg) :: st) σ) : V x pc L (.int i :: .ref 115 :: st) σ := by
  intro H locs ls hP hS hl
  exact va_sld G.1 G.2.1 S.1 S.2.1 S.2.2 hS hin dg (k0 H locs ls hP hS hl)
theorem l_slen {v : Int32} (G : vG x own cc nL ret dd) (S : sX x N q) (hv : Int32.ofNat N = v) (dg : decode cc pc = .ok (.arraylength, 1)) (k0 : V x (pc + 1) L (.int v :: st) σ) : V x pc L (.ref 115 :: st) σ := by
  intro H locs ls hP hS hl
  subst hv
  exact va_slen G.1 G.2.1 S.1 S.2.1 S.2.2 hS dg (k0 H locs ls hP hS hl)
/-- the script's int at i + j -/
theorem l_rd {i j : Nat} (G : vG x own cc nL ret dd) (S : sX x N q) (hi : i + j < N) (hN : N ≤ 2560) (dg : decode cc pc = .ok (.iaload, 1)) (k0 : V x (pc + 1) L (.int (q (i + j)) :: st) σ) : V x pc L (.int (nI i + nI j) :: .ref 115 :: st) σ := by
  rw [nI_add]
  refine l_sld G S (vp_in_nI hi (by omega)) dg ?_
  rw [nI_clamp (by omega)]
  exact k0
/-- an argument, out of the script -/
theorem l_arg {i j : Nat} {e1 e2 : Option Value} (G : vG x own cc 4 ret dd) (S : sX x N q) (hi : i + j < N) (hN : N ≤ 2560) {jj : Int} (hj : Int32.ofInt jj = nI j) (d0 : decode cc pc = .ok (.aload_n 0, 1)) (d1 : decode cc (pc + 1) = .ok (.iload_n 3, 1)) (d2 : decode cc (pc + 2) = .ok (.iconst jj, 1)) (d3 : decode cc (pc + 3) = .ok (.iadd, 1)) (d4 : decode cc (pc + 4) = .ok (.iaload, 1)) (k0 : V x (pc + 5) [some (.ref 115), e1, e2, some (.int (nI i))] (.int (q (i + j)) :: st) σ) : V x pc [some (.ref 115), e1, e2, some (.int (nI i))] st σ := by
  refine v_aload_n (i := 0) G d0 rfl rfl ?_
  refine v_iload_n (i := 3) G d1 rfl rfl ?_
  refine v_iconst (v := nI j) G d2 hj ?_
  refine v_iadd G d3 ?_
  exact l_rd G S hi hN d4 k0
/-- a truth, out of the script -/
theorem l_bool {v : Int32} (G : vG x own cc nL ret dd) (d0 : decode cc pc = .ok (.ifCond .eq 7, 3)) (d1 : decode cc (pc + 3) = .ok (.iconst 1, 1)) (d2 : decode cc (pc + 4) = .ok (.goto 4, 3)) (d3 : decode cc (pc + 7) = .ok (.iconst 0, 1)) (k0 : V x (pc + 8) L (.int (bI (!(v == 0))) :: st) σ) : V x pc L (.int v :: st) σ := by
  refine v_if_eq (tgt := pc + 7) G d0 (by omega) (fun h => ?_) (fun h => ?_)
  · refine v_iconst (v := nI 0) G d3 (by decide) ?_
    have e : (!(v == 0)) = false := by simp [h]
    rw [e] at k0
    exact k0
  · refine v_iconst (v := nI 1) G d1 (by decide) ?_
    refine v_goto (tgt := pc + 8) G d2 (by omega) ?_
    have e : (!(v == 0)) = true := by simp [h]
    rw [e] at k0
    exact k0
theorem lgc_self (a : Int64) : lg_cmp a a = 0 := by simp [lg_cmp]
end LR
