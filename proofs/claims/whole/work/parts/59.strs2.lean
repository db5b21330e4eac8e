/-! What is read of a string: its bytes (places 107 .. 113), their number, its coder -/
section VS2
variable {x : vX} {own : String} {cc : ByteArray} {nL dd : Nat} {ret : Option FieldType} {pc : Nat} {L : List (Option Value)} {st : List Value} {σ : vW}
theorem v_strVal {i idx : Nat} (G : vG x own cc nL ret dd) (hi : i < 7) (lk : Cond.fieldLink own idx "java/lang/String" "value" "[B" ∈ BIG) (dg : decode cc pc = .ok (.getfield idx, 3)) (k : V x (pc + 3) L (.ref (107 + i) :: st) σ) : V x pc L (.ref (100 + i) :: st) σ := by
  intro H locs ls hP hS hl
  exact vk_getf G.1 G.2.1 (G.2.2.2.2.2.2.1.2.2.1.1 i hi).2.2.1 hS G.2.2.2.2.1 (G.2.2.2.2.2.1 _ lk) (fun _ h => h) dg (k H locs ls hP hS hl)
theorem v_strCod {i idx : Nat} (G : vG x own cc nL ret dd) (hi : i < 7) (lk : Cond.fieldLink own idx "java/lang/String" "coder" "B" ∈ BIG) (dg : decode cc pc = .ok (.getfield idx, 3)) (k : V x (pc + 3) L (.int 0 :: st) σ) : V x pc L (.ref (100 + i) :: st) σ := by
  intro H locs ls hP hS hl
  exact vk_getf G.1 G.2.1 (G.2.2.2.2.2.2.1.2.2.1.1 i hi).2.1 hS G.2.2.2.2.1 (G.2.2.2.2.2.1 _ lk) (fun _ h => h) dg (k H locs ls hP hS hl)
theorem v_strLen {i : Nat} (G : vG x own cc nL ret dd) (hi : i < 7) (dg : decode cc pc = .ok (.arraylength, 1)) (k : V x (pc + 1) L (.int (nI (vStrN.getD i 0)) :: st) σ) : V x pc L (.ref (107 + i) :: st) σ := by
  intro H locs ls hP hS hl
  exact va_tlen G.1 G.2.1 (G.2.2.2.2.2.2.1.2.2.1.1 i hi).2.2.2 hS rfl dg (k H locs ls hP hS hl)
theorem v_strByt {i j : Nat} (G : vG x own cc nL ret dd) (hi : i < 7) (hj : j < vStrN.getD i 0) (hn : vStrN.getD i 0 < 100) (dg : decode cc pc = .ok (.baload, 1)) (k : V x (pc + 1) L (.int ((vStrB.getD i []).getD j 0) :: st) σ) : V x pc L (.int (nI j) :: .ref (107 + i) :: st) σ := by
  intro H locs ls hP hS hl
  exact va_tb G.1 G.2.1 (G.2.2.2.2.2.2.1.2.2.1.1 i hi).2.2.2 hS (vp_in_nI hj (by omega)) (by rw [nI_clamp (by omega)]; rfl) dg (k H locs ls hP hS hl)
theorem v_getCS {idx : Nat} (G : vG x own cc nL ret dd) (lk : Cond.fieldLink own idx "java/lang/String" "COMPACT_STRINGS" "Z" ∈ BIG) (dg : decode cc pc = .ok (.getstatic idx, 3)) (k : V x (pc + 3) L (.int 1 :: st) σ) : V x pc L st σ := by
  intro H locs ls hP hS hl
  exact va_gets G.1 G.2.1 G.2.2.2.2.2.2.1.2.2.2.2.1 hS G.2.2.2.2.1 (G.2.2.2.2.2.1 _ lk) (fun _ h => h) dg (k H locs ls hP hS hl)
end VS2
