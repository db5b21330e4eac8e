/-! The world at the loop's first head. (written by world.py) -/
def sg0 : vW := fun k => match k with
  | 17 => fill9 (fun _ => 0) (-1)
  | 28 => fill9 (fun _ => 0) (-1)
  | 39 => fill9 (fun _ => 0) (-1)
  | 50 => fill9 (fun _ => 0) (-1)
  | 61 => fill9 (fun _ => 0) (-1)
  | 67 => fun j => match j with | 2 => (-1) | _ => 0
  | 69 => fun j => match j with | 2 => (-1) | _ => 0
  | 71 => fun j => match j with | 2 => (-1) | _ => 0
  | 73 => fun j => match j with | 2 => (-1) | _ => 0
  | 79 => upd (upd (upd (upd (upd (upd (upd (upd (fun _ => 0) 0 ((nI 0))) 1 ((nI 3))) 2 ((nI 8))) 3 ((nI 16))) 4 ((nI 20))) 5 ((nI 24))) 6 ((nI 28))) 7 ((nI 32))
  | 80 => upd (upd (upd (upd (upd (upd (upd (upd (upd (upd (upd (upd (upd (upd (upd (upd (upd (upd (upd (upd (upd (upd (upd (upd (upd (upd (upd (upd (upd (upd (upd (upd (fun _ => 0) 0 ((nI 111))) 1 ((nI 119))) 2 ((nI 110))) 3 ((nI 104))) 4 ((nI 111))) 5 ((nI 117))) 6 ((nI 115))) 7 ((nI 101))) 8 ((nI 115))) 9 ((nI 116))) 10 ((nI 114))) 11 ((nI 97))) 12 ((nI 110))) 13 ((nI 103))) 14 ((nI 101))) 15 ((nI 114))) 16 ((nI 103))) 17 ((nI 97))) 18 ((nI 111))) 19 ((nI 108))) 20 ((nI 119))) 21 ((nI 97))) 22 ((nI 108))) 23 ((nI 108))) 24 ((nI 114))) 25 ((nI 111))) 26 ((nI 111))) 27 ((nI 109))) 28 ((nI 112))) 29 ((nI 108))) 30 ((nI 97))) 31 ((nI 110))
  | 85 => upd (upd (upd (upd (fun _ => 0) 0 ((-4))) 1 ((-4))) 2 ((-4))) 3 ((-4))
  | _ => fun _ => 0
def sPI : List Nat := [0, 1, 2, 3, 37, 38, 39, 40, 41, 64, 4, 5, 6, 7, 8, 9, 10, 11, 12, 13, 14, 15, 16, 17, 18, 19, 20, 21, 22, 23, 24, 25, 26, 27, 28, 29, 30, 31, 32, 33, 34, 35, 36, 42, 43, 44, 45, 46, 47, 48, 49, 50, 51, 52, 53, 54, 55, 56, 57, 58, 59, 60, 61, 62, 63, 65, 74, 66, 67, 68, 69, 70, 71, 72, 73, 75, 76, 77, 78, 79, 80, 81, 82, 83, 84, 85, 86, 87]
theorem sPI_inj : ∀ i, i < 88 → ∀ j, j < 88 → sPI.getD i 0 = sPI.getD j 0 → i = j := by decide +kernel
def sWs (E : vE) (h q1 q2 q3 q4 q5 q6 q7 q8 q9 q10 q11 q12 q13 q14 q15 q16 q17 q18 q19 q20 q21 q22 q23 q24 q25 q26 q27 q28 q29 q30 q31 q32 q33 q34 q35 q36 q37 q38 q39 q40 q41 q42 q43 q44 q45 q46 q47 q48 q49 q50 q51 q52 q53 q54 q55 q56 q57 q58 q59 q60 q61 q62 q63 q64 q65 q66 q67 q68 q69 q70 q71 q72 q73 q74 g r1 r2 r3 r4 r5 r6 r7 r8 r9 r10 r11 r12 : Nat) : va_W := [(h, .inr (5, [.ref q1, .ref q15, .ref q26, .ref q37, .ref q41, .ref q64, .ref q65, .ref q74, .int 0, .int 0])), (q1, .inr (0, [.ref q2, .ref q4, .int 0, .int 0, .int 0, .int 0, .int 0])), (q2, .inr (3, [.ref q3, .int 0, .int 0, .int 0, .int 0, .int 0])), (q3, .inl (E.2.2.1 1, 160, .inl (fun _ => 0))), (q4, .inr (4, [.ref q5, .ref q6, .ref q7, .ref q8, .ref q9, .ref q10, .ref q11, .ref q12, .ref q13, .ref q14, .int 0, .int 0, .int 0])), (q5, .inl (E.2.2.1 0, 5, .inl (fun _ => 0))), (q6, .inl (E.2.2.1 0, 5, .inl (fun _ => 0))), (q7, .inl (E.2.2.1 0, 5, .inl (fun _ => 0))), (q8, .inl (E.2.2.1 0, 5, .inl (fun _ => 0))), (q9, .inl (E.2.2.1 0, 9, .inl (fun _ => 0))), (q10, .inl (E.2.2.1 0, 9, .inl (fun _ => 0))), (q11, .inl (E.2.2.1 0, 9, .inl (fill9 (fun _ => 0) (-1)))), (q12, .inl (E.2.2.1 0, 8, .inl (fun _ => 0))), (q13, .inl (E.2.2.1 0, 6, .inl (fun _ => 0))), (q14, .inl (E.2.2.1 0, 6, .inl (fun _ => 0))), (q15, .inr (4, [.ref q16, .ref q17, .ref q18, .ref q19, .ref q20, .ref q21, .ref q22, .ref q23, .ref q24, .ref q25, .int 0, .int 0, .int 0])), (q16, .inl (E.2.2.1 0, 5, .inl (fun _ => 0))), (q17, .inl (E.2.2.1 0, 5, .inl (fun _ => 0))), (q18, .inl (E.2.2.1 0, 5, .inl (fun _ => 0))), (q19, .inl (E.2.2.1 0, 5, .inl (fun _ => 0))), (q20, .inl (E.2.2.1 0, 9, .inl (fun _ => 0))), (q21, .inl (E.2.2.1 0, 9, .inl (fun _ => 0))), (q22, .inl (E.2.2.1 0, 9, .inl (fill9 (fun _ => 0) (-1)))), (q23, .inl (E.2.2.1 0, 8, .inl (fun _ => 0))), (q24, .inl (E.2.2.1 0, 6, .inl (fun _ => 0))), (q25, .inl (E.2.2.1 0, 6, .inl (fun _ => 0))), (q26, .inr (4, [.ref q27, .ref q28, .ref q29, .ref q30, .ref q31, .ref q32, .ref q33, .ref q34, .ref q35, .ref q36, .int 0, .int 0, .int 0])), (q27, .inl (E.2.2.1 0, 5, .inl (fun _ => 0))), (q28, .inl (E.2.2.1 0, 5, .inl (fun _ => 0))), (q29, .inl (E.2.2.1 0, 5, .inl (fun _ => 0))), (q30, .inl (E.2.2.1 0, 5, .inl (fun _ => 0))), (q31, .inl (E.2.2.1 0, 9, .inl (fun _ => 0))), (q32, .inl (E.2.2.1 0, 9, .inl (fun _ => 0))), (q33, .inl (E.2.2.1 0, 9, .inl (fill9 (fun _ => 0) (-1)))), (q34, .inl (E.2.2.1 0, 8, .inl (fun _ => 0))), (q35, .inl (E.2.2.1 0, 6, .inl (fun _ => 0))), (q36, .inl (E.2.2.1 0, 6, .inl (fun _ => 0))), (q37, .inr (2, [.ref q38, .ref q39, .ref q40, .int 0])), (q38, .inl (E.2.2.1 0, 6, .inl (fun _ => 0))), (q39, .inl (E.2.2.1 0, 6, .inl (fun _ => 0))), (q40, .inl (E.2.2.1 2, 6, .inl (fun _ => 0))), (q41, .inl (E.2.2.1 3, 2, .inr (.inr (.inr (.inr (va_up (va_up (fun _ => none) 0 (some q42)) 1 (some q53))))))), (q42, .inr (4, [.ref q43, .ref q44, .ref q45, .ref q46, .ref q47, .ref q48, .ref q49, .ref q50, .ref q51, .ref q52, .int 0, .int 0, .int 0])), (q43, .inl (E.2.2.1 0, 5, .inl (fun _ => 0))), (q44, .inl (E.2.2.1 0, 5, .inl (fun _ => 0))), (q45, .inl (E.2.2.1 0, 5, .inl (fun _ => 0))), (q46, .inl (E.2.2.1 0, 5, .inl (fun _ => 0))), (q47, .inl (E.2.2.1 0, 9, .inl (fun _ => 0))), (q48, .inl (E.2.2.1 0, 9, .inl (fun _ => 0))), (q49, .inl (E.2.2.1 0, 9, .inl (fill9 (fun _ => 0) (-1)))), (q50, .inl (E.2.2.1 0, 8, .inl (fun _ => 0))), (q51, .inl (E.2.2.1 0, 6, .inl (fun _ => 0))), (q52, .inl (E.2.2.1 0, 6, .inl (fun _ => 0))), (q53, .inr (4, [.ref q54, .ref q55, .ref q56, .ref q57, .ref q58, .ref q59, .ref q60, .ref q61, .ref q62, .ref q63, .int 0, .int 0, .int 0])), (q54, .inl (E.2.2.1 0, 5, .inl (fun _ => 0))), (q55, .inl (E.2.2.1 0, 5, .inl (fun _ => 0))), (q56, .inl (E.2.2.1 0, 5, .inl (fun _ => 0))), (q57, .inl (E.2.2.1 0, 5, .inl (fun _ => 0))), (q58, .inl (E.2.2.1 0, 9, .inl (fun _ => 0))), (q59, .inl (E.2.2.1 0, 9, .inl (fun _ => 0))), (q60, .inl (E.2.2.1 0, 9, .inl (fill9 (fun _ => 0) (-1)))), (q61, .inl (E.2.2.1 0, 8, .inl (fun _ => 0))), (q62, .inl (E.2.2.1 0, 6, .inl (fun _ => 0))), (q63, .inl (E.2.2.1 0, 6, .inl (fun _ => 0))), (q64, .inl (E.2.2.1 2, 2, .inl (fun _ => 0))), (q65, .inl (E.2.2.1 4, 4, .inr (.inr (.inr (.inr (va_up (va_up (va_up (va_up (fun _ => none) 0 (some q66)) 1 (some q68)) 2 (some q70)) 3 (some q72))))))), (q66, .inr (1, [.ref q67, .int 0, .int (-1)])), (q67, .inl (E.2.2.1 0, 40, .inl (fun _ => 0))), (q68, .inr (1, [.ref q69, .int 0, .int (-1)])), (q69, .inl (E.2.2.1 0, 40, .inl (fun _ => 0))), (q70, .inr (1, [.ref q71, .int 0, .int (-1)])), (q71, .inl (E.2.2.1 0, 40, .inl (fun _ => 0))), (q72, .inr (1, [.ref q73, .int 0, .int (-1)])), (q73, .inl (E.2.2.1 0, 40, .inl (fun _ => 0))), (q74, .inl (E.2.2.1 0, 8, .inl (fun _ => 0))), (g, .inr (6, [.ref r1, .int 0, .ref r2, .int 0, .int 0, .int 0, .int 0, .int 0, .int 0, .ref r3, .int 0, .int 0, .int 0, .int 0, .int 0, .int 0, .int 0, .int 0, .ref r4, .ref r5, .int 0, .ref r6, .int 0, .int 0, .ref r7, .int 0, .ref r8, .ref r9, .ref r10, .ref r11, .ref r12, .int 0])), (r1, .inl (E.2.2.1 0, 325, .inl (fun _ => 0))), (r2, .inl (E.2.2.1 0, 65, .inl (fun _ => 0))), (r3, .inl (E.2.2.1 0, 160, .inl (fun _ => 0))), (r4, .inl (E.2.2.1 0, 8, .inl (upd (upd (upd (upd (upd (upd (upd (upd (fun _ => 0) 0 ((nI 0))) 1 ((nI 3))) 2 ((nI 8))) 3 ((nI 16))) 4 ((nI 20))) 5 ((nI 24))) 6 ((nI 28))) 7 ((nI 32))))), (r5, .inl (E.2.2.1 0, 32, .inl (upd (upd (upd (upd (upd (upd (upd (upd (upd (upd (upd (upd (upd (upd (upd (upd (upd (upd (upd (upd (upd (upd (upd (upd (upd (upd (upd (upd (upd (upd (upd (upd (fun _ => 0) 0 ((nI 111))) 1 ((nI 119))) 2 ((nI 110))) 3 ((nI 104))) 4 ((nI 111))) 5 ((nI 117))) 6 ((nI 115))) 7 ((nI 101))) 8 ((nI 115))) 9 ((nI 116))) 10 ((nI 114))) 11 ((nI 97))) 12 ((nI 110))) 13 ((nI 103))) 14 ((nI 101))) 15 ((nI 114))) 16 ((nI 103))) 17 ((nI 97))) 18 ((nI 111))) 19 ((nI 108))) 20 ((nI 119))) 21 ((nI 97))) 22 ((nI 108))) 23 ((nI 108))) 24 ((nI 114))) 25 ((nI 111))) 26 ((nI 111))) 27 ((nI 109))) 28 ((nI 112))) 29 ((nI 108))) 30 ((nI 97))) 31 ((nI 110))))), (r6, .inl (E.2.2.1 0, 8, .inl (fun _ => 0))), (r7, .inl (E.2.2.1 0, 18, .inl (fun _ => 0))), (r8, .inl (E.2.2.1 0, 45, .inl (fun _ => 0))), (r9, .inl (E.2.2.1 2, 2, .inl (fun _ => 0))), (r10, .inl (E.2.2.1 0, 4, .inl (upd (upd (upd (upd (fun _ => 0) 0 ((-4))) 1 ((-4))) 2 ((-4))) 3 ((-4))))), (r11, .inl (E.2.2.1 0, 4, .inl (fun _ => 0))), (r12, .inl (E.2.2.1 0, 160, .inl (fun _ => 0)))]
def sAd (E : vE) (h q1 q2 q3 q4 q5 q6 q7 q8 q9 q10 q11 q12 q13 q14 q15 q16 q17 q18 q19 q20 q21 q22 q23 q24 q25 q26 q27 q28 q29 q30 q31 q32 q33 q34 q35 q36 q37 q38 q39 q40 q41 q42 q43 q44 q45 q46 q47 q48 q49 q50 q51 q52 q53 q54 q55 q56 q57 q58 q59 q60 q61 q62 q63 q64 q65 q66 q67 q68 q69 q70 q71 q72 q73 q74 g r1 r2 r3 r4 r5 r6 r7 r8 r9 r10 r11 r12 : Nat) : vE := (fun k => if k < 88 then ([h, q1, q2, q3, q37, q38, q39, q40, q41, q64, q4, q5, q6, q7, q8, q9, q10, q11, q12, q13, q14, q15, q16, q17, q18, q19, q20, q21, q22, q23, q24, q25, q26, q27, q28, q29, q30, q31, q32, q33, q34, q35, q36, q42, q43, q44, q45, q46, q47, q48, q49, q50, q51, q52, q53, q54, q55, q56, q57, q58, q59, q60, q61, q62, q63, q65, q74, q66, q67, q68, q69, q70, q71, q72, q73, g, r1, r2, r3, r4, r5, r6, r7, r8, r9, r10, r11, r12] : List Nat).getD k 0 else E.1 k, E.2)
set_option maxHeartbeats 4000000 in
set_option maxRecDepth 100000 in
theorem s_cell (E : vE) (h q1 q2 q3 q4 q5 q6 q7 q8 q9 q10 q11 q12 q13 q14 q15 q16 q17 q18 q19 q20 q21 q22 q23 q24 q25 q26 q27 q28 q29 q30 q31 q32 q33 q34 q35 q36 q37 q38 q39 q40 q41 q42 q43 q44 q45 q46 q47 q48 q49 q50 q51 q52 q53 q54 q55 q56 q57 q58 q59 q60 q61 q62 q63 q64 q65 q66 q67 q68 q69 q70 q71 q72 q73 q74 g r1 r2 r3 r4 r5 r6 r7 r8 r9 r10 r11 r12 : Nat) : ∀ k, k < 88 → (sWs E h q1 q2 q3 q4 q5 q6 q7 q8 q9 q10 q11 q12 q13 q14 q15 q16 q17 q18 q19 q20 q21 q22 q23 q24 q25 q26 q27 q28 q29 q30 q31 q32 q33 q34 q35 q36 q37 q38 q39 q40 q41 q42 q43 q44 q45 q46 q47 q48 q49 q50 q51 q52 q53 q54 q55 q56 q57 q58 q59 q60 q61 q62 q63 q64 q65 q66 q67 q68 q69 q70 q71 q72 q73 q74 g r1 r2 r3 r4 r5 r6 r7 r8 r9 r10 r11 r12)[sPI.getD k 0]? = some ((sAd E h q1 q2 q3 q4 q5 q6 q7 q8 q9 q10 q11 q12 q13 q14 q15 q16 q17 q18 q19 q20 q21 q22 q23 q24 q25 q26 q27 q28 q29 q30 q31 q32 q33 q34 q35 q36 q37 q38 q39 q40 q41 q42 q43 q44 q45 q46 q47 q48 q49 q50 q51 q52 q53 q54 q55 q56 q57 q58 q59 q60 q61 q62 q63 q64 q65 q66 q67 q68 q69 q70 q71 q72 q73 q74 g r1 r2 r3 r4 r5 r6 r7 r8 r9 r10 r11 r12).1 k, vcell (sAd E h q1 q2 q3 q4 q5 q6 q7 q8 q9 q10 q11 q12 q13 q14 q15 q16 q17 q18 q19 q20 q21 q22 q23 q24 q25 q26 q27 q28 q29 q30 q31 q32 q33 q34 q35 q36 q37 q38 q39 q40 q41 q42 q43 q44 q45 q46 q47 q48 q49 q50 q51 q52 q53 q54 q55 q56 q57 q58 q59 q60 q61 q62 q63 q64 q65 q66 q67 q68 q69 q70 q71 q72 q73 q74 g r1 r2 r3 r4 r5 r6 r7 r8 r9 r10 r11 r12) sg0 k) := by
  intro k hk
  match k, hk with
  | 0, _ => rfl
  | 1, _ => rfl
  | 2, _ => rfl
  | 3, _ => rfl
  | 4, _ => rfl
  | 5, _ => rfl
  | 6, _ => rfl
  | 7, _ => rfl
  | 8, _ => exact congrArg (fun f => some (q41, (.inl (E.2.2.1 3, 2, .inr (.inr (.inr (.inr f)))) : va_E))) (funext fun j => match j with | 0 => rfl | 1 => rfl | j + 2 => by rw [show (lay 8).2.2 = vR8 from rfl]; simp [va_up, vR8])
  | 9, _ => rfl
  | 10, _ => rfl
  | 11, _ => rfl
  | 12, _ => rfl
  | 13, _ => rfl
  | 14, _ => rfl
  | 15, _ => rfl
  | 16, _ => rfl
  | 17, _ => rfl
  | 18, _ => rfl
  | 19, _ => rfl
  | 20, _ => rfl
  | 21, _ => rfl
  | 22, _ => rfl
  | 23, _ => rfl
  | 24, _ => rfl
  | 25, _ => rfl
  | 26, _ => rfl
  | 27, _ => rfl
  | 28, _ => rfl
  | 29, _ => rfl
  | 30, _ => rfl
  | 31, _ => rfl
  | 32, _ => rfl
  | 33, _ => rfl
  | 34, _ => rfl
  | 35, _ => rfl
  | 36, _ => rfl
  | 37, _ => rfl
  | 38, _ => rfl
  | 39, _ => rfl
  | 40, _ => rfl
  | 41, _ => rfl
  | 42, _ => rfl
  | 43, _ => rfl
  | 44, _ => rfl
  | 45, _ => rfl
  | 46, _ => rfl
  | 47, _ => rfl
  | 48, _ => rfl
  | 49, _ => rfl
  | 50, _ => rfl
  | 51, _ => rfl
  | 52, _ => rfl
  | 53, _ => rfl
  | 54, _ => rfl
  | 55, _ => rfl
  | 56, _ => rfl
  | 57, _ => rfl
  | 58, _ => rfl
  | 59, _ => rfl
  | 60, _ => rfl
  | 61, _ => rfl
  | 62, _ => rfl
  | 63, _ => rfl
  | 64, _ => rfl
  | 65, _ => exact congrArg (fun f => some (q65, (.inl (E.2.2.1 4, 4, .inr (.inr (.inr (.inr f)))) : va_E))) (funext fun j => match j with | 0 => rfl | 1 => rfl | 2 => rfl | 3 => rfl | j + 4 => by rw [show (lay 65).2.2 = vR65 from rfl]; simp [va_up, vR65])
  | 66, _ => rfl
  | 67, _ => rfl
  | 68, _ => rfl
  | 69, _ => rfl
  | 70, _ => rfl
  | 71, _ => rfl
  | 72, _ => rfl
  | 73, _ => rfl
  | 74, _ => rfl
  | 75, _ => rfl
  | 76, _ => rfl
  | 77, _ => rfl
  | 78, _ => rfl
  | 79, _ => rfl
  | 80, _ => rfl
  | 81, _ => rfl
  | 82, _ => rfl
  | 83, _ => rfl
  | 84, _ => rfl
  | 85, _ => rfl
  | 86, _ => rfl
  | 87, _ => rfl
  | k + 88, hk => exact absurd hk (by omega)
theorem s_world (E : vE) (h q1 q2 q3 q4 q5 q6 q7 q8 q9 q10 q11 q12 q13 q14 q15 q16 q17 q18 q19 q20 q21 q22 q23 q24 q25 q26 q27 q28 q29 q30 q31 q32 q33 q34 q35 q36 q37 q38 q39 q40 q41 q42 q43 q44 q45 q46 q47 q48 q49 q50 q51 q52 q53 q54 q55 q56 q57 q58 q59 q60 q61 q62 q63 q64 q65 q66 q67 q68 q69 q70 q71 q72 q73 q74 g r1 r2 r3 r4 r5 r6 r7 r8 r9 r10 r11 r12 : Nat) {A : Nat → Prop} {H : Heap} (hP : va_P E.2.1 vwCl (sWs E h q1 q2 q3 q4 q5 q6 q7 q8 q9 q10 q11 q12 q13 q14 q15 q16 q17 q18 q19 q20 q21 q22 q23 q24 q25 q26 q27 q28 q29 q30 q31 q32 q33 q34 q35 q36 q37 q38 q39 q40 q41 q42 q43 q44 q45 q46 q47 q48 q49 q50 q51 q52 q53 q54 q55 q56 q57 q58 q59 q60 q61 q62 q63 q64 q65 q66 q67 q68 q69 q70 q71 q72 q73 q74 g r1 r2 r3 r4 r5 r6 r7 r8 r9 r10 r11 r12) H) (hD : va_D A (sWs E h q1 q2 q3 q4 q5 q6 q7 q8 q9 q10 q11 q12 q13 q14 q15 q16 q17 q18 q19 q20 q21 q22 q23 q24 q25 q26 q27 q28 q29 q30 q31 q32 q33 q34 q35 q36 q37 q38 q39 q40 q41 q42 q43 q44 q45 q46 q47 q48 q49 q50 q51 q52 q53 q54 q55 q56 q57 q58 q59 q60 q61 q62 q63 q64 q65 q66 q67 q68 q69 q70 q71 q72 q73 q74 g r1 r2 r3 r4 r5 r6 r7 r8 r9 r10 r11 r12)) : va_P E.2.1 vwCl (vws (sAd E h q1 q2 q3 q4 q5 q6 q7 q8 q9 q10 q11 q12 q13 q14 q15 q16 q17 q18 q19 q20 q21 q22 q23 q24 q25 q26 q27 q28 q29 q30 q31 q32 q33 q34 q35 q36 q37 q38 q39 q40 q41 q42 q43 q44 q45 q46 q47 q48 q49 q50 q51 q52 q53 q54 q55 q56 q57 q58 q59 q60 q61 q62 q63 q64 q65 q66 q67 q68 q69 q70 q71 q72 q73 q74 g r1 r2 r3 r4 r5 r6 r7 r8 r9 r10 r11 r12) sg0) H ∧ vInj (sAd E h q1 q2 q3 q4 q5 q6 q7 q8 q9 q10 q11 q12 q13 q14 q15 q16 q17 q18 q19 q20 q21 q22 q23 q24 q25 q26 q27 q28 q29 q30 q31 q32 q33 q34 q35 q36 q37 q38 q39 q40 q41 q42 q43 q44 q45 q46 q47 q48 q49 q50 q51 q52 q53 q54 q55 q56 q57 q58 q59 q60 q61 q62 q63 q64 q65 q66 q67 q68 q69 q70 q71 q72 q73 q74 g r1 r2 r3 r4 r5 r6 r7 r8 r9 r10 r11 r12) ∧ ∀ k, k < 88 → A ((sAd E h q1 q2 q3 q4 q5 q6 q7 q8 q9 q10 q11 q12 q13 q14 q15 q16 q17 q18 q19 q20 q21 q22 q23 q24 q25 q26 q27 q28 q29 q30 q31 q32 q33 q34 q35 q36 q37 q38 q39 q40 q41 q42 q43 q44 q45 q46 q47 q48 q49 q50 q51 q52 q53 q54 q55 q56 q57 q58 q59 q60 q61 q62 q63 q64 q65 q66 q67 q68 q69 q70 q71 q72 q73 q74 g r1 r2 r3 r4 r5 r6 r7 r8 r9 r10 r11 r12).1 k) := by
  have key := s_cell E h q1 q2 q3 q4 q5 q6 q7 q8 q9 q10 q11 q12 q13 q14 q15 q16 q17 q18 q19 q20 q21 q22 q23 q24 q25 q26 q27 q28 q29 q30 q31 q32 q33 q34 q35 q36 q37 q38 q39 q40 q41 q42 q43 q44 q45 q46 q47 q48 q49 q50 q51 q52 q53 q54 q55 q56 q57 q58 q59 q60 q61 q62 q63 q64 q65 q66 q67 q68 q69 q70 q71 q72 q73 q74 g r1 r2 r3 r4 r5 r6 r7 r8 r9 r10 r11 r12
  refine ⟨fun k q hq => ?_, fun i j hi hj e => ?_, fun k hk => ?_⟩
  · obtain ⟨hk, rfl⟩ := vws_inv hq
    exact hP _ _ (key k hk)
  · exact sPI_inj i hi j hj (hD.1 _ _ _ _ (key i hi) (key j hj) e)
  · exact hD.2 _ _ (key k hk)
