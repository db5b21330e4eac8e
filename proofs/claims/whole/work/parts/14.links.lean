/-! printed by program (links.py): what the tables hold, row by row -/
theorem vc_0 : vClsOk 0 := fun q hq => by cases hq; exact ⟨fun w hw => inBIG ((by decide +kernel : ∀ w ∈ u_ws RX0 TX0 7, w ∈ lw_tbl) w hw) ((by decide +kernel : ∀ w ∈ u_ws RX0 TX0 7, goodWord w = true) w hw), nmX0⟩
theorem vt_0 : vTyOk 0 tyX0 := fun q hq => by cases hq; exact tyX0_ok
theorem ft_X0_2 (v : Int32) : vFit 0 2 v := fun q hq => by cases hq; exact ⟨rfl, .int, by decide +kernel, rfl, rfl⟩
theorem ft_X0_3 (v : Int32) : vFit 0 3 v := fun q hq => by cases hq; exact ⟨rfl, .int, by decide +kernel, rfl, rfl⟩
theorem ft_X0_4 (v : Int32) : vFit 0 4 v := fun q hq => by cases hq; exact ⟨rfl, .int, by decide +kernel, rfl, rfl⟩
theorem ft_X0_5 (v : Int32) : vFit 0 5 v := fun q hq => by cases hq; exact ⟨rfl, .int, by decide +kernel, rfl, rfl⟩
theorem ft_X0_6 {v : Int32} (h : v = 0 ∨ v = 1) : vFit 0 6 v := fun q hq => by cases hq; exact ⟨rfl, .boolean, by decide +kernel, by rcases h with rfl | rfl <;> rfl, by rcases h with rfl | rfl <;> rfl⟩
theorem vc_1 : vClsOk 1 := fun q hq => by cases hq; exact ⟨fun w hw => inBIG ((by decide +kernel : ∀ w ∈ u_ws RX1 TX1 3, w ∈ lw_tbl) w hw) ((by decide +kernel : ∀ w ∈ u_ws RX1 TX1 3, goodWord w = true) w hw), nmX1⟩
theorem vt_1 : vTyOk 1 tyX1 := fun q hq => by cases hq; exact tyX1_ok
theorem ft_X1_1 (v : Int32) : vFit 1 1 v := fun q hq => by cases hq; exact ⟨rfl, .int, by decide +kernel, rfl, rfl⟩
theorem ft_X1_2 (v : Int32) : vFit 1 2 v := fun q hq => by cases hq; exact ⟨rfl, .int, by decide +kernel, rfl, rfl⟩
theorem vc_2 : vClsOk 2 := fun q hq => by cases hq; exact ⟨fun w hw => inBIG ((by decide +kernel : ∀ w ∈ u_ws RX2 TX2 4, w ∈ lw_tbl) w hw) ((by decide +kernel : ∀ w ∈ u_ws RX2 TX2 4, goodWord w = true) w hw), nmX2⟩
theorem vt_2 : vTyOk 2 tyX2 := fun q hq => by cases hq; exact tyX2_ok
theorem ft_X2_3 (v : Int32) : vFit 2 3 v := fun q hq => by cases hq; exact ⟨rfl, .int, by decide +kernel, rfl, rfl⟩
theorem vc_3 : vClsOk 3 := fun q hq => by cases hq; exact ⟨fun w hw => inBIG ((by decide +kernel : ∀ w ∈ u_ws RX3 TX3 6, w ∈ lw_tbl) w hw) ((by decide +kernel : ∀ w ∈ u_ws RX3 TX3 6, goodWord w = true) w hw), nmX3⟩
theorem vt_3 : vTyOk 3 tyX3 := fun q hq => by cases hq; exact tyX3_ok
theorem ft_X3_1 (v : Int32) : vFit 3 1 v := fun q hq => by cases hq; exact ⟨rfl, .int, by decide +kernel, rfl, rfl⟩
theorem ft_X3_2 (v : Int32) : vFit 3 2 v := fun q hq => by cases hq; exact ⟨rfl, .int, by decide +kernel, rfl, rfl⟩
theorem ft_X3_3 (v : Int32) : vFit 3 3 v := fun q hq => by cases hq; exact ⟨rfl, .int, by decide +kernel, rfl, rfl⟩
theorem ft_X3_4 (v : Int32) : vFit 3 4 v := fun q hq => by cases hq; exact ⟨rfl, .int, by decide +kernel, rfl, rfl⟩
theorem ft_X3_5 (v : Int32) : vFit 3 5 v := fun q hq => by cases hq; exact ⟨rfl, .int, by decide +kernel, rfl, rfl⟩
theorem vc_4 : vClsOk 4 := fun q hq => by cases hq; exact ⟨fun w hw => inBIG ((by decide +kernel : ∀ w ∈ u_ws RX4 TX4 13, w ∈ lw_tbl) w hw) ((by decide +kernel : ∀ w ∈ u_ws RX4 TX4 13, goodWord w = true) w hw), nmX4⟩
theorem vt_4 : vTyOk 4 tyX4 := fun q hq => by cases hq; exact tyX4_ok
theorem ft_X4_10 (v : Int32) : vFit 4 10 v := fun q hq => by cases hq; exact ⟨rfl, .int, by decide +kernel, rfl, rfl⟩
theorem ft_X4_11 (v : Int32) : vFit 4 11 v := fun q hq => by cases hq; exact ⟨rfl, .int, by decide +kernel, rfl, rfl⟩
theorem ft_X4_12 (v : Int32) : vFit 4 12 v := fun q hq => by cases hq; exact ⟨rfl, .int, by decide +kernel, rfl, rfl⟩
theorem vc_5 : vClsOk 5 := fun q hq => by cases hq; exact ⟨fun w hw => inBIG ((by decide +kernel : ∀ w ∈ u_ws RX5 TX5 10, w ∈ lw_tbl) w hw) ((by decide +kernel : ∀ w ∈ u_ws RX5 TX5 10, goodWord w = true) w hw), nmX5⟩
theorem vt_5 : vTyOk 5 tyX5 := fun q hq => by cases hq; exact tyX5_ok
theorem ft_X5_8 (v : Int32) : vFit 5 8 v := fun q hq => by cases hq; exact ⟨rfl, .int, by decide +kernel, rfl, rfl⟩
theorem ft_X5_9 (v : Int32) : vFit 5 9 v := fun q hq => by cases hq; exact ⟨rfl, .int, by decide +kernel, rfl, rfl⟩
theorem vc_6 : vClsOk 6 := fun q hq => by cases hq; exact ⟨fun w hw => inBIG ((by decide +kernel : ∀ w ∈ u_ws RX6 TX6 32, w ∈ lw_tbl) w hw) ((by decide +kernel : ∀ w ∈ u_ws RX6 TX6 32, goodWord w = true) w hw), nmX6⟩
theorem vt_6 : vTyOk 6 tyX6 := fun q hq => by cases hq; exact tyX6_ok
theorem ft_X6_1 (v : Int32) : vFit 6 1 v := fun q hq => by cases hq; exact ⟨rfl, .int, by decide +kernel, rfl, rfl⟩
theorem ft_X6_3 (v : Int32) : vFit 6 3 v := fun q hq => by cases hq; exact ⟨rfl, .int, by decide +kernel, rfl, rfl⟩
theorem ft_X6_4 (v : Int32) : vFit 6 4 v := fun q hq => by cases hq; exact ⟨rfl, .int, by decide +kernel, rfl, rfl⟩
theorem ft_X6_5 (v : Int32) : vFit 6 5 v := fun q hq => by cases hq; exact ⟨rfl, .int, by decide +kernel, rfl, rfl⟩
theorem ft_X6_6 {v : Int32} (h : v = 0 ∨ v = 1) : vFit 6 6 v := fun q hq => by cases hq; exact ⟨rfl, .boolean, by decide +kernel, by rcases h with rfl | rfl <;> rfl, by rcases h with rfl | rfl <;> rfl⟩
theorem ft_X6_7 (v : Int32) : vFit 6 7 v := fun q hq => by cases hq; exact ⟨rfl, .int, by decide +kernel, rfl, rfl⟩
theorem ft_X6_8 (v : Int32) : vFit 6 8 v := fun q hq => by cases hq; exact ⟨rfl, .int, by decide +kernel, rfl, rfl⟩
theorem ft_X6_10 (v : Int32) : vFit 6 10 v := fun q hq => by cases hq; exact ⟨rfl, .int, by decide +kernel, rfl, rfl⟩
theorem ft_X6_11 (v : Int32) : vFit 6 11 v := fun q hq => by cases hq; exact ⟨rfl, .int, by decide +kernel, rfl, rfl⟩
theorem ft_X6_12 (v : Int32) : vFit 6 12 v := fun q hq => by cases hq; exact ⟨rfl, .int, by decide +kernel, rfl, rfl⟩
theorem ft_X6_13 (v : Int32) : vFit 6 13 v := fun q hq => by cases hq; exact ⟨rfl, .int, by decide +kernel, rfl, rfl⟩
theorem ft_X6_14 (v : Int32) : vFit 6 14 v := fun q hq => by cases hq; exact ⟨rfl, .int, by decide +kernel, rfl, rfl⟩
theorem ft_X6_15 (v : Int32) : vFit 6 15 v := fun q hq => by cases hq; exact ⟨rfl, .int, by decide +kernel, rfl, rfl⟩
theorem ft_X6_16 (v : Int32) : vFit 6 16 v := fun q hq => by cases hq; exact ⟨rfl, .int, by decide +kernel, rfl, rfl⟩
theorem ft_X6_17 (v : Int32) : vFit 6 17 v := fun q hq => by cases hq; exact ⟨rfl, .int, by decide +kernel, rfl, rfl⟩
theorem ft_X6_20 (v : Int32) : vFit 6 20 v := fun q hq => by cases hq; exact ⟨rfl, .int, by decide +kernel, rfl, rfl⟩
theorem ft_X6_22 (v : Int32) : vFit 6 22 v := fun q hq => by cases hq; exact ⟨rfl, .int, by decide +kernel, rfl, rfl⟩
theorem ft_X6_23 (v : Int32) : vFit 6 23 v := fun q hq => by cases hq; exact ⟨rfl, .int, by decide +kernel, rfl, rfl⟩
theorem ft_X6_25 (v : Int32) : vFit 6 25 v := fun q hq => by cases hq; exact ⟨rfl, .int, by decide +kernel, rfl, rfl⟩
theorem ft_X6_31 (v : Int32) : vFit 6 31 v := fun q hq => by cases hq; exact ⟨rfl, .int, by decide +kernel, rfl, rfl⟩
theorem ml_L_9 : Cond.methodLink RL 9 yX5_init ∈ BIG := inBIG (List.mem_of_getElem? (i := 69) (by decide +kernel)) rfl
theorem nl_X5_9 : (RX5, 9, yX0_init) ∈ vNest := by decide +kernel
theorem nl_X0_11 : (RX0, 11, yX3_init) ∈ vNest := by decide +kernel
theorem lk_X3_9 : vLk RX3 9 3 0 := ⟨_, rfl, by decide, inBIG (List.mem_of_getElem? (i := 87) (by decide +kernel)) rfl⟩
theorem lk_X3_15 : vLk RX3 15 3 1 := ⟨_, rfl, by decide, inBIG (List.mem_of_getElem? (i := 88) (by decide +kernel)) rfl⟩
theorem lk_X5_66 : vLk RX5 66 3 1 := ⟨_, rfl, by decide, inBIG (List.mem_of_getElem? (i := 89) (by decide +kernel)) rfl⟩
theorem lk_X0_88 : vLk RX0 88 3 1 := ⟨_, rfl, by decide, inBIG (List.mem_of_getElem? (i := 90) (by decide +kernel)) rfl⟩
theorem lk_X0_52 : vLk RX0 52 3 2 := ⟨_, rfl, by decide, inBIG (List.mem_of_getElem? (i := 91) (by decide +kernel)) rfl⟩
theorem lk_X3_35 : vLk RX3 35 3 2 := ⟨_, rfl, by decide, inBIG (List.mem_of_getElem? (i := 92) (by decide +kernel)) rfl⟩
theorem lk_X3_26 : vLk RX3 26 3 3 := ⟨_, rfl, by decide, inBIG (List.mem_of_getElem? (i := 93) (by decide +kernel)) rfl⟩
theorem lk_X0_162 : vLk RX0 162 3 3 := ⟨_, rfl, by decide, inBIG (List.mem_of_getElem? (i := 94) (by decide +kernel)) rfl⟩
theorem lk_X3_29 : vLk RX3 29 3 4 := ⟨_, rfl, by decide, inBIG (List.mem_of_getElem? (i := 95) (by decide +kernel)) rfl⟩
theorem lk_X0_159 : vLk RX0 159 3 4 := ⟨_, rfl, by decide, inBIG (List.mem_of_getElem? (i := 96) (by decide +kernel)) rfl⟩
theorem lk_X3_19 : vLk RX3 19 3 5 := ⟨_, rfl, by decide, inBIG (List.mem_of_getElem? (i := 97) (by decide +kernel)) rfl⟩
theorem ml_X0_20 : Cond.methodLink RX0 20 yX4_init ∈ BIG := inBIG (List.mem_of_getElem? (i := 114) (by decide +kernel)) rfl
theorem ml_X4_42 : Cond.methodLink RX4 42 yJ7_fill_53178 ∈ BIG := inBIG (List.mem_of_getElem? (i := 118) (by decide +kernel)) rfl
theorem lk_X4_9 : vLk RX4 9 4 0 := ⟨_, rfl, by decide, inBIG (List.mem_of_getElem? (i := 121) (by decide +kernel)) rfl⟩
theorem lk_X5_123 : vLk RX5 123 4 0 := ⟨_, rfl, by decide, inBIG (List.mem_of_getElem? (i := 122) (by decide +kernel)) rfl⟩
theorem lk_X4_15 : vLk RX4 15 4 1 := ⟨_, rfl, by decide, inBIG (List.mem_of_getElem? (i := 123) (by decide +kernel)) rfl⟩
theorem lk_X5_126 : vLk RX5 126 4 1 := ⟨_, rfl, by decide, inBIG (List.mem_of_getElem? (i := 124) (by decide +kernel)) rfl⟩
theorem lk_X4_18 : vLk RX4 18 4 2 := ⟨_, rfl, by decide, inBIG (List.mem_of_getElem? (i := 125) (by decide +kernel)) rfl⟩
theorem lk_X5_129 : vLk RX5 129 4 2 := ⟨_, rfl, by decide, inBIG (List.mem_of_getElem? (i := 126) (by decide +kernel)) rfl⟩
theorem lk_X4_21 : vLk RX4 21 4 3 := ⟨_, rfl, by decide, inBIG (List.mem_of_getElem? (i := 127) (by decide +kernel)) rfl⟩
theorem lk_X0_131 : vLk RX0 131 4 3 := ⟨_, rfl, by decide, inBIG (List.mem_of_getElem? (i := 128) (by decide +kernel)) rfl⟩
theorem lk_X5_132 : vLk RX5 132 4 3 := ⟨_, rfl, by decide, inBIG (List.mem_of_getElem? (i := 129) (by decide +kernel)) rfl⟩
theorem lk_X4_24 : vLk RX4 24 4 4 := ⟨_, rfl, by decide, inBIG (List.mem_of_getElem? (i := 130) (by decide +kernel)) rfl⟩
theorem lk_X5_148 : vLk RX5 148 4 4 := ⟨_, rfl, by decide, inBIG (List.mem_of_getElem? (i := 131) (by decide +kernel)) rfl⟩
theorem lk_X4_27 : vLk RX4 27 4 5 := ⟨_, rfl, by decide, inBIG (List.mem_of_getElem? (i := 132) (by decide +kernel)) rfl⟩
theorem lk_X5_151 : vLk RX5 151 4 5 := ⟨_, rfl, by decide, inBIG (List.mem_of_getElem? (i := 133) (by decide +kernel)) rfl⟩
theorem lk_X4_30 : vLk RX4 30 4 6 := ⟨_, rfl, by decide, inBIG (List.mem_of_getElem? (i := 134) (by decide +kernel)) rfl⟩
theorem lk_X0_127 : vLk RX0 127 4 6 := ⟨_, rfl, by decide, inBIG (List.mem_of_getElem? (i := 135) (by decide +kernel)) rfl⟩
theorem lk_X5_154 : vLk RX5 154 4 6 := ⟨_, rfl, by decide, inBIG (List.mem_of_getElem? (i := 136) (by decide +kernel)) rfl⟩
theorem lk_X4_33 : vLk RX4 33 4 7 := ⟨_, rfl, by decide, inBIG (List.mem_of_getElem? (i := 137) (by decide +kernel)) rfl⟩
theorem lk_X0_147 : vLk RX0 147 4 7 := ⟨_, rfl, by decide, inBIG (List.mem_of_getElem? (i := 138) (by decide +kernel)) rfl⟩
theorem lk_X5_163 : vLk RX5 163 4 7 := ⟨_, rfl, by decide, inBIG (List.mem_of_getElem? (i := 139) (by decide +kernel)) rfl⟩
theorem lk_X4_36 : vLk RX4 36 4 8 := ⟨_, rfl, by decide, inBIG (List.mem_of_getElem? (i := 140) (by decide +kernel)) rfl⟩
theorem lk_X5_169 : vLk RX5 169 4 8 := ⟨_, rfl, by decide, inBIG (List.mem_of_getElem? (i := 141) (by decide +kernel)) rfl⟩
theorem lk_X4_39 : vLk RX4 39 4 9 := ⟨_, rfl, by decide, inBIG (List.mem_of_getElem? (i := 142) (by decide +kernel)) rfl⟩
theorem lk_X5_172 : vLk RX5 172 4 9 := ⟨_, rfl, by decide, inBIG (List.mem_of_getElem? (i := 143) (by decide +kernel)) rfl⟩
theorem lk_X4_48 : vLk RX4 48 4 10 := ⟨_, rfl, by decide, inBIG (List.mem_of_getElem? (i := 144) (by decide +kernel)) rfl⟩
theorem lk_X0_103 : vLk RX0 103 4 10 := ⟨_, rfl, by decide, inBIG (List.mem_of_getElem? (i := 145) (by decide +kernel)) rfl⟩
theorem lk_X5_95 : vLk RX5 95 4 10 := ⟨_, rfl, by decide, inBIG (List.mem_of_getElem? (i := 146) (by decide +kernel)) rfl⟩
theorem lk_X4_52 : vLk RX4 52 4 11 := ⟨_, rfl, by decide, inBIG (List.mem_of_getElem? (i := 147) (by decide +kernel)) rfl⟩
theorem lk_X5_98 : vLk RX5 98 4 11 := ⟨_, rfl, by decide, inBIG (List.mem_of_getElem? (i := 148) (by decide +kernel)) rfl⟩
theorem lk_X0_134 : vLk RX0 134 4 11 := ⟨_, rfl, by decide, inBIG (List.mem_of_getElem? (i := 149) (by decide +kernel)) rfl⟩
theorem lk_X4_55 : vLk RX4 55 4 12 := ⟨_, rfl, by decide, inBIG (List.mem_of_getElem? (i := 150) (by decide +kernel)) rfl⟩
theorem lk_X5_111 : vLk RX5 111 4 12 := ⟨_, rfl, by decide, inBIG (List.mem_of_getElem? (i := 151) (by decide +kernel)) rfl⟩
theorem lk_X0_150 : vLk RX0 150 4 12 := ⟨_, rfl, by decide, inBIG (List.mem_of_getElem? (i := 152) (by decide +kernel)) rfl⟩
theorem lk_X0_12 : vLk RX0 12 0 0 := ⟨_, rfl, by decide, inBIG (List.mem_of_getElem? (i := 181) (by decide +kernel)) rfl⟩
theorem lk_X5_56 : vLk RX5 56 0 0 := ⟨_, rfl, by decide, inBIG (List.mem_of_getElem? (i := 182) (by decide +kernel)) rfl⟩
theorem lk_X0_21 : vLk RX0 21 0 1 := ⟨_, rfl, by decide, inBIG (List.mem_of_getElem? (i := 183) (by decide +kernel)) rfl⟩
theorem lk_X5_82 : vLk RX5 82 0 1 := ⟨_, rfl, by decide, inBIG (List.mem_of_getElem? (i := 184) (by decide +kernel)) rfl⟩
theorem lk_X0_31 : vLk RX0 31 0 2 := ⟨_, rfl, by decide, inBIG (List.mem_of_getElem? (i := 185) (by decide +kernel)) rfl⟩
theorem lk_X5_92 : vLk RX5 92 0 2 := ⟨_, rfl, by decide, inBIG (List.mem_of_getElem? (i := 186) (by decide +kernel)) rfl⟩
theorem lk_X0_35 : vLk RX0 35 0 3 := ⟨_, rfl, by decide, inBIG (List.mem_of_getElem? (i := 187) (by decide +kernel)) rfl⟩
theorem lk_X5_73 : vLk RX5 73 0 3 := ⟨_, rfl, by decide, inBIG (List.mem_of_getElem? (i := 188) (by decide +kernel)) rfl⟩
theorem lk_X0_38 : vLk RX0 38 0 4 := ⟨_, rfl, by decide, inBIG (List.mem_of_getElem? (i := 189) (by decide +kernel)) rfl⟩
theorem lk_X5_79 : vLk RX5 79 0 4 := ⟨_, rfl, by decide, inBIG (List.mem_of_getElem? (i := 190) (by decide +kernel)) rfl⟩
theorem lk_X0_41 : vLk RX0 41 0 5 := ⟨_, rfl, by decide, inBIG (List.mem_of_getElem? (i := 191) (by decide +kernel)) rfl⟩
theorem lk_X0_44 : vLk RX0 44 0 6 := ⟨_, rfl, by decide, inBIG (List.mem_of_getElem? (i := 192) (by decide +kernel)) rfl⟩
theorem ml_X5_18 : Cond.methodLink RX5 18 yX4_init ∈ BIG := inBIG (List.mem_of_getElem? (i := 209) (by decide +kernel)) rfl
theorem nl_X5_28 : (RX5, 28, yX2_init) ∈ vNest := by decide +kernel
theorem lk_X2_9 : vLk RX2 9 2 0 := ⟨_, rfl, by decide, inBIG (List.mem_of_getElem? (i := 216) (by decide +kernel)) rfl⟩
theorem lk_X2_15 : vLk RX2 15 2 1 := ⟨_, rfl, by decide, inBIG (List.mem_of_getElem? (i := 217) (by decide +kernel)) rfl⟩
theorem lk_X2_18 : vLk RX2 18 2 2 := ⟨_, rfl, by decide, inBIG (List.mem_of_getElem? (i := 218) (by decide +kernel)) rfl⟩
theorem lk_X2_22 : vLk RX2 22 2 3 := ⟨_, rfl, by decide, inBIG (List.mem_of_getElem? (i := 219) (by decide +kernel)) rfl⟩
theorem lk_X5_89 : vLk RX5 89 2 3 := ⟨_, rfl, by decide, inBIG (List.mem_of_getElem? (i := 220) (by decide +kernel)) rfl⟩
theorem nl_X5_47 : (RX5, 47, yX1_init) ∈ vNest := by decide +kernel
theorem lk_X1_9 : vLk RX1 9 1 0 := ⟨_, rfl, by decide, inBIG (List.mem_of_getElem? (i := 239) (by decide +kernel)) rfl⟩
theorem lk_X5_276 : vLk RX5 276 1 0 := ⟨_, rfl, by decide, inBIG (List.mem_of_getElem? (i := 240) (by decide +kernel)) rfl⟩
theorem lk_X1_19 : vLk RX1 19 1 1 := ⟨_, rfl, by decide, inBIG (List.mem_of_getElem? (i := 241) (by decide +kernel)) rfl⟩
theorem lk_X5_269 : vLk RX5 269 1 1 := ⟨_, rfl, by decide, inBIG (List.mem_of_getElem? (i := 242) (by decide +kernel)) rfl⟩
theorem lk_X1_15 : vLk RX1 15 1 2 := ⟨_, rfl, by decide, inBIG (List.mem_of_getElem? (i := 243) (by decide +kernel)) rfl⟩
theorem lk_X5_288 : vLk RX5 288 1 2 := ⟨_, rfl, by decide, inBIG (List.mem_of_getElem? (i := 244) (by decide +kernel)) rfl⟩
theorem lk_X5_10 : vLk RX5 10 5 0 := ⟨_, rfl, by decide, inBIG (List.mem_of_getElem? (i := 252) (by decide +kernel)) rfl⟩
theorem lk_X5_19 : vLk RX5 19 5 1 := ⟨_, rfl, by decide, inBIG (List.mem_of_getElem? (i := 253) (by decide +kernel)) rfl⟩
theorem lk_X5_23 : vLk RX5 23 5 2 := ⟨_, rfl, by decide, inBIG (List.mem_of_getElem? (i := 254) (by decide +kernel)) rfl⟩
theorem lk_X5_29 : vLk RX5 29 5 3 := ⟨_, rfl, by decide, inBIG (List.mem_of_getElem? (i := 255) (by decide +kernel)) rfl⟩
theorem lk_X5_33 : vLk RX5 33 5 4 := ⟨_, rfl, by decide, inBIG (List.mem_of_getElem? (i := 256) (by decide +kernel)) rfl⟩
theorem lk_X5_37 : vLk RX5 37 5 5 := ⟨_, rfl, by decide, inBIG (List.mem_of_getElem? (i := 257) (by decide +kernel)) rfl⟩
theorem lk_X5_43 : vLk RX5 43 5 6 := ⟨_, rfl, by decide, inBIG (List.mem_of_getElem? (i := 258) (by decide +kernel)) rfl⟩
theorem lk_X5_48 : vLk RX5 48 5 7 := ⟨_, rfl, by decide, inBIG (List.mem_of_getElem? (i := 259) (by decide +kernel)) rfl⟩
theorem lk_X5_76 : vLk RX5 76 5 8 := ⟨_, rfl, by decide, inBIG (List.mem_of_getElem? (i := 260) (by decide +kernel)) rfl⟩
theorem lk_X5_285 : vLk RX5 285 5 9 := ⟨_, rfl, by decide, inBIG (List.mem_of_getElem? (i := 261) (by decide +kernel)) rfl⟩
theorem ml_L_13 : Cond.methodLink RL 13 yX5_feed ∈ BIG := inBIG (List.mem_of_getElem? (i := 283) (by decide +kernel)) rfl
theorem ml_X5_52 : Cond.methodLink RX5 52 yX5_isUpTo ∈ BIG := inBIG (List.mem_of_getElem? (i := 287) (by decide +kernel)) rfl
theorem ml_X5_60 : Cond.methodLink RX5 60 yX3_append ∈ BIG := inBIG (List.mem_of_getElem? (i := 290) (by decide +kernel)) rfl
theorem ml_L_18 : Cond.methodLink RL 18 yX5_end ∈ BIG := inBIG (List.mem_of_getElem? (i := 294) (by decide +kernel)) rfl
theorem ml_L_22 : Cond.methodLink RL 22 yX5_text ∈ BIG := inBIG (List.mem_of_getElem? (i := 298) (by decide +kernel)) rfl
theorem ml_X5_70 : Cond.methodLink RX5 70 yX0_readAll ∈ BIG := inBIG (List.mem_of_getElem? (i := 302) (by decide +kernel)) rfl
theorem ml_X0_25 : Cond.methodLink RX0 25 yX3_rewind ∈ BIG := inBIG (List.mem_of_getElem? (i := 306) (by decide +kernel)) rfl
theorem ml_X0_28 : Cond.methodLink RX0 28 yX4_clear ∈ BIG := inBIG (List.mem_of_getElem? (i := 310) (by decide +kernel)) rfl
theorem ml_X0_48 : Cond.methodLink RX0 48 yX0_nextToken ∈ BIG := inBIG (List.mem_of_getElem? (i := 314) (by decide +kernel)) rfl
theorem ml_X0_156 : Cond.methodLink RX0 156 yX3_readToken ∈ BIG := inBIG (List.mem_of_getElem? (i := 318) (by decide +kernel)) rfl
theorem ml_X3_22 : Cond.methodLink RX3 22 yX3_byteAt ∈ BIG := inBIG (List.mem_of_getElem? (i := 322) (by decide +kernel)) rfl
theorem ml_X3_32 : Cond.methodLink RX3 32 yX3_tokenOf ∈ BIG := inBIG (List.mem_of_getElem? (i := 326) (by decide +kernel)) rfl
theorem ml_X0_82 : Cond.methodLink RX0 82 yX0_refuse ∈ BIG := inBIG (List.mem_of_getElem? (i := 329) (by decide +kernel)) rfl
theorem ml_X0_55 : Cond.methodLink RX0 55 yX0_kindNamed ∈ BIG := inBIG (List.mem_of_getElem? (i := 333) (by decide +kernel)) rfl
theorem ml_X0_91 : Cond.methodLink RX0 91 yX0_nameOfKind ∈ BIG := inBIG (List.mem_of_getElem? (i := 337) (by decide +kernel)) rfl
theorem ml_X0_65 : Cond.methodLink RX0 65 yX3_isName ∈ BIG := inBIG (List.mem_of_getElem? (i := 344) (by decide +kernel)) rfl
theorem ml_X3_38 : Cond.methodLink RX3 38 yJ0_length_8abf5 ∈ BIG := inBIG (List.mem_of_getElem? (i := 348) (by decide +kernel)) rfl
theorem ml_J0_335 : Cond.methodLink RJ0 335 yJ0_coder_7d493 ∈ BIG := inBIG (List.mem_of_getElem? (i := 352) (by decide +kernel)) rfl
theorem ml_X3_43 : Cond.methodLink RX3 43 yJ0_charAt_5068e ∈ BIG := inBIG (List.mem_of_getElem? (i := 358) (by decide +kernel)) rfl
theorem ml_J0_492 : Cond.methodLink RJ0 492 yJ0_isLatin1_aae02 ∈ BIG := inBIG (List.mem_of_getElem? (i := 362) (by decide +kernel)) rfl
theorem ml_J0_495 : Cond.methodLink RJ0 495 yJ1_charAt_3b067 ∈ BIG := inBIG (List.mem_of_getElem? (i := 366) (by decide +kernel)) rfl
theorem ml_J1_9 : Cond.methodLink RJ1 9 yJ0_checkIndex_df160 ∈ BIG := inBIG (List.mem_of_getElem? (i := 369) (by decide +kernel)) rfl
theorem ml_J0_1059 : Cond.methodLink RJ0 1059 yJ3_checkIndex_8e157 ∈ BIG := inBIG (List.mem_of_getElem? (i := 374) (by decide +kernel)) rfl
theorem ml_J0_498 : Cond.methodLink RJ0 498 yJ2_charAt_3b067 ∈ BIG := inBIG (List.mem_of_getElem? (i := 377) (by decide +kernel)) rfl
theorem ml_J2_67 : Cond.methodLink RJ2 67 yJ2_checkIndex_2214a ∈ BIG := inBIG (List.mem_of_getElem? (i := 380) (by decide +kernel)) rfl
theorem ml_J2_48 : Cond.methodLink RJ2 48 yJ2_length_9d52b ∈ BIG := inBIG (List.mem_of_getElem? (i := 383) (by decide +kernel)) rfl
theorem ml_J2_414 : Cond.methodLink RJ2 414 yJ0_checkIndex_df160 ∈ BIG := inBIG (List.mem_of_getElem? (i := 386) (by decide +kernel)) rfl
theorem ml_J2_71 : Cond.methodLink RJ2 71 yJ2_getChar_3b067 ∈ BIG := inBIG (List.mem_of_getElem? (i := 387) (by decide +kernel)) rfl
theorem ml_X0_59 : Cond.methodLink RX0 59 yX0_readOne ∈ BIG := inBIG (List.mem_of_getElem? (i := 396) (by decide +kernel)) rfl
theorem ml_X0_106 : Cond.methodLink RX0 106 yX0_nextNumber ∈ BIG := inBIG (List.mem_of_getElem? (i := 400) (by decide +kernel)) rfl
theorem ml_X0_120 : Cond.methodLink RX0 120 yX0_numberHere ∈ BIG := inBIG (List.mem_of_getElem? (i := 404) (by decide +kernel)) rfl
theorem ml_X0_110 : Cond.methodLink RX0 110 yX4_addOne ∈ BIG := inBIG (List.mem_of_getElem? (i := 408) (by decide +kernel)) rfl
theorem ml_X0_114 : Cond.methodLink RX0 114 yX0_hangToldDoor ∈ BIG := inBIG (List.mem_of_getElem? (i := 412) (by decide +kernel)) rfl
theorem ml_X0_123 : Cond.methodLink RX0 123 yX4_isOne ∈ BIG := inBIG (List.mem_of_getElem? (i := 416) (by decide +kernel)) rfl
theorem ml_X0_117 : Cond.methodLink RX0 117 yX0_takeSign ∈ BIG := inBIG (List.mem_of_getElem? (i := 420) (by decide +kernel)) rfl
theorem ml_X0_69 : Cond.methodLink RX0 69 yX0_readWall ∈ BIG := inBIG (List.mem_of_getElem? (i := 425) (by decide +kernel)) rfl
theorem ml_X0_137 : Cond.methodLink RX0 137 yX4_addWall ∈ BIG := inBIG (List.mem_of_getElem? (i := 429) (by decide +kernel)) rfl
theorem ml_X0_74 : Cond.methodLink RX0 74 yX0_readRoom ∈ BIG := inBIG (List.mem_of_getElem? (i := 434) (by decide +kernel)) rfl
theorem nl_X0_141 : (RX0, 141, yX5_hasBit) ∈ vNest := by decide +kernel
theorem nl_X0_144 : (RX0, 144, yX5_isRoom) ∈ vNest := by decide +kernel
theorem ml_X0_79 : Cond.methodLink RX0 79 yX0_readPlan ∈ BIG := inBIG (List.mem_of_getElem? (i := 445) (by decide +kernel)) rfl
theorem ml_X0_153 : Cond.methodLink RX0 153 yX4_addAct ∈ BIG := inBIG (List.mem_of_getElem? (i := 449) (by decide +kernel)) rfl
theorem ml_X0_85 : Cond.methodLink RX0 85 yX4_namesMissing ∈ BIG := inBIG (List.mem_of_getElem? (i := 453) (by decide +kernel)) rfl
theorem ml_X4_64 : Cond.methodLink RX4 64 yX4_isOne ∈ BIG := inBIG (List.mem_of_getElem? (i := 457) (by decide +kernel)) rfl
theorem ml_X4_68 : Cond.methodLink RX4 68 yX4_isWall ∈ BIG := inBIG (List.mem_of_getElem? (i := 458) (by decide +kernel)) rfl
theorem ml_X5_85 : Cond.methodLink RX5 85 yX4_become ∈ BIG := inBIG (List.mem_of_getElem? (i := 462) (by decide +kernel)) rfl
theorem ml_L_27 : Cond.methodLink RL 27 yX5_fault ∈ BIG := inBIG (List.mem_of_getElem? (i := 469) (by decide +kernel)) rfl
theorem ml_L_31 : Cond.methodLink RL 31 yX5_rule ∈ BIG := inBIG (List.mem_of_getElem? (i := 473) (by decide +kernel)) rfl
theorem ml_X5_101 : Cond.methodLink RX5 101 yX4_hungWalls ∈ BIG := inBIG (List.mem_of_getElem? (i := 477) (by decide +kernel)) rfl
theorem ml_X5_105 : Cond.methodLink RX5 105 yJ6_bitCount_0f7a4 ∈ BIG := inBIG (List.mem_of_getElem? (i := 481) (by decide +kernel)) rfl
theorem ct_J6_265 : Cond.constant RJ6 265 (1431655765) ∈ BIG := inBIG (List.mem_of_getElem? (i := 484) (by decide +kernel)) rfl
theorem ct_J6_266 : Cond.constant RJ6 266 (858993459) ∈ BIG := inBIG (List.mem_of_getElem? (i := 485) (by decide +kernel)) rfl
theorem ct_J6_267 : Cond.constant RJ6 267 (252645135) ∈ BIG := inBIG (List.mem_of_getElem? (i := 486) (by decide +kernel)) rfl
theorem ml_X5_114 : Cond.methodLink RX5 114 yX4_doorsAt ∈ BIG := inBIG (List.mem_of_getElem? (i := 487) (by decide +kernel)) rfl
theorem ml_X5_117 : Cond.methodLink RX5 117 yX4_unreached ∈ BIG := inBIG (List.mem_of_getElem? (i := 491) (by decide +kernel)) rfl
theorem ml_X4_114 : Cond.methodLink RX4 114 yX4_reached ∈ BIG := inBIG (List.mem_of_getElem? (i := 495) (by decide +kernel)) rfl
theorem ml_X4_85 : Cond.methodLink RX4 85 yX4_passed ∈ BIG := inBIG (List.mem_of_getElem? (i := 499) (by decide +kernel)) rfl
theorem ml_X4_82 : Cond.methodLink RX4 82 yX4_lets ∈ BIG := inBIG (List.mem_of_getElem? (i := 503) (by decide +kernel)) rfl
theorem ml_X4_102 : Cond.methodLink RX4 102 yX4_spread ∈ BIG := inBIG (List.mem_of_getElem? (i := 507) (by decide +kernel)) rfl
theorem ml_X4_92 : Cond.methodLink RX4 92 yX4_nextTo ∈ BIG := inBIG (List.mem_of_getElem? (i := 511) (by decide +kernel)) rfl
theorem nl_X4_89 : (RX4, 89, yX5_hasBit) ∈ vNest := by decide +kernel
theorem ml_L_35 : Cond.methodLink RL 35 yX5_one ∈ BIG := inBIG (List.mem_of_getElem? (i := 516) (by decide +kernel)) rfl
theorem ml_X5_120 : Cond.methodLink RX5 120 yX4_isOne ∈ BIG := inBIG (List.mem_of_getElem? (i := 520) (by decide +kernel)) rfl
theorem ml_X5_135 : Cond.methodLink RX5 135 yX4_reached ∈ BIG := inBIG (List.mem_of_getElem? (i := 521) (by decide +kernel)) rfl
theorem ml_X5_138 : Cond.methodLink RX5 138 yX4_gainOf ∈ BIG := inBIG (List.mem_of_getElem? (i := 522) (by decide +kernel)) rfl
theorem ml_X4_122 : Cond.methodLink RX4 122 yX4_worthOf ∈ BIG := inBIG (List.mem_of_getElem? (i := 526) (by decide +kernel)) rfl
theorem ml_X5_142 : Cond.methodLink RX5 142 yX4_doorState ∈ BIG := inBIG (List.mem_of_getElem? (i := 530) (by decide +kernel)) rfl
theorem ml_L_40 : Cond.methodLink RL 40 yX5_wall ∈ BIG := inBIG (List.mem_of_getElem? (i := 534) (by decide +kernel)) rfl
theorem ml_X5_145 : Cond.methodLink RX5 145 yX4_isWall ∈ BIG := inBIG (List.mem_of_getElem? (i := 538) (by decide +kernel)) rfl
theorem ml_X5_157 : Cond.methodLink RX5 157 yX4_whomLets ∈ BIG := inBIG (List.mem_of_getElem? (i := 539) (by decide +kernel)) rfl
theorem ml_L_44 : Cond.methodLink RL 44 yX5_room ∈ BIG := inBIG (List.mem_of_getElem? (i := 543) (by decide +kernel)) rfl
theorem ml_X5_160 : Cond.methodLink RX5 160 yX5_isRoom ∈ BIG := inBIG (List.mem_of_getElem? (i := 547) (by decide +kernel)) rfl
theorem ml_X5_166 : Cond.methodLink RX5 166 yX4_whoReaches ∈ BIG := inBIG (List.mem_of_getElem? (i := 548) (by decide +kernel)) rfl
theorem ml_L_48 : Cond.methodLink RL 48 yX5_act ∈ BIG := inBIG (List.mem_of_getElem? (i := 552) (by decide +kernel)) rfl
theorem ml_L_52 : Cond.methodLink RL 52 yX5_alter ∈ BIG := inBIG (List.mem_of_getElem? (i := 556) (by decide +kernel)) rfl
theorem ml_X5_175 : Cond.methodLink RX5 175 yX5_replaced ∈ BIG := inBIG (List.mem_of_getElem? (i := 560) (by decide +kernel)) rfl
theorem ml_L_57 : Cond.methodLink RL 57 yX5_price ∈ BIG := inBIG (List.mem_of_getElem? (i := 563) (by decide +kernel)) rfl
theorem ml_L_61 : Cond.methodLink RL 61 yX5_build ∈ BIG := inBIG (List.mem_of_getElem? (i := 567) (by decide +kernel)) rfl
theorem ml_X5_179 : Cond.methodLink RX5 179 yX4_addWall ∈ BIG := inBIG (List.mem_of_getElem? (i := 571) (by decide +kernel)) rfl
theorem ml_L_65 : Cond.methodLink RL 65 yX5_plan ∈ BIG := inBIG (List.mem_of_getElem? (i := 572) (by decide +kernel)) rfl
theorem ml_X5_182 : Cond.methodLink RX5 182 yX4_addAct ∈ BIG := inBIG (List.mem_of_getElem? (i := 576) (by decide +kernel)) rfl
theorem ml_L_69 : Cond.methodLink RL 69 yX5_cut ∈ BIG := inBIG (List.mem_of_getElem? (i := 577) (by decide +kernel)) rfl
theorem ml_L_73 : Cond.methodLink RL 73 yX5_hang ∈ BIG := inBIG (List.mem_of_getElem? (i := 581) (by decide +kernel)) rfl
theorem ml_X5_185 : Cond.methodLink RX5 185 yX4_hangDoor ∈ BIG := inBIG (List.mem_of_getElem? (i := 585) (by decide +kernel)) rfl
theorem ml_X4_71 : Cond.methodLink RX4 71 yX4_canHang ∈ BIG := inBIG (List.mem_of_getElem? (i := 589) (by decide +kernel)) rfl
theorem ml_L_77 : Cond.methodLink RL 77 yX5_fill ∈ BIG := inBIG (List.mem_of_getElem? (i := 593) (by decide +kernel)) rfl
theorem ml_X5_188 : Cond.methodLink RX5 188 yX4_takeDoor ∈ BIG := inBIG (List.mem_of_getElem? (i := 597) (by decide +kernel)) rfl
theorem ml_L_81 : Cond.methodLink RL 81 yX5_steps ∈ BIG := inBIG (List.mem_of_getElem? (i := 601) (by decide +kernel)) rfl
theorem ml_X5_191 : Cond.methodLink RX5 191 yX4_passed ∈ BIG := inBIG (List.mem_of_getElem? (i := 605) (by decide +kernel)) rfl
theorem ml_X5_194 : Cond.methodLink RX5 194 yX4_distance ∈ BIG := inBIG (List.mem_of_getElem? (i := 606) (by decide +kernel)) rfl
theorem ml_L_85 : Cond.methodLink RL 85 yX5_way ∈ BIG := inBIG (List.mem_of_getElem? (i := 610) (by decide +kernel)) rfl
theorem ml_X5_198 : Cond.methodLink RX5 198 yX4_wallOnWay ∈ BIG := inBIG (List.mem_of_getElem? (i := 614) (by decide +kernel)) rfl
theorem ml_X4_108 : Cond.methodLink RX4 108 yX4_firstTowards ∈ BIG := inBIG (List.mem_of_getElem? (i := 618) (by decide +kernel)) rfl
theorem ml_X4_99 : Cond.methodLink RX4 99 yX4_distance ∈ BIG := inBIG (List.mem_of_getElem? (i := 622) (by decide +kernel)) rfl
theorem ml_X4_111 : Cond.methodLink RX4 111 yX4_otherSide ∈ BIG := inBIG (List.mem_of_getElem? (i := 623) (by decide +kernel)) rfl
theorem ml_L_89 : Cond.methodLink RL 89 yX5_meet ∈ BIG := inBIG (List.mem_of_getElem? (i := 627) (by decide +kernel)) rfl
theorem ml_L_93 : Cond.methodLink RL 93 yX5_runs ∈ BIG := inBIG (List.mem_of_getElem? (i := 631) (by decide +kernel)) rfl
theorem ml_X5_201 : Cond.methodLink RX5 201 yX4_followPlan ∈ BIG := inBIG (List.mem_of_getElem? (i := 635) (by decide +kernel)) rfl
theorem ml_X4_79 : Cond.methodLink RX4 79 yX4_hangDoor ∈ BIG := inBIG (List.mem_of_getElem? (i := 639) (by decide +kernel)) rfl
theorem ml_X5_204 : Cond.methodLink RX5 204 yX5_firstMissing ∈ BIG := inBIG (List.mem_of_getElem? (i := 640) (by decide +kernel)) rfl
theorem ml_X5_292 : Cond.methodLink RX5 292 yX5_hasBit ∈ BIG := inBIG (List.mem_of_getElem? (i := 643) (by decide +kernel)) rfl
theorem ml_X5_207 : Cond.methodLink RX5 207 yX4_reachedByAll ∈ BIG := inBIG (List.mem_of_getElem? (i := 644) (by decide +kernel)) rfl
theorem ml_X4_117 : Cond.methodLink RX4 117 yJ6_bitCount_0f7a4 ∈ BIG := inBIG (List.mem_of_getElem? (i := 648) (by decide +kernel)) rfl
theorem ml_L_97 : Cond.methodLink RL 97 yX5_ahead ∈ BIG := inBIG (List.mem_of_getElem? (i := 649) (by decide +kernel)) rfl
theorem ml_L_101 : Cond.methodLink RL 101 yX5_best ∈ BIG := inBIG (List.mem_of_getElem? (i := 653) (by decide +kernel)) rfl
theorem ml_X5_210 : Cond.methodLink RX5 210 yX4_distanceIfHung ∈ BIG := inBIG (List.mem_of_getElem? (i := 657) (by decide +kernel)) rfl
theorem ml_X4_95 : Cond.methodLink RX4 95 yX4_passedIfHung ∈ BIG := inBIG (List.mem_of_getElem? (i := 661) (by decide +kernel)) rfl
theorem ml_L_105 : Cond.methodLink RL 105 yX5_friend ∈ BIG := inBIG (List.mem_of_getElem? (i := 665) (by decide +kernel)) rfl
theorem ml_L_109 : Cond.methodLink RL 109 yX5_gain ∈ BIG := inBIG (List.mem_of_getElem? (i := 669) (by decide +kernel)) rfl
theorem ml_X5_214 : Cond.methodLink RX5 214 yX4_gainIfHung ∈ BIG := inBIG (List.mem_of_getElem? (i := 673) (by decide +kernel)) rfl
theorem ml_X4_105 : Cond.methodLink RX4 105 yX4_gainOf ∈ BIG := inBIG (List.mem_of_getElem? (i := 677) (by decide +kernel)) rfl
theorem ml_L_113 : Cond.methodLink RL 113 yX5_shut ∈ BIG := inBIG (List.mem_of_getElem? (i := 678) (by decide +kernel)) rfl
theorem ml_X5_217 : Cond.methodLink RX5 217 yX4_leastShutting ∈ BIG := inBIG (List.mem_of_getElem? (i := 682) (by decide +kernel)) rfl
theorem ml_X4_125 : Cond.methodLink RX4 125 yX4_hungWalls ∈ BIG := inBIG (List.mem_of_getElem? (i := 686) (by decide +kernel)) rfl
theorem ml_L_117 : Cond.methodLink RL 117 yX5_leave ∈ BIG := inBIG (List.mem_of_getElem? (i := 687) (by decide +kernel)) rfl
theorem ml_X5_220 : Cond.methodLink RX5 220 yX5_reachedByPlan ∈ BIG := inBIG (List.mem_of_getElem? (i := 691) (by decide +kernel)) rfl
theorem ml_L_121 : Cond.methodLink RL 121 yX5_kindly ∈ BIG := inBIG (List.mem_of_getElem? (i := 695) (by decide +kernel)) rfl
theorem ml_L_125 : Cond.methodLink RL 125 yX5_dear ∈ BIG := inBIG (List.mem_of_getElem? (i := 699) (by decide +kernel)) rfl
theorem ml_X5_223 : Cond.methodLink RX5 223 yX4_spread ∈ BIG := inBIG (List.mem_of_getElem? (i := 703) (by decide +kernel)) rfl
theorem ml_L_129 : Cond.methodLink RL 129 yX5_luck ∈ BIG := inBIG (List.mem_of_getElem? (i := 704) (by decide +kernel)) rfl
theorem ct_X5_226 : Cond.constantLong RX5 226 (-1) ∈ BIG := inBIG (List.mem_of_getElem? (i := 708) (by decide +kernel)) rfl
theorem ml_X5_228 : Cond.methodLink RX5 228 yX4_reachedWhenJammed ∈ BIG := inBIG (List.mem_of_getElem? (i := 709) (by decide +kernel)) rfl
theorem ml_X4_129 : Cond.methodLink RX4 129 yX4_power ∈ BIG := inBIG (List.mem_of_getElem? (i := 713) (by decide +kernel)) rfl
theorem ml_X5_232 : Cond.methodLink RX5 232 yX4_jamWeights ∈ BIG := inBIG (List.mem_of_getElem? (i := 716) (by decide +kernel)) rfl
theorem ml_X5_236 : Cond.methodLink RX5 236 yX5_inLowestTerms ∈ BIG := inBIG (List.mem_of_getElem? (i := 720) (by decide +kernel)) rfl
theorem ml_L_134 : Cond.methodLink RL 134 yX5_mean ∈ BIG := inBIG (List.mem_of_getElem? (i := 723) (by decide +kernel)) rfl
theorem ml_L_139 : Cond.methodLink RL 139 yX5_see ∈ BIG := inBIG (List.mem_of_getElem? (i := 727) (by decide +kernel)) rfl
theorem ml_X5_240 : Cond.methodLink RX5 240 yX2_note ∈ BIG := inBIG (List.mem_of_getElem? (i := 731) (by decide +kernel)) rfl
theorem ml_L_144 : Cond.methodLink RL 144 yX5_forget ∈ BIG := inBIG (List.mem_of_getElem? (i := 735) (by decide +kernel)) rfl
theorem ml_L_148 : Cond.methodLink RL 148 yX5_kinds ∈ BIG := inBIG (List.mem_of_getElem? (i := 739) (by decide +kernel)) rfl
theorem ml_X5_244 : Cond.methodLink RX5 244 yX2_allHoldIn ∈ BIG := inBIG (List.mem_of_getElem? (i := 743) (by decide +kernel)) rfl
theorem ml_X2_26 : Cond.methodLink RX2 26 yX4_isOne ∈ BIG := inBIG (List.mem_of_getElem? (i := 747) (by decide +kernel)) rfl
theorem ml_X2_32 : Cond.methodLink RX2 32 yX4_reached ∈ BIG := inBIG (List.mem_of_getElem? (i := 748) (by decide +kernel)) rfl
theorem nl_X2_36 : (RX2, 36, yX5_hasBit) ∈ vNest := by decide +kernel
theorem ml_L_152 : Cond.methodLink RL 152 yX5_walls ∈ BIG := inBIG (List.mem_of_getElem? (i := 750) (by decide +kernel)) rfl
theorem ml_X5_248 : Cond.methodLink RX5 248 yX5_wallsAsSeen ∈ BIG := inBIG (List.mem_of_getElem? (i := 754) (by decide +kernel)) rfl
theorem ml_X5_295 : Cond.methodLink RX5 295 yX4_moveDoor ∈ BIG := inBIG (List.mem_of_getElem? (i := 758) (by decide +kernel)) rfl
theorem ml_X4_75 : Cond.methodLink RX4 75 yX4_takeDoor ∈ BIG := inBIG (List.mem_of_getElem? (i := 762) (by decide +kernel)) rfl
theorem ml_L_156 : Cond.methodLink RL 156 yX5_ask ∈ BIG := inBIG (List.mem_of_getElem? (i := 763) (by decide +kernel)) rfl
theorem ml_X5_251 : Cond.methodLink RX5 251 yX5_countReaching ∈ BIG := inBIG (List.mem_of_getElem? (i := 767) (by decide +kernel)) rfl
theorem ml_X5_298 : Cond.methodLink RX5 298 yJ7_fill_53178 ∈ BIG := inBIG (List.mem_of_getElem? (i := 771) (by decide +kernel)) rfl
theorem ml_X5_255 : Cond.methodLink RX5 255 yJ9_max_7cf53 ∈ BIG := inBIG (List.mem_of_getElem? (i := 772) (by decide +kernel)) rfl
theorem ml_L_160 : Cond.methodLink RL 160 yX5_drift ∈ BIG := inBIG (List.mem_of_getElem? (i := 775) (by decide +kernel)) rfl
theorem ct_X5_260 : Cond.constant RX5 260 (1103515245) ∈ BIG := inBIG (List.mem_of_getElem? (i := 779) (by decide +kernel)) rfl
theorem ml_X5_261 : Cond.methodLink RX5 261 yX4_driftOnce ∈ BIG := inBIG (List.mem_of_getElem? (i := 780) (by decide +kernel)) rfl
theorem ml_L_164 : Cond.methodLink RL 164 yX5_keep ∈ BIG := inBIG (List.mem_of_getElem? (i := 784) (by decide +kernel)) rfl
theorem ml_L_168 : Cond.methodLink RL 168 yX5_back ∈ BIG := inBIG (List.mem_of_getElem? (i := 788) (by decide +kernel)) rfl
theorem ml_L_172 : Cond.methodLink RL 172 yX5_sheet ∈ BIG := inBIG (List.mem_of_getElem? (i := 792) (by decide +kernel)) rfl
theorem ml_X5_265 : Cond.methodLink RX5 265 yX1_renew ∈ BIG := inBIG (List.mem_of_getElem? (i := 796) (by decide +kernel)) rfl
theorem ml_X1_22 : Cond.methodLink RX1 22 yJ7_fill_53178 ∈ BIG := inBIG (List.mem_of_getElem? (i := 800) (by decide +kernel)) rfl
theorem ml_L_176 : Cond.methodLink RL 176 yX5_lay ∈ BIG := inBIG (List.mem_of_getElem? (i := 801) (by decide +kernel)) rfl
theorem ml_X5_272 : Cond.methodLink RX5 272 yX1_faultAt ∈ BIG := inBIG (List.mem_of_getElem? (i := 805) (by decide +kernel)) rfl
theorem ct_X1_28 : Cond.constantLong RX1 28 (40) ∈ BIG := inBIG (List.mem_of_getElem? (i := 809) (by decide +kernel)) rfl
theorem ml_X5_279 : Cond.methodLink RX5 279 yX5_narrowed ∈ BIG := inBIG (List.mem_of_getElem? (i := 810) (by decide +kernel)) rfl
theorem ml_L_180 : Cond.methodLink RL 180 yX5_read ∈ BIG := inBIG (List.mem_of_getElem? (i := 813) (by decide +kernel)) rfl
theorem ml_X5_282 : Cond.methodLink RX5 282 yX1_faultAtTwo ∈ BIG := inBIG (List.mem_of_getElem? (i := 817) (by decide +kernel)) rfl
theorem ct_X1_30 : Cond.constantLong RX1 30 (2) ∈ BIG := inBIG (List.mem_of_getElem? (i := 821) (by decide +kernel)) rfl
theorem ml_X1_32 : Cond.methodLink RX1 32 yX1_faultAt ∈ BIG := inBIG (List.mem_of_getElem? (i := 822) (by decide +kernel)) rfl
theorem ml_L_185 : Cond.methodLink RL 185 yX5_torn ∈ BIG := inBIG (List.mem_of_getElem? (i := 823) (by decide +kernel)) rfl
theorem ml_L_189 : Cond.methodLink RL 189 yX5_count ∈ BIG := inBIG (List.mem_of_getElem? (i := 827) (by decide +kernel)) rfl
theorem ml_X5_289 : Cond.methodLink RX5 289 yX4_worthOf ∈ BIG := inBIG (List.mem_of_getElem? (i := 831) (by decide +kernel)) rfl
theorem ml_L_12 : Cond.methodLink RL 12 yX6_init ∈ BIG := inBIG (List.mem_of_getElem? (i := 834) (by decide +kernel)) rfl
theorem lk_X6_7 : vLk RX6 7 6 0 := ⟨_, rfl, by decide, inBIG (List.mem_of_getElem? (i := 838) (by decide +kernel)) rfl⟩
theorem lk_X6_144 : vLk RX6 144 6 1 := ⟨_, rfl, by decide, inBIG (List.mem_of_getElem? (i := 839) (by decide +kernel)) rfl⟩
theorem lk_X6_13 : vLk RX6 13 6 2 := ⟨_, rfl, by decide, inBIG (List.mem_of_getElem? (i := 840) (by decide +kernel)) rfl⟩
theorem lk_X6_101 : vLk RX6 101 6 3 := ⟨_, rfl, by decide, inBIG (List.mem_of_getElem? (i := 841) (by decide +kernel)) rfl⟩
theorem lk_X6_104 : vLk RX6 104 6 4 := ⟨_, rfl, by decide, inBIG (List.mem_of_getElem? (i := 842) (by decide +kernel)) rfl⟩
theorem lk_X6_119 : vLk RX6 119 6 5 := ⟨_, rfl, by decide, inBIG (List.mem_of_getElem? (i := 843) (by decide +kernel)) rfl⟩
theorem lk_X6_131 : vLk RX6 131 6 6 := ⟨_, rfl, by decide, inBIG (List.mem_of_getElem? (i := 844) (by decide +kernel)) rfl⟩
theorem lk_X6_110 : vLk RX6 110 6 7 := ⟨_, rfl, by decide, inBIG (List.mem_of_getElem? (i := 845) (by decide +kernel)) rfl⟩
theorem lk_X6_98 : vLk RX6 98 6 8 := ⟨_, rfl, by decide, inBIG (List.mem_of_getElem? (i := 846) (by decide +kernel)) rfl⟩
theorem lk_X6_16 : vLk RX6 16 6 9 := ⟨_, rfl, by decide, inBIG (List.mem_of_getElem? (i := 847) (by decide +kernel)) rfl⟩
theorem lk_X6_53 : vLk RX6 53 6 10 := ⟨_, rfl, by decide, inBIG (List.mem_of_getElem? (i := 848) (by decide +kernel)) rfl⟩
theorem lk_X6_141 : vLk RX6 141 6 11 := ⟨_, rfl, by decide, inBIG (List.mem_of_getElem? (i := 849) (by decide +kernel)) rfl⟩
theorem lk_X6_57 : vLk RX6 57 6 12 := ⟨_, rfl, by decide, inBIG (List.mem_of_getElem? (i := 850) (by decide +kernel)) rfl⟩
theorem lk_X6_63 : vLk RX6 63 6 13 := ⟨_, rfl, by decide, inBIG (List.mem_of_getElem? (i := 851) (by decide +kernel)) rfl⟩
theorem lk_X6_69 : vLk RX6 69 6 14 := ⟨_, rfl, by decide, inBIG (List.mem_of_getElem? (i := 852) (by decide +kernel)) rfl⟩
theorem lk_X6_60 : vLk RX6 60 6 15 := ⟨_, rfl, by decide, inBIG (List.mem_of_getElem? (i := 853) (by decide +kernel)) rfl⟩
theorem lk_X6_66 : vLk RX6 66 6 16 := ⟨_, rfl, by decide, inBIG (List.mem_of_getElem? (i := 854) (by decide +kernel)) rfl⟩
theorem lk_X6_76 : vLk RX6 76 6 17 := ⟨_, rfl, by decide, inBIG (List.mem_of_getElem? (i := 855) (by decide +kernel)) rfl⟩
theorem lk_X6_19 : vLk RX6 19 6 18 := ⟨_, rfl, by decide, inBIG (List.mem_of_getElem? (i := 856) (by decide +kernel)) rfl⟩
theorem lk_X6_22 : vLk RX6 22 6 19 := ⟨_, rfl, by decide, inBIG (List.mem_of_getElem? (i := 857) (by decide +kernel)) rfl⟩
theorem lk_X6_156 : vLk RX6 156 6 20 := ⟨_, rfl, by decide, inBIG (List.mem_of_getElem? (i := 858) (by decide +kernel)) rfl⟩
theorem lk_X6_25 : vLk RX6 25 6 21 := ⟨_, rfl, by decide, inBIG (List.mem_of_getElem? (i := 859) (by decide +kernel)) rfl⟩
theorem lk_X6_224 : vLk RX6 224 6 22 := ⟨_, rfl, by decide, inBIG (List.mem_of_getElem? (i := 860) (by decide +kernel)) rfl⟩
theorem lk_X6_227 : vLk RX6 227 6 23 := ⟨_, rfl, by decide, inBIG (List.mem_of_getElem? (i := 861) (by decide +kernel)) rfl⟩
theorem lk_X6_28 : vLk RX6 28 6 24 := ⟨_, rfl, by decide, inBIG (List.mem_of_getElem? (i := 862) (by decide +kernel)) rfl⟩
theorem lk_X6_147 : vLk RX6 147 6 25 := ⟨_, rfl, by decide, inBIG (List.mem_of_getElem? (i := 863) (by decide +kernel)) rfl⟩
theorem lk_X6_31 : vLk RX6 31 6 26 := ⟨_, rfl, by decide, inBIG (List.mem_of_getElem? (i := 864) (by decide +kernel)) rfl⟩
theorem lk_X6_34 : vLk RX6 34 6 27 := ⟨_, rfl, by decide, inBIG (List.mem_of_getElem? (i := 865) (by decide +kernel)) rfl⟩
theorem lk_X6_38 : vLk RX6 38 6 28 := ⟨_, rfl, by decide, inBIG (List.mem_of_getElem? (i := 866) (by decide +kernel)) rfl⟩
theorem lk_X6_41 : vLk RX6 41 6 29 := ⟨_, rfl, by decide, inBIG (List.mem_of_getElem? (i := 867) (by decide +kernel)) rfl⟩
theorem lk_X6_44 : vLk RX6 44 6 30 := ⟨_, rfl, by decide, inBIG (List.mem_of_getElem? (i := 868) (by decide +kernel)) rfl⟩
theorem lk_X6_263 : vLk RX6 263 6 31 := ⟨_, rfl, by decide, inBIG (List.mem_of_getElem? (i := 869) (by decide +kernel)) rfl⟩
theorem ml_L_17 : Cond.methodLink RL 17 yX6_feed ∈ BIG := inBIG (List.mem_of_getElem? (i := 935) (by decide +kernel)) rfl
theorem ct_X6_47 : Cond.constantLong RX6 47 (127) ∈ BIG := inBIG (List.mem_of_getElem? (i := 939) (by decide +kernel)) rfl
theorem ml_X6_49 : Cond.methodLink RX6 49 yX6_in ∈ BIG := inBIG (List.mem_of_getElem? (i := 940) (by decide +kernel)) rfl
theorem ml_L_21 : Cond.methodLink RL 21 yX6_end ∈ BIG := inBIG (List.mem_of_getElem? (i := 943) (by decide +kernel)) rfl
theorem ml_L_26 : Cond.methodLink RL 26 yX6_text ∈ BIG := inBIG (List.mem_of_getElem? (i := 947) (by decide +kernel)) rfl
theorem ml_X6_91 : Cond.methodLink RX6 91 yX6_step ∈ BIG := inBIG (List.mem_of_getElem? (i := 951) (by decide +kernel)) rfl
theorem ml_X6_72 : Cond.methodLink RX6 72 yX6_byteAt ∈ BIG := inBIG (List.mem_of_getElem? (i := 955) (by decide +kernel)) rfl
theorem ct_X6_79 : Cond.constantLong RX6 79 (97) ∈ BIG := inBIG (List.mem_of_getElem? (i := 959) (by decide +kernel)) rfl
theorem ct_X6_81 : Cond.constantLong RX6 81 (122) ∈ BIG := inBIG (List.mem_of_getElem? (i := 960) (by decide +kernel)) rfl
theorem ct_X6_83 : Cond.constantLong RX6 83 (48) ∈ BIG := inBIG (List.mem_of_getElem? (i := 961) (by decide +kernel)) rfl
theorem ct_X6_85 : Cond.constantLong RX6 85 (57) ∈ BIG := inBIG (List.mem_of_getElem? (i := 962) (by decide +kernel)) rfl
theorem ml_X6_87 : Cond.methodLink RX6 87 yX6_fails ∈ BIG := inBIG (List.mem_of_getElem? (i := 963) (by decide +kernel)) rfl
theorem ml_X6_138 : Cond.methodLink RX6 138 yX6_readLine ∈ BIG := inBIG (List.mem_of_getElem? (i := 967) (by decide +kernel)) rfl
theorem ml_X6_125 : Cond.methodLink RX6 125 yX6_nameHere ∈ BIG := inBIG (List.mem_of_getElem? (i := 971) (by decide +kernel)) rfl
theorem ct_X6_129 : Cond.constantLong RX6 129 (6) ∈ BIG := inBIG (List.mem_of_getElem? (i := 975) (by decide +kernel)) rfl
theorem ml_X6_135 : Cond.methodLink RX6 135 yX6_readMore ∈ BIG := inBIG (List.mem_of_getElem? (i := 976) (by decide +kernel)) rfl
theorem ml_X6_113 : Cond.methodLink RX6 113 yX6_readOne ∈ BIG := inBIG (List.mem_of_getElem? (i := 980) (by decide +kernel)) rfl
theorem ml_X6_94 : Cond.methodLink RX6 94 yX6_other ∈ BIG := inBIG (List.mem_of_getElem? (i := 984) (by decide +kernel)) rfl
theorem ml_X6_107 : Cond.methodLink RX6 107 yX6_wallHere ∈ BIG := inBIG (List.mem_of_getElem? (i := 988) (by decide +kernel)) rfl
theorem ml_X6_116 : Cond.methodLink RX6 116 yX6_readWall ∈ BIG := inBIG (List.mem_of_getElem? (i := 992) (by decide +kernel)) rfl
theorem ml_X6_122 : Cond.methodLink RX6 122 yX6_readPlan ∈ BIG := inBIG (List.mem_of_getElem? (i := 996) (by decide +kernel)) rfl
theorem ml_L_30 : Cond.methodLink RL 30 yX6_fault ∈ BIG := inBIG (List.mem_of_getElem? (i := 1000) (by decide +kernel)) rfl
theorem ml_L_34 : Cond.methodLink RL 34 yX6_rule ∈ BIG := inBIG (List.mem_of_getElem? (i := 1004) (by decide +kernel)) rfl
theorem ml_X6_175 : Cond.methodLink RX6 175 yX6_isFreeOn ∈ BIG := inBIG (List.mem_of_getElem? (i := 1008) (by decide +kernel)) rfl
theorem ml_X6_179 : Cond.methodLink RX6 179 yX6_whoReaches ∈ BIG := inBIG (List.mem_of_getElem? (i := 1012) (by decide +kernel)) rfl
theorem ml_X6_169 : Cond.methodLink RX6 169 yX6_reachesOn ∈ BIG := inBIG (List.mem_of_getElem? (i := 1016) (by decide +kernel)) rfl
theorem ml_X6_166 : Cond.methodLink RX6 166 yX6_goesFrom ∈ BIG := inBIG (List.mem_of_getElem? (i := 1020) (by decide +kernel)) rfl
theorem ml_X6_163 : Cond.methodLink RX6 163 yX6_passesOn ∈ BIG := inBIG (List.mem_of_getElem? (i := 1024) (by decide +kernel)) rfl
theorem ml_X6_152 : Cond.methodLink RX6 152 yX6_doorOn ∈ BIG := inBIG (List.mem_of_getElem? (i := 1028) (by decide +kernel)) rfl
theorem ml_X6_159 : Cond.methodLink RX6 159 yX6_letsOn ∈ BIG := inBIG (List.mem_of_getElem? (i := 1032) (by decide +kernel)) rfl
theorem ml_X6_182 : Cond.methodLink RX6 182 yX6_hungOn ∈ BIG := inBIG (List.mem_of_getElem? (i := 1036) (by decide +kernel)) rfl
theorem ml_L_39 : Cond.methodLink RL 39 yX6_one ∈ BIG := inBIG (List.mem_of_getElem? (i := 1040) (by decide +kernel)) rfl
theorem ml_X6_185 : Cond.methodLink RX6 185 yX6_isOne ∈ BIG := inBIG (List.mem_of_getElem? (i := 1044) (by decide +kernel)) rfl
theorem ml_X6_189 : Cond.methodLink RX6 189 yX6_gainOn ∈ BIG := inBIG (List.mem_of_getElem? (i := 1048) (by decide +kernel)) rfl
theorem ml_L_43 : Cond.methodLink RL 43 yX6_wall ∈ BIG := inBIG (List.mem_of_getElem? (i := 1052) (by decide +kernel)) rfl
theorem ml_X6_192 : Cond.methodLink RX6 192 yX6_isWall ∈ BIG := inBIG (List.mem_of_getElem? (i := 1056) (by decide +kernel)) rfl
theorem ct_X6_195 : Cond.constantLong RX6 195 (3) ∈ BIG := inBIG (List.mem_of_getElem? (i := 1060) (by decide +kernel)) rfl
theorem ml_L_47 : Cond.methodLink RL 47 yX6_room ∈ BIG := inBIG (List.mem_of_getElem? (i := 1061) (by decide +kernel)) rfl
theorem ml_X6_197 : Cond.methodLink RX6 197 yX6_isRoom ∈ BIG := inBIG (List.mem_of_getElem? (i := 1065) (by decide +kernel)) rfl
theorem ct_X6_150 : Cond.constantLong RX6 150 (7) ∈ BIG := inBIG (List.mem_of_getElem? (i := 1068) (by decide +kernel)) rfl
theorem ml_L_51 : Cond.methodLink RL 51 yX6_act ∈ BIG := inBIG (List.mem_of_getElem? (i := 1069) (by decide +kernel)) rfl
theorem ml_L_56 : Cond.methodLink RL 56 yX6_alter ∈ BIG := inBIG (List.mem_of_getElem? (i := 1073) (by decide +kernel)) rfl
theorem ct_X6_200 : Cond.constantLong RX6 200 (2) ∈ BIG := inBIG (List.mem_of_getElem? (i := 1077) (by decide +kernel)) rfl
theorem ml_X6_202 : Cond.methodLink RX6 202 yX6_puts ∈ BIG := inBIG (List.mem_of_getElem? (i := 1078) (by decide +kernel)) rfl
theorem ml_L_60 : Cond.methodLink RL 60 yX6_price ∈ BIG := inBIG (List.mem_of_getElem? (i := 1082) (by decide +kernel)) rfl
theorem ct_X6_206 : Cond.constantLong RX6 206 (99) ∈ BIG := inBIG (List.mem_of_getElem? (i := 1086) (by decide +kernel)) rfl
theorem ml_L_64 : Cond.methodLink RL 64 yX6_build ∈ BIG := inBIG (List.mem_of_getElem? (i := 1087) (by decide +kernel)) rfl
theorem ml_L_68 : Cond.methodLink RL 68 yX6_plan ∈ BIG := inBIG (List.mem_of_getElem? (i := 1091) (by decide +kernel)) rfl
theorem ml_L_72 : Cond.methodLink RL 72 yX6_cut ∈ BIG := inBIG (List.mem_of_getElem? (i := 1095) (by decide +kernel)) rfl
theorem ml_L_76 : Cond.methodLink RL 76 yX6_hang ∈ BIG := inBIG (List.mem_of_getElem? (i := 1099) (by decide +kernel)) rfl
theorem ml_X6_211 : Cond.methodLink RX6 211 yX6_hangs ∈ BIG := inBIG (List.mem_of_getElem? (i := 1103) (by decide +kernel)) rfl
theorem ml_X6_208 : Cond.methodLink RX6 208 yX6_hangsOn ∈ BIG := inBIG (List.mem_of_getElem? (i := 1107) (by decide +kernel)) rfl
theorem ml_L_80 : Cond.methodLink RL 80 yX6_fill ∈ BIG := inBIG (List.mem_of_getElem? (i := 1111) (by decide +kernel)) rfl
theorem ml_X6_214 : Cond.methodLink RX6 214 yX6_fillsOn ∈ BIG := inBIG (List.mem_of_getElem? (i := 1115) (by decide +kernel)) rfl
theorem ml_L_84 : Cond.methodLink RL 84 yX6_steps ∈ BIG := inBIG (List.mem_of_getElem? (i := 1119) (by decide +kernel)) rfl
theorem ml_X6_217 : Cond.methodLink RX6 217 yX6_stepsOn ∈ BIG := inBIG (List.mem_of_getElem? (i := 1123) (by decide +kernel)) rfl
theorem ml_L_88 : Cond.methodLink RL 88 yX6_way ∈ BIG := inBIG (List.mem_of_getElem? (i := 1127) (by decide +kernel)) rfl
theorem ml_L_92 : Cond.methodLink RL 92 yX6_meet ∈ BIG := inBIG (List.mem_of_getElem? (i := 1131) (by decide +kernel)) rfl
theorem ml_L_96 : Cond.methodLink RL 96 yX6_runs ∈ BIG := inBIG (List.mem_of_getElem? (i := 1135) (by decide +kernel)) rfl
theorem ml_X6_230 : Cond.methodLink RX6 230 yX6_planGoes ∈ BIG := inBIG (List.mem_of_getElem? (i := 1139) (by decide +kernel)) rfl
theorem ml_X6_220 : Cond.methodLink RX6 220 yX6_copies ∈ BIG := inBIG (List.mem_of_getElem? (i := 1143) (by decide +kernel)) rfl
theorem ml_X6_233 : Cond.methodLink RX6 233 yX6_allOn ∈ BIG := inBIG (List.mem_of_getElem? (i := 1147) (by decide +kernel)) rfl
theorem ml_X6_172 : Cond.methodLink RX6 172 yX6_bitsOf ∈ BIG := inBIG (List.mem_of_getElem? (i := 1151) (by decide +kernel)) rfl
theorem ml_L_100 : Cond.methodLink RL 100 yX6_ahead ∈ BIG := inBIG (List.mem_of_getElem? (i := 1154) (by decide +kernel)) rfl
theorem ml_L_104 : Cond.methodLink RL 104 yX6_best ∈ BIG := inBIG (List.mem_of_getElem? (i := 1158) (by decide +kernel)) rfl
theorem ml_X6_236 : Cond.methodLink RX6 236 yX6_stepsBy ∈ BIG := inBIG (List.mem_of_getElem? (i := 1162) (by decide +kernel)) rfl
theorem ml_L_108 : Cond.methodLink RL 108 yX6_friend ∈ BIG := inBIG (List.mem_of_getElem? (i := 1166) (by decide +kernel)) rfl
theorem ml_L_112 : Cond.methodLink RL 112 yX6_gain ∈ BIG := inBIG (List.mem_of_getElem? (i := 1170) (by decide +kernel)) rfl
theorem ml_L_116 : Cond.methodLink RL 116 yX6_shut ∈ BIG := inBIG (List.mem_of_getElem? (i := 1174) (by decide +kernel)) rfl
theorem ml_L_120 : Cond.methodLink RL 120 yX6_leave ∈ BIG := inBIG (List.mem_of_getElem? (i := 1178) (by decide +kernel)) rfl
theorem ml_L_124 : Cond.methodLink RL 124 yX6_kindly ∈ BIG := inBIG (List.mem_of_getElem? (i := 1182) (by decide +kernel)) rfl
theorem ml_L_128 : Cond.methodLink RL 128 yX6_dear ∈ BIG := inBIG (List.mem_of_getElem? (i := 1186) (by decide +kernel)) rfl
theorem ml_L_133 : Cond.methodLink RL 133 yX6_luck ∈ BIG := inBIG (List.mem_of_getElem? (i := 1190) (by decide +kernel)) rfl
theorem ct_X6_240 : Cond.constantLong RX6 240 (10) ∈ BIG := inBIG (List.mem_of_getElem? (i := 1194) (by decide +kernel)) rfl
theorem ml_X6_246 : Cond.methodLink RX6 246 yX6_byJams ∈ BIG := inBIG (List.mem_of_getElem? (i := 1195) (by decide +kernel)) rfl
theorem ml_X6_242 : Cond.methodLink RX6 242 yX6_lowest ∈ BIG := inBIG (List.mem_of_getElem? (i := 1199) (by decide +kernel)) rfl
theorem ct_X6_250 : Cond.constantLong RX6 250 (-1) ∈ BIG := inBIG (List.mem_of_getElem? (i := 1202) (by decide +kernel)) rfl
theorem ml_L_138 : Cond.methodLink RL 138 yX6_mean ∈ BIG := inBIG (List.mem_of_getElem? (i := 1203) (by decide +kernel)) rfl
theorem ml_L_143 : Cond.methodLink RL 143 yX6_see ∈ BIG := inBIG (List.mem_of_getElem? (i := 1207) (by decide +kernel)) rfl
theorem ml_L_147 : Cond.methodLink RL 147 yX6_forget ∈ BIG := inBIG (List.mem_of_getElem? (i := 1211) (by decide +kernel)) rfl
theorem ml_L_151 : Cond.methodLink RL 151 yX6_kinds ∈ BIG := inBIG (List.mem_of_getElem? (i := 1215) (by decide +kernel)) rfl
theorem ml_X6_252 : Cond.methodLink RX6 252 yX6_isAsSeen ∈ BIG := inBIG (List.mem_of_getElem? (i := 1219) (by decide +kernel)) rfl
theorem ml_L_155 : Cond.methodLink RL 155 yX6_walls ∈ BIG := inBIG (List.mem_of_getElem? (i := 1223) (by decide +kernel)) rfl
theorem ml_X6_255 : Cond.methodLink RX6 255 yX6_wallsOf ∈ BIG := inBIG (List.mem_of_getElem? (i := 1227) (by decide +kernel)) rfl
theorem ml_L_159 : Cond.methodLink RL 159 yX6_ask ∈ BIG := inBIG (List.mem_of_getElem? (i := 1231) (by decide +kernel)) rfl
theorem ml_L_163 : Cond.methodLink RL 163 yX6_drift ∈ BIG := inBIG (List.mem_of_getElem? (i := 1235) (by decide +kernel)) rfl
theorem ct_X6_258 : Cond.constantLong RX6 258 (60) ∈ BIG := inBIG (List.mem_of_getElem? (i := 1239) (by decide +kernel)) rfl
theorem ct_X6_260 : Cond.constant RX6 260 (1103515245) ∈ BIG := inBIG (List.mem_of_getElem? (i := 1240) (by decide +kernel)) rfl
theorem ml_L_167 : Cond.methodLink RL 167 yX6_keep ∈ BIG := inBIG (List.mem_of_getElem? (i := 1241) (by decide +kernel)) rfl
theorem ml_L_171 : Cond.methodLink RL 171 yX6_back ∈ BIG := inBIG (List.mem_of_getElem? (i := 1245) (by decide +kernel)) rfl
theorem ml_L_175 : Cond.methodLink RL 175 yX6_sheet ∈ BIG := inBIG (List.mem_of_getElem? (i := 1249) (by decide +kernel)) rfl
theorem ml_L_179 : Cond.methodLink RL 179 yX6_lay ∈ BIG := inBIG (List.mem_of_getElem? (i := 1253) (by decide +kernel)) rfl
theorem ml_L_184 : Cond.methodLink RL 184 yX6_read ∈ BIG := inBIG (List.mem_of_getElem? (i := 1257) (by decide +kernel)) rfl
theorem ct_X6_261 : Cond.constantLong RX6 261 (20) ∈ BIG := inBIG (List.mem_of_getElem? (i := 1261) (by decide +kernel)) rfl
theorem ml_L_188 : Cond.methodLink RL 188 yX6_torn ∈ BIG := inBIG (List.mem_of_getElem? (i := 1262) (by decide +kernel)) rfl
theorem ml_L_192 : Cond.methodLink RL 192 yX6_count ∈ BIG := inBIG (List.mem_of_getElem? (i := 1266) (by decide +kernel)) rfl
abbrev mX0_init : vMI := (yX0_init, cX0_init, 1, none)
theorem md_X0_init : vMd mX0_init 0 := ⟨inBIG (List.mem_of_getElem? (i := 79) (by decide +kernel)) rfl, inBIG (List.mem_of_getElem? (i := 53) (by decide +kernel)) rfl, by decide +kernel, by decide⟩
abbrev mX0_readAll : vMI := (yX0_readAll, cX0_readAll, 3, none)
theorem md_X0_readAll : vMd mX0_readAll 0 := ⟨inBIG (List.mem_of_getElem? (i := 305) (by decide +kernel)) rfl, inBIG (List.mem_of_getElem? (i := 53) (by decide +kernel)) rfl, by decide +kernel, by decide⟩
theorem in_X0_readAll : vIn mX0_readAll := ⟨inBIG (List.mem_of_getElem? (i := 303) (by decide +kernel)) rfl, inBIG (List.mem_of_getElem? (i := 304) (by decide +kernel)) rfl⟩
abbrev mX0_kindNamed : vMI := (yX0_kindNamed, cX0_kindNamed, 2, (some .int))
theorem md_X0_kindNamed : vMd mX0_kindNamed 0 := ⟨inBIG (List.mem_of_getElem? (i := 336) (by decide +kernel)) rfl, inBIG (List.mem_of_getElem? (i := 53) (by decide +kernel)) rfl, by decide +kernel, by decide⟩
theorem in_X0_kindNamed : vIn mX0_kindNamed := ⟨inBIG (List.mem_of_getElem? (i := 335) (by decide +kernel)) rfl, inBIG (List.mem_append_left _ (List.mem_map.mpr ⟨(yX0_kindNamed, 7), by decide +kernel, rfl⟩)) rfl⟩
abbrev mX0_nameOfKind : vMI := (yX0_nameOfKind, cX0_nameOfKind, 1, (some (.object "java/lang/String")))
theorem md_X0_nameOfKind : vMd mX0_nameOfKind 1 := ⟨inBIG (List.mem_of_getElem? (i := 339) (by decide +kernel)) rfl, inBIG (List.mem_of_getElem? (i := 53) (by decide +kernel)) rfl, by decide +kernel, by decide⟩
theorem st_X0_nameOfKind : Cond.static yX0_nameOfKind ∈ BIG := inBIG (List.mem_of_getElem? (i := 338) (by decide +kernel)) rfl
abbrev mX0_readOne : vMI := (yX0_readOne, cX0_readOne, 4, none)
theorem md_X0_readOne : vMd mX0_readOne 1 := ⟨inBIG (List.mem_of_getElem? (i := 399) (by decide +kernel)) rfl, inBIG (List.mem_of_getElem? (i := 53) (by decide +kernel)) rfl, by decide +kernel, by decide⟩
theorem in_X0_readOne : vIn mX0_readOne := ⟨inBIG (List.mem_of_getElem? (i := 398) (by decide +kernel)) rfl, inBIG (List.mem_append_left _ (List.mem_map.mpr ⟨(yX0_readOne, 7), by decide +kernel, rfl⟩)) rfl⟩
abbrev mX0_hangToldDoor : vMI := (yX0_hangToldDoor, cX0_hangToldDoor, 3, none)
theorem md_X0_hangToldDoor : vMd mX0_hangToldDoor 0 := ⟨inBIG (List.mem_of_getElem? (i := 415) (by decide +kernel)) rfl, inBIG (List.mem_of_getElem? (i := 53) (by decide +kernel)) rfl, by decide +kernel, by decide⟩
theorem in_X0_hangToldDoor : vIn mX0_hangToldDoor := ⟨inBIG (List.mem_of_getElem? (i := 414) (by decide +kernel)) rfl, inBIG (List.mem_append_left _ (List.mem_map.mpr ⟨(yX0_hangToldDoor, 7), by decide +kernel, rfl⟩)) rfl⟩
abbrev mX0_readWall : vMI := (yX0_readWall, cX0_readWall, 3, none)
theorem md_X0_readWall : vMd mX0_readWall 0 := ⟨inBIG (List.mem_of_getElem? (i := 428) (by decide +kernel)) rfl, inBIG (List.mem_of_getElem? (i := 53) (by decide +kernel)) rfl, by decide +kernel, by decide⟩
theorem in_X0_readWall : vIn mX0_readWall := ⟨inBIG (List.mem_of_getElem? (i := 427) (by decide +kernel)) rfl, inBIG (List.mem_append_left _ (List.mem_map.mpr ⟨(yX0_readWall, 7), by decide +kernel, rfl⟩)) rfl⟩
abbrev mX0_readRoom : vMI := (yX0_readRoom, cX0_readRoom, 3, none)
theorem md_X0_readRoom : vMd mX0_readRoom 0 := ⟨inBIG (List.mem_of_getElem? (i := 437) (by decide +kernel)) rfl, inBIG (List.mem_of_getElem? (i := 53) (by decide +kernel)) rfl, by decide +kernel, by decide⟩
theorem in_X0_readRoom : vIn mX0_readRoom := ⟨inBIG (List.mem_of_getElem? (i := 436) (by decide +kernel)) rfl, inBIG (List.mem_append_left _ (List.mem_map.mpr ⟨(yX0_readRoom, 7), by decide +kernel, rfl⟩)) rfl⟩
abbrev mX0_readPlan : vMI := (yX0_readPlan, cX0_readPlan, 4, none)
theorem md_X0_readPlan : vMd mX0_readPlan 0 := ⟨inBIG (List.mem_of_getElem? (i := 448) (by decide +kernel)) rfl, inBIG (List.mem_of_getElem? (i := 53) (by decide +kernel)) rfl, by decide +kernel, by decide⟩
theorem in_X0_readPlan : vIn mX0_readPlan := ⟨inBIG (List.mem_of_getElem? (i := 447) (by decide +kernel)) rfl, inBIG (List.mem_append_left _ (List.mem_map.mpr ⟨(yX0_readPlan, 7), by decide +kernel, rfl⟩)) rfl⟩
abbrev mX0_nextToken : vMI := (yX0_nextToken, cX0_nextToken, 1, (some .boolean))
theorem md_X0_nextToken : vMd mX0_nextToken 0 := ⟨inBIG (List.mem_of_getElem? (i := 317) (by decide +kernel)) rfl, inBIG (List.mem_of_getElem? (i := 53) (by decide +kernel)) rfl, by decide +kernel, by decide⟩
theorem in_X0_nextToken : vIn mX0_nextToken := ⟨inBIG (List.mem_of_getElem? (i := 316) (by decide +kernel)) rfl, inBIG (List.mem_append_left _ (List.mem_map.mpr ⟨(yX0_nextToken, 7), by decide +kernel, rfl⟩)) rfl⟩
abbrev mX0_nextNumber : vMI := (yX0_nextNumber, cX0_nextNumber, 2, (some .int))
theorem md_X0_nextNumber : vMd mX0_nextNumber 1 := ⟨inBIG (List.mem_of_getElem? (i := 403) (by decide +kernel)) rfl, inBIG (List.mem_of_getElem? (i := 53) (by decide +kernel)) rfl, by decide +kernel, by decide⟩
theorem in_X0_nextNumber : vIn mX0_nextNumber := ⟨inBIG (List.mem_of_getElem? (i := 402) (by decide +kernel)) rfl, inBIG (List.mem_append_left _ (List.mem_map.mpr ⟨(yX0_nextNumber, 7), by decide +kernel, rfl⟩)) rfl⟩
abbrev mX0_numberHere : vMI := (yX0_numberHere, cX0_numberHere, 2, (some .int))
theorem md_X0_numberHere : vMd mX0_numberHere 1 := ⟨inBIG (List.mem_of_getElem? (i := 407) (by decide +kernel)) rfl, inBIG (List.mem_of_getElem? (i := 53) (by decide +kernel)) rfl, by decide +kernel, by decide⟩
theorem in_X0_numberHere : vIn mX0_numberHere := ⟨inBIG (List.mem_of_getElem? (i := 406) (by decide +kernel)) rfl, inBIG (List.mem_append_left _ (List.mem_map.mpr ⟨(yX0_numberHere, 7), by decide +kernel, rfl⟩)) rfl⟩
abbrev mX0_takeSign : vMI := (yX0_takeSign, cX0_takeSign, 1, none)
theorem md_X0_takeSign : vMd mX0_takeSign 0 := ⟨inBIG (List.mem_of_getElem? (i := 423) (by decide +kernel)) rfl, inBIG (List.mem_of_getElem? (i := 53) (by decide +kernel)) rfl, by decide +kernel, by decide⟩
theorem in_X0_takeSign : vIn mX0_takeSign := ⟨inBIG (List.mem_of_getElem? (i := 422) (by decide +kernel)) rfl, inBIG (List.mem_append_left _ (List.mem_map.mpr ⟨(yX0_takeSign, 7), by decide +kernel, rfl⟩)) rfl⟩
abbrev mX0_refuse : vMI := (yX0_refuse, cX0_refuse, 2, none)
theorem md_X0_refuse : vMd mX0_refuse 1 := ⟨inBIG (List.mem_of_getElem? (i := 332) (by decide +kernel)) rfl, inBIG (List.mem_of_getElem? (i := 53) (by decide +kernel)) rfl, by decide +kernel, by decide⟩
theorem in_X0_refuse : vIn mX0_refuse := ⟨inBIG (List.mem_of_getElem? (i := 331) (by decide +kernel)) rfl, inBIG (List.mem_append_left _ (List.mem_map.mpr ⟨(yX0_refuse, 7), by decide +kernel, rfl⟩)) rfl⟩
abbrev mX1_init : vMI := (yX1_init, cX1_init, 1, none)
theorem md_X1_init : vMd mX1_init 0 := ⟨inBIG (List.mem_of_getElem? (i := 237) (by decide +kernel)) rfl, inBIG (List.mem_of_getElem? (i := 58) (by decide +kernel)) rfl, by decide +kernel, by decide⟩
abbrev mX1_renew : vMI := (yX1_renew, cX1_renew, 3, none)
theorem md_X1_renew : vMd mX1_renew 2 := ⟨inBIG (List.mem_of_getElem? (i := 799) (by decide +kernel)) rfl, inBIG (List.mem_of_getElem? (i := 58) (by decide +kernel)) rfl, by decide +kernel, by decide⟩
theorem in_X1_renew : vIn mX1_renew := ⟨inBIG (List.mem_of_getElem? (i := 797) (by decide +kernel)) rfl, inBIG (List.mem_of_getElem? (i := 798) (by decide +kernel)) rfl⟩
abbrev mX1_faultAt : vMI := (yX1_faultAt, cX1_faultAt, 4, (some .int))
theorem md_X1_faultAt : vMd mX1_faultAt 2 := ⟨inBIG (List.mem_of_getElem? (i := 808) (by decide +kernel)) rfl, inBIG (List.mem_of_getElem? (i := 58) (by decide +kernel)) rfl, by decide +kernel, by decide⟩
theorem in_X1_faultAt : vIn mX1_faultAt := ⟨inBIG (List.mem_of_getElem? (i := 806) (by decide +kernel)) rfl, inBIG (List.mem_of_getElem? (i := 807) (by decide +kernel)) rfl⟩
abbrev mX1_faultAtTwo : vMI := (yX1_faultAtTwo, cX1_faultAtTwo, 7, (some .int))
theorem md_X1_faultAtTwo : vMd mX1_faultAtTwo 3 := ⟨inBIG (List.mem_of_getElem? (i := 820) (by decide +kernel)) rfl, inBIG (List.mem_of_getElem? (i := 58) (by decide +kernel)) rfl, by decide +kernel, by decide⟩
theorem in_X1_faultAtTwo : vIn mX1_faultAtTwo := ⟨inBIG (List.mem_of_getElem? (i := 818) (by decide +kernel)) rfl, inBIG (List.mem_of_getElem? (i := 819) (by decide +kernel)) rfl⟩
abbrev mX2_init : vMI := (yX2_init, cX2_init, 1, none)
theorem md_X2_init : vMd mX2_init 0 := ⟨inBIG (List.mem_of_getElem? (i := 214) (by decide +kernel)) rfl, inBIG (List.mem_of_getElem? (i := 57) (by decide +kernel)) rfl, by decide +kernel, by decide⟩
abbrev mX2_note : vMI := (yX2_note, cX2_note, 4, (some .boolean))
theorem md_X2_note : vMd mX2_note 3 := ⟨inBIG (List.mem_of_getElem? (i := 734) (by decide +kernel)) rfl, inBIG (List.mem_of_getElem? (i := 57) (by decide +kernel)) rfl, by decide +kernel, by decide⟩
theorem in_X2_note : vIn mX2_note := ⟨inBIG (List.mem_of_getElem? (i := 732) (by decide +kernel)) rfl, inBIG (List.mem_of_getElem? (i := 733) (by decide +kernel)) rfl⟩
abbrev mX2_allHoldIn : vMI := (yX2_allHoldIn, cX2_allHoldIn, 3, (some .boolean))
theorem md_X2_allHoldIn : vMd mX2_allHoldIn 1 := ⟨inBIG (List.mem_of_getElem? (i := 746) (by decide +kernel)) rfl, inBIG (List.mem_of_getElem? (i := 57) (by decide +kernel)) rfl, by decide +kernel, by decide⟩
theorem in_X2_allHoldIn : vIn mX2_allHoldIn := ⟨inBIG (List.mem_of_getElem? (i := 744) (by decide +kernel)) rfl, inBIG (List.mem_of_getElem? (i := 745) (by decide +kernel)) rfl⟩
abbrev mX3_init : vMI := (yX3_init, cX3_init, 1, none)
theorem md_X3_init : vMd mX3_init 0 := ⟨inBIG (List.mem_of_getElem? (i := 85) (by decide +kernel)) rfl, inBIG (List.mem_of_getElem? (i := 54) (by decide +kernel)) rfl, by decide +kernel, by decide⟩
abbrev mX3_append : vMI := (yX3_append, cX3_append, 2, (some .boolean))
theorem md_X3_append : vMd mX3_append 1 := ⟨inBIG (List.mem_of_getElem? (i := 293) (by decide +kernel)) rfl, inBIG (List.mem_of_getElem? (i := 54) (by decide +kernel)) rfl, by decide +kernel, by decide⟩
theorem in_X3_append : vIn mX3_append := ⟨inBIG (List.mem_of_getElem? (i := 291) (by decide +kernel)) rfl, inBIG (List.mem_of_getElem? (i := 292) (by decide +kernel)) rfl⟩
abbrev mX3_rewind : vMI := (yX3_rewind, cX3_rewind, 1, none)
theorem md_X3_rewind : vMd mX3_rewind 0 := ⟨inBIG (List.mem_of_getElem? (i := 309) (by decide +kernel)) rfl, inBIG (List.mem_of_getElem? (i := 54) (by decide +kernel)) rfl, by decide +kernel, by decide⟩
theorem in_X3_rewind : vIn mX3_rewind := ⟨inBIG (List.mem_of_getElem? (i := 307) (by decide +kernel)) rfl, inBIG (List.mem_of_getElem? (i := 308) (by decide +kernel)) rfl⟩
abbrev mX3_readToken : vMI := (yX3_readToken, cX3_readToken, 2, none)
theorem md_X3_readToken : vMd mX3_readToken 0 := ⟨inBIG (List.mem_of_getElem? (i := 321) (by decide +kernel)) rfl, inBIG (List.mem_of_getElem? (i := 54) (by decide +kernel)) rfl, by decide +kernel, by decide⟩
theorem in_X3_readToken : vIn mX3_readToken := ⟨inBIG (List.mem_of_getElem? (i := 319) (by decide +kernel)) rfl, inBIG (List.mem_of_getElem? (i := 320) (by decide +kernel)) rfl⟩
abbrev mX3_tokenOf : vMI := (yX3_tokenOf, cX3_tokenOf, 1, (some .int))
theorem md_X3_tokenOf : vMd mX3_tokenOf 1 := ⟨inBIG (List.mem_of_getElem? (i := 328) (by decide +kernel)) rfl, inBIG (List.mem_of_getElem? (i := 54) (by decide +kernel)) rfl, by decide +kernel, by decide⟩
theorem st_X3_tokenOf : Cond.static yX3_tokenOf ∈ BIG := inBIG (List.mem_of_getElem? (i := 327) (by decide +kernel)) rfl
abbrev mX3_isName : vMI := (yX3_isName, cX3_isName, 3, (some .boolean))
theorem md_X3_isName : vMd mX3_isName 1 := ⟨inBIG (List.mem_of_getElem? (i := 347) (by decide +kernel)) rfl, inBIG (List.mem_of_getElem? (i := 54) (by decide +kernel)) rfl, by decide +kernel, by decide⟩
theorem in_X3_isName : vIn mX3_isName := ⟨inBIG (List.mem_of_getElem? (i := 345) (by decide +kernel)) rfl, inBIG (List.mem_of_getElem? (i := 346) (by decide +kernel)) rfl⟩
abbrev mX3_byteAt : vMI := (yX3_byteAt, cX3_byteAt, 2, (some .int))
theorem md_X3_byteAt : vMd mX3_byteAt 1 := ⟨inBIG (List.mem_of_getElem? (i := 325) (by decide +kernel)) rfl, inBIG (List.mem_of_getElem? (i := 54) (by decide +kernel)) rfl, by decide +kernel, by decide⟩
theorem in_X3_byteAt : vIn mX3_byteAt := ⟨inBIG (List.mem_of_getElem? (i := 324) (by decide +kernel)) rfl, inBIG (List.mem_append_left _ (List.mem_map.mpr ⟨(yX3_byteAt, 6), by decide +kernel, rfl⟩)) rfl⟩
abbrev mX4_init : vMI := (yX4_init, cX4_init, 1, none)
theorem md_X4_init : vMd mX4_init 0 := ⟨inBIG (List.mem_of_getElem? (i := 116) (by decide +kernel)) rfl, inBIG (List.mem_of_getElem? (i := 55) (by decide +kernel)) rfl, by decide +kernel, by decide⟩
abbrev mX4_clear : vMI := (yX4_clear, cX4_clear, 1, none)
theorem md_X4_clear : vMd mX4_clear 0 := ⟨inBIG (List.mem_of_getElem? (i := 313) (by decide +kernel)) rfl, inBIG (List.mem_of_getElem? (i := 55) (by decide +kernel)) rfl, by decide +kernel, by decide⟩
theorem in_X4_clear : vIn mX4_clear := ⟨inBIG (List.mem_of_getElem? (i := 311) (by decide +kernel)) rfl, inBIG (List.mem_of_getElem? (i := 312) (by decide +kernel)) rfl⟩
abbrev mX4_become : vMI := (yX4_become, cX4_become, 2, none)
theorem md_X4_become : vMd mX4_become 1 := ⟨inBIG (List.mem_of_getElem? (i := 465) (by decide +kernel)) rfl, inBIG (List.mem_of_getElem? (i := 55) (by decide +kernel)) rfl, by decide +kernel, by decide⟩
theorem in_X4_become : vIn mX4_become := ⟨inBIG (List.mem_of_getElem? (i := 463) (by decide +kernel)) rfl, inBIG (List.mem_of_getElem? (i := 464) (by decide +kernel)) rfl⟩
abbrev mX4_isOne : vMI := (yX4_isOne, cX4_isOne, 2, (some .boolean))
theorem md_X4_isOne : vMd mX4_isOne 1 := ⟨inBIG (List.mem_of_getElem? (i := 419) (by decide +kernel)) rfl, inBIG (List.mem_of_getElem? (i := 55) (by decide +kernel)) rfl, by decide +kernel, by decide⟩
theorem in_X4_isOne : vIn mX4_isOne := ⟨inBIG (List.mem_of_getElem? (i := 417) (by decide +kernel)) rfl, inBIG (List.mem_of_getElem? (i := 418) (by decide +kernel)) rfl⟩
abbrev mX4_isWall : vMI := (yX4_isWall, cX4_isWall, 2, (some .boolean))
theorem md_X4_isWall : vMd mX4_isWall 1 := ⟨inBIG (List.mem_of_getElem? (i := 461) (by decide +kernel)) rfl, inBIG (List.mem_of_getElem? (i := 55) (by decide +kernel)) rfl, by decide +kernel, by decide⟩
theorem in_X4_isWall : vIn mX4_isWall := ⟨inBIG (List.mem_of_getElem? (i := 459) (by decide +kernel)) rfl, inBIG (List.mem_of_getElem? (i := 460) (by decide +kernel)) rfl⟩
abbrev mX4_addOne : vMI := (yX4_addOne, cX4_addOne, 4, (some .boolean))
theorem md_X4_addOne : vMd mX4_addOne 3 := ⟨inBIG (List.mem_of_getElem? (i := 411) (by decide +kernel)) rfl, inBIG (List.mem_of_getElem? (i := 55) (by decide +kernel)) rfl, by decide +kernel, by decide⟩
theorem in_X4_addOne : vIn mX4_addOne := ⟨inBIG (List.mem_of_getElem? (i := 409) (by decide +kernel)) rfl, inBIG (List.mem_of_getElem? (i := 410) (by decide +kernel)) rfl⟩
abbrev mX4_addWall : vMI := (yX4_addWall, cX4_addWall, 3, (some .boolean))
theorem md_X4_addWall : vMd mX4_addWall 2 := ⟨inBIG (List.mem_of_getElem? (i := 432) (by decide +kernel)) rfl, inBIG (List.mem_of_getElem? (i := 55) (by decide +kernel)) rfl, by decide +kernel, by decide⟩
theorem in_X4_addWall : vIn mX4_addWall := ⟨inBIG (List.mem_of_getElem? (i := 430) (by decide +kernel)) rfl, inBIG (List.mem_of_getElem? (i := 431) (by decide +kernel)) rfl⟩
abbrev mX4_addAct : vMI := (yX4_addAct, cX4_addAct, 3, (some .boolean))
theorem md_X4_addAct : vMd mX4_addAct 2 := ⟨inBIG (List.mem_of_getElem? (i := 452) (by decide +kernel)) rfl, inBIG (List.mem_of_getElem? (i := 55) (by decide +kernel)) rfl, by decide +kernel, by decide⟩
theorem in_X4_addAct : vIn mX4_addAct := ⟨inBIG (List.mem_of_getElem? (i := 450) (by decide +kernel)) rfl, inBIG (List.mem_of_getElem? (i := 451) (by decide +kernel)) rfl⟩
abbrev mX4_namesMissing : vMI := (yX4_namesMissing, cX4_namesMissing, 2, (some .boolean))
theorem md_X4_namesMissing : vMd mX4_namesMissing 0 := ⟨inBIG (List.mem_of_getElem? (i := 456) (by decide +kernel)) rfl, inBIG (List.mem_of_getElem? (i := 55) (by decide +kernel)) rfl, by decide +kernel, by decide⟩
theorem in_X4_namesMissing : vIn mX4_namesMissing := ⟨inBIG (List.mem_of_getElem? (i := 454) (by decide +kernel)) rfl, inBIG (List.mem_of_getElem? (i := 455) (by decide +kernel)) rfl⟩
abbrev mX4_canHang : vMI := (yX4_canHang, cX4_canHang, 3, (some .boolean))
theorem md_X4_canHang : vMd mX4_canHang 2 := ⟨inBIG (List.mem_of_getElem? (i := 592) (by decide +kernel)) rfl, inBIG (List.mem_of_getElem? (i := 55) (by decide +kernel)) rfl, by decide +kernel, by decide⟩
theorem in_X4_canHang : vIn mX4_canHang := ⟨inBIG (List.mem_of_getElem? (i := 590) (by decide +kernel)) rfl, inBIG (List.mem_of_getElem? (i := 591) (by decide +kernel)) rfl⟩
abbrev mX4_hangDoor : vMI := (yX4_hangDoor, cX4_hangDoor, 3, (some .boolean))
theorem md_X4_hangDoor : vMd mX4_hangDoor 2 := ⟨inBIG (List.mem_of_getElem? (i := 588) (by decide +kernel)) rfl, inBIG (List.mem_of_getElem? (i := 55) (by decide +kernel)) rfl, by decide +kernel, by decide⟩
theorem in_X4_hangDoor : vIn mX4_hangDoor := ⟨inBIG (List.mem_of_getElem? (i := 586) (by decide +kernel)) rfl, inBIG (List.mem_of_getElem? (i := 587) (by decide +kernel)) rfl⟩
abbrev mX4_takeDoor : vMI := (yX4_takeDoor, cX4_takeDoor, 4, (some .int))
theorem md_X4_takeDoor : vMd mX4_takeDoor 2 := ⟨inBIG (List.mem_of_getElem? (i := 600) (by decide +kernel)) rfl, inBIG (List.mem_of_getElem? (i := 55) (by decide +kernel)) rfl, by decide +kernel, by decide⟩
theorem in_X4_takeDoor : vIn mX4_takeDoor := ⟨inBIG (List.mem_of_getElem? (i := 598) (by decide +kernel)) rfl, inBIG (List.mem_of_getElem? (i := 599) (by decide +kernel)) rfl⟩
abbrev mX4_moveDoor : vMI := (yX4_moveDoor, cX4_moveDoor, 3, (some .boolean))
theorem md_X4_moveDoor : vMd mX4_moveDoor 2 := ⟨inBIG (List.mem_of_getElem? (i := 761) (by decide +kernel)) rfl, inBIG (List.mem_of_getElem? (i := 55) (by decide +kernel)) rfl, by decide +kernel, by decide⟩
theorem in_X4_moveDoor : vIn mX4_moveDoor := ⟨inBIG (List.mem_of_getElem? (i := 759) (by decide +kernel)) rfl, inBIG (List.mem_of_getElem? (i := 760) (by decide +kernel)) rfl⟩
abbrev mX4_doorState : vMI := (yX4_doorState, cX4_doorState, 2, (some .int))
theorem md_X4_doorState : vMd mX4_doorState 1 := ⟨inBIG (List.mem_of_getElem? (i := 533) (by decide +kernel)) rfl, inBIG (List.mem_of_getElem? (i := 55) (by decide +kernel)) rfl, by decide +kernel, by decide⟩
theorem in_X4_doorState : vIn mX4_doorState := ⟨inBIG (List.mem_of_getElem? (i := 531) (by decide +kernel)) rfl, inBIG (List.mem_of_getElem? (i := 532) (by decide +kernel)) rfl⟩
abbrev mX4_doorsAt : vMI := (yX4_doorsAt, cX4_doorsAt, 4, (some .int))
theorem md_X4_doorsAt : vMd mX4_doorsAt 1 := ⟨inBIG (List.mem_of_getElem? (i := 490) (by decide +kernel)) rfl, inBIG (List.mem_of_getElem? (i := 55) (by decide +kernel)) rfl, by decide +kernel, by decide⟩
theorem in_X4_doorsAt : vIn mX4_doorsAt := ⟨inBIG (List.mem_of_getElem? (i := 488) (by decide +kernel)) rfl, inBIG (List.mem_of_getElem? (i := 489) (by decide +kernel)) rfl⟩
abbrev mX4_hungWalls : vMI := (yX4_hungWalls, cX4_hungWalls, 3, (some .int))
theorem md_X4_hungWalls : vMd mX4_hungWalls 0 := ⟨inBIG (List.mem_of_getElem? (i := 480) (by decide +kernel)) rfl, inBIG (List.mem_of_getElem? (i := 55) (by decide +kernel)) rfl, by decide +kernel, by decide⟩
theorem in_X4_hungWalls : vIn mX4_hungWalls := ⟨inBIG (List.mem_of_getElem? (i := 478) (by decide +kernel)) rfl, inBIG (List.mem_of_getElem? (i := 479) (by decide +kernel)) rfl⟩
abbrev mX4_lets : vMI := (yX4_lets, cX4_lets, 3, (some .boolean))
theorem md_X4_lets : vMd mX4_lets 2 := ⟨inBIG (List.mem_of_getElem? (i := 506) (by decide +kernel)) rfl, inBIG (List.mem_of_getElem? (i := 55) (by decide +kernel)) rfl, by decide +kernel, by decide⟩
theorem in_X4_lets : vIn mX4_lets := ⟨inBIG (List.mem_of_getElem? (i := 504) (by decide +kernel)) rfl, inBIG (List.mem_of_getElem? (i := 505) (by decide +kernel)) rfl⟩
abbrev mX4_whomLets : vMI := (yX4_whomLets, cX4_whomLets, 4, (some .int))
theorem md_X4_whomLets : vMd mX4_whomLets 1 := ⟨inBIG (List.mem_of_getElem? (i := 542) (by decide +kernel)) rfl, inBIG (List.mem_of_getElem? (i := 55) (by decide +kernel)) rfl, by decide +kernel, by decide⟩
theorem in_X4_whomLets : vIn mX4_whomLets := ⟨inBIG (List.mem_of_getElem? (i := 540) (by decide +kernel)) rfl, inBIG (List.mem_of_getElem? (i := 541) (by decide +kernel)) rfl⟩
abbrev mX4_passed : vMI := (yX4_passed, cX4_passed, 4, (some .int))
theorem md_X4_passed : vMd mX4_passed 1 := ⟨inBIG (List.mem_of_getElem? (i := 502) (by decide +kernel)) rfl, inBIG (List.mem_of_getElem? (i := 55) (by decide +kernel)) rfl, by decide +kernel, by decide⟩
theorem in_X4_passed : vIn mX4_passed := ⟨inBIG (List.mem_of_getElem? (i := 500) (by decide +kernel)) rfl, inBIG (List.mem_of_getElem? (i := 501) (by decide +kernel)) rfl⟩
abbrev mX4_passedIfHung : vMI := (yX4_passedIfHung, cX4_passedIfHung, 4, (some .int))
theorem md_X4_passedIfHung : vMd mX4_passedIfHung 3 := ⟨inBIG (List.mem_of_getElem? (i := 664) (by decide +kernel)) rfl, inBIG (List.mem_of_getElem? (i := 55) (by decide +kernel)) rfl, by decide +kernel, by decide⟩
theorem in_X4_passedIfHung : vIn mX4_passedIfHung := ⟨inBIG (List.mem_of_getElem? (i := 662) (by decide +kernel)) rfl, inBIG (List.mem_of_getElem? (i := 663) (by decide +kernel)) rfl⟩
abbrev mX4_nextTo : vMI := (yX4_nextTo, cX4_nextTo, 6, (some .int))
theorem md_X4_nextTo : vMd mX4_nextTo 2 := ⟨inBIG (List.mem_of_getElem? (i := 514) (by decide +kernel)) rfl, inBIG (List.mem_of_getElem? (i := 55) (by decide +kernel)) rfl, by decide +kernel, by decide⟩
theorem in_X4_nextTo : vIn mX4_nextTo := ⟨inBIG (List.mem_of_getElem? (i := 512) (by decide +kernel)) rfl, inBIG (List.mem_of_getElem? (i := 513) (by decide +kernel)) rfl⟩
abbrev mX4_spread : vMI := (yX4_spread, cX4_spread, 6, (some .int))
theorem md_X4_spread : vMd mX4_spread 2 := ⟨inBIG (List.mem_of_getElem? (i := 510) (by decide +kernel)) rfl, inBIG (List.mem_of_getElem? (i := 55) (by decide +kernel)) rfl, by decide +kernel, by decide⟩
theorem in_X4_spread : vIn mX4_spread := ⟨inBIG (List.mem_of_getElem? (i := 508) (by decide +kernel)) rfl, inBIG (List.mem_of_getElem? (i := 509) (by decide +kernel)) rfl⟩
abbrev mX4_distance : vMI := (yX4_distance, cX4_distance, 6, (some .int))
theorem md_X4_distance : vMd mX4_distance 3 := ⟨inBIG (List.mem_of_getElem? (i := 609) (by decide +kernel)) rfl, inBIG (List.mem_of_getElem? (i := 55) (by decide +kernel)) rfl, by decide +kernel, by decide⟩
theorem in_X4_distance : vIn mX4_distance := ⟨inBIG (List.mem_of_getElem? (i := 607) (by decide +kernel)) rfl, inBIG (List.mem_of_getElem? (i := 608) (by decide +kernel)) rfl⟩
abbrev mX4_distanceIfHung : vMI := (yX4_distanceIfHung, cX4_distanceIfHung, 5, (some .int))
theorem md_X4_distanceIfHung : vMd mX4_distanceIfHung 4 := ⟨inBIG (List.mem_of_getElem? (i := 660) (by decide +kernel)) rfl, inBIG (List.mem_of_getElem? (i := 55) (by decide +kernel)) rfl, by decide +kernel, by decide⟩
theorem in_X4_distanceIfHung : vIn mX4_distanceIfHung := ⟨inBIG (List.mem_of_getElem? (i := 658) (by decide +kernel)) rfl, inBIG (List.mem_of_getElem? (i := 659) (by decide +kernel)) rfl⟩
abbrev mX4_gainIfHung : vMI := (yX4_gainIfHung, cX4_gainIfHung, 3, (some .int))
theorem md_X4_gainIfHung : vMd mX4_gainIfHung 2 := ⟨inBIG (List.mem_of_getElem? (i := 676) (by decide +kernel)) rfl, inBIG (List.mem_of_getElem? (i := 55) (by decide +kernel)) rfl, by decide +kernel, by decide⟩
theorem in_X4_gainIfHung : vIn mX4_gainIfHung := ⟨inBIG (List.mem_of_getElem? (i := 674) (by decide +kernel)) rfl, inBIG (List.mem_of_getElem? (i := 675) (by decide +kernel)) rfl⟩
abbrev mX4_reached : vMI := (yX4_reached, cX4_reached, 2, (some .int))
theorem md_X4_reached : vMd mX4_reached 1 := ⟨inBIG (List.mem_of_getElem? (i := 498) (by decide +kernel)) rfl, inBIG (List.mem_of_getElem? (i := 55) (by decide +kernel)) rfl, by decide +kernel, by decide⟩
theorem in_X4_reached : vIn mX4_reached := ⟨inBIG (List.mem_of_getElem? (i := 496) (by decide +kernel)) rfl, inBIG (List.mem_of_getElem? (i := 497) (by decide +kernel)) rfl⟩
abbrev mX4_wallOnWay : vMI := (yX4_wallOnWay, cX4_wallOnWay, 8, (some .int))
theorem md_X4_wallOnWay : vMd mX4_wallOnWay 3 := ⟨inBIG (List.mem_of_getElem? (i := 617) (by decide +kernel)) rfl, inBIG (List.mem_of_getElem? (i := 55) (by decide +kernel)) rfl, by decide +kernel, by decide⟩
theorem in_X4_wallOnWay : vIn mX4_wallOnWay := ⟨inBIG (List.mem_of_getElem? (i := 615) (by decide +kernel)) rfl, inBIG (List.mem_of_getElem? (i := 616) (by decide +kernel)) rfl⟩
abbrev mX4_firstTowards : vMI := (yX4_firstTowards, cX4_firstTowards, 7, (some .int))
theorem md_X4_firstTowards : vMd mX4_firstTowards 3 := ⟨inBIG (List.mem_of_getElem? (i := 621) (by decide +kernel)) rfl, inBIG (List.mem_of_getElem? (i := 55) (by decide +kernel)) rfl, by decide +kernel, by decide⟩
theorem in_X4_firstTowards : vIn mX4_firstTowards := ⟨inBIG (List.mem_of_getElem? (i := 620) (by decide +kernel)) rfl, inBIG (List.mem_append_left _ (List.mem_map.mpr ⟨(yX4_firstTowards, 13), by decide +kernel, rfl⟩)) rfl⟩
abbrev mX4_otherSide : vMI := (yX4_otherSide, cX4_otherSide, 3, (some .int))
theorem md_X4_otherSide : vMd mX4_otherSide 2 := ⟨inBIG (List.mem_of_getElem? (i := 626) (by decide +kernel)) rfl, inBIG (List.mem_of_getElem? (i := 55) (by decide +kernel)) rfl, by decide +kernel, by decide⟩
theorem in_X4_otherSide : vIn mX4_otherSide := ⟨inBIG (List.mem_of_getElem? (i := 625) (by decide +kernel)) rfl, inBIG (List.mem_append_left _ (List.mem_map.mpr ⟨(yX4_otherSide, 13), by decide +kernel, rfl⟩)) rfl⟩
abbrev mX4_unreached : vMI := (yX4_unreached, cX4_unreached, 3, (some .int))
theorem md_X4_unreached : vMd mX4_unreached 0 := ⟨inBIG (List.mem_of_getElem? (i := 494) (by decide +kernel)) rfl, inBIG (List.mem_of_getElem? (i := 55) (by decide +kernel)) rfl, by decide +kernel, by decide⟩
theorem in_X4_unreached : vIn mX4_unreached := ⟨inBIG (List.mem_of_getElem? (i := 492) (by decide +kernel)) rfl, inBIG (List.mem_of_getElem? (i := 493) (by decide +kernel)) rfl⟩
abbrev mX4_whoReaches : vMI := (yX4_whoReaches, cX4_whoReaches, 4, (some .int))
theorem md_X4_whoReaches : vMd mX4_whoReaches 1 := ⟨inBIG (List.mem_of_getElem? (i := 551) (by decide +kernel)) rfl, inBIG (List.mem_of_getElem? (i := 55) (by decide +kernel)) rfl, by decide +kernel, by decide⟩
theorem in_X4_whoReaches : vIn mX4_whoReaches := ⟨inBIG (List.mem_of_getElem? (i := 549) (by decide +kernel)) rfl, inBIG (List.mem_of_getElem? (i := 550) (by decide +kernel)) rfl⟩
abbrev mX4_reachedByAll : vMI := (yX4_reachedByAll, cX4_reachedByAll, 3, (some .int))
theorem md_X4_reachedByAll : vMd mX4_reachedByAll 0 := ⟨inBIG (List.mem_of_getElem? (i := 647) (by decide +kernel)) rfl, inBIG (List.mem_of_getElem? (i := 55) (by decide +kernel)) rfl, by decide +kernel, by decide⟩
theorem in_X4_reachedByAll : vIn mX4_reachedByAll := ⟨inBIG (List.mem_of_getElem? (i := 645) (by decide +kernel)) rfl, inBIG (List.mem_of_getElem? (i := 646) (by decide +kernel)) rfl⟩
abbrev mX4_worthOf : vMI := (yX4_worthOf, cX4_worthOf, 4, (some .int))
theorem md_X4_worthOf : vMd mX4_worthOf 1 := ⟨inBIG (List.mem_of_getElem? (i := 529) (by decide +kernel)) rfl, inBIG (List.mem_of_getElem? (i := 55) (by decide +kernel)) rfl, by decide +kernel, by decide⟩
theorem in_X4_worthOf : vIn mX4_worthOf := ⟨inBIG (List.mem_of_getElem? (i := 527) (by decide +kernel)) rfl, inBIG (List.mem_of_getElem? (i := 528) (by decide +kernel)) rfl⟩
abbrev mX4_gainOf : vMI := (yX4_gainOf, cX4_gainOf, 3, (some .int))
theorem md_X4_gainOf : vMd mX4_gainOf 2 := ⟨inBIG (List.mem_of_getElem? (i := 525) (by decide +kernel)) rfl, inBIG (List.mem_of_getElem? (i := 55) (by decide +kernel)) rfl, by decide +kernel, by decide⟩
theorem in_X4_gainOf : vIn mX4_gainOf := ⟨inBIG (List.mem_of_getElem? (i := 523) (by decide +kernel)) rfl, inBIG (List.mem_of_getElem? (i := 524) (by decide +kernel)) rfl⟩
abbrev mX4_leastShutting : vMI := (yX4_leastShutting, cX4_leastShutting, 9, (some .int))
theorem md_X4_leastShutting : vMd mX4_leastShutting 2 := ⟨inBIG (List.mem_of_getElem? (i := 685) (by decide +kernel)) rfl, inBIG (List.mem_of_getElem? (i := 55) (by decide +kernel)) rfl, by decide +kernel, by decide⟩
theorem in_X4_leastShutting : vIn mX4_leastShutting := ⟨inBIG (List.mem_of_getElem? (i := 683) (by decide +kernel)) rfl, inBIG (List.mem_of_getElem? (i := 684) (by decide +kernel)) rfl⟩
abbrev mX4_followPlan : vMI := (yX4_followPlan, cX4_followPlan, 4, (some .int))
theorem md_X4_followPlan : vMd mX4_followPlan 1 := ⟨inBIG (List.mem_of_getElem? (i := 638) (by decide +kernel)) rfl, inBIG (List.mem_of_getElem? (i := 55) (by decide +kernel)) rfl, by decide +kernel, by decide⟩
theorem in_X4_followPlan : vIn mX4_followPlan := ⟨inBIG (List.mem_of_getElem? (i := 636) (by decide +kernel)) rfl, inBIG (List.mem_of_getElem? (i := 637) (by decide +kernel)) rfl⟩
abbrev mX4_driftOnce : vMI := (yX4_driftOnce, cX4_driftOnce, 3, none)
theorem md_X4_driftOnce : vMd mX4_driftOnce 1 := ⟨inBIG (List.mem_of_getElem? (i := 783) (by decide +kernel)) rfl, inBIG (List.mem_of_getElem? (i := 55) (by decide +kernel)) rfl, by decide +kernel, by decide⟩
theorem in_X4_driftOnce : vIn mX4_driftOnce := ⟨inBIG (List.mem_of_getElem? (i := 781) (by decide +kernel)) rfl, inBIG (List.mem_of_getElem? (i := 782) (by decide +kernel)) rfl⟩
abbrev mX4_jamWeights : vMI := (yX4_jamWeights, cX4_jamWeights, 1, (some .long))
theorem md_X4_jamWeights : vMd mX4_jamWeights 0 := ⟨inBIG (List.mem_of_getElem? (i := 719) (by decide +kernel)) rfl, inBIG (List.mem_of_getElem? (i := 55) (by decide +kernel)) rfl, by decide +kernel, by decide⟩
theorem in_X4_jamWeights : vIn mX4_jamWeights := ⟨inBIG (List.mem_of_getElem? (i := 717) (by decide +kernel)) rfl, inBIG (List.mem_of_getElem? (i := 718) (by decide +kernel)) rfl⟩
abbrev mX4_reachedWhenJammed : vMI := (yX4_reachedWhenJammed, cX4_reachedWhenJammed, 11, (some .long))
theorem md_X4_reachedWhenJammed : vMd mX4_reachedWhenJammed 3 := ⟨inBIG (List.mem_of_getElem? (i := 712) (by decide +kernel)) rfl, inBIG (List.mem_of_getElem? (i := 55) (by decide +kernel)) rfl, by decide +kernel, by decide⟩
theorem in_X4_reachedWhenJammed : vIn mX4_reachedWhenJammed := ⟨inBIG (List.mem_of_getElem? (i := 710) (by decide +kernel)) rfl, inBIG (List.mem_of_getElem? (i := 711) (by decide +kernel)) rfl⟩
abbrev mX4_power : vMI := (yX4_power, cX4_power, 5, (some .long))
theorem md_X4_power : vMd mX4_power 2 := ⟨inBIG (List.mem_of_getElem? (i := 715) (by decide +kernel)) rfl, inBIG (List.mem_of_getElem? (i := 55) (by decide +kernel)) rfl, by decide +kernel, by decide⟩
theorem st_X4_power : Cond.static yX4_power ∈ BIG := inBIG (List.mem_of_getElem? (i := 714) (by decide +kernel)) rfl
abbrev mX5_init : vMI := (yX5_init, cX5_init, 2, none)
theorem md_X5_init : vMd mX5_init 0 := ⟨inBIG (List.mem_of_getElem? (i := 71) (by decide +kernel)) rfl, inBIG (List.mem_of_getElem? (i := 52) (by decide +kernel)) rfl, by decide +kernel, by decide⟩
abbrev mX5_feed : vMI := (yX5_feed, cX5_feed, 2, (some .int))
theorem md_X5_feed : vMd mX5_feed 1 := ⟨inBIG (List.mem_of_getElem? (i := 286) (by decide +kernel)) rfl, inBIG (List.mem_of_getElem? (i := 52) (by decide +kernel)) rfl, by decide +kernel, by decide⟩
theorem in_X5_feed : vIn mX5_feed := ⟨inBIG (List.mem_of_getElem? (i := 284) (by decide +kernel)) rfl, inBIG (List.mem_of_getElem? (i := 285) (by decide +kernel)) rfl⟩
abbrev mX5_end : vMI := (yX5_end, cX5_end, 3, (some .int))
theorem md_X5_end : vMd mX5_end 1 := ⟨inBIG (List.mem_of_getElem? (i := 297) (by decide +kernel)) rfl, inBIG (List.mem_of_getElem? (i := 52) (by decide +kernel)) rfl, by decide +kernel, by decide⟩
theorem in_X5_end : vIn mX5_end := ⟨inBIG (List.mem_of_getElem? (i := 295) (by decide +kernel)) rfl, inBIG (List.mem_of_getElem? (i := 296) (by decide +kernel)) rfl⟩
abbrev mX5_text : vMI := (yX5_text, cX5_text, 2, (some .int))
theorem md_X5_text : vMd mX5_text 0 := ⟨inBIG (List.mem_of_getElem? (i := 301) (by decide +kernel)) rfl, inBIG (List.mem_of_getElem? (i := 52) (by decide +kernel)) rfl, by decide +kernel, by decide⟩
theorem in_X5_text : vIn mX5_text := ⟨inBIG (List.mem_of_getElem? (i := 299) (by decide +kernel)) rfl, inBIG (List.mem_of_getElem? (i := 300) (by decide +kernel)) rfl⟩
abbrev mX5_fault : vMI := (yX5_fault, cX5_fault, 1, (some .int))
theorem md_X5_fault : vMd mX5_fault 0 := ⟨inBIG (List.mem_of_getElem? (i := 472) (by decide +kernel)) rfl, inBIG (List.mem_of_getElem? (i := 52) (by decide +kernel)) rfl, by decide +kernel, by decide⟩
theorem in_X5_fault : vIn mX5_fault := ⟨inBIG (List.mem_of_getElem? (i := 470) (by decide +kernel)) rfl, inBIG (List.mem_of_getElem? (i := 471) (by decide +kernel)) rfl⟩
abbrev mX5_rule : vMI := (yX5_rule, cX5_rule, 2, (some .int))
theorem md_X5_rule : vMd mX5_rule 1 := ⟨inBIG (List.mem_of_getElem? (i := 476) (by decide +kernel)) rfl, inBIG (List.mem_of_getElem? (i := 52) (by decide +kernel)) rfl, by decide +kernel, by decide⟩
theorem in_X5_rule : vIn mX5_rule := ⟨inBIG (List.mem_of_getElem? (i := 474) (by decide +kernel)) rfl, inBIG (List.mem_of_getElem? (i := 475) (by decide +kernel)) rfl⟩
abbrev mX5_one : vMI := (yX5_one, cX5_one, 3, (some .int))
theorem md_X5_one : vMd mX5_one 2 := ⟨inBIG (List.mem_of_getElem? (i := 519) (by decide +kernel)) rfl, inBIG (List.mem_of_getElem? (i := 52) (by decide +kernel)) rfl, by decide +kernel, by decide⟩
theorem in_X5_one : vIn mX5_one := ⟨inBIG (List.mem_of_getElem? (i := 517) (by decide +kernel)) rfl, inBIG (List.mem_of_getElem? (i := 518) (by decide +kernel)) rfl⟩
abbrev mX5_wall : vMI := (yX5_wall, cX5_wall, 3, (some .int))
theorem md_X5_wall : vMd mX5_wall 2 := ⟨inBIG (List.mem_of_getElem? (i := 537) (by decide +kernel)) rfl, inBIG (List.mem_of_getElem? (i := 52) (by decide +kernel)) rfl, by decide +kernel, by decide⟩
theorem in_X5_wall : vIn mX5_wall := ⟨inBIG (List.mem_of_getElem? (i := 535) (by decide +kernel)) rfl, inBIG (List.mem_of_getElem? (i := 536) (by decide +kernel)) rfl⟩
abbrev mX5_room : vMI := (yX5_room, cX5_room, 3, (some .int))
theorem md_X5_room : vMd mX5_room 2 := ⟨inBIG (List.mem_of_getElem? (i := 546) (by decide +kernel)) rfl, inBIG (List.mem_of_getElem? (i := 52) (by decide +kernel)) rfl, by decide +kernel, by decide⟩
theorem in_X5_room : vIn mX5_room := ⟨inBIG (List.mem_of_getElem? (i := 544) (by decide +kernel)) rfl, inBIG (List.mem_of_getElem? (i := 545) (by decide +kernel)) rfl⟩
abbrev mX5_act : vMI := (yX5_act, cX5_act, 3, (some .int))
theorem md_X5_act : vMd mX5_act 2 := ⟨inBIG (List.mem_of_getElem? (i := 555) (by decide +kernel)) rfl, inBIG (List.mem_of_getElem? (i := 52) (by decide +kernel)) rfl, by decide +kernel, by decide⟩
theorem in_X5_act : vIn mX5_act := ⟨inBIG (List.mem_of_getElem? (i := 553) (by decide +kernel)) rfl, inBIG (List.mem_of_getElem? (i := 554) (by decide +kernel)) rfl⟩
abbrev mX5_alter : vMI := (yX5_alter, cX5_alter, 4, (some .int))
theorem md_X5_alter : vMd mX5_alter 3 := ⟨inBIG (List.mem_of_getElem? (i := 559) (by decide +kernel)) rfl, inBIG (List.mem_of_getElem? (i := 52) (by decide +kernel)) rfl, by decide +kernel, by decide⟩
theorem in_X5_alter : vIn mX5_alter := ⟨inBIG (List.mem_of_getElem? (i := 557) (by decide +kernel)) rfl, inBIG (List.mem_of_getElem? (i := 558) (by decide +kernel)) rfl⟩
abbrev mX5_price : vMI := (yX5_price, cX5_price, 3, (some .int))
theorem md_X5_price : vMd mX5_price 2 := ⟨inBIG (List.mem_of_getElem? (i := 566) (by decide +kernel)) rfl, inBIG (List.mem_of_getElem? (i := 52) (by decide +kernel)) rfl, by decide +kernel, by decide⟩
theorem in_X5_price : vIn mX5_price := ⟨inBIG (List.mem_of_getElem? (i := 564) (by decide +kernel)) rfl, inBIG (List.mem_of_getElem? (i := 565) (by decide +kernel)) rfl⟩
abbrev mX5_build : vMI := (yX5_build, cX5_build, 3, (some .int))
theorem md_X5_build : vMd mX5_build 2 := ⟨inBIG (List.mem_of_getElem? (i := 570) (by decide +kernel)) rfl, inBIG (List.mem_of_getElem? (i := 52) (by decide +kernel)) rfl, by decide +kernel, by decide⟩
theorem in_X5_build : vIn mX5_build := ⟨inBIG (List.mem_of_getElem? (i := 568) (by decide +kernel)) rfl, inBIG (List.mem_of_getElem? (i := 569) (by decide +kernel)) rfl⟩
abbrev mX5_plan : vMI := (yX5_plan, cX5_plan, 3, (some .int))
theorem md_X5_plan : vMd mX5_plan 2 := ⟨inBIG (List.mem_of_getElem? (i := 575) (by decide +kernel)) rfl, inBIG (List.mem_of_getElem? (i := 52) (by decide +kernel)) rfl, by decide +kernel, by decide⟩
theorem in_X5_plan : vIn mX5_plan := ⟨inBIG (List.mem_of_getElem? (i := 573) (by decide +kernel)) rfl, inBIG (List.mem_of_getElem? (i := 574) (by decide +kernel)) rfl⟩
abbrev mX5_cut : vMI := (yX5_cut, cX5_cut, 3, (some .int))
theorem md_X5_cut : vMd mX5_cut 1 := ⟨inBIG (List.mem_of_getElem? (i := 580) (by decide +kernel)) rfl, inBIG (List.mem_of_getElem? (i := 52) (by decide +kernel)) rfl, by decide +kernel, by decide⟩
theorem in_X5_cut : vIn mX5_cut := ⟨inBIG (List.mem_of_getElem? (i := 578) (by decide +kernel)) rfl, inBIG (List.mem_of_getElem? (i := 579) (by decide +kernel)) rfl⟩
abbrev mX5_hang : vMI := (yX5_hang, cX5_hang, 3, (some .int))
theorem md_X5_hang : vMd mX5_hang 2 := ⟨inBIG (List.mem_of_getElem? (i := 584) (by decide +kernel)) rfl, inBIG (List.mem_of_getElem? (i := 52) (by decide +kernel)) rfl, by decide +kernel, by decide⟩
theorem in_X5_hang : vIn mX5_hang := ⟨inBIG (List.mem_of_getElem? (i := 582) (by decide +kernel)) rfl, inBIG (List.mem_of_getElem? (i := 583) (by decide +kernel)) rfl⟩
abbrev mX5_fill : vMI := (yX5_fill, cX5_fill, 3, (some .int))
theorem md_X5_fill : vMd mX5_fill 1 := ⟨inBIG (List.mem_of_getElem? (i := 596) (by decide +kernel)) rfl, inBIG (List.mem_of_getElem? (i := 52) (by decide +kernel)) rfl, by decide +kernel, by decide⟩
theorem in_X5_fill : vIn mX5_fill := ⟨inBIG (List.mem_of_getElem? (i := 594) (by decide +kernel)) rfl, inBIG (List.mem_of_getElem? (i := 595) (by decide +kernel)) rfl⟩
abbrev mX5_steps : vMI := (yX5_steps, cX5_steps, 3, (some .int))
theorem md_X5_steps : vMd mX5_steps 2 := ⟨inBIG (List.mem_of_getElem? (i := 604) (by decide +kernel)) rfl, inBIG (List.mem_of_getElem? (i := 52) (by decide +kernel)) rfl, by decide +kernel, by decide⟩
theorem in_X5_steps : vIn mX5_steps := ⟨inBIG (List.mem_of_getElem? (i := 602) (by decide +kernel)) rfl, inBIG (List.mem_of_getElem? (i := 603) (by decide +kernel)) rfl⟩
abbrev mX5_way : vMI := (yX5_way, cX5_way, 4, (some .int))
theorem md_X5_way : vMd mX5_way 3 := ⟨inBIG (List.mem_of_getElem? (i := 613) (by decide +kernel)) rfl, inBIG (List.mem_of_getElem? (i := 52) (by decide +kernel)) rfl, by decide +kernel, by decide⟩
theorem in_X5_way : vIn mX5_way := ⟨inBIG (List.mem_of_getElem? (i := 611) (by decide +kernel)) rfl, inBIG (List.mem_of_getElem? (i := 612) (by decide +kernel)) rfl⟩
abbrev mX5_meet : vMI := (yX5_meet, cX5_meet, 3, (some .int))
theorem md_X5_meet : vMd mX5_meet 2 := ⟨inBIG (List.mem_of_getElem? (i := 630) (by decide +kernel)) rfl, inBIG (List.mem_of_getElem? (i := 52) (by decide +kernel)) rfl, by decide +kernel, by decide⟩
theorem in_X5_meet : vIn mX5_meet := ⟨inBIG (List.mem_of_getElem? (i := 628) (by decide +kernel)) rfl, inBIG (List.mem_of_getElem? (i := 629) (by decide +kernel)) rfl⟩
abbrev mX5_runs : vMI := (yX5_runs, cX5_runs, 3, (some .int))
theorem md_X5_runs : vMd mX5_runs 1 := ⟨inBIG (List.mem_of_getElem? (i := 634) (by decide +kernel)) rfl, inBIG (List.mem_of_getElem? (i := 52) (by decide +kernel)) rfl, by decide +kernel, by decide⟩
theorem in_X5_runs : vIn mX5_runs := ⟨inBIG (List.mem_of_getElem? (i := 632) (by decide +kernel)) rfl, inBIG (List.mem_of_getElem? (i := 633) (by decide +kernel)) rfl⟩
abbrev mX5_ahead : vMI := (yX5_ahead, cX5_ahead, 2, (some .int))
theorem md_X5_ahead : vMd mX5_ahead 1 := ⟨inBIG (List.mem_of_getElem? (i := 652) (by decide +kernel)) rfl, inBIG (List.mem_of_getElem? (i := 52) (by decide +kernel)) rfl, by decide +kernel, by decide⟩
theorem in_X5_ahead : vIn mX5_ahead := ⟨inBIG (List.mem_of_getElem? (i := 650) (by decide +kernel)) rfl, inBIG (List.mem_of_getElem? (i := 651) (by decide +kernel)) rfl⟩
abbrev mX5_best : vMI := (yX5_best, cX5_best, 8, (some .int))
theorem md_X5_best : vMd mX5_best 3 := ⟨inBIG (List.mem_of_getElem? (i := 656) (by decide +kernel)) rfl, inBIG (List.mem_of_getElem? (i := 52) (by decide +kernel)) rfl, by decide +kernel, by decide⟩
theorem in_X5_best : vIn mX5_best := ⟨inBIG (List.mem_of_getElem? (i := 654) (by decide +kernel)) rfl, inBIG (List.mem_of_getElem? (i := 655) (by decide +kernel)) rfl⟩
abbrev mX5_friend : vMI := (yX5_friend, cX5_friend, 9, (some .int))
theorem md_X5_friend : vMd mX5_friend 3 := ⟨inBIG (List.mem_of_getElem? (i := 668) (by decide +kernel)) rfl, inBIG (List.mem_of_getElem? (i := 52) (by decide +kernel)) rfl, by decide +kernel, by decide⟩
theorem in_X5_friend : vIn mX5_friend := ⟨inBIG (List.mem_of_getElem? (i := 666) (by decide +kernel)) rfl, inBIG (List.mem_of_getElem? (i := 667) (by decide +kernel)) rfl⟩
abbrev mX5_gain : vMI := (yX5_gain, cX5_gain, 7, (some .int))
theorem md_X5_gain : vMd mX5_gain 2 := ⟨inBIG (List.mem_of_getElem? (i := 672) (by decide +kernel)) rfl, inBIG (List.mem_of_getElem? (i := 52) (by decide +kernel)) rfl, by decide +kernel, by decide⟩
theorem in_X5_gain : vIn mX5_gain := ⟨inBIG (List.mem_of_getElem? (i := 670) (by decide +kernel)) rfl, inBIG (List.mem_of_getElem? (i := 671) (by decide +kernel)) rfl⟩
abbrev mX5_shut : vMI := (yX5_shut, cX5_shut, 5, (some .int))
theorem md_X5_shut : vMd mX5_shut 3 := ⟨inBIG (List.mem_of_getElem? (i := 681) (by decide +kernel)) rfl, inBIG (List.mem_of_getElem? (i := 52) (by decide +kernel)) rfl, by decide +kernel, by decide⟩
theorem in_X5_shut : vIn mX5_shut := ⟨inBIG (List.mem_of_getElem? (i := 679) (by decide +kernel)) rfl, inBIG (List.mem_of_getElem? (i := 680) (by decide +kernel)) rfl⟩
abbrev mX5_leave : vMI := (yX5_leave, cX5_leave, 6, (some .int))
theorem md_X5_leave : vMd mX5_leave 1 := ⟨inBIG (List.mem_of_getElem? (i := 690) (by decide +kernel)) rfl, inBIG (List.mem_of_getElem? (i := 52) (by decide +kernel)) rfl, by decide +kernel, by decide⟩
theorem in_X5_leave : vIn mX5_leave := ⟨inBIG (List.mem_of_getElem? (i := 688) (by decide +kernel)) rfl, inBIG (List.mem_of_getElem? (i := 689) (by decide +kernel)) rfl⟩
abbrev mX5_kindly : vMI := (yX5_kindly, cX5_kindly, 7, (some .int))
theorem md_X5_kindly : vMd mX5_kindly 2 := ⟨inBIG (List.mem_of_getElem? (i := 698) (by decide +kernel)) rfl, inBIG (List.mem_of_getElem? (i := 52) (by decide +kernel)) rfl, by decide +kernel, by decide⟩
theorem in_X5_kindly : vIn mX5_kindly := ⟨inBIG (List.mem_of_getElem? (i := 696) (by decide +kernel)) rfl, inBIG (List.mem_of_getElem? (i := 697) (by decide +kernel)) rfl⟩
abbrev mX5_dear : vMI := (yX5_dear, cX5_dear, 9, (some .int))
theorem md_X5_dear : vMd mX5_dear 2 := ⟨inBIG (List.mem_of_getElem? (i := 702) (by decide +kernel)) rfl, inBIG (List.mem_of_getElem? (i := 52) (by decide +kernel)) rfl, by decide +kernel, by decide⟩
theorem in_X5_dear : vIn mX5_dear := ⟨inBIG (List.mem_of_getElem? (i := 700) (by decide +kernel)) rfl, inBIG (List.mem_of_getElem? (i := 701) (by decide +kernel)) rfl⟩
abbrev mX5_luck : vMI := (yX5_luck, cX5_luck, 5, (some .long))
theorem md_X5_luck : vMd mX5_luck 4 := ⟨inBIG (List.mem_of_getElem? (i := 707) (by decide +kernel)) rfl, inBIG (List.mem_of_getElem? (i := 52) (by decide +kernel)) rfl, by decide +kernel, by decide⟩
theorem in_X5_luck : vIn mX5_luck := ⟨inBIG (List.mem_of_getElem? (i := 705) (by decide +kernel)) rfl, inBIG (List.mem_of_getElem? (i := 706) (by decide +kernel)) rfl⟩
abbrev mX5_mean : vMI := (yX5_mean, cX5_mean, 4, (some .long))
theorem md_X5_mean : vMd mX5_mean 3 := ⟨inBIG (List.mem_of_getElem? (i := 726) (by decide +kernel)) rfl, inBIG (List.mem_of_getElem? (i := 52) (by decide +kernel)) rfl, by decide +kernel, by decide⟩
theorem in_X5_mean : vIn mX5_mean := ⟨inBIG (List.mem_of_getElem? (i := 724) (by decide +kernel)) rfl, inBIG (List.mem_of_getElem? (i := 725) (by decide +kernel)) rfl⟩
abbrev mX5_see : vMI := (yX5_see, cX5_see, 4, (some .int))
theorem md_X5_see : vMd mX5_see 3 := ⟨inBIG (List.mem_of_getElem? (i := 730) (by decide +kernel)) rfl, inBIG (List.mem_of_getElem? (i := 52) (by decide +kernel)) rfl, by decide +kernel, by decide⟩
theorem in_X5_see : vIn mX5_see := ⟨inBIG (List.mem_of_getElem? (i := 728) (by decide +kernel)) rfl, inBIG (List.mem_of_getElem? (i := 729) (by decide +kernel)) rfl⟩
abbrev mX5_forget : vMI := (yX5_forget, cX5_forget, 3, (some .int))
theorem md_X5_forget : vMd mX5_forget 1 := ⟨inBIG (List.mem_of_getElem? (i := 738) (by decide +kernel)) rfl, inBIG (List.mem_of_getElem? (i := 52) (by decide +kernel)) rfl, by decide +kernel, by decide⟩
theorem in_X5_forget : vIn mX5_forget := ⟨inBIG (List.mem_of_getElem? (i := 736) (by decide +kernel)) rfl, inBIG (List.mem_of_getElem? (i := 737) (by decide +kernel)) rfl⟩
abbrev mX5_kinds : vMI := (yX5_kinds, cX5_kinds, 4, (some .int))
theorem md_X5_kinds : vMd mX5_kinds 1 := ⟨inBIG (List.mem_of_getElem? (i := 742) (by decide +kernel)) rfl, inBIG (List.mem_of_getElem? (i := 52) (by decide +kernel)) rfl, by decide +kernel, by decide⟩
theorem in_X5_kinds : vIn mX5_kinds := ⟨inBIG (List.mem_of_getElem? (i := 740) (by decide +kernel)) rfl, inBIG (List.mem_of_getElem? (i := 741) (by decide +kernel)) rfl⟩
abbrev mX5_walls : vMI := (yX5_walls, cX5_walls, 2, (some .int))
theorem md_X5_walls : vMd mX5_walls 1 := ⟨inBIG (List.mem_of_getElem? (i := 753) (by decide +kernel)) rfl, inBIG (List.mem_of_getElem? (i := 52) (by decide +kernel)) rfl, by decide +kernel, by decide⟩
theorem in_X5_walls : vIn mX5_walls := ⟨inBIG (List.mem_of_getElem? (i := 751) (by decide +kernel)) rfl, inBIG (List.mem_of_getElem? (i := 752) (by decide +kernel)) rfl⟩
abbrev mX5_ask : vMI := (yX5_ask, cX5_ask, 10, (some .int))
theorem md_X5_ask : vMd mX5_ask 2 := ⟨inBIG (List.mem_of_getElem? (i := 766) (by decide +kernel)) rfl, inBIG (List.mem_of_getElem? (i := 52) (by decide +kernel)) rfl, by decide +kernel, by decide⟩
theorem in_X5_ask : vIn mX5_ask := ⟨inBIG (List.mem_of_getElem? (i := 764) (by decide +kernel)) rfl, inBIG (List.mem_of_getElem? (i := 765) (by decide +kernel)) rfl⟩
abbrev mX5_drift : vMI := (yX5_drift, cX5_drift, 6, (some .int))
theorem md_X5_drift : vMd mX5_drift 3 := ⟨inBIG (List.mem_of_getElem? (i := 778) (by decide +kernel)) rfl, inBIG (List.mem_of_getElem? (i := 52) (by decide +kernel)) rfl, by decide +kernel, by decide⟩
theorem in_X5_drift : vIn mX5_drift := ⟨inBIG (List.mem_of_getElem? (i := 776) (by decide +kernel)) rfl, inBIG (List.mem_of_getElem? (i := 777) (by decide +kernel)) rfl⟩
abbrev mX5_keep : vMI := (yX5_keep, cX5_keep, 3, (some .int))
theorem md_X5_keep : vMd mX5_keep 1 := ⟨inBIG (List.mem_of_getElem? (i := 787) (by decide +kernel)) rfl, inBIG (List.mem_of_getElem? (i := 52) (by decide +kernel)) rfl, by decide +kernel, by decide⟩
theorem in_X5_keep : vIn mX5_keep := ⟨inBIG (List.mem_of_getElem? (i := 785) (by decide +kernel)) rfl, inBIG (List.mem_of_getElem? (i := 786) (by decide +kernel)) rfl⟩
abbrev mX5_back : vMI := (yX5_back, cX5_back, 2, (some .int))
theorem md_X5_back : vMd mX5_back 1 := ⟨inBIG (List.mem_of_getElem? (i := 791) (by decide +kernel)) rfl, inBIG (List.mem_of_getElem? (i := 52) (by decide +kernel)) rfl, by decide +kernel, by decide⟩
theorem in_X5_back : vIn mX5_back := ⟨inBIG (List.mem_of_getElem? (i := 789) (by decide +kernel)) rfl, inBIG (List.mem_of_getElem? (i := 790) (by decide +kernel)) rfl⟩
abbrev mX5_sheet : vMI := (yX5_sheet, cX5_sheet, 4, (some .int))
theorem md_X5_sheet : vMd mX5_sheet 3 := ⟨inBIG (List.mem_of_getElem? (i := 795) (by decide +kernel)) rfl, inBIG (List.mem_of_getElem? (i := 52) (by decide +kernel)) rfl, by decide +kernel, by decide⟩
theorem in_X5_sheet : vIn mX5_sheet := ⟨inBIG (List.mem_of_getElem? (i := 793) (by decide +kernel)) rfl, inBIG (List.mem_of_getElem? (i := 794) (by decide +kernel)) rfl⟩
abbrev mX5_lay : vMI := (yX5_lay, cX5_lay, 6, (some .int))
theorem md_X5_lay : vMd mX5_lay 3 := ⟨inBIG (List.mem_of_getElem? (i := 804) (by decide +kernel)) rfl, inBIG (List.mem_of_getElem? (i := 52) (by decide +kernel)) rfl, by decide +kernel, by decide⟩
theorem in_X5_lay : vIn mX5_lay := ⟨inBIG (List.mem_of_getElem? (i := 802) (by decide +kernel)) rfl, inBIG (List.mem_of_getElem? (i := 803) (by decide +kernel)) rfl⟩
abbrev mX5_read : vMI := (yX5_read, cX5_read, 10, (some .int))
theorem md_X5_read : vMd mX5_read 4 := ⟨inBIG (List.mem_of_getElem? (i := 816) (by decide +kernel)) rfl, inBIG (List.mem_of_getElem? (i := 52) (by decide +kernel)) rfl, by decide +kernel, by decide⟩
theorem in_X5_read : vIn mX5_read := ⟨inBIG (List.mem_of_getElem? (i := 814) (by decide +kernel)) rfl, inBIG (List.mem_of_getElem? (i := 815) (by decide +kernel)) rfl⟩
abbrev mX5_torn : vMI := (yX5_torn, cX5_torn, 1, (some .int))
theorem md_X5_torn : vMd mX5_torn 0 := ⟨inBIG (List.mem_of_getElem? (i := 826) (by decide +kernel)) rfl, inBIG (List.mem_of_getElem? (i := 52) (by decide +kernel)) rfl, by decide +kernel, by decide⟩
theorem in_X5_torn : vIn mX5_torn := ⟨inBIG (List.mem_of_getElem? (i := 824) (by decide +kernel)) rfl, inBIG (List.mem_of_getElem? (i := 825) (by decide +kernel)) rfl⟩
abbrev mX5_count : vMI := (yX5_count, cX5_count, 2, (some .int))
theorem md_X5_count : vMd mX5_count 1 := ⟨inBIG (List.mem_of_getElem? (i := 830) (by decide +kernel)) rfl, inBIG (List.mem_of_getElem? (i := 52) (by decide +kernel)) rfl, by decide +kernel, by decide⟩
theorem in_X5_count : vIn mX5_count := ⟨inBIG (List.mem_of_getElem? (i := 828) (by decide +kernel)) rfl, inBIG (List.mem_of_getElem? (i := 829) (by decide +kernel)) rfl⟩
abbrev mX5_isUpTo : vMI := (yX5_isUpTo, cX5_isUpTo, 2, (some .boolean))
theorem md_X5_isUpTo : vMd mX5_isUpTo 2 := ⟨inBIG (List.mem_of_getElem? (i := 289) (by decide +kernel)) rfl, inBIG (List.mem_of_getElem? (i := 52) (by decide +kernel)) rfl, by decide +kernel, by decide⟩
theorem st_X5_isUpTo : Cond.static yX5_isUpTo ∈ BIG := inBIG (List.mem_of_getElem? (i := 288) (by decide +kernel)) rfl
abbrev mX5_isRoom : vMI := (yX5_isRoom, cX5_isRoom, 1, (some .boolean))
theorem md_X5_isRoom : vMd mX5_isRoom 1 := ⟨inBIG (List.mem_of_getElem? (i := 443) (by decide +kernel)) rfl, inBIG (List.mem_of_getElem? (i := 52) (by decide +kernel)) rfl, by decide +kernel, by decide⟩
theorem st_X5_isRoom : Cond.static yX5_isRoom ∈ BIG := inBIG (List.mem_of_getElem? (i := 442) (by decide +kernel)) rfl
abbrev mX5_hasBit : vMI := (yX5_hasBit, cX5_hasBit, 2, (some .boolean))
theorem md_X5_hasBit : vMd mX5_hasBit 2 := ⟨inBIG (List.mem_of_getElem? (i := 440) (by decide +kernel)) rfl, inBIG (List.mem_of_getElem? (i := 52) (by decide +kernel)) rfl, by decide +kernel, by decide⟩
theorem st_X5_hasBit : Cond.static yX5_hasBit ∈ BIG := inBIG (List.mem_of_getElem? (i := 439) (by decide +kernel)) rfl
abbrev mX5_replaced : vMI := (yX5_replaced, cX5_replaced, 5, (some .int))
theorem md_X5_replaced : vMd mX5_replaced 4 := ⟨inBIG (List.mem_of_getElem? (i := 562) (by decide +kernel)) rfl, inBIG (List.mem_of_getElem? (i := 52) (by decide +kernel)) rfl, by decide +kernel, by decide⟩
theorem st_X5_replaced : Cond.static yX5_replaced ∈ BIG := inBIG (List.mem_of_getElem? (i := 561) (by decide +kernel)) rfl
abbrev mX5_firstMissing : vMI := (yX5_firstMissing, cX5_firstMissing, 3, (some .int))
theorem md_X5_firstMissing : vMd mX5_firstMissing 2 := ⟨inBIG (List.mem_of_getElem? (i := 642) (by decide +kernel)) rfl, inBIG (List.mem_of_getElem? (i := 52) (by decide +kernel)) rfl, by decide +kernel, by decide⟩
theorem st_X5_firstMissing : Cond.static yX5_firstMissing ∈ BIG := inBIG (List.mem_of_getElem? (i := 641) (by decide +kernel)) rfl
abbrev mX5_inLowestTerms : vMI := (yX5_inLowestTerms, cX5_inLowestTerms, 12, (some .long))
theorem md_X5_inLowestTerms : vMd mX5_inLowestTerms 3 := ⟨inBIG (List.mem_of_getElem? (i := 722) (by decide +kernel)) rfl, inBIG (List.mem_of_getElem? (i := 52) (by decide +kernel)) rfl, by decide +kernel, by decide⟩
theorem st_X5_inLowestTerms : Cond.static yX5_inLowestTerms ∈ BIG := inBIG (List.mem_of_getElem? (i := 721) (by decide +kernel)) rfl
abbrev mX5_narrowed : vMI := (yX5_narrowed, cX5_narrowed, 2, (some .int))
theorem md_X5_narrowed : vMd mX5_narrowed 2 := ⟨inBIG (List.mem_of_getElem? (i := 812) (by decide +kernel)) rfl, inBIG (List.mem_of_getElem? (i := 52) (by decide +kernel)) rfl, by decide +kernel, by decide⟩
theorem st_X5_narrowed : Cond.static yX5_narrowed ∈ BIG := inBIG (List.mem_of_getElem? (i := 811) (by decide +kernel)) rfl
abbrev mX5_reachedByPlan : vMI := (yX5_reachedByPlan, cX5_reachedByPlan, 2, (some .int))
theorem md_X5_reachedByPlan : vMd mX5_reachedByPlan 1 := ⟨inBIG (List.mem_of_getElem? (i := 694) (by decide +kernel)) rfl, inBIG (List.mem_of_getElem? (i := 52) (by decide +kernel)) rfl, by decide +kernel, by decide⟩
theorem in_X5_reachedByPlan : vIn mX5_reachedByPlan := ⟨inBIG (List.mem_of_getElem? (i := 693) (by decide +kernel)) rfl, inBIG (List.mem_append_left _ (List.mem_map.mpr ⟨(yX5_reachedByPlan, 10), by decide +kernel, rfl⟩)) rfl⟩
abbrev mX5_wallsAsSeen : vMI := (yX5_wallsAsSeen, cX5_wallsAsSeen, 4, (some .int))
theorem md_X5_wallsAsSeen : vMd mX5_wallsAsSeen 1 := ⟨inBIG (List.mem_of_getElem? (i := 757) (by decide +kernel)) rfl, inBIG (List.mem_of_getElem? (i := 52) (by decide +kernel)) rfl, by decide +kernel, by decide⟩
theorem in_X5_wallsAsSeen : vIn mX5_wallsAsSeen := ⟨inBIG (List.mem_of_getElem? (i := 756) (by decide +kernel)) rfl, inBIG (List.mem_append_left _ (List.mem_map.mpr ⟨(yX5_wallsAsSeen, 10), by decide +kernel, rfl⟩)) rfl⟩
abbrev mX5_countReaching : vMI := (yX5_countReaching, cX5_countReaching, 7, none)
theorem md_X5_countReaching : vMd mX5_countReaching 3 := ⟨inBIG (List.mem_of_getElem? (i := 770) (by decide +kernel)) rfl, inBIG (List.mem_of_getElem? (i := 52) (by decide +kernel)) rfl, by decide +kernel, by decide⟩
theorem in_X5_countReaching : vIn mX5_countReaching := ⟨inBIG (List.mem_of_getElem? (i := 769) (by decide +kernel)) rfl, inBIG (List.mem_append_left _ (List.mem_map.mpr ⟨(yX5_countReaching, 10), by decide +kernel, rfl⟩)) rfl⟩
abbrev mX6_init : vMI := (yX6_init, cX6_init, 1, none)
theorem md_X6_init : vMd mX6_init 0 := ⟨inBIG (List.mem_of_getElem? (i := 836) (by decide +kernel)) rfl, inBIG (List.mem_of_getElem? (i := 59) (by decide +kernel)) rfl, by decide +kernel, by decide⟩
abbrev mX6_in : vMI := (yX6_in, cX6_in, 6, (some .boolean))
theorem md_X6_in : vMd mX6_in 3 := ⟨inBIG (List.mem_of_getElem? (i := 942) (by decide +kernel)) rfl, inBIG (List.mem_of_getElem? (i := 59) (by decide +kernel)) rfl, by decide +kernel, by decide⟩
theorem st_X6_in : Cond.static yX6_in ∈ BIG := inBIG (List.mem_of_getElem? (i := 941) (by decide +kernel)) rfl
abbrev mX6_feed : vMI := (yX6_feed, cX6_feed, 2, (some .int))
theorem md_X6_feed : vMd mX6_feed 1 := ⟨inBIG (List.mem_of_getElem? (i := 938) (by decide +kernel)) rfl, inBIG (List.mem_of_getElem? (i := 59) (by decide +kernel)) rfl, by decide +kernel, by decide⟩
theorem in_X6_feed : vIn mX6_feed := ⟨inBIG (List.mem_of_getElem? (i := 936) (by decide +kernel)) rfl, inBIG (List.mem_of_getElem? (i := 937) (by decide +kernel)) rfl⟩
abbrev mX6_end : vMI := (yX6_end, cX6_end, 3, (some .int))
theorem md_X6_end : vMd mX6_end 1 := ⟨inBIG (List.mem_of_getElem? (i := 946) (by decide +kernel)) rfl, inBIG (List.mem_of_getElem? (i := 59) (by decide +kernel)) rfl, by decide +kernel, by decide⟩
theorem in_X6_end : vIn mX6_end := ⟨inBIG (List.mem_of_getElem? (i := 944) (by decide +kernel)) rfl, inBIG (List.mem_of_getElem? (i := 945) (by decide +kernel)) rfl⟩
abbrev mX6_byteAt : vMI := (yX6_byteAt, cX6_byteAt, 2, (some .int))
theorem md_X6_byteAt : vMd mX6_byteAt 1 := ⟨inBIG (List.mem_of_getElem? (i := 958) (by decide +kernel)) rfl, inBIG (List.mem_of_getElem? (i := 59) (by decide +kernel)) rfl, by decide +kernel, by decide⟩
theorem in_X6_byteAt : vIn mX6_byteAt := ⟨inBIG (List.mem_of_getElem? (i := 957) (by decide +kernel)) rfl, inBIG (List.mem_append_left _ (List.mem_map.mpr ⟨(yX6_byteAt, 32), by decide +kernel, rfl⟩)) rfl⟩
abbrev mX6_fails : vMI := (yX6_fails, cX6_fails, 2, none)
theorem md_X6_fails : vMd mX6_fails 1 := ⟨inBIG (List.mem_of_getElem? (i := 966) (by decide +kernel)) rfl, inBIG (List.mem_of_getElem? (i := 59) (by decide +kernel)) rfl, by decide +kernel, by decide⟩
theorem in_X6_fails : vIn mX6_fails := ⟨inBIG (List.mem_of_getElem? (i := 965) (by decide +kernel)) rfl, inBIG (List.mem_append_left _ (List.mem_map.mpr ⟨(yX6_fails, 32), by decide +kernel, rfl⟩)) rfl⟩
abbrev mX6_nameHere : vMI := (yX6_nameHere, cX6_nameHere, 4, (some .int))
theorem md_X6_nameHere : vMd mX6_nameHere 0 := ⟨inBIG (List.mem_of_getElem? (i := 974) (by decide +kernel)) rfl, inBIG (List.mem_of_getElem? (i := 59) (by decide +kernel)) rfl, by decide +kernel, by decide⟩
theorem in_X6_nameHere : vIn mX6_nameHere := ⟨inBIG (List.mem_of_getElem? (i := 973) (by decide +kernel)) rfl, inBIG (List.mem_append_left _ (List.mem_map.mpr ⟨(yX6_nameHere, 32), by decide +kernel, rfl⟩)) rfl⟩
abbrev mX6_step : vMI := (yX6_step, cX6_step, 2, none)
theorem md_X6_step : vMd mX6_step 0 := ⟨inBIG (List.mem_of_getElem? (i := 954) (by decide +kernel)) rfl, inBIG (List.mem_of_getElem? (i := 59) (by decide +kernel)) rfl, by decide +kernel, by decide⟩
theorem in_X6_step : vIn mX6_step := ⟨inBIG (List.mem_of_getElem? (i := 953) (by decide +kernel)) rfl, inBIG (List.mem_append_left _ (List.mem_map.mpr ⟨(yX6_step, 32), by decide +kernel, rfl⟩)) rfl⟩
abbrev mX6_other : vMI := (yX6_other, cX6_other, 5, (some .int))
theorem md_X6_other : vMd mX6_other 3 := ⟨inBIG (List.mem_of_getElem? (i := 987) (by decide +kernel)) rfl, inBIG (List.mem_of_getElem? (i := 59) (by decide +kernel)) rfl, by decide +kernel, by decide⟩
theorem in_X6_other : vIn mX6_other := ⟨inBIG (List.mem_of_getElem? (i := 986) (by decide +kernel)) rfl, inBIG (List.mem_append_left _ (List.mem_map.mpr ⟨(yX6_other, 32), by decide +kernel, rfl⟩)) rfl⟩
abbrev mX6_wallHere : vMI := (yX6_wallHere, cX6_wallHere, 3, (some .int))
theorem md_X6_wallHere : vMd mX6_wallHere 1 := ⟨inBIG (List.mem_of_getElem? (i := 991) (by decide +kernel)) rfl, inBIG (List.mem_of_getElem? (i := 59) (by decide +kernel)) rfl, by decide +kernel, by decide⟩
theorem in_X6_wallHere : vIn mX6_wallHere := ⟨inBIG (List.mem_of_getElem? (i := 990) (by decide +kernel)) rfl, inBIG (List.mem_append_left _ (List.mem_map.mpr ⟨(yX6_wallHere, 32), by decide +kernel, rfl⟩)) rfl⟩
abbrev mX6_readOne : vMI := (yX6_readOne, cX6_readOne, 3, none)
theorem md_X6_readOne : vMd mX6_readOne 1 := ⟨inBIG (List.mem_of_getElem? (i := 983) (by decide +kernel)) rfl, inBIG (List.mem_of_getElem? (i := 59) (by decide +kernel)) rfl, by decide +kernel, by decide⟩
theorem in_X6_readOne : vIn mX6_readOne := ⟨inBIG (List.mem_of_getElem? (i := 982) (by decide +kernel)) rfl, inBIG (List.mem_append_left _ (List.mem_map.mpr ⟨(yX6_readOne, 32), by decide +kernel, rfl⟩)) rfl⟩
abbrev mX6_readWall : vMI := (yX6_readWall, cX6_readWall, 2, none)
theorem md_X6_readWall : vMd mX6_readWall 0 := ⟨inBIG (List.mem_of_getElem? (i := 995) (by decide +kernel)) rfl, inBIG (List.mem_of_getElem? (i := 59) (by decide +kernel)) rfl, by decide +kernel, by decide⟩
theorem in_X6_readWall : vIn mX6_readWall := ⟨inBIG (List.mem_of_getElem? (i := 994) (by decide +kernel)) rfl, inBIG (List.mem_append_left _ (List.mem_map.mpr ⟨(yX6_readWall, 32), by decide +kernel, rfl⟩)) rfl⟩
abbrev mX6_readPlan : vMI := (yX6_readPlan, cX6_readPlan, 2, none)
theorem md_X6_readPlan : vMd mX6_readPlan 0 := ⟨inBIG (List.mem_of_getElem? (i := 999) (by decide +kernel)) rfl, inBIG (List.mem_of_getElem? (i := 59) (by decide +kernel)) rfl, by decide +kernel, by decide⟩
theorem in_X6_readPlan : vIn mX6_readPlan := ⟨inBIG (List.mem_of_getElem? (i := 998) (by decide +kernel)) rfl, inBIG (List.mem_append_left _ (List.mem_map.mpr ⟨(yX6_readPlan, 32), by decide +kernel, rfl⟩)) rfl⟩
abbrev mX6_readMore : vMI := (yX6_readMore, cX6_readMore, 3, none)
theorem md_X6_readMore : vMd mX6_readMore 1 := ⟨inBIG (List.mem_of_getElem? (i := 979) (by decide +kernel)) rfl, inBIG (List.mem_of_getElem? (i := 59) (by decide +kernel)) rfl, by decide +kernel, by decide⟩
theorem in_X6_readMore : vIn mX6_readMore := ⟨inBIG (List.mem_of_getElem? (i := 978) (by decide +kernel)) rfl, inBIG (List.mem_append_left _ (List.mem_map.mpr ⟨(yX6_readMore, 32), by decide +kernel, rfl⟩)) rfl⟩
abbrev mX6_readLine : vMI := (yX6_readLine, cX6_readLine, 2, none)
theorem md_X6_readLine : vMd mX6_readLine 0 := ⟨inBIG (List.mem_of_getElem? (i := 970) (by decide +kernel)) rfl, inBIG (List.mem_of_getElem? (i := 59) (by decide +kernel)) rfl, by decide +kernel, by decide⟩
theorem in_X6_readLine : vIn mX6_readLine := ⟨inBIG (List.mem_of_getElem? (i := 969) (by decide +kernel)) rfl, inBIG (List.mem_append_left _ (List.mem_map.mpr ⟨(yX6_readLine, 32), by decide +kernel, rfl⟩)) rfl⟩
abbrev mX6_text : vMI := (yX6_text, cX6_text, 3, (some .int))
theorem md_X6_text : vMd mX6_text 0 := ⟨inBIG (List.mem_of_getElem? (i := 950) (by decide +kernel)) rfl, inBIG (List.mem_of_getElem? (i := 59) (by decide +kernel)) rfl, by decide +kernel, by decide⟩
theorem in_X6_text : vIn mX6_text := ⟨inBIG (List.mem_of_getElem? (i := 948) (by decide +kernel)) rfl, inBIG (List.mem_of_getElem? (i := 949) (by decide +kernel)) rfl⟩
abbrev mX6_fault : vMI := (yX6_fault, cX6_fault, 1, (some .int))
theorem md_X6_fault : vMd mX6_fault 0 := ⟨inBIG (List.mem_of_getElem? (i := 1003) (by decide +kernel)) rfl, inBIG (List.mem_of_getElem? (i := 59) (by decide +kernel)) rfl, by decide +kernel, by decide⟩
theorem in_X6_fault : vIn mX6_fault := ⟨inBIG (List.mem_of_getElem? (i := 1001) (by decide +kernel)) rfl, inBIG (List.mem_of_getElem? (i := 1002) (by decide +kernel)) rfl⟩
abbrev mX6_isOne : vMI := (yX6_isOne, cX6_isOne, 2, (some .boolean))
theorem md_X6_isOne : vMd mX6_isOne 1 := ⟨inBIG (List.mem_of_getElem? (i := 1047) (by decide +kernel)) rfl, inBIG (List.mem_of_getElem? (i := 59) (by decide +kernel)) rfl, by decide +kernel, by decide⟩
theorem in_X6_isOne : vIn mX6_isOne := ⟨inBIG (List.mem_of_getElem? (i := 1046) (by decide +kernel)) rfl, inBIG (List.mem_append_left _ (List.mem_map.mpr ⟨(yX6_isOne, 32), by decide +kernel, rfl⟩)) rfl⟩
abbrev mX6_isWall : vMI := (yX6_isWall, cX6_isWall, 2, (some .boolean))
theorem md_X6_isWall : vMd mX6_isWall 1 := ⟨inBIG (List.mem_of_getElem? (i := 1059) (by decide +kernel)) rfl, inBIG (List.mem_of_getElem? (i := 59) (by decide +kernel)) rfl, by decide +kernel, by decide⟩
theorem in_X6_isWall : vIn mX6_isWall := ⟨inBIG (List.mem_of_getElem? (i := 1058) (by decide +kernel)) rfl, inBIG (List.mem_append_left _ (List.mem_map.mpr ⟨(yX6_isWall, 32), by decide +kernel, rfl⟩)) rfl⟩
abbrev mX6_isRoom : vMI := (yX6_isRoom, cX6_isRoom, 1, (some .boolean))
theorem md_X6_isRoom : vMd mX6_isRoom 1 := ⟨inBIG (List.mem_of_getElem? (i := 1067) (by decide +kernel)) rfl, inBIG (List.mem_of_getElem? (i := 59) (by decide +kernel)) rfl, by decide +kernel, by decide⟩
theorem st_X6_isRoom : Cond.static yX6_isRoom ∈ BIG := inBIG (List.mem_of_getElem? (i := 1066) (by decide +kernel)) rfl
abbrev mX6_doorOn : vMI := (yX6_doorOn, cX6_doorOn, 4, (some .int))
theorem md_X6_doorOn : vMd mX6_doorOn 2 := ⟨inBIG (List.mem_of_getElem? (i := 1031) (by decide +kernel)) rfl, inBIG (List.mem_of_getElem? (i := 59) (by decide +kernel)) rfl, by decide +kernel, by decide⟩
theorem in_X6_doorOn : vIn mX6_doorOn := ⟨inBIG (List.mem_of_getElem? (i := 1030) (by decide +kernel)) rfl, inBIG (List.mem_append_left _ (List.mem_map.mpr ⟨(yX6_doorOn, 32), by decide +kernel, rfl⟩)) rfl⟩
abbrev mX6_letsOn : vMI := (yX6_letsOn, cX6_letsOn, 5, (some .boolean))
theorem md_X6_letsOn : vMd mX6_letsOn 3 := ⟨inBIG (List.mem_of_getElem? (i := 1035) (by decide +kernel)) rfl, inBIG (List.mem_of_getElem? (i := 59) (by decide +kernel)) rfl, by decide +kernel, by decide⟩
theorem in_X6_letsOn : vIn mX6_letsOn := ⟨inBIG (List.mem_of_getElem? (i := 1034) (by decide +kernel)) rfl, inBIG (List.mem_append_left _ (List.mem_map.mpr ⟨(yX6_letsOn, 32), by decide +kernel, rfl⟩)) rfl⟩
abbrev mX6_passesOn : vMI := (yX6_passesOn, cX6_passesOn, 5, (some .boolean))
theorem md_X6_passesOn : vMd mX6_passesOn 3 := ⟨inBIG (List.mem_of_getElem? (i := 1027) (by decide +kernel)) rfl, inBIG (List.mem_of_getElem? (i := 59) (by decide +kernel)) rfl, by decide +kernel, by decide⟩
theorem in_X6_passesOn : vIn mX6_passesOn := ⟨inBIG (List.mem_of_getElem? (i := 1026) (by decide +kernel)) rfl, inBIG (List.mem_append_left _ (List.mem_map.mpr ⟨(yX6_passesOn, 32), by decide +kernel, rfl⟩)) rfl⟩
abbrev mX6_goesFrom : vMI := (yX6_goesFrom, cX6_goesFrom, 9, (some .int))
theorem md_X6_goesFrom : vMd mX6_goesFrom 3 := ⟨inBIG (List.mem_of_getElem? (i := 1023) (by decide +kernel)) rfl, inBIG (List.mem_of_getElem? (i := 59) (by decide +kernel)) rfl, by decide +kernel, by decide⟩
theorem in_X6_goesFrom : vIn mX6_goesFrom := ⟨inBIG (List.mem_of_getElem? (i := 1022) (by decide +kernel)) rfl, inBIG (List.mem_append_left _ (List.mem_map.mpr ⟨(yX6_goesFrom, 32), by decide +kernel, rfl⟩)) rfl⟩
abbrev mX6_reachesOn : vMI := (yX6_reachesOn, cX6_reachesOn, 3, (some .int))
theorem md_X6_reachesOn : vMd mX6_reachesOn 2 := ⟨inBIG (List.mem_of_getElem? (i := 1019) (by decide +kernel)) rfl, inBIG (List.mem_of_getElem? (i := 59) (by decide +kernel)) rfl, by decide +kernel, by decide⟩
theorem in_X6_reachesOn : vIn mX6_reachesOn := ⟨inBIG (List.mem_of_getElem? (i := 1018) (by decide +kernel)) rfl, inBIG (List.mem_append_left _ (List.mem_map.mpr ⟨(yX6_reachesOn, 32), by decide +kernel, rfl⟩)) rfl⟩
abbrev mX6_gainOn : vMI := (yX6_gainOn, cX6_gainOn, 6, (some .int))
theorem md_X6_gainOn : vMd mX6_gainOn 2 := ⟨inBIG (List.mem_of_getElem? (i := 1051) (by decide +kernel)) rfl, inBIG (List.mem_of_getElem? (i := 59) (by decide +kernel)) rfl, by decide +kernel, by decide⟩
theorem in_X6_gainOn : vIn mX6_gainOn := ⟨inBIG (List.mem_of_getElem? (i := 1050) (by decide +kernel)) rfl, inBIG (List.mem_append_left _ (List.mem_map.mpr ⟨(yX6_gainOn, 32), by decide +kernel, rfl⟩)) rfl⟩
abbrev mX6_bitsOf : vMI := (yX6_bitsOf, cX6_bitsOf, 3, (some .int))
theorem md_X6_bitsOf : vMd mX6_bitsOf 1 := ⟨inBIG (List.mem_of_getElem? (i := 1153) (by decide +kernel)) rfl, inBIG (List.mem_of_getElem? (i := 59) (by decide +kernel)) rfl, by decide +kernel, by decide⟩
theorem st_X6_bitsOf : Cond.static yX6_bitsOf ∈ BIG := inBIG (List.mem_of_getElem? (i := 1152) (by decide +kernel)) rfl
abbrev mX6_allOn : vMI := (yX6_allOn, cX6_allOn, 4, (some .int))
theorem md_X6_allOn : vMd mX6_allOn 1 := ⟨inBIG (List.mem_of_getElem? (i := 1150) (by decide +kernel)) rfl, inBIG (List.mem_of_getElem? (i := 59) (by decide +kernel)) rfl, by decide +kernel, by decide⟩
theorem in_X6_allOn : vIn mX6_allOn := ⟨inBIG (List.mem_of_getElem? (i := 1149) (by decide +kernel)) rfl, inBIG (List.mem_append_left _ (List.mem_map.mpr ⟨(yX6_allOn, 32), by decide +kernel, rfl⟩)) rfl⟩
abbrev mX6_hungOn : vMI := (yX6_hungOn, cX6_hungOn, 4, (some .int))
theorem md_X6_hungOn : vMd mX6_hungOn 1 := ⟨inBIG (List.mem_of_getElem? (i := 1039) (by decide +kernel)) rfl, inBIG (List.mem_of_getElem? (i := 59) (by decide +kernel)) rfl, by decide +kernel, by decide⟩
theorem in_X6_hungOn : vIn mX6_hungOn := ⟨inBIG (List.mem_of_getElem? (i := 1038) (by decide +kernel)) rfl, inBIG (List.mem_append_left _ (List.mem_map.mpr ⟨(yX6_hungOn, 32), by decide +kernel, rfl⟩)) rfl⟩
abbrev mX6_isFreeOn : vMI := (yX6_isFreeOn, cX6_isFreeOn, 3, (some .boolean))
theorem md_X6_isFreeOn : vMd mX6_isFreeOn 2 := ⟨inBIG (List.mem_of_getElem? (i := 1011) (by decide +kernel)) rfl, inBIG (List.mem_of_getElem? (i := 59) (by decide +kernel)) rfl, by decide +kernel, by decide⟩
theorem in_X6_isFreeOn : vIn mX6_isFreeOn := ⟨inBIG (List.mem_of_getElem? (i := 1010) (by decide +kernel)) rfl, inBIG (List.mem_append_left _ (List.mem_map.mpr ⟨(yX6_isFreeOn, 32), by decide +kernel, rfl⟩)) rfl⟩
abbrev mX6_whoReaches : vMI := (yX6_whoReaches, cX6_whoReaches, 4, (some .int))
theorem md_X6_whoReaches : vMd mX6_whoReaches 1 := ⟨inBIG (List.mem_of_getElem? (i := 1015) (by decide +kernel)) rfl, inBIG (List.mem_of_getElem? (i := 59) (by decide +kernel)) rfl, by decide +kernel, by decide⟩
theorem in_X6_whoReaches : vIn mX6_whoReaches := ⟨inBIG (List.mem_of_getElem? (i := 1014) (by decide +kernel)) rfl, inBIG (List.mem_append_left _ (List.mem_map.mpr ⟨(yX6_whoReaches, 32), by decide +kernel, rfl⟩)) rfl⟩
abbrev mX6_rule : vMI := (yX6_rule, cX6_rule, 5, (some .int))
theorem md_X6_rule : vMd mX6_rule 1 := ⟨inBIG (List.mem_of_getElem? (i := 1007) (by decide +kernel)) rfl, inBIG (List.mem_of_getElem? (i := 59) (by decide +kernel)) rfl, by decide +kernel, by decide⟩
theorem in_X6_rule : vIn mX6_rule := ⟨inBIG (List.mem_of_getElem? (i := 1005) (by decide +kernel)) rfl, inBIG (List.mem_of_getElem? (i := 1006) (by decide +kernel)) rfl⟩
abbrev mX6_one : vMI := (yX6_one, cX6_one, 3, (some .int))
theorem md_X6_one : vMd mX6_one 2 := ⟨inBIG (List.mem_of_getElem? (i := 1043) (by decide +kernel)) rfl, inBIG (List.mem_of_getElem? (i := 59) (by decide +kernel)) rfl, by decide +kernel, by decide⟩
theorem in_X6_one : vIn mX6_one := ⟨inBIG (List.mem_of_getElem? (i := 1041) (by decide +kernel)) rfl, inBIG (List.mem_of_getElem? (i := 1042) (by decide +kernel)) rfl⟩
abbrev mX6_wall : vMI := (yX6_wall, cX6_wall, 5, (some .int))
theorem md_X6_wall : vMd mX6_wall 2 := ⟨inBIG (List.mem_of_getElem? (i := 1055) (by decide +kernel)) rfl, inBIG (List.mem_of_getElem? (i := 59) (by decide +kernel)) rfl, by decide +kernel, by decide⟩
theorem in_X6_wall : vIn mX6_wall := ⟨inBIG (List.mem_of_getElem? (i := 1053) (by decide +kernel)) rfl, inBIG (List.mem_of_getElem? (i := 1054) (by decide +kernel)) rfl⟩
abbrev mX6_room : vMI := (yX6_room, cX6_room, 3, (some .int))
theorem md_X6_room : vMd mX6_room 2 := ⟨inBIG (List.mem_of_getElem? (i := 1064) (by decide +kernel)) rfl, inBIG (List.mem_of_getElem? (i := 59) (by decide +kernel)) rfl, by decide +kernel, by decide⟩
theorem in_X6_room : vIn mX6_room := ⟨inBIG (List.mem_of_getElem? (i := 1062) (by decide +kernel)) rfl, inBIG (List.mem_of_getElem? (i := 1063) (by decide +kernel)) rfl⟩
abbrev mX6_act : vMI := (yX6_act, cX6_act, 3, (some .int))
theorem md_X6_act : vMd mX6_act 2 := ⟨inBIG (List.mem_of_getElem? (i := 1072) (by decide +kernel)) rfl, inBIG (List.mem_of_getElem? (i := 59) (by decide +kernel)) rfl, by decide +kernel, by decide⟩
theorem in_X6_act : vIn mX6_act := ⟨inBIG (List.mem_of_getElem? (i := 1070) (by decide +kernel)) rfl, inBIG (List.mem_of_getElem? (i := 1071) (by decide +kernel)) rfl⟩
abbrev mX6_puts : vMI := (yX6_puts, cX6_puts, 5, (some .int))
theorem md_X6_puts : vMd mX6_puts 3 := ⟨inBIG (List.mem_of_getElem? (i := 1081) (by decide +kernel)) rfl, inBIG (List.mem_of_getElem? (i := 59) (by decide +kernel)) rfl, by decide +kernel, by decide⟩
theorem in_X6_puts : vIn mX6_puts := ⟨inBIG (List.mem_of_getElem? (i := 1080) (by decide +kernel)) rfl, inBIG (List.mem_append_left _ (List.mem_map.mpr ⟨(yX6_puts, 32), by decide +kernel, rfl⟩)) rfl⟩
abbrev mX6_alter : vMI := (yX6_alter, cX6_alter, 4, (some .int))
theorem md_X6_alter : vMd mX6_alter 3 := ⟨inBIG (List.mem_of_getElem? (i := 1076) (by decide +kernel)) rfl, inBIG (List.mem_of_getElem? (i := 59) (by decide +kernel)) rfl, by decide +kernel, by decide⟩
theorem in_X6_alter : vIn mX6_alter := ⟨inBIG (List.mem_of_getElem? (i := 1074) (by decide +kernel)) rfl, inBIG (List.mem_of_getElem? (i := 1075) (by decide +kernel)) rfl⟩
abbrev mX6_price : vMI := (yX6_price, cX6_price, 3, (some .int))
theorem md_X6_price : vMd mX6_price 2 := ⟨inBIG (List.mem_of_getElem? (i := 1085) (by decide +kernel)) rfl, inBIG (List.mem_of_getElem? (i := 59) (by decide +kernel)) rfl, by decide +kernel, by decide⟩
theorem in_X6_price : vIn mX6_price := ⟨inBIG (List.mem_of_getElem? (i := 1083) (by decide +kernel)) rfl, inBIG (List.mem_of_getElem? (i := 1084) (by decide +kernel)) rfl⟩
abbrev mX6_build : vMI := (yX6_build, cX6_build, 4, (some .int))
theorem md_X6_build : vMd mX6_build 2 := ⟨inBIG (List.mem_of_getElem? (i := 1090) (by decide +kernel)) rfl, inBIG (List.mem_of_getElem? (i := 59) (by decide +kernel)) rfl, by decide +kernel, by decide⟩
theorem in_X6_build : vIn mX6_build := ⟨inBIG (List.mem_of_getElem? (i := 1088) (by decide +kernel)) rfl, inBIG (List.mem_of_getElem? (i := 1089) (by decide +kernel)) rfl⟩
abbrev mX6_plan : vMI := (yX6_plan, cX6_plan, 3, (some .int))
theorem md_X6_plan : vMd mX6_plan 2 := ⟨inBIG (List.mem_of_getElem? (i := 1094) (by decide +kernel)) rfl, inBIG (List.mem_of_getElem? (i := 59) (by decide +kernel)) rfl, by decide +kernel, by decide⟩
theorem in_X6_plan : vIn mX6_plan := ⟨inBIG (List.mem_of_getElem? (i := 1092) (by decide +kernel)) rfl, inBIG (List.mem_of_getElem? (i := 1093) (by decide +kernel)) rfl⟩
abbrev mX6_cut : vMI := (yX6_cut, cX6_cut, 2, (some .int))
theorem md_X6_cut : vMd mX6_cut 1 := ⟨inBIG (List.mem_of_getElem? (i := 1098) (by decide +kernel)) rfl, inBIG (List.mem_of_getElem? (i := 59) (by decide +kernel)) rfl, by decide +kernel, by decide⟩
theorem in_X6_cut : vIn mX6_cut := ⟨inBIG (List.mem_of_getElem? (i := 1096) (by decide +kernel)) rfl, inBIG (List.mem_of_getElem? (i := 1097) (by decide +kernel)) rfl⟩
abbrev mX6_hangsOn : vMI := (yX6_hangsOn, cX6_hangsOn, 5, (some .boolean))
theorem md_X6_hangsOn : vMd mX6_hangsOn 3 := ⟨inBIG (List.mem_of_getElem? (i := 1110) (by decide +kernel)) rfl, inBIG (List.mem_of_getElem? (i := 59) (by decide +kernel)) rfl, by decide +kernel, by decide⟩
theorem in_X6_hangsOn : vIn mX6_hangsOn := ⟨inBIG (List.mem_of_getElem? (i := 1109) (by decide +kernel)) rfl, inBIG (List.mem_append_left _ (List.mem_map.mpr ⟨(yX6_hangsOn, 32), by decide +kernel, rfl⟩)) rfl⟩
abbrev mX6_hangs : vMI := (yX6_hangs, cX6_hangs, 3, (some .int))
theorem md_X6_hangs : vMd mX6_hangs 2 := ⟨inBIG (List.mem_of_getElem? (i := 1106) (by decide +kernel)) rfl, inBIG (List.mem_of_getElem? (i := 59) (by decide +kernel)) rfl, by decide +kernel, by decide⟩
theorem in_X6_hangs : vIn mX6_hangs := ⟨inBIG (List.mem_of_getElem? (i := 1105) (by decide +kernel)) rfl, inBIG (List.mem_append_left _ (List.mem_map.mpr ⟨(yX6_hangs, 32), by decide +kernel, rfl⟩)) rfl⟩
abbrev mX6_hang : vMI := (yX6_hang, cX6_hang, 3, (some .int))
theorem md_X6_hang : vMd mX6_hang 2 := ⟨inBIG (List.mem_of_getElem? (i := 1102) (by decide +kernel)) rfl, inBIG (List.mem_of_getElem? (i := 59) (by decide +kernel)) rfl, by decide +kernel, by decide⟩
theorem in_X6_hang : vIn mX6_hang := ⟨inBIG (List.mem_of_getElem? (i := 1100) (by decide +kernel)) rfl, inBIG (List.mem_of_getElem? (i := 1101) (by decide +kernel)) rfl⟩
abbrev mX6_fillsOn : vMI := (yX6_fillsOn, cX6_fillsOn, 4, (some .int))
theorem md_X6_fillsOn : vMd mX6_fillsOn 2 := ⟨inBIG (List.mem_of_getElem? (i := 1118) (by decide +kernel)) rfl, inBIG (List.mem_of_getElem? (i := 59) (by decide +kernel)) rfl, by decide +kernel, by decide⟩
theorem in_X6_fillsOn : vIn mX6_fillsOn := ⟨inBIG (List.mem_of_getElem? (i := 1117) (by decide +kernel)) rfl, inBIG (List.mem_append_left _ (List.mem_map.mpr ⟨(yX6_fillsOn, 32), by decide +kernel, rfl⟩)) rfl⟩
abbrev mX6_fill : vMI := (yX6_fill, cX6_fill, 3, (some .int))
theorem md_X6_fill : vMd mX6_fill 1 := ⟨inBIG (List.mem_of_getElem? (i := 1114) (by decide +kernel)) rfl, inBIG (List.mem_of_getElem? (i := 59) (by decide +kernel)) rfl, by decide +kernel, by decide⟩
theorem in_X6_fill : vIn mX6_fill := ⟨inBIG (List.mem_of_getElem? (i := 1112) (by decide +kernel)) rfl, inBIG (List.mem_of_getElem? (i := 1113) (by decide +kernel)) rfl⟩
abbrev mX6_stepsOn : vMI := (yX6_stepsOn, cX6_stepsOn, 4, (some .int))
theorem md_X6_stepsOn : vMd mX6_stepsOn 3 := ⟨inBIG (List.mem_of_getElem? (i := 1126) (by decide +kernel)) rfl, inBIG (List.mem_of_getElem? (i := 59) (by decide +kernel)) rfl, by decide +kernel, by decide⟩
theorem in_X6_stepsOn : vIn mX6_stepsOn := ⟨inBIG (List.mem_of_getElem? (i := 1125) (by decide +kernel)) rfl, inBIG (List.mem_append_left _ (List.mem_map.mpr ⟨(yX6_stepsOn, 32), by decide +kernel, rfl⟩)) rfl⟩
abbrev mX6_steps : vMI := (yX6_steps, cX6_steps, 3, (some .int))
theorem md_X6_steps : vMd mX6_steps 2 := ⟨inBIG (List.mem_of_getElem? (i := 1122) (by decide +kernel)) rfl, inBIG (List.mem_of_getElem? (i := 59) (by decide +kernel)) rfl, by decide +kernel, by decide⟩
theorem in_X6_steps : vIn mX6_steps := ⟨inBIG (List.mem_of_getElem? (i := 1120) (by decide +kernel)) rfl, inBIG (List.mem_of_getElem? (i := 1121) (by decide +kernel)) rfl⟩
abbrev mX6_way : vMI := (yX6_way, cX6_way, 13, (some .int))
theorem md_X6_way : vMd mX6_way 3 := ⟨inBIG (List.mem_of_getElem? (i := 1130) (by decide +kernel)) rfl, inBIG (List.mem_of_getElem? (i := 59) (by decide +kernel)) rfl, by decide +kernel, by decide⟩
theorem in_X6_way : vIn mX6_way := ⟨inBIG (List.mem_of_getElem? (i := 1128) (by decide +kernel)) rfl, inBIG (List.mem_of_getElem? (i := 1129) (by decide +kernel)) rfl⟩
abbrev mX6_meet : vMI := (yX6_meet, cX6_meet, 3, (some .int))
theorem md_X6_meet : vMd mX6_meet 2 := ⟨inBIG (List.mem_of_getElem? (i := 1134) (by decide +kernel)) rfl, inBIG (List.mem_of_getElem? (i := 59) (by decide +kernel)) rfl, by decide +kernel, by decide⟩
theorem in_X6_meet : vIn mX6_meet := ⟨inBIG (List.mem_of_getElem? (i := 1132) (by decide +kernel)) rfl, inBIG (List.mem_of_getElem? (i := 1133) (by decide +kernel)) rfl⟩
abbrev mX6_copies : vMI := (yX6_copies, cX6_copies, 4, none)
theorem md_X6_copies : vMd mX6_copies 2 := ⟨inBIG (List.mem_of_getElem? (i := 1146) (by decide +kernel)) rfl, inBIG (List.mem_of_getElem? (i := 59) (by decide +kernel)) rfl, by decide +kernel, by decide⟩
theorem in_X6_copies : vIn mX6_copies := ⟨inBIG (List.mem_of_getElem? (i := 1145) (by decide +kernel)) rfl, inBIG (List.mem_append_left _ (List.mem_map.mpr ⟨(yX6_copies, 32), by decide +kernel, rfl⟩)) rfl⟩
abbrev mX6_planGoes : vMI := (yX6_planGoes, cX6_planGoes, 3, none)
theorem md_X6_planGoes : vMd mX6_planGoes 1 := ⟨inBIG (List.mem_of_getElem? (i := 1142) (by decide +kernel)) rfl, inBIG (List.mem_of_getElem? (i := 59) (by decide +kernel)) rfl, by decide +kernel, by decide⟩
theorem in_X6_planGoes : vIn mX6_planGoes := ⟨inBIG (List.mem_of_getElem? (i := 1141) (by decide +kernel)) rfl, inBIG (List.mem_append_left _ (List.mem_map.mpr ⟨(yX6_planGoes, 32), by decide +kernel, rfl⟩)) rfl⟩
abbrev mX6_runs : vMI := (yX6_runs, cX6_runs, 2, (some .int))
theorem md_X6_runs : vMd mX6_runs 1 := ⟨inBIG (List.mem_of_getElem? (i := 1138) (by decide +kernel)) rfl, inBIG (List.mem_of_getElem? (i := 59) (by decide +kernel)) rfl, by decide +kernel, by decide⟩
theorem in_X6_runs : vIn mX6_runs := ⟨inBIG (List.mem_of_getElem? (i := 1136) (by decide +kernel)) rfl, inBIG (List.mem_of_getElem? (i := 1137) (by decide +kernel)) rfl⟩
abbrev mX6_ahead : vMI := (yX6_ahead, cX6_ahead, 2, (some .int))
theorem md_X6_ahead : vMd mX6_ahead 1 := ⟨inBIG (List.mem_of_getElem? (i := 1157) (by decide +kernel)) rfl, inBIG (List.mem_of_getElem? (i := 59) (by decide +kernel)) rfl, by decide +kernel, by decide⟩
theorem in_X6_ahead : vIn mX6_ahead := ⟨inBIG (List.mem_of_getElem? (i := 1155) (by decide +kernel)) rfl, inBIG (List.mem_of_getElem? (i := 1156) (by decide +kernel)) rfl⟩
abbrev mX6_stepsBy : vMI := (yX6_stepsBy, cX6_stepsBy, 5, (some .int))
theorem md_X6_stepsBy : vMd mX6_stepsBy 4 := ⟨inBIG (List.mem_of_getElem? (i := 1165) (by decide +kernel)) rfl, inBIG (List.mem_of_getElem? (i := 59) (by decide +kernel)) rfl, by decide +kernel, by decide⟩
theorem in_X6_stepsBy : vIn mX6_stepsBy := ⟨inBIG (List.mem_of_getElem? (i := 1164) (by decide +kernel)) rfl, inBIG (List.mem_append_left _ (List.mem_map.mpr ⟨(yX6_stepsBy, 32), by decide +kernel, rfl⟩)) rfl⟩
abbrev mX6_best : vMI := (yX6_best, cX6_best, 8, (some .int))
theorem md_X6_best : vMd mX6_best 3 := ⟨inBIG (List.mem_of_getElem? (i := 1161) (by decide +kernel)) rfl, inBIG (List.mem_of_getElem? (i := 59) (by decide +kernel)) rfl, by decide +kernel, by decide⟩
theorem in_X6_best : vIn mX6_best := ⟨inBIG (List.mem_of_getElem? (i := 1159) (by decide +kernel)) rfl, inBIG (List.mem_of_getElem? (i := 1160) (by decide +kernel)) rfl⟩
abbrev mX6_friend : vMI := (yX6_friend, cX6_friend, 9, (some .int))
theorem md_X6_friend : vMd mX6_friend 3 := ⟨inBIG (List.mem_of_getElem? (i := 1169) (by decide +kernel)) rfl, inBIG (List.mem_of_getElem? (i := 59) (by decide +kernel)) rfl, by decide +kernel, by decide⟩
theorem in_X6_friend : vIn mX6_friend := ⟨inBIG (List.mem_of_getElem? (i := 1167) (by decide +kernel)) rfl, inBIG (List.mem_of_getElem? (i := 1168) (by decide +kernel)) rfl⟩
abbrev mX6_gain : vMI := (yX6_gain, cX6_gain, 7, (some .int))
theorem md_X6_gain : vMd mX6_gain 2 := ⟨inBIG (List.mem_of_getElem? (i := 1173) (by decide +kernel)) rfl, inBIG (List.mem_of_getElem? (i := 59) (by decide +kernel)) rfl, by decide +kernel, by decide⟩
theorem in_X6_gain : vIn mX6_gain := ⟨inBIG (List.mem_of_getElem? (i := 1171) (by decide +kernel)) rfl, inBIG (List.mem_of_getElem? (i := 1172) (by decide +kernel)) rfl⟩
abbrev mX6_shut : vMI := (yX6_shut, cX6_shut, 8, (some .int))
theorem md_X6_shut : vMd mX6_shut 3 := ⟨inBIG (List.mem_of_getElem? (i := 1177) (by decide +kernel)) rfl, inBIG (List.mem_of_getElem? (i := 59) (by decide +kernel)) rfl, by decide +kernel, by decide⟩
theorem in_X6_shut : vIn mX6_shut := ⟨inBIG (List.mem_of_getElem? (i := 1175) (by decide +kernel)) rfl, inBIG (List.mem_of_getElem? (i := 1176) (by decide +kernel)) rfl⟩
abbrev mX6_leave : vMI := (yX6_leave, cX6_leave, 6, (some .int))
theorem md_X6_leave : vMd mX6_leave 1 := ⟨inBIG (List.mem_of_getElem? (i := 1181) (by decide +kernel)) rfl, inBIG (List.mem_of_getElem? (i := 59) (by decide +kernel)) rfl, by decide +kernel, by decide⟩
theorem in_X6_leave : vIn mX6_leave := ⟨inBIG (List.mem_of_getElem? (i := 1179) (by decide +kernel)) rfl, inBIG (List.mem_of_getElem? (i := 1180) (by decide +kernel)) rfl⟩
abbrev mX6_kindly : vMI := (yX6_kindly, cX6_kindly, 7, (some .int))
theorem md_X6_kindly : vMd mX6_kindly 2 := ⟨inBIG (List.mem_of_getElem? (i := 1185) (by decide +kernel)) rfl, inBIG (List.mem_of_getElem? (i := 59) (by decide +kernel)) rfl, by decide +kernel, by decide⟩
theorem in_X6_kindly : vIn mX6_kindly := ⟨inBIG (List.mem_of_getElem? (i := 1183) (by decide +kernel)) rfl, inBIG (List.mem_of_getElem? (i := 1184) (by decide +kernel)) rfl⟩
abbrev mX6_dear : vMI := (yX6_dear, cX6_dear, 8, (some .int))
theorem md_X6_dear : vMd mX6_dear 2 := ⟨inBIG (List.mem_of_getElem? (i := 1189) (by decide +kernel)) rfl, inBIG (List.mem_of_getElem? (i := 59) (by decide +kernel)) rfl, by decide +kernel, by decide⟩
theorem in_X6_dear : vIn mX6_dear := ⟨inBIG (List.mem_of_getElem? (i := 1187) (by decide +kernel)) rfl, inBIG (List.mem_of_getElem? (i := 1188) (by decide +kernel)) rfl⟩
abbrev mX6_lowest : vMI := (yX6_lowest, cX6_lowest, 11, (some .long))
theorem md_X6_lowest : vMd mX6_lowest 3 := ⟨inBIG (List.mem_of_getElem? (i := 1201) (by decide +kernel)) rfl, inBIG (List.mem_of_getElem? (i := 59) (by decide +kernel)) rfl, by decide +kernel, by decide⟩
theorem st_X6_lowest : Cond.static yX6_lowest ∈ BIG := inBIG (List.mem_of_getElem? (i := 1200) (by decide +kernel)) rfl
abbrev mX6_byJams : vMI := (yX6_byJams, cX6_byJams, 14, (some .long))
theorem md_X6_byJams : vMd mX6_byJams 4 := ⟨inBIG (List.mem_of_getElem? (i := 1198) (by decide +kernel)) rfl, inBIG (List.mem_of_getElem? (i := 59) (by decide +kernel)) rfl, by decide +kernel, by decide⟩
theorem in_X6_byJams : vIn mX6_byJams := ⟨inBIG (List.mem_of_getElem? (i := 1197) (by decide +kernel)) rfl, inBIG (List.mem_append_left _ (List.mem_map.mpr ⟨(yX6_byJams, 32), by decide +kernel, rfl⟩)) rfl⟩
abbrev mX6_luck : vMI := (yX6_luck, cX6_luck, 5, (some .long))
theorem md_X6_luck : vMd mX6_luck 4 := ⟨inBIG (List.mem_of_getElem? (i := 1193) (by decide +kernel)) rfl, inBIG (List.mem_of_getElem? (i := 59) (by decide +kernel)) rfl, by decide +kernel, by decide⟩
theorem in_X6_luck : vIn mX6_luck := ⟨inBIG (List.mem_of_getElem? (i := 1191) (by decide +kernel)) rfl, inBIG (List.mem_of_getElem? (i := 1192) (by decide +kernel)) rfl⟩
abbrev mX6_mean : vMI := (yX6_mean, cX6_mean, 4, (some .long))
theorem md_X6_mean : vMd mX6_mean 3 := ⟨inBIG (List.mem_of_getElem? (i := 1206) (by decide +kernel)) rfl, inBIG (List.mem_of_getElem? (i := 59) (by decide +kernel)) rfl, by decide +kernel, by decide⟩
theorem in_X6_mean : vIn mX6_mean := ⟨inBIG (List.mem_of_getElem? (i := 1204) (by decide +kernel)) rfl, inBIG (List.mem_of_getElem? (i := 1205) (by decide +kernel)) rfl⟩
abbrev mX6_see : vMI := (yX6_see, cX6_see, 4, (some .int))
theorem md_X6_see : vMd mX6_see 3 := ⟨inBIG (List.mem_of_getElem? (i := 1210) (by decide +kernel)) rfl, inBIG (List.mem_of_getElem? (i := 59) (by decide +kernel)) rfl, by decide +kernel, by decide⟩
theorem in_X6_see : vIn mX6_see := ⟨inBIG (List.mem_of_getElem? (i := 1208) (by decide +kernel)) rfl, inBIG (List.mem_of_getElem? (i := 1209) (by decide +kernel)) rfl⟩
abbrev mX6_forget : vMI := (yX6_forget, cX6_forget, 3, (some .int))
theorem md_X6_forget : vMd mX6_forget 1 := ⟨inBIG (List.mem_of_getElem? (i := 1214) (by decide +kernel)) rfl, inBIG (List.mem_of_getElem? (i := 59) (by decide +kernel)) rfl, by decide +kernel, by decide⟩
theorem in_X6_forget : vIn mX6_forget := ⟨inBIG (List.mem_of_getElem? (i := 1212) (by decide +kernel)) rfl, inBIG (List.mem_of_getElem? (i := 1213) (by decide +kernel)) rfl⟩
abbrev mX6_isAsSeen : vMI := (yX6_isAsSeen, cX6_isAsSeen, 4, (some .boolean))
theorem md_X6_isAsSeen : vMd mX6_isAsSeen 1 := ⟨inBIG (List.mem_of_getElem? (i := 1222) (by decide +kernel)) rfl, inBIG (List.mem_of_getElem? (i := 59) (by decide +kernel)) rfl, by decide +kernel, by decide⟩
theorem in_X6_isAsSeen : vIn mX6_isAsSeen := ⟨inBIG (List.mem_of_getElem? (i := 1221) (by decide +kernel)) rfl, inBIG (List.mem_append_left _ (List.mem_map.mpr ⟨(yX6_isAsSeen, 32), by decide +kernel, rfl⟩)) rfl⟩
abbrev mX6_kinds : vMI := (yX6_kinds, cX6_kinds, 4, (some .int))
theorem md_X6_kinds : vMd mX6_kinds 1 := ⟨inBIG (List.mem_of_getElem? (i := 1218) (by decide +kernel)) rfl, inBIG (List.mem_of_getElem? (i := 59) (by decide +kernel)) rfl, by decide +kernel, by decide⟩
theorem in_X6_kinds : vIn mX6_kinds := ⟨inBIG (List.mem_of_getElem? (i := 1216) (by decide +kernel)) rfl, inBIG (List.mem_of_getElem? (i := 1217) (by decide +kernel)) rfl⟩
abbrev mX6_wallsOf : vMI := (yX6_wallsOf, cX6_wallsOf, 6, (some .int))
theorem md_X6_wallsOf : vMd mX6_wallsOf 1 := ⟨inBIG (List.mem_of_getElem? (i := 1230) (by decide +kernel)) rfl, inBIG (List.mem_of_getElem? (i := 59) (by decide +kernel)) rfl, by decide +kernel, by decide⟩
theorem in_X6_wallsOf : vIn mX6_wallsOf := ⟨inBIG (List.mem_of_getElem? (i := 1229) (by decide +kernel)) rfl, inBIG (List.mem_append_left _ (List.mem_map.mpr ⟨(yX6_wallsOf, 32), by decide +kernel, rfl⟩)) rfl⟩
abbrev mX6_walls : vMI := (yX6_walls, cX6_walls, 2, (some .int))
theorem md_X6_walls : vMd mX6_walls 1 := ⟨inBIG (List.mem_of_getElem? (i := 1226) (by decide +kernel)) rfl, inBIG (List.mem_of_getElem? (i := 59) (by decide +kernel)) rfl, by decide +kernel, by decide⟩
theorem in_X6_walls : vIn mX6_walls := ⟨inBIG (List.mem_of_getElem? (i := 1224) (by decide +kernel)) rfl, inBIG (List.mem_of_getElem? (i := 1225) (by decide +kernel)) rfl⟩
abbrev mX6_ask : vMI := (yX6_ask, cX6_ask, 11, (some .int))
theorem md_X6_ask : vMd mX6_ask 2 := ⟨inBIG (List.mem_of_getElem? (i := 1234) (by decide +kernel)) rfl, inBIG (List.mem_of_getElem? (i := 59) (by decide +kernel)) rfl, by decide +kernel, by decide⟩
theorem in_X6_ask : vIn mX6_ask := ⟨inBIG (List.mem_of_getElem? (i := 1232) (by decide +kernel)) rfl, inBIG (List.mem_of_getElem? (i := 1233) (by decide +kernel)) rfl⟩
abbrev mX6_drift : vMI := (yX6_drift, cX6_drift, 9, (some .int))
theorem md_X6_drift : vMd mX6_drift 3 := ⟨inBIG (List.mem_of_getElem? (i := 1238) (by decide +kernel)) rfl, inBIG (List.mem_of_getElem? (i := 59) (by decide +kernel)) rfl, by decide +kernel, by decide⟩
theorem in_X6_drift : vIn mX6_drift := ⟨inBIG (List.mem_of_getElem? (i := 1236) (by decide +kernel)) rfl, inBIG (List.mem_of_getElem? (i := 1237) (by decide +kernel)) rfl⟩
abbrev mX6_keep : vMI := (yX6_keep, cX6_keep, 3, (some .int))
theorem md_X6_keep : vMd mX6_keep 1 := ⟨inBIG (List.mem_of_getElem? (i := 1244) (by decide +kernel)) rfl, inBIG (List.mem_of_getElem? (i := 59) (by decide +kernel)) rfl, by decide +kernel, by decide⟩
theorem in_X6_keep : vIn mX6_keep := ⟨inBIG (List.mem_of_getElem? (i := 1242) (by decide +kernel)) rfl, inBIG (List.mem_of_getElem? (i := 1243) (by decide +kernel)) rfl⟩
abbrev mX6_back : vMI := (yX6_back, cX6_back, 2, (some .int))
theorem md_X6_back : vMd mX6_back 1 := ⟨inBIG (List.mem_of_getElem? (i := 1248) (by decide +kernel)) rfl, inBIG (List.mem_of_getElem? (i := 59) (by decide +kernel)) rfl, by decide +kernel, by decide⟩
theorem in_X6_back : vIn mX6_back := ⟨inBIG (List.mem_of_getElem? (i := 1246) (by decide +kernel)) rfl, inBIG (List.mem_of_getElem? (i := 1247) (by decide +kernel)) rfl⟩
abbrev mX6_sheet : vMI := (yX6_sheet, cX6_sheet, 5, (some .int))
theorem md_X6_sheet : vMd mX6_sheet 3 := ⟨inBIG (List.mem_of_getElem? (i := 1252) (by decide +kernel)) rfl, inBIG (List.mem_of_getElem? (i := 59) (by decide +kernel)) rfl, by decide +kernel, by decide⟩
theorem in_X6_sheet : vIn mX6_sheet := ⟨inBIG (List.mem_of_getElem? (i := 1250) (by decide +kernel)) rfl, inBIG (List.mem_of_getElem? (i := 1251) (by decide +kernel)) rfl⟩
abbrev mX6_lay : vMI := (yX6_lay, cX6_lay, 4, (some .int))
theorem md_X6_lay : vMd mX6_lay 3 := ⟨inBIG (List.mem_of_getElem? (i := 1256) (by decide +kernel)) rfl, inBIG (List.mem_of_getElem? (i := 59) (by decide +kernel)) rfl, by decide +kernel, by decide⟩
theorem in_X6_lay : vIn mX6_lay := ⟨inBIG (List.mem_of_getElem? (i := 1254) (by decide +kernel)) rfl, inBIG (List.mem_of_getElem? (i := 1255) (by decide +kernel)) rfl⟩
abbrev mX6_read : vMI := (yX6_read, cX6_read, 9, (some .int))
theorem md_X6_read : vMd mX6_read 4 := ⟨inBIG (List.mem_of_getElem? (i := 1260) (by decide +kernel)) rfl, inBIG (List.mem_of_getElem? (i := 59) (by decide +kernel)) rfl, by decide +kernel, by decide⟩
theorem in_X6_read : vIn mX6_read := ⟨inBIG (List.mem_of_getElem? (i := 1258) (by decide +kernel)) rfl, inBIG (List.mem_of_getElem? (i := 1259) (by decide +kernel)) rfl⟩
abbrev mX6_torn : vMI := (yX6_torn, cX6_torn, 1, (some .int))
theorem md_X6_torn : vMd mX6_torn 0 := ⟨inBIG (List.mem_of_getElem? (i := 1265) (by decide +kernel)) rfl, inBIG (List.mem_of_getElem? (i := 59) (by decide +kernel)) rfl, by decide +kernel, by decide⟩
theorem in_X6_torn : vIn mX6_torn := ⟨inBIG (List.mem_of_getElem? (i := 1263) (by decide +kernel)) rfl, inBIG (List.mem_of_getElem? (i := 1264) (by decide +kernel)) rfl⟩
abbrev mX6_count : vMI := (yX6_count, cX6_count, 5, (some .int))
theorem md_X6_count : vMd mX6_count 1 := ⟨inBIG (List.mem_of_getElem? (i := 1269) (by decide +kernel)) rfl, inBIG (List.mem_of_getElem? (i := 59) (by decide +kernel)) rfl, by decide +kernel, by decide⟩
theorem in_X6_count : vIn mX6_count := ⟨inBIG (List.mem_of_getElem? (i := 1267) (by decide +kernel)) rfl, inBIG (List.mem_of_getElem? (i := 1268) (by decide +kernel)) rfl⟩
abbrev mJ6_bitCount_0f7a4 : vMI := (yJ6_bitCount_0f7a4, cJ6_bitCount_0f7a4, 1, (some .int))
theorem md_J6_bitCount_0f7a4 : vMd mJ6_bitCount_0f7a4 1 := ⟨inBIG (List.mem_of_getElem? (i := 483) (by decide +kernel)) rfl, inBIG (List.mem_of_getElem? (i := 65) (by decide +kernel)) rfl, by decide +kernel, by decide⟩
theorem st_J6_bitCount_0f7a4 : Cond.static yJ6_bitCount_0f7a4 ∈ BIG := inBIG (List.mem_of_getElem? (i := 482) (by decide +kernel)) rfl
abbrev mJ9_max_7cf53 : vMI := (yJ9_max_7cf53, cJ9_max_7cf53, 2, (some .int))
theorem md_J9_max_7cf53 : vMd mJ9_max_7cf53 2 := ⟨inBIG (List.mem_of_getElem? (i := 774) (by decide +kernel)) rfl, inBIG (List.mem_of_getElem? (i := 66) (by decide +kernel)) rfl, by decide +kernel, by decide⟩
theorem st_J9_max_7cf53 : Cond.static yJ9_max_7cf53 ∈ BIG := inBIG (List.mem_of_getElem? (i := 773) (by decide +kernel)) rfl
abbrev mJ0_length_8abf5 : vMI := (yJ0_length_8abf5, cJ0_length_8abf5, 1, (some .int))
theorem md_J0_length_8abf5 : vMd mJ0_length_8abf5 0 := ⟨inBIG (List.mem_of_getElem? (i := 351) (by decide +kernel)) rfl, inBIG (List.mem_of_getElem? (i := 60) (by decide +kernel)) rfl, by decide +kernel, by decide⟩
theorem in_J0_length_8abf5 : vIn mJ0_length_8abf5 := ⟨inBIG (List.mem_of_getElem? (i := 349) (by decide +kernel)) rfl, inBIG (List.mem_of_getElem? (i := 350) (by decide +kernel)) rfl⟩
abbrev mJ0_charAt_5068e : vMI := (yJ0_charAt_5068e, cJ0_charAt_5068e, 2, (some .char))
theorem md_J0_charAt_5068e : vMd mJ0_charAt_5068e 1 := ⟨inBIG (List.mem_of_getElem? (i := 361) (by decide +kernel)) rfl, inBIG (List.mem_of_getElem? (i := 60) (by decide +kernel)) rfl, by decide +kernel, by decide⟩
theorem in_J0_charAt_5068e : vIn mJ0_charAt_5068e := ⟨inBIG (List.mem_of_getElem? (i := 359) (by decide +kernel)) rfl, inBIG (List.mem_of_getElem? (i := 360) (by decide +kernel)) rfl⟩
abbrev mJ0_coder_7d493 : vMI := (yJ0_coder_7d493, cJ0_coder_7d493, 1, (some .byte))
theorem md_J0_coder_7d493 : vMd mJ0_coder_7d493 0 := ⟨inBIG (List.mem_of_getElem? (i := 355) (by decide +kernel)) rfl, inBIG (List.mem_of_getElem? (i := 60) (by decide +kernel)) rfl, by decide +kernel, by decide⟩
theorem in_J0_coder_7d493 : vIn mJ0_coder_7d493 := ⟨inBIG (List.mem_of_getElem? (i := 353) (by decide +kernel)) rfl, inBIG (List.mem_of_getElem? (i := 354) (by decide +kernel)) rfl⟩
abbrev mJ0_isLatin1_aae02 : vMI := (yJ0_isLatin1_aae02, cJ0_isLatin1_aae02, 1, (some .boolean))
theorem md_J0_isLatin1_aae02 : vMd mJ0_isLatin1_aae02 0 := ⟨inBIG (List.mem_of_getElem? (i := 365) (by decide +kernel)) rfl, inBIG (List.mem_of_getElem? (i := 60) (by decide +kernel)) rfl, by decide +kernel, by decide⟩
theorem in_J0_isLatin1_aae02 : vIn mJ0_isLatin1_aae02 := ⟨inBIG (List.mem_of_getElem? (i := 363) (by decide +kernel)) rfl, inBIG (List.mem_of_getElem? (i := 364) (by decide +kernel)) rfl⟩
abbrev mJ0_checkIndex_df160 : vMI := (yJ0_checkIndex_df160, cJ0_checkIndex_df160, 2, none)
theorem md_J0_checkIndex_df160 : vMd mJ0_checkIndex_df160 2 := ⟨inBIG (List.mem_of_getElem? (i := 371) (by decide +kernel)) rfl, inBIG (List.mem_of_getElem? (i := 60) (by decide +kernel)) rfl, by decide +kernel, by decide⟩
theorem st_J0_checkIndex_df160 : Cond.static yJ0_checkIndex_df160 ∈ BIG := inBIG (List.mem_of_getElem? (i := 370) (by decide +kernel)) rfl
abbrev mJ1_charAt_3b067 : vMI := (yJ1_charAt_3b067, cJ1_charAt_3b067, 2, (some .char))
theorem md_J1_charAt_3b067 : vMd mJ1_charAt_3b067 2 := ⟨inBIG (List.mem_of_getElem? (i := 368) (by decide +kernel)) rfl, inBIG (List.mem_of_getElem? (i := 61) (by decide +kernel)) rfl, by decide +kernel, by decide⟩
theorem st_J1_charAt_3b067 : Cond.static yJ1_charAt_3b067 ∈ BIG := inBIG (List.mem_of_getElem? (i := 367) (by decide +kernel)) rfl
abbrev mJ2_getChar_3b067 : vMI := (yJ2_getChar_3b067, cJ2_getChar_3b067, 2, (some .char))
theorem md_J2_getChar_3b067 : vMd mJ2_getChar_3b067 2 := ⟨inBIG (List.mem_of_getElem? (i := 389) (by decide +kernel)) rfl, inBIG (List.mem_of_getElem? (i := 63) (by decide +kernel)) rfl, by decide +kernel, by decide⟩
theorem st_J2_getChar_3b067 : Cond.static yJ2_getChar_3b067 ∈ BIG := inBIG (List.mem_of_getElem? (i := 388) (by decide +kernel)) rfl
abbrev mJ2_length_9d52b : vMI := (yJ2_length_9d52b, cJ2_length_9d52b, 1, (some .int))
theorem md_J2_length_9d52b : vMd mJ2_length_9d52b 1 := ⟨inBIG (List.mem_of_getElem? (i := 385) (by decide +kernel)) rfl, inBIG (List.mem_of_getElem? (i := 63) (by decide +kernel)) rfl, by decide +kernel, by decide⟩
theorem st_J2_length_9d52b : Cond.static yJ2_length_9d52b ∈ BIG := inBIG (List.mem_of_getElem? (i := 384) (by decide +kernel)) rfl
abbrev mJ2_charAt_3b067 : vMI := (yJ2_charAt_3b067, cJ2_charAt_3b067, 2, (some .char))
theorem md_J2_charAt_3b067 : vMd mJ2_charAt_3b067 2 := ⟨inBIG (List.mem_of_getElem? (i := 379) (by decide +kernel)) rfl, inBIG (List.mem_of_getElem? (i := 63) (by decide +kernel)) rfl, by decide +kernel, by decide⟩
theorem st_J2_charAt_3b067 : Cond.static yJ2_charAt_3b067 ∈ BIG := inBIG (List.mem_of_getElem? (i := 378) (by decide +kernel)) rfl
abbrev mJ2_checkIndex_2214a : vMI := (yJ2_checkIndex_2214a, cJ2_checkIndex_2214a, 2, none)
theorem md_J2_checkIndex_2214a : vMd mJ2_checkIndex_2214a 2 := ⟨inBIG (List.mem_of_getElem? (i := 382) (by decide +kernel)) rfl, inBIG (List.mem_of_getElem? (i := 63) (by decide +kernel)) rfl, by decide +kernel, by decide⟩
theorem st_J2_checkIndex_2214a : Cond.static yJ2_checkIndex_2214a ∈ BIG := inBIG (List.mem_of_getElem? (i := 381) (by decide +kernel)) rfl
abbrev mJ7_fill_53178 : vMI := (yJ7_fill_53178, cJ7_fill_53178, 4, none)
theorem md_J7_fill_53178 : vMd mJ7_fill_53178 2 := ⟨inBIG (List.mem_of_getElem? (i := 120) (by decide +kernel)) rfl, inBIG (List.mem_of_getElem? (i := 56) (by decide +kernel)) rfl, by decide +kernel, by decide⟩
theorem st_J7_fill_53178 : Cond.static yJ7_fill_53178 ∈ BIG := inBIG (List.mem_of_getElem? (i := 119) (by decide +kernel)) rfl
abbrev mJ3_checkIndex_8e157 : vMI := (yJ3_checkIndex_8e157, cJ3_checkIndex_8e157, 3, (some .int))
theorem md_J3_checkIndex_8e157 : vMd mJ3_checkIndex_8e157 3 := ⟨inBIG (List.mem_of_getElem? (i := 376) (by decide +kernel)) rfl, inBIG (List.mem_of_getElem? (i := 62) (by decide +kernel)) rfl, by decide +kernel, by decide⟩
theorem st_J3_checkIndex_8e157 : Cond.static yJ3_checkIndex_8e157 ∈ BIG := inBIG (List.mem_of_getElem? (i := 375) (by decide +kernel)) rfl
theorem nv_copy : Cond.native arraycopyName ∈ BIG := inBIG (List.mem_of_getElem? (i := 468) (by decide +kernel)) rfl
theorem sv_copy : Cond.static arraycopyName ∈ BIG := inBIG (List.mem_of_getElem? (i := 467) (by decide +kernel)) rfl
theorem iv_copy : Cond.initialized "java/lang/System" ∈ BIG := inBIG (List.mem_of_getElem? (i := 64) (by decide +kernel)) rfl
theorem ml_X4_58c : Cond.methodLink RX4 58 arraycopyName ∈ BIG := inBIG (List.mem_of_getElem? (i := 466) (by decide +kernel)) rfl
/-! shapes -/
def TB (t : Nat) : Prop := t = 10 ∨ t = 21 ∨ t = 32 ∨ t = 43 ∨ t = 54
def SB (t : Nat) : Prop := t = 67 ∨ t = 69 ∨ t = 71 ∨ t = 73
theorem fs_X4_0 {t : Nat} (h : TB t) : vFs t 4 0 (some (t + 1)) := by rcases h with rfl | rfl | rfl | rfl | rfl <;> exact ⟨by decide, by decide, 13, _, rfl, by decide, rfl⟩
theorem fs_X4_1 {t : Nat} (h : TB t) : vFs t 4 1 (some (t + 2)) := by rcases h with rfl | rfl | rfl | rfl | rfl <;> exact ⟨by decide, by decide, 13, _, rfl, by decide, rfl⟩
theorem fs_X4_2 {t : Nat} (h : TB t) : vFs t 4 2 (some (t + 3)) := by rcases h with rfl | rfl | rfl | rfl | rfl <;> exact ⟨by decide, by decide, 13, _, rfl, by decide, rfl⟩
theorem fs_X4_3 {t : Nat} (h : TB t) : vFs t 4 3 (some (t + 4)) := by rcases h with rfl | rfl | rfl | rfl | rfl <;> exact ⟨by decide, by decide, 13, _, rfl, by decide, rfl⟩
theorem fs_X4_4 {t : Nat} (h : TB t) : vFs t 4 4 (some (t + 5)) := by rcases h with rfl | rfl | rfl | rfl | rfl <;> exact ⟨by decide, by decide, 13, _, rfl, by decide, rfl⟩
theorem fs_X4_5 {t : Nat} (h : TB t) : vFs t 4 5 (some (t + 6)) := by rcases h with rfl | rfl | rfl | rfl | rfl <;> exact ⟨by decide, by decide, 13, _, rfl, by decide, rfl⟩
theorem fs_X4_6 {t : Nat} (h : TB t) : vFs t 4 6 (some (t + 7)) := by rcases h with rfl | rfl | rfl | rfl | rfl <;> exact ⟨by decide, by decide, 13, _, rfl, by decide, rfl⟩
theorem fs_X4_7 {t : Nat} (h : TB t) : vFs t 4 7 (some (t + 8)) := by rcases h with rfl | rfl | rfl | rfl | rfl <;> exact ⟨by decide, by decide, 13, _, rfl, by decide, rfl⟩
theorem fs_X4_8 {t : Nat} (h : TB t) : vFs t 4 8 (some (t + 9)) := by rcases h with rfl | rfl | rfl | rfl | rfl <;> exact ⟨by decide, by decide, 13, _, rfl, by decide, rfl⟩
theorem fs_X4_9 {t : Nat} (h : TB t) : vFs t 4 9 (some (t + 10)) := by rcases h with rfl | rfl | rfl | rfl | rfl <;> exact ⟨by decide, by decide, 13, _, rfl, by decide, rfl⟩
theorem fs_X4_10 {t : Nat} (h : TB t) : vFs t 4 10 none := by rcases h with rfl | rfl | rfl | rfl | rfl <;> exact ⟨by decide, by decide, 13, _, rfl, by decide, rfl⟩
theorem fs_X4_11 {t : Nat} (h : TB t) : vFs t 4 11 none := by rcases h with rfl | rfl | rfl | rfl | rfl <;> exact ⟨by decide, by decide, 13, _, rfl, by decide, rfl⟩
theorem fs_X4_12 {t : Nat} (h : TB t) : vFs t 4 12 none := by rcases h with rfl | rfl | rfl | rfl | rfl <;> exact ⟨by decide, by decide, 13, _, rfl, by decide, rfl⟩
theorem as_X4_0 {t : Nat} (h : TB t) : vAs (t + 1) 0 5 := by rcases h with rfl | rfl | rfl | rfl | rfl <;> exact ⟨by decide, by decide, _, rfl⟩
theorem as_X4_1 {t : Nat} (h : TB t) : vAs (t + 2) 0 5 := by rcases h with rfl | rfl | rfl | rfl | rfl <;> exact ⟨by decide, by decide, _, rfl⟩
theorem as_X4_2 {t : Nat} (h : TB t) : vAs (t + 3) 0 5 := by rcases h with rfl | rfl | rfl | rfl | rfl <;> exact ⟨by decide, by decide, _, rfl⟩
theorem as_X4_3 {t : Nat} (h : TB t) : vAs (t + 4) 0 5 := by rcases h with rfl | rfl | rfl | rfl | rfl <;> exact ⟨by decide, by decide, _, rfl⟩
theorem as_X4_4 {t : Nat} (h : TB t) : vAs (t + 5) 0 9 := by rcases h with rfl | rfl | rfl | rfl | rfl <;> exact ⟨by decide, by decide, _, rfl⟩
theorem as_X4_5 {t : Nat} (h : TB t) : vAs (t + 6) 0 9 := by rcases h with rfl | rfl | rfl | rfl | rfl <;> exact ⟨by decide, by decide, _, rfl⟩
theorem as_X4_6 {t : Nat} (h : TB t) : vAs (t + 7) 0 9 := by rcases h with rfl | rfl | rfl | rfl | rfl <;> exact ⟨by decide, by decide, _, rfl⟩
theorem as_X4_7 {t : Nat} (h : TB t) : vAs (t + 8) 0 8 := by rcases h with rfl | rfl | rfl | rfl | rfl <;> exact ⟨by decide, by decide, _, rfl⟩
theorem as_X4_8 {t : Nat} (h : TB t) : vAs (t + 9) 0 6 := by rcases h with rfl | rfl | rfl | rfl | rfl <;> exact ⟨by decide, by decide, _, rfl⟩
theorem as_X4_9 {t : Nat} (h : TB t) : vAs (t + 10) 0 6 := by rcases h with rfl | rfl | rfl | rfl | rfl <;> exact ⟨by decide, by decide, _, rfl⟩
theorem fs_X1_0 {t : Nat} (h : SB t) : vFs t 1 0 (some (t + 1)) := by rcases h with rfl | rfl | rfl | rfl <;> exact ⟨by decide, by decide, 3, _, rfl, by decide, rfl⟩
theorem fs_X1_1 {t : Nat} (h : SB t) : vFs t 1 1 none := by rcases h with rfl | rfl | rfl | rfl <;> exact ⟨by decide, by decide, 3, _, rfl, by decide, rfl⟩
theorem fs_X1_2 {t : Nat} (h : SB t) : vFs t 1 2 none := by rcases h with rfl | rfl | rfl | rfl <;> exact ⟨by decide, by decide, 3, _, rfl, by decide, rfl⟩
theorem as_X1_0 {t : Nat} (h : SB t) : vAs (t + 1) 0 40 := by rcases h with rfl | rfl | rfl | rfl <;> exact ⟨by decide, by decide, _, rfl⟩
theorem fs_X5_0 : vFs 0 5 0 (some 1) := ⟨by decide, by decide, 10, _, rfl, by decide, rfl⟩
theorem fs_X5_1 : vFs 0 5 1 (some 21) := ⟨by decide, by decide, 10, _, rfl, by decide, rfl⟩
theorem fs_X5_2 : vFs 0 5 2 (some 32) := ⟨by decide, by decide, 10, _, rfl, by decide, rfl⟩
theorem fs_X5_3 : vFs 0 5 3 (some 4) := ⟨by decide, by decide, 10, _, rfl, by decide, rfl⟩
theorem fs_X5_4 : vFs 0 5 4 (some 8) := ⟨by decide, by decide, 10, _, rfl, by decide, rfl⟩
theorem fs_X5_5 : vFs 0 5 5 (some 9) := ⟨by decide, by decide, 10, _, rfl, by decide, rfl⟩
theorem fs_X5_6 : vFs 0 5 6 (some 65) := ⟨by decide, by decide, 10, _, rfl, by decide, rfl⟩
theorem fs_X5_7 : vFs 0 5 7 (some 66) := ⟨by decide, by decide, 10, _, rfl, by decide, rfl⟩
theorem fs_X5_8 : vFs 0 5 8 none := ⟨by decide, by decide, 10, _, rfl, by decide, rfl⟩
theorem fs_X5_9 : vFs 0 5 9 none := ⟨by decide, by decide, 10, _, rfl, by decide, rfl⟩
theorem as_X5_5 : vAs 9 2 2 := ⟨by decide, by decide, _, rfl⟩
theorem as_X5_7 : vAs 66 0 8 := ⟨by decide, by decide, _, rfl⟩
theorem qs_X5_4 : vQs 8 3 2 vR8 := ⟨by decide, Or.inl rfl, rfl⟩
theorem qs_X5_6 : vQs 65 4 4 vR65 := ⟨by decide, Or.inr rfl, rfl⟩
theorem fs_X0_0 : vFs 1 0 0 (some 2) := ⟨by decide, by decide, 7, _, rfl, by decide, rfl⟩
theorem fs_X0_1 : vFs 1 0 1 (some 10) := ⟨by decide, by decide, 7, _, rfl, by decide, rfl⟩
theorem fs_X0_2 : vFs 1 0 2 none := ⟨by decide, by decide, 7, _, rfl, by decide, rfl⟩
theorem fs_X0_3 : vFs 1 0 3 none := ⟨by decide, by decide, 7, _, rfl, by decide, rfl⟩
theorem fs_X0_4 : vFs 1 0 4 none := ⟨by decide, by decide, 7, _, rfl, by decide, rfl⟩
theorem fs_X0_5 : vFs 1 0 5 none := ⟨by decide, by decide, 7, _, rfl, by decide, rfl⟩
theorem fs_X0_6 : vFs 1 0 6 none := ⟨by decide, by decide, 7, _, rfl, by decide, rfl⟩
theorem fs_X3_0 : vFs 2 3 0 (some 3) := ⟨by decide, by decide, 6, _, rfl, by decide, rfl⟩
theorem fs_X3_1 : vFs 2 3 1 none := ⟨by decide, by decide, 6, _, rfl, by decide, rfl⟩
theorem fs_X3_2 : vFs 2 3 2 none := ⟨by decide, by decide, 6, _, rfl, by decide, rfl⟩
theorem fs_X3_3 : vFs 2 3 3 none := ⟨by decide, by decide, 6, _, rfl, by decide, rfl⟩
theorem fs_X3_4 : vFs 2 3 4 none := ⟨by decide, by decide, 6, _, rfl, by decide, rfl⟩
theorem fs_X3_5 : vFs 2 3 5 none := ⟨by decide, by decide, 6, _, rfl, by decide, rfl⟩
theorem as_X3_0 : vAs 3 1 160 := ⟨by decide, by decide, _, rfl⟩
theorem fs_X2_0 : vFs 4 2 0 (some 5) := ⟨by decide, by decide, 4, _, rfl, by decide, rfl⟩
theorem fs_X2_1 : vFs 4 2 1 (some 6) := ⟨by decide, by decide, 4, _, rfl, by decide, rfl⟩
theorem fs_X2_2 : vFs 4 2 2 (some 7) := ⟨by decide, by decide, 4, _, rfl, by decide, rfl⟩
theorem fs_X2_3 : vFs 4 2 3 none := ⟨by decide, by decide, 4, _, rfl, by decide, rfl⟩
theorem as_X2_0 : vAs 5 0 6 := ⟨by decide, by decide, _, rfl⟩
theorem as_X2_1 : vAs 6 0 6 := ⟨by decide, by decide, _, rfl⟩
theorem as_X2_2 : vAs 7 2 6 := ⟨by decide, by decide, _, rfl⟩
theorem fs_X6_0 : vFs 75 6 0 (some 76) := ⟨by decide, by decide, 32, _, rfl, by decide, rfl⟩
theorem fs_X6_1 : vFs 75 6 1 none := ⟨by decide, by decide, 32, _, rfl, by decide, rfl⟩
theorem fs_X6_2 : vFs 75 6 2 (some 77) := ⟨by decide, by decide, 32, _, rfl, by decide, rfl⟩
theorem fs_X6_3 : vFs 75 6 3 none := ⟨by decide, by decide, 32, _, rfl, by decide, rfl⟩
theorem fs_X6_4 : vFs 75 6 4 none := ⟨by decide, by decide, 32, _, rfl, by decide, rfl⟩
theorem fs_X6_5 : vFs 75 6 5 none := ⟨by decide, by decide, 32, _, rfl, by decide, rfl⟩
theorem fs_X6_6 : vFs 75 6 6 none := ⟨by decide, by decide, 32, _, rfl, by decide, rfl⟩
theorem fs_X6_7 : vFs 75 6 7 none := ⟨by decide, by decide, 32, _, rfl, by decide, rfl⟩
theorem fs_X6_8 : vFs 75 6 8 none := ⟨by decide, by decide, 32, _, rfl, by decide, rfl⟩
theorem fs_X6_9 : vFs 75 6 9 (some 78) := ⟨by decide, by decide, 32, _, rfl, by decide, rfl⟩
theorem fs_X6_10 : vFs 75 6 10 none := ⟨by decide, by decide, 32, _, rfl, by decide, rfl⟩
theorem fs_X6_11 : vFs 75 6 11 none := ⟨by decide, by decide, 32, _, rfl, by decide, rfl⟩
theorem fs_X6_12 : vFs 75 6 12 none := ⟨by decide, by decide, 32, _, rfl, by decide, rfl⟩
theorem fs_X6_13 : vFs 75 6 13 none := ⟨by decide, by decide, 32, _, rfl, by decide, rfl⟩
theorem fs_X6_14 : vFs 75 6 14 none := ⟨by decide, by decide, 32, _, rfl, by decide, rfl⟩
theorem fs_X6_15 : vFs 75 6 15 none := ⟨by decide, by decide, 32, _, rfl, by decide, rfl⟩
theorem fs_X6_16 : vFs 75 6 16 none := ⟨by decide, by decide, 32, _, rfl, by decide, rfl⟩
theorem fs_X6_17 : vFs 75 6 17 none := ⟨by decide, by decide, 32, _, rfl, by decide, rfl⟩
theorem fs_X6_18 : vFs 75 6 18 (some 79) := ⟨by decide, by decide, 32, _, rfl, by decide, rfl⟩
theorem fs_X6_19 : vFs 75 6 19 (some 80) := ⟨by decide, by decide, 32, _, rfl, by decide, rfl⟩
theorem fs_X6_20 : vFs 75 6 20 none := ⟨by decide, by decide, 32, _, rfl, by decide, rfl⟩
theorem fs_X6_21 : vFs 75 6 21 (some 81) := ⟨by decide, by decide, 32, _, rfl, by decide, rfl⟩
theorem fs_X6_22 : vFs 75 6 22 none := ⟨by decide, by decide, 32, _, rfl, by decide, rfl⟩
theorem fs_X6_23 : vFs 75 6 23 none := ⟨by decide, by decide, 32, _, rfl, by decide, rfl⟩
theorem fs_X6_24 : vFs 75 6 24 (some 82) := ⟨by decide, by decide, 32, _, rfl, by decide, rfl⟩
theorem fs_X6_25 : vFs 75 6 25 none := ⟨by decide, by decide, 32, _, rfl, by decide, rfl⟩
theorem fs_X6_26 : vFs 75 6 26 (some 83) := ⟨by decide, by decide, 32, _, rfl, by decide, rfl⟩
theorem fs_X6_27 : vFs 75 6 27 (some 84) := ⟨by decide, by decide, 32, _, rfl, by decide, rfl⟩
theorem fs_X6_28 : vFs 75 6 28 (some 85) := ⟨by decide, by decide, 32, _, rfl, by decide, rfl⟩
theorem fs_X6_29 : vFs 75 6 29 (some 86) := ⟨by decide, by decide, 32, _, rfl, by decide, rfl⟩
theorem fs_X6_30 : vFs 75 6 30 (some 87) := ⟨by decide, by decide, 32, _, rfl, by decide, rfl⟩
theorem fs_X6_31 : vFs 75 6 31 none := ⟨by decide, by decide, 32, _, rfl, by decide, rfl⟩
theorem as_X6_0 : vAs 76 0 325 := ⟨by decide, by decide, _, rfl⟩
theorem as_X6_2 : vAs 77 0 65 := ⟨by decide, by decide, _, rfl⟩
theorem as_X6_9 : vAs 78 0 160 := ⟨by decide, by decide, _, rfl⟩
theorem as_X6_18 : vAs 79 0 8 := ⟨by decide, by decide, _, rfl⟩
theorem as_X6_19 : vAs 80 0 32 := ⟨by decide, by decide, _, rfl⟩
theorem as_X6_21 : vAs 81 0 8 := ⟨by decide, by decide, _, rfl⟩
theorem as_X6_24 : vAs 82 0 18 := ⟨by decide, by decide, _, rfl⟩
theorem as_X6_26 : vAs 83 0 45 := ⟨by decide, by decide, _, rfl⟩
theorem as_X6_27 : vAs 84 2 2 := ⟨by decide, by decide, _, rfl⟩
theorem as_X6_28 : vAs 85 0 4 := ⟨by decide, by decide, _, rfl⟩
theorem as_X6_29 : vAs 86 0 4 := ⟨by decide, by decide, _, rfl⟩
theorem as_X6_30 : vAs 87 0 160 := ⟨by decide, by decide, _, rfl⟩
theorem rv_X4 {t : Nat} (h : TB t) {y : MethodName} {b : ByteArray} {n : Nat} {r : Option FieldType} (hy : y.cls = RX4) : vRv t (y, b, n, r) := by rcases h with rfl | rfl | rfl | rfl | rfl <;> exact ⟨by decide, 4, 13, _, _, rfl, by decide, rfl, hy.symm⟩
theorem rv_X1 {t : Nat} (h : SB t) {y : MethodName} {b : ByteArray} {n : Nat} {r : Option FieldType} (hy : y.cls = RX1) : vRv t (y, b, n, r) := by rcases h with rfl | rfl | rfl | rfl <;> exact ⟨by decide, 1, 3, _, _, rfl, by decide, rfl, hy.symm⟩
theorem rv_X5 {y : MethodName} {b : ByteArray} {n : Nat} {r : Option FieldType} (hy : y.cls = RX5) : vRv 0 (y, b, n, r) := ⟨by decide, 5, 10, _, _, rfl, by decide, rfl, hy.symm⟩
theorem rv_X0 {y : MethodName} {b : ByteArray} {n : Nat} {r : Option FieldType} (hy : y.cls = RX0) : vRv 1 (y, b, n, r) := ⟨by decide, 0, 7, _, _, rfl, by decide, rfl, hy.symm⟩
theorem rv_X3 {y : MethodName} {b : ByteArray} {n : Nat} {r : Option FieldType} (hy : y.cls = RX3) : vRv 2 (y, b, n, r) := ⟨by decide, 3, 6, _, _, rfl, by decide, rfl, hy.symm⟩
theorem rv_X2 {y : MethodName} {b : ByteArray} {n : Nat} {r : Option FieldType} (hy : y.cls = RX2) : vRv 4 (y, b, n, r) := ⟨by decide, 2, 4, _, _, rfl, by decide, rfl, hy.symm⟩
theorem rv_X6 {y : MethodName} {b : ByteArray} {n : Nat} {r : Option FieldType} (hy : y.cls = RX6) : vRv 75 (y, b, n, r) := ⟨by decide, 6, 32, _, _, rfl, by decide, rfl, hy.symm⟩
