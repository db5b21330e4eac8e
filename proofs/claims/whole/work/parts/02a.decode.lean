theorem dX0_init_0 : decode cX0_init 0 = .ok (.aload_n 0, 1) := by decide +kernel
theorem dX0_init_1 : decode cX0_init 1 = .ok (.invokespecial 3, 3) := by decide +kernel
theorem dX0_init_4 : decode cX0_init 4 = .ok (.aload_n 0, 1) := by decide +kernel
theorem dX0_init_5 : decode cX0_init 5 = .ok (.new 9, 3) := by decide +kernel
theorem dX0_init_8 : decode cX0_init 8 = .ok (.dup, 1) := by decide +kernel
theorem dX0_init_9 : decode cX0_init 9 = .ok (.invokespecial 11, 3) := by decide +kernel
theorem dX0_init_12 : decode cX0_init 12 = .ok (.putfield 12, 3) := by decide +kernel
theorem dX0_init_15 : decode cX0_init 15 = .ok (.aload_n 0, 1) := by decide +kernel
theorem dX0_init_16 : decode cX0_init 16 = .ok (.new 18, 3) := by decide +kernel
theorem dX0_init_19 : decode cX0_init 19 = .ok (.dup, 1) := by decide +kernel
theorem dX0_init_20 : decode cX0_init 20 = .ok (.invokespecial 20, 3) := by decide +kernel
theorem dX0_init_23 : decode cX0_init 23 = .ok (.putfield 21, 3) := by decide +kernel
theorem dX0_init_26 : decode cX0_init 26 = .ok (.return_, 1) := by decide +kernel
theorem dX0_readAll_0 : decode cX0_readAll 0 = .ok (.aload_n 0, 1) := by decide +kernel
theorem dX0_readAll_1 : decode cX0_readAll 1 = .ok (.getfield 12, 3) := by decide +kernel
theorem dX0_readAll_4 : decode cX0_readAll 4 = .ok (.invokevirtual 25, 3) := by decide +kernel
theorem dX0_readAll_7 : decode cX0_readAll 7 = .ok (.aload_n 0, 1) := by decide +kernel
theorem dX0_readAll_8 : decode cX0_readAll 8 = .ok (.getfield 21, 3) := by decide +kernel
theorem dX0_readAll_11 : decode cX0_readAll 11 = .ok (.invokevirtual 28, 3) := by decide +kernel
theorem dX0_readAll_14 : decode cX0_readAll 14 = .ok (.aload_n 0, 1) := by decide +kernel
theorem dX0_readAll_15 : decode cX0_readAll 15 = .ok (.iconst 0, 1) := by decide +kernel
theorem dX0_readAll_16 : decode cX0_readAll 16 = .ok (.putfield 31, 3) := by decide +kernel
theorem dX0_readAll_19 : decode cX0_readAll 19 = .ok (.aload_n 0, 1) := by decide +kernel
theorem dX0_readAll_20 : decode cX0_readAll 20 = .ok (.iconst 0, 1) := by decide +kernel
theorem dX0_readAll_21 : decode cX0_readAll 21 = .ok (.putfield 35, 3) := by decide +kernel
theorem dX0_readAll_24 : decode cX0_readAll 24 = .ok (.aload_n 0, 1) := by decide +kernel
theorem dX0_readAll_25 : decode cX0_readAll 25 = .ok (.iconst 0, 1) := by decide +kernel
theorem dX0_readAll_26 : decode cX0_readAll 26 = .ok (.putfield 38, 3) := by decide +kernel
theorem dX0_readAll_29 : decode cX0_readAll 29 = .ok (.aload_n 0, 1) := by decide +kernel
theorem dX0_readAll_30 : decode cX0_readAll 30 = .ok (.iconst 0, 1) := by decide +kernel
theorem dX0_readAll_31 : decode cX0_readAll 31 = .ok (.putfield 41, 3) := by decide +kernel
theorem dX0_readAll_34 : decode cX0_readAll 34 = .ok (.aload_n 0, 1) := by decide +kernel
theorem dX0_readAll_35 : decode cX0_readAll 35 = .ok (.iconst 0, 1) := by decide +kernel
theorem dX0_readAll_36 : decode cX0_readAll 36 = .ok (.putfield 44, 3) := by decide +kernel
theorem dX0_readAll_39 : decode cX0_readAll 39 = .ok (.iconst 0, 1) := by decide +kernel
theorem dX0_readAll_40 : decode cX0_readAll 40 = .ok (.istore_n 1, 1) := by decide +kernel
theorem dX0_readAll_41 : decode cX0_readAll 41 = .ok (.iload_n 1, 1) := by decide +kernel
theorem dX0_readAll_42 : decode cX0_readAll 42 = .ok (.sipush 160, 3) := by decide +kernel
theorem dX0_readAll_45 : decode cX0_readAll 45 = .ok (.if_icmp .gt 116, 3) := by decide +kernel
theorem dX0_readAll_48 : decode cX0_readAll 48 = .ok (.aload_n 0, 1) := by decide +kernel
theorem dX0_readAll_49 : decode cX0_readAll 49 = .ok (.invokevirtual 48, 3) := by decide +kernel
theorem dX0_readAll_52 : decode cX0_readAll 52 = .ok (.ifCond .eq 109, 3) := by decide +kernel
theorem dX0_readAll_55 : decode cX0_readAll 55 = .ok (.aload_n 0, 1) := by decide +kernel
theorem dX0_readAll_56 : decode cX0_readAll 56 = .ok (.getfield 12, 3) := by decide +kernel
theorem dX0_readAll_59 : decode cX0_readAll 59 = .ok (.getfield 52, 3) := by decide +kernel
theorem dX0_readAll_62 : decode cX0_readAll 62 = .ok (.iconst 4, 1) := by decide +kernel
theorem dX0_readAll_63 : decode cX0_readAll 63 = .ok (.if_icmp .eq 98, 3) := by decide +kernel
theorem dX0_readAll_66 : decode cX0_readAll 66 = .ok (.aload_n 0, 1) := by decide +kernel
theorem dX0_readAll_67 : decode cX0_readAll 67 = .ok (.invokevirtual 55, 3) := by decide +kernel
theorem dX0_readAll_70 : decode cX0_readAll 70 = .ok (.istore_n 2, 1) := by decide +kernel
theorem dX0_readAll_71 : decode cX0_readAll 71 = .ok (.iload_n 2, 1) := by decide +kernel
theorem dX0_readAll_72 : decode cX0_readAll 72 = .ok (.ifCond .lt 11, 3) := by decide +kernel
theorem dX0_readAll_75 : decode cX0_readAll 75 = .ok (.aload_n 0, 1) := by decide +kernel
theorem dX0_readAll_76 : decode cX0_readAll 76 = .ok (.iload_n 2, 1) := by decide +kernel
theorem dX0_readAll_77 : decode cX0_readAll 77 = .ok (.invokevirtual 59, 3) := by decide +kernel
theorem dX0_readAll_80 : decode cX0_readAll 80 = .ok (.goto 65, 3) := by decide +kernel
theorem dX0_readAll_83 : decode cX0_readAll 83 = .ok (.aload_n 0, 1) := by decide +kernel
theorem dX0_readAll_84 : decode cX0_readAll 84 = .ok (.getfield 12, 3) := by decide +kernel
theorem dX0_readAll_87 : decode cX0_readAll 87 = .ok (.ldc 63, 2) := by decide +kernel
theorem dX0_readAll_89 : decode cX0_readAll 89 = .ok (.invokevirtual 65, 3) := by decide +kernel
theorem dX0_readAll_92 : decode cX0_readAll 92 = .ok (.ifCond .eq 10, 3) := by decide +kernel
theorem dX0_readAll_95 : decode cX0_readAll 95 = .ok (.aload_n 0, 1) := by decide +kernel
theorem dX0_readAll_96 : decode cX0_readAll 96 = .ok (.invokevirtual 69, 3) := by decide +kernel
theorem dX0_readAll_99 : decode cX0_readAll 99 = .ok (.goto 46, 3) := by decide +kernel
theorem dX0_readAll_102 : decode cX0_readAll 102 = .ok (.aload_n 0, 1) := by decide +kernel
theorem dX0_readAll_103 : decode cX0_readAll 103 = .ok (.getfield 12, 3) := by decide +kernel
theorem dX0_readAll_106 : decode cX0_readAll 106 = .ok (.ldc 72, 2) := by decide +kernel
theorem dX0_readAll_108 : decode cX0_readAll 108 = .ok (.invokevirtual 65, 3) := by decide +kernel
theorem dX0_readAll_111 : decode cX0_readAll 111 = .ok (.ifCond .eq 10, 3) := by decide +kernel
theorem dX0_readAll_114 : decode cX0_readAll 114 = .ok (.aload_n 0, 1) := by decide +kernel
theorem dX0_readAll_115 : decode cX0_readAll 115 = .ok (.invokevirtual 74, 3) := by decide +kernel
theorem dX0_readAll_118 : decode cX0_readAll 118 = .ok (.goto 27, 3) := by decide +kernel
theorem dX0_readAll_121 : decode cX0_readAll 121 = .ok (.aload_n 0, 1) := by decide +kernel
theorem dX0_readAll_122 : decode cX0_readAll 122 = .ok (.getfield 12, 3) := by decide +kernel
theorem dX0_readAll_125 : decode cX0_readAll 125 = .ok (.ldc 77, 2) := by decide +kernel
theorem dX0_readAll_127 : decode cX0_readAll 127 = .ok (.invokevirtual 65, 3) := by decide +kernel
theorem dX0_readAll_130 : decode cX0_readAll 130 = .ok (.ifCond .eq 10, 3) := by decide +kernel
theorem dX0_readAll_133 : decode cX0_readAll 133 = .ok (.aload_n 0, 1) := by decide +kernel
theorem dX0_readAll_134 : decode cX0_readAll 134 = .ok (.invokevirtual 79, 3) := by decide +kernel
theorem dX0_readAll_137 : decode cX0_readAll 137 = .ok (.goto 8, 3) := by decide +kernel
theorem dX0_readAll_140 : decode cX0_readAll 140 = .ok (.aload_n 0, 1) := by decide +kernel
theorem dX0_readAll_141 : decode cX0_readAll 141 = .ok (.iconst 2, 1) := by decide +kernel
theorem dX0_readAll_142 : decode cX0_readAll 142 = .ok (.invokevirtual 82, 3) := by decide +kernel
theorem dX0_readAll_145 : decode cX0_readAll 145 = .ok (.aload_n 0, 1) := by decide +kernel
theorem dX0_readAll_146 : decode cX0_readAll 146 = .ok (.dup, 1) := by decide +kernel
theorem dX0_readAll_147 : decode cX0_readAll 147 = .ok (.getfield 31, 3) := by decide +kernel
theorem dX0_readAll_150 : decode cX0_readAll 150 = .ok (.iconst 1, 1) := by decide +kernel
theorem dX0_readAll_151 : decode cX0_readAll 151 = .ok (.iadd, 1) := by decide +kernel
theorem dX0_readAll_152 : decode cX0_readAll 152 = .ok (.putfield 31, 3) := by decide +kernel
theorem dX0_readAll_155 : decode cX0_readAll 155 = .ok (.iinc 1 1, 3) := by decide +kernel
theorem dX0_readAll_158 : decode cX0_readAll 158 = .ok (.goto (-117), 3) := by decide +kernel
theorem dX0_readAll_161 : decode cX0_readAll 161 = .ok (.aload_n 0, 1) := by decide +kernel
theorem dX0_readAll_162 : decode cX0_readAll 162 = .ok (.getfield 35, 3) := by decide +kernel
theorem dX0_readAll_165 : decode cX0_readAll 165 = .ok (.ifCond .ne 30, 3) := by decide +kernel
theorem dX0_readAll_168 : decode cX0_readAll 168 = .ok (.aload_n 0, 1) := by decide +kernel
theorem dX0_readAll_169 : decode cX0_readAll 169 = .ok (.getfield 21, 3) := by decide +kernel
theorem dX0_readAll_172 : decode cX0_readAll 172 = .ok (.invokevirtual 85, 3) := by decide +kernel
theorem dX0_readAll_175 : decode cX0_readAll 175 = .ok (.ifCond .eq 20, 3) := by decide +kernel
theorem dX0_readAll_178 : decode cX0_readAll 178 = .ok (.aload_n 0, 1) := by decide +kernel
theorem dX0_readAll_179 : decode cX0_readAll 179 = .ok (.bipush 6, 2) := by decide +kernel
theorem dX0_readAll_181 : decode cX0_readAll 181 = .ok (.putfield 35, 3) := by decide +kernel
theorem dX0_readAll_184 : decode cX0_readAll 184 = .ok (.aload_n 0, 1) := by decide +kernel
theorem dX0_readAll_185 : decode cX0_readAll 185 = .ok (.aload_n 0, 1) := by decide +kernel
theorem dX0_readAll_186 : decode cX0_readAll 186 = .ok (.getfield 12, 3) := by decide +kernel
theorem dX0_readAll_189 : decode cX0_readAll 189 = .ok (.getfield 88, 3) := by decide +kernel
theorem dX0_readAll_192 : decode cX0_readAll 192 = .ok (.putfield 38, 3) := by decide +kernel
theorem dX0_readAll_195 : decode cX0_readAll 195 = .ok (.return_, 1) := by decide +kernel
theorem dX0_kindNamed_0 : decode cX0_kindNamed 0 = .ok (.iconst 0, 1) := by decide +kernel
theorem dX0_kindNamed_1 : decode cX0_kindNamed 1 = .ok (.istore_n 1, 1) := by decide +kernel
theorem dX0_kindNamed_2 : decode cX0_kindNamed 2 = .ok (.iload_n 1, 1) := by decide +kernel
theorem dX0_kindNamed_3 : decode cX0_kindNamed 3 = .ok (.iconst 4, 1) := by decide +kernel
theorem dX0_kindNamed_4 : decode cX0_kindNamed 4 = .ok (.if_icmp .ge 25, 3) := by decide +kernel
theorem dX0_kindNamed_7 : decode cX0_kindNamed 7 = .ok (.aload_n 0, 1) := by decide +kernel
theorem dX0_kindNamed_8 : decode cX0_kindNamed 8 = .ok (.getfield 12, 3) := by decide +kernel
theorem dX0_kindNamed_11 : decode cX0_kindNamed 11 = .ok (.iload_n 1, 1) := by decide +kernel
theorem dX0_kindNamed_12 : decode cX0_kindNamed 12 = .ok (.invokestatic 91, 3) := by decide +kernel
theorem dX0_kindNamed_15 : decode cX0_kindNamed 15 = .ok (.invokevirtual 65, 3) := by decide +kernel
theorem dX0_kindNamed_18 : decode cX0_kindNamed 18 = .ok (.ifCond .eq 5, 3) := by decide +kernel
theorem dX0_kindNamed_21 : decode cX0_kindNamed 21 = .ok (.iload_n 1, 1) := by decide +kernel
theorem dX0_kindNamed_22 : decode cX0_kindNamed 22 = .ok (.ireturn, 1) := by decide +kernel
theorem dX0_kindNamed_23 : decode cX0_kindNamed 23 = .ok (.iinc 1 1, 3) := by decide +kernel
theorem dX0_kindNamed_26 : decode cX0_kindNamed 26 = .ok (.goto (-24), 3) := by decide +kernel
theorem dX0_kindNamed_29 : decode cX0_kindNamed 29 = .ok (.bipush (-4), 2) := by decide +kernel
theorem dX0_kindNamed_31 : decode cX0_kindNamed 31 = .ok (.ireturn, 1) := by decide +kernel
theorem dX0_nameOfKind_0 : decode cX0_nameOfKind 0 = .ok (.iload_n 0, 1) := by decide +kernel
theorem dX0_nameOfKind_1 : decode cX0_nameOfKind 1 = .ok (.tableswitch 36 0 2 #[27, 30, 33], 27) := by decide +kernel
theorem dX0_nameOfKind_28 : decode cX0_nameOfKind 28 = .ok (.ldc 95, 2) := by decide +kernel
theorem dX0_nameOfKind_30 : decode cX0_nameOfKind 30 = .ok (.areturn, 1) := by decide +kernel
theorem dX0_nameOfKind_31 : decode cX0_nameOfKind 31 = .ok (.ldc 97, 2) := by decide +kernel
theorem dX0_nameOfKind_33 : decode cX0_nameOfKind 33 = .ok (.areturn, 1) := by decide +kernel
theorem dX0_nameOfKind_34 : decode cX0_nameOfKind 34 = .ok (.ldc 99, 2) := by decide +kernel
theorem dX0_nameOfKind_36 : decode cX0_nameOfKind 36 = .ok (.areturn, 1) := by decide +kernel
theorem dX0_nameOfKind_37 : decode cX0_nameOfKind 37 = .ok (.ldc 101, 2) := by decide +kernel
theorem dX0_nameOfKind_39 : decode cX0_nameOfKind 39 = .ok (.areturn, 1) := by decide +kernel
theorem dX0_readOne_0 : decode cX0_readOne 0 = .ok (.aload_n 0, 1) := by decide +kernel
theorem dX0_readOne_1 : decode cX0_readOne 1 = .ok (.getfield 21, 3) := by decide +kernel
theorem dX0_readOne_4 : decode cX0_readOne 4 = .ok (.getfield 103, 3) := by decide +kernel
theorem dX0_readOne_7 : decode cX0_readOne 7 = .ok (.iconst 5, 1) := by decide +kernel
theorem dX0_readOne_8 : decode cX0_readOne 8 = .ok (.if_icmp .lt 9, 3) := by decide +kernel
theorem dX0_readOne_11 : decode cX0_readOne 11 = .ok (.aload_n 0, 1) := by decide +kernel
theorem dX0_readOne_12 : decode cX0_readOne 12 = .ok (.iconst 5, 1) := by decide +kernel
theorem dX0_readOne_13 : decode cX0_readOne 13 = .ok (.invokevirtual 82, 3) := by decide +kernel
theorem dX0_readOne_16 : decode cX0_readOne 16 = .ok (.return_, 1) := by decide +kernel
theorem dX0_readOne_17 : decode cX0_readOne 17 = .ok (.aload_n 0, 1) := by decide +kernel
theorem dX0_readOne_18 : decode cX0_readOne 18 = .ok (.iconst 3, 1) := by decide +kernel
theorem dX0_readOne_19 : decode cX0_readOne 19 = .ok (.invokevirtual 106, 3) := by decide +kernel
theorem dX0_readOne_22 : decode cX0_readOne 22 = .ok (.istore_n 2, 1) := by decide +kernel
theorem dX0_readOne_23 : decode cX0_readOne 23 = .ok (.aload_n 0, 1) := by decide +kernel
theorem dX0_readOne_24 : decode cX0_readOne 24 = .ok (.bipush 7, 2) := by decide +kernel
theorem dX0_readOne_26 : decode cX0_readOne 26 = .ok (.invokevirtual 106, 3) := by decide +kernel
theorem dX0_readOne_29 : decode cX0_readOne 29 = .ok (.istore_n 3, 1) := by decide +kernel
theorem dX0_readOne_30 : decode cX0_readOne 30 = .ok (.aload_n 0, 1) := by decide +kernel
theorem dX0_readOne_31 : decode cX0_readOne 31 = .ok (.invokevirtual 48, 3) := by decide +kernel
theorem dX0_readOne_34 : decode cX0_readOne 34 = .ok (.ifCond .ne 4, 3) := by decide +kernel
theorem dX0_readOne_37 : decode cX0_readOne 37 = .ok (.return_, 1) := by decide +kernel
theorem dX0_readOne_38 : decode cX0_readOne 38 = .ok (.aload_n 0, 1) := by decide +kernel
theorem dX0_readOne_39 : decode cX0_readOne 39 = .ok (.getfield 21, 3) := by decide +kernel
theorem dX0_readOne_42 : decode cX0_readOne 42 = .ok (.iload_n 1, 1) := by decide +kernel
theorem dX0_readOne_43 : decode cX0_readOne 43 = .ok (.iload_n 2, 1) := by decide +kernel
theorem dX0_readOne_44 : decode cX0_readOne 44 = .ok (.iload_n 3, 1) := by decide +kernel
theorem dX0_readOne_45 : decode cX0_readOne 45 = .ok (.invokevirtual 110, 3) := by decide +kernel
theorem dX0_readOne_48 : decode cX0_readOne 48 = .ok (.pop, 1) := by decide +kernel
theorem dX0_readOne_49 : decode cX0_readOne 49 = .ok (.aload_n 0, 1) := by decide +kernel
theorem dX0_readOne_50 : decode cX0_readOne 50 = .ok (.getfield 12, 3) := by decide +kernel
theorem dX0_readOne_53 : decode cX0_readOne 53 = .ok (.getfield 52, 3) := by decide +kernel
theorem dX0_readOne_56 : decode cX0_readOne 56 = .ok (.iconst 2, 1) := by decide +kernel
theorem dX0_readOne_57 : decode cX0_readOne 57 = .ok (.if_icmp .ne 12, 3) := by decide +kernel
theorem dX0_readOne_60 : decode cX0_readOne 60 = .ok (.aload_n 0, 1) := by decide +kernel
theorem dX0_readOne_61 : decode cX0_readOne 61 = .ok (.invokevirtual 114, 3) := by decide +kernel
theorem dX0_readOne_64 : decode cX0_readOne 64 = .ok (.aload_n 0, 1) := by decide +kernel
theorem dX0_readOne_65 : decode cX0_readOne 65 = .ok (.invokevirtual 48, 3) := by decide +kernel
theorem dX0_readOne_68 : decode cX0_readOne 68 = .ok (.pop, 1) := by decide +kernel
theorem dX0_readOne_69 : decode cX0_readOne 69 = .ok (.aload_n 0, 1) := by decide +kernel
theorem dX0_readOne_70 : decode cX0_readOne 70 = .ok (.invokevirtual 117, 3) := by decide +kernel
theorem dX0_readOne_73 : decode cX0_readOne 73 = .ok (.return_, 1) := by decide +kernel
theorem dX0_hangToldDoor_0 : decode cX0_hangToldDoor 0 = .ok (.aload_n 0, 1) := by decide +kernel
theorem dX0_hangToldDoor_1 : decode cX0_hangToldDoor 1 = .ok (.bipush 8, 2) := by decide +kernel
theorem dX0_hangToldDoor_3 : decode cX0_hangToldDoor 3 = .ok (.invokevirtual 120, 3) := by decide +kernel
theorem dX0_hangToldDoor_6 : decode cX0_hangToldDoor 6 = .ok (.istore_n 1, 1) := by decide +kernel
theorem dX0_hangToldDoor_7 : decode cX0_hangToldDoor 7 = .ok (.aload_n 0, 1) := by decide +kernel
theorem dX0_hangToldDoor_8 : decode cX0_hangToldDoor 8 = .ok (.getfield 21, 3) := by decide +kernel
theorem dX0_hangToldDoor_11 : decode cX0_hangToldDoor 11 = .ok (.getfield 103, 3) := by decide +kernel
theorem dX0_hangToldDoor_14 : decode cX0_hangToldDoor 14 = .ok (.iconst 1, 1) := by decide +kernel
theorem dX0_hangToldDoor_15 : decode cX0_hangToldDoor 15 = .ok (.isub, 1) := by decide +kernel
theorem dX0_hangToldDoor_16 : decode cX0_hangToldDoor 16 = .ok (.istore_n 2, 1) := by decide +kernel
theorem dX0_hangToldDoor_17 : decode cX0_hangToldDoor 17 = .ok (.iload_n 1, 1) := by decide +kernel
theorem dX0_hangToldDoor_18 : decode cX0_hangToldDoor 18 = .ok (.ifCond .lt 14, 3) := by decide +kernel
theorem dX0_hangToldDoor_21 : decode cX0_hangToldDoor 21 = .ok (.aload_n 0, 1) := by decide +kernel
theorem dX0_hangToldDoor_22 : decode cX0_hangToldDoor 22 = .ok (.getfield 21, 3) := by decide +kernel
theorem dX0_hangToldDoor_25 : decode cX0_hangToldDoor 25 = .ok (.iload_n 2, 1) := by decide +kernel
theorem dX0_hangToldDoor_26 : decode cX0_hangToldDoor 26 = .ok (.invokevirtual 123, 3) := by decide +kernel
theorem dX0_hangToldDoor_29 : decode cX0_hangToldDoor 29 = .ok (.ifCond .ne 4, 3) := by decide +kernel
theorem dX0_hangToldDoor_32 : decode cX0_hangToldDoor 32 = .ok (.return_, 1) := by decide +kernel
theorem dX0_hangToldDoor_33 : decode cX0_hangToldDoor 33 = .ok (.aload_n 0, 1) := by decide +kernel
theorem dX0_hangToldDoor_34 : decode cX0_hangToldDoor 34 = .ok (.getfield 21, 3) := by decide +kernel
theorem dX0_hangToldDoor_37 : decode cX0_hangToldDoor 37 = .ok (.getfield 127, 3) := by decide +kernel
theorem dX0_hangToldDoor_40 : decode cX0_hangToldDoor 40 = .ok (.iload_n 1, 1) := by decide +kernel
theorem dX0_hangToldDoor_41 : decode cX0_hangToldDoor 41 = .ok (.iaload, 1) := by decide +kernel
theorem dX0_hangToldDoor_42 : decode cX0_hangToldDoor 42 = .ok (.iconst (-1), 1) := by decide +kernel
theorem dX0_hangToldDoor_43 : decode cX0_hangToldDoor 43 = .ok (.if_icmp .eq 9, 3) := by decide +kernel
theorem dX0_hangToldDoor_46 : decode cX0_hangToldDoor 46 = .ok (.aload_n 0, 1) := by decide +kernel
theorem dX0_hangToldDoor_47 : decode cX0_hangToldDoor 47 = .ok (.iconst 4, 1) := by decide +kernel
theorem dX0_hangToldDoor_48 : decode cX0_hangToldDoor 48 = .ok (.invokevirtual 82, 3) := by decide +kernel
theorem dX0_hangToldDoor_51 : decode cX0_hangToldDoor 51 = .ok (.return_, 1) := by decide +kernel
theorem dX0_hangToldDoor_52 : decode cX0_hangToldDoor 52 = .ok (.aload_n 0, 1) := by decide +kernel
theorem dX0_hangToldDoor_53 : decode cX0_hangToldDoor 53 = .ok (.getfield 21, 3) := by decide +kernel
theorem dX0_hangToldDoor_56 : decode cX0_hangToldDoor 56 = .ok (.getfield 127, 3) := by decide +kernel
theorem dX0_hangToldDoor_59 : decode cX0_hangToldDoor 59 = .ok (.iload_n 1, 1) := by decide +kernel
theorem dX0_hangToldDoor_60 : decode cX0_hangToldDoor 60 = .ok (.iload_n 2, 1) := by decide +kernel
theorem dX0_hangToldDoor_61 : decode cX0_hangToldDoor 61 = .ok (.iastore, 1) := by decide +kernel
theorem dX0_hangToldDoor_62 : decode cX0_hangToldDoor 62 = .ok (.aload_n 0, 1) := by decide +kernel
theorem dX0_hangToldDoor_63 : decode cX0_hangToldDoor 63 = .ok (.getfield 21, 3) := by decide +kernel
theorem dX0_hangToldDoor_66 : decode cX0_hangToldDoor 66 = .ok (.getfield 131, 3) := by decide +kernel
theorem dX0_hangToldDoor_69 : decode cX0_hangToldDoor 69 = .ok (.iload_n 2, 1) := by decide +kernel
theorem dX0_hangToldDoor_70 : decode cX0_hangToldDoor 70 = .ok (.iload_n 1, 1) := by decide +kernel
theorem dX0_hangToldDoor_71 : decode cX0_hangToldDoor 71 = .ok (.iastore, 1) := by decide +kernel
theorem dX0_hangToldDoor_72 : decode cX0_hangToldDoor 72 = .ok (.return_, 1) := by decide +kernel
theorem dX0_readWall_0 : decode cX0_readWall 0 = .ok (.aload_n 0, 1) := by decide +kernel
theorem dX0_readWall_1 : decode cX0_readWall 1 = .ok (.getfield 21, 3) := by decide +kernel
theorem dX0_readWall_4 : decode cX0_readWall 4 = .ok (.getfield 134, 3) := by decide +kernel
theorem dX0_readWall_7 : decode cX0_readWall 7 = .ok (.bipush 9, 2) := by decide +kernel
theorem dX0_readWall_9 : decode cX0_readWall 9 = .ok (.if_icmp .lt 9, 3) := by decide +kernel
theorem dX0_readWall_12 : decode cX0_readWall 12 = .ok (.aload_n 0, 1) := by decide +kernel
theorem dX0_readWall_13 : decode cX0_readWall 13 = .ok (.iconst 5, 1) := by decide +kernel
theorem dX0_readWall_14 : decode cX0_readWall 14 = .ok (.invokevirtual 82, 3) := by decide +kernel
theorem dX0_readWall_17 : decode cX0_readWall 17 = .ok (.return_, 1) := by decide +kernel
theorem dX0_readWall_18 : decode cX0_readWall 18 = .ok (.aload_n 0, 1) := by decide +kernel
theorem dX0_readWall_19 : decode cX0_readWall 19 = .ok (.bipush 7, 2) := by decide +kernel
theorem dX0_readWall_21 : decode cX0_readWall 21 = .ok (.invokevirtual 106, 3) := by decide +kernel
theorem dX0_readWall_24 : decode cX0_readWall 24 = .ok (.istore_n 1, 1) := by decide +kernel
theorem dX0_readWall_25 : decode cX0_readWall 25 = .ok (.aload_n 0, 1) := by decide +kernel
theorem dX0_readWall_26 : decode cX0_readWall 26 = .ok (.bipush 7, 2) := by decide +kernel
theorem dX0_readWall_28 : decode cX0_readWall 28 = .ok (.invokevirtual 106, 3) := by decide +kernel
theorem dX0_readWall_31 : decode cX0_readWall 31 = .ok (.istore_n 2, 1) := by decide +kernel
theorem dX0_readWall_32 : decode cX0_readWall 32 = .ok (.aload_n 0, 1) := by decide +kernel
theorem dX0_readWall_33 : decode cX0_readWall 33 = .ok (.getfield 35, 3) := by decide +kernel
theorem dX0_readWall_36 : decode cX0_readWall 36 = .ok (.ifCond .ne 13, 3) := by decide +kernel
theorem dX0_readWall_39 : decode cX0_readWall 39 = .ok (.iload_n 1, 1) := by decide +kernel
theorem dX0_readWall_40 : decode cX0_readWall 40 = .ok (.iload_n 2, 1) := by decide +kernel
theorem dX0_readWall_41 : decode cX0_readWall 41 = .ok (.if_icmp .ne 8, 3) := by decide +kernel
theorem dX0_readWall_44 : decode cX0_readWall 44 = .ok (.aload_n 0, 1) := by decide +kernel
theorem dX0_readWall_45 : decode cX0_readWall 45 = .ok (.iconst 3, 1) := by decide +kernel
theorem dX0_readWall_46 : decode cX0_readWall 46 = .ok (.invokevirtual 82, 3) := by decide +kernel
theorem dX0_readWall_49 : decode cX0_readWall 49 = .ok (.aload_n 0, 1) := by decide +kernel
theorem dX0_readWall_50 : decode cX0_readWall 50 = .ok (.invokevirtual 48, 3) := by decide +kernel
theorem dX0_readWall_53 : decode cX0_readWall 53 = .ok (.pop, 1) := by decide +kernel
theorem dX0_readWall_54 : decode cX0_readWall 54 = .ok (.aload_n 0, 1) := by decide +kernel
theorem dX0_readWall_55 : decode cX0_readWall 55 = .ok (.invokevirtual 117, 3) := by decide +kernel
theorem dX0_readWall_58 : decode cX0_readWall 58 = .ok (.aload_n 0, 1) := by decide +kernel
theorem dX0_readWall_59 : decode cX0_readWall 59 = .ok (.getfield 35, 3) := by decide +kernel
theorem dX0_readWall_62 : decode cX0_readWall 62 = .ok (.ifCond .ne 13, 3) := by decide +kernel
theorem dX0_readWall_65 : decode cX0_readWall 65 = .ok (.aload_n 0, 1) := by decide +kernel
theorem dX0_readWall_66 : decode cX0_readWall 66 = .ok (.getfield 21, 3) := by decide +kernel
theorem dX0_readWall_69 : decode cX0_readWall 69 = .ok (.iload_n 1, 1) := by decide +kernel
theorem dX0_readWall_70 : decode cX0_readWall 70 = .ok (.iload_n 2, 1) := by decide +kernel
theorem dX0_readWall_71 : decode cX0_readWall 71 = .ok (.invokevirtual 137, 3) := by decide +kernel
theorem dX0_readWall_74 : decode cX0_readWall 74 = .ok (.pop, 1) := by decide +kernel
theorem dX0_readWall_75 : decode cX0_readWall 75 = .ok (.return_, 1) := by decide +kernel
theorem dX0_readRoom_0 : decode cX0_readRoom 0 = .ok (.aload_n 0, 1) := by decide +kernel
theorem dX0_readRoom_1 : decode cX0_readRoom 1 = .ok (.bipush 7, 2) := by decide +kernel
theorem dX0_readRoom_3 : decode cX0_readRoom 3 = .ok (.invokevirtual 106, 3) := by decide +kernel
theorem dX0_readRoom_6 : decode cX0_readRoom 6 = .ok (.istore_n 1, 1) := by decide +kernel
theorem dX0_readRoom_7 : decode cX0_readRoom 7 = .ok (.aload_n 0, 1) := by decide +kernel
theorem dX0_readRoom_8 : decode cX0_readRoom 8 = .ok (.getfield 41, 3) := by decide +kernel
theorem dX0_readRoom_11 : decode cX0_readRoom 11 = .ok (.iload_n 1, 1) := by decide +kernel
theorem dX0_readRoom_12 : decode cX0_readRoom 12 = .ok (.invokestatic 141, 3) := by decide +kernel
theorem dX0_readRoom_15 : decode cX0_readRoom 15 = .ok (.ifCond .eq 8, 3) := by decide +kernel
theorem dX0_readRoom_18 : decode cX0_readRoom 18 = .ok (.aload_n 0, 1) := by decide +kernel
theorem dX0_readRoom_19 : decode cX0_readRoom 19 = .ok (.iconst 4, 1) := by decide +kernel
theorem dX0_readRoom_20 : decode cX0_readRoom 20 = .ok (.invokevirtual 82, 3) := by decide +kernel
theorem dX0_readRoom_23 : decode cX0_readRoom 23 = .ok (.aload_n 0, 1) := by decide +kernel
theorem dX0_readRoom_24 : decode cX0_readRoom 24 = .ok (.bipush 99, 2) := by decide +kernel
theorem dX0_readRoom_26 : decode cX0_readRoom 26 = .ok (.invokevirtual 106, 3) := by decide +kernel
theorem dX0_readRoom_29 : decode cX0_readRoom 29 = .ok (.istore_n 2, 1) := by decide +kernel
theorem dX0_readRoom_30 : decode cX0_readRoom 30 = .ok (.aload_n 0, 1) := by decide +kernel
theorem dX0_readRoom_31 : decode cX0_readRoom 31 = .ok (.invokevirtual 48, 3) := by decide +kernel
theorem dX0_readRoom_34 : decode cX0_readRoom 34 = .ok (.pop, 1) := by decide +kernel
theorem dX0_readRoom_35 : decode cX0_readRoom 35 = .ok (.aload_n 0, 1) := by decide +kernel
theorem dX0_readRoom_36 : decode cX0_readRoom 36 = .ok (.invokevirtual 117, 3) := by decide +kernel
theorem dX0_readRoom_39 : decode cX0_readRoom 39 = .ok (.aload_n 0, 1) := by decide +kernel
theorem dX0_readRoom_40 : decode cX0_readRoom 40 = .ok (.getfield 35, 3) := by decide +kernel
theorem dX0_readRoom_43 : decode cX0_readRoom 43 = .ok (.ifCond .ne 32, 3) := by decide +kernel
theorem dX0_readRoom_46 : decode cX0_readRoom 46 = .ok (.iload_n 1, 1) := by decide +kernel
theorem dX0_readRoom_47 : decode cX0_readRoom 47 = .ok (.invokestatic 144, 3) := by decide +kernel
theorem dX0_readRoom_50 : decode cX0_readRoom 50 = .ok (.ifCond .eq 25, 3) := by decide +kernel
theorem dX0_readRoom_53 : decode cX0_readRoom 53 = .ok (.aload_n 0, 1) := by decide +kernel
theorem dX0_readRoom_54 : decode cX0_readRoom 54 = .ok (.dup, 1) := by decide +kernel
theorem dX0_readRoom_55 : decode cX0_readRoom 55 = .ok (.getfield 41, 3) := by decide +kernel
theorem dX0_readRoom_58 : decode cX0_readRoom 58 = .ok (.iconst 1, 1) := by decide +kernel
theorem dX0_readRoom_59 : decode cX0_readRoom 59 = .ok (.iload_n 1, 1) := by decide +kernel
theorem dX0_readRoom_60 : decode cX0_readRoom 60 = .ok (.ishl, 1) := by decide +kernel
theorem dX0_readRoom_61 : decode cX0_readRoom 61 = .ok (.ior, 1) := by decide +kernel
theorem dX0_readRoom_62 : decode cX0_readRoom 62 = .ok (.putfield 41, 3) := by decide +kernel
theorem dX0_readRoom_65 : decode cX0_readRoom 65 = .ok (.aload_n 0, 1) := by decide +kernel
theorem dX0_readRoom_66 : decode cX0_readRoom 66 = .ok (.getfield 21, 3) := by decide +kernel
theorem dX0_readRoom_69 : decode cX0_readRoom 69 = .ok (.getfield 147, 3) := by decide +kernel
theorem dX0_readRoom_72 : decode cX0_readRoom 72 = .ok (.iload_n 1, 1) := by decide +kernel
theorem dX0_readRoom_73 : decode cX0_readRoom 73 = .ok (.iload_n 2, 1) := by decide +kernel
theorem dX0_readRoom_74 : decode cX0_readRoom 74 = .ok (.iastore, 1) := by decide +kernel
theorem dX0_readRoom_75 : decode cX0_readRoom 75 = .ok (.return_, 1) := by decide +kernel
theorem dX0_readPlan_0 : decode cX0_readPlan 0 = .ok (.aload_n 0, 1) := by decide +kernel
theorem dX0_readPlan_1 : decode cX0_readPlan 1 = .ok (.getfield 44, 3) := by decide +kernel
theorem dX0_readPlan_4 : decode cX0_readPlan 4 = .ok (.ifCond .eq 8, 3) := by decide +kernel
theorem dX0_readPlan_7 : decode cX0_readPlan 7 = .ok (.aload_n 0, 1) := by decide +kernel
theorem dX0_readPlan_8 : decode cX0_readPlan 8 = .ok (.iconst 4, 1) := by decide +kernel
theorem dX0_readPlan_9 : decode cX0_readPlan 9 = .ok (.invokevirtual 82, 3) := by decide +kernel
theorem dX0_readPlan_12 : decode cX0_readPlan 12 = .ok (.aload_n 0, 1) := by decide +kernel
theorem dX0_readPlan_13 : decode cX0_readPlan 13 = .ok (.iconst 1, 1) := by decide +kernel
theorem dX0_readPlan_14 : decode cX0_readPlan 14 = .ok (.putfield 44, 3) := by decide +kernel
theorem dX0_readPlan_17 : decode cX0_readPlan 17 = .ok (.iconst 0, 1) := by decide +kernel
theorem dX0_readPlan_18 : decode cX0_readPlan 18 = .ok (.istore_n 1, 1) := by decide +kernel
theorem dX0_readPlan_19 : decode cX0_readPlan 19 = .ok (.iload_n 1, 1) := by decide +kernel
theorem dX0_readPlan_20 : decode cX0_readPlan 20 = .ok (.bipush 6, 2) := by decide +kernel
theorem dX0_readPlan_22 : decode cX0_readPlan 22 = .ok (.if_icmp .gt 85, 3) := by decide +kernel
theorem dX0_readPlan_25 : decode cX0_readPlan 25 = .ok (.aload_n 0, 1) := by decide +kernel
theorem dX0_readPlan_26 : decode cX0_readPlan 26 = .ok (.invokevirtual 48, 3) := by decide +kernel
theorem dX0_readPlan_29 : decode cX0_readPlan 29 = .ok (.ifCond .eq 78, 3) := by decide +kernel
theorem dX0_readPlan_32 : decode cX0_readPlan 32 = .ok (.aload_n 0, 1) := by decide +kernel
theorem dX0_readPlan_33 : decode cX0_readPlan 33 = .ok (.getfield 12, 3) := by decide +kernel
theorem dX0_readPlan_36 : decode cX0_readPlan 36 = .ok (.getfield 52, 3) := by decide +kernel
theorem dX0_readPlan_39 : decode cX0_readPlan 39 = .ok (.iconst 3, 1) := by decide +kernel
theorem dX0_readPlan_40 : decode cX0_readPlan 40 = .ok (.if_icmp .eq 67, 3) := by decide +kernel
theorem dX0_readPlan_43 : decode cX0_readPlan 43 = .ok (.aload_n 0, 1) := by decide +kernel
theorem dX0_readPlan_44 : decode cX0_readPlan 44 = .ok (.getfield 21, 3) := by decide +kernel
theorem dX0_readPlan_47 : decode cX0_readPlan 47 = .ok (.getfield 150, 3) := by decide +kernel
theorem dX0_readPlan_50 : decode cX0_readPlan 50 = .ok (.bipush 6, 2) := by decide +kernel
theorem dX0_readPlan_52 : decode cX0_readPlan 52 = .ok (.if_icmp .lt 19, 3) := by decide +kernel
theorem dX0_readPlan_55 : decode cX0_readPlan 55 = .ok (.aload_n 0, 1) := by decide +kernel
theorem dX0_readPlan_56 : decode cX0_readPlan 56 = .ok (.getfield 12, 3) := by decide +kernel
theorem dX0_readPlan_59 : decode cX0_readPlan 59 = .ok (.getfield 52, 3) := by decide +kernel
theorem dX0_readPlan_62 : decode cX0_readPlan 62 = .ok (.iconst 2, 1) := by decide +kernel
theorem dX0_readPlan_63 : decode cX0_readPlan 63 = .ok (.if_icmp .ne 8, 3) := by decide +kernel
theorem dX0_readPlan_66 : decode cX0_readPlan 66 = .ok (.aload_n 0, 1) := by decide +kernel
theorem dX0_readPlan_67 : decode cX0_readPlan 67 = .ok (.iconst 5, 1) := by decide +kernel
theorem dX0_readPlan_68 : decode cX0_readPlan 68 = .ok (.invokevirtual 82, 3) := by decide +kernel
theorem dX0_readPlan_71 : decode cX0_readPlan 71 = .ok (.aload_n 0, 1) := by decide +kernel
theorem dX0_readPlan_72 : decode cX0_readPlan 72 = .ok (.iconst 4, 1) := by decide +kernel
theorem dX0_readPlan_73 : decode cX0_readPlan 73 = .ok (.invokevirtual 120, 3) := by decide +kernel
theorem dX0_readPlan_76 : decode cX0_readPlan 76 = .ok (.istore_n 2, 1) := by decide +kernel
theorem dX0_readPlan_77 : decode cX0_readPlan 77 = .ok (.aload_n 0, 1) := by decide +kernel
theorem dX0_readPlan_78 : decode cX0_readPlan 78 = .ok (.bipush 8, 2) := by decide +kernel
theorem dX0_readPlan_80 : decode cX0_readPlan 80 = .ok (.invokevirtual 106, 3) := by decide +kernel
theorem dX0_readPlan_83 : decode cX0_readPlan 83 = .ok (.istore_n 3, 1) := by decide +kernel
theorem dX0_readPlan_84 : decode cX0_readPlan 84 = .ok (.aload_n 0, 1) := by decide +kernel
theorem dX0_readPlan_85 : decode cX0_readPlan 85 = .ok (.getfield 35, 3) := by decide +kernel
theorem dX0_readPlan_88 : decode cX0_readPlan 88 = .ok (.ifCond .ne 13, 3) := by decide +kernel
theorem dX0_readPlan_91 : decode cX0_readPlan 91 = .ok (.aload_n 0, 1) := by decide +kernel
theorem dX0_readPlan_92 : decode cX0_readPlan 92 = .ok (.getfield 21, 3) := by decide +kernel
theorem dX0_readPlan_95 : decode cX0_readPlan 95 = .ok (.iload_n 2, 1) := by decide +kernel
theorem dX0_readPlan_96 : decode cX0_readPlan 96 = .ok (.iload_n 3, 1) := by decide +kernel
theorem dX0_readPlan_97 : decode cX0_readPlan 97 = .ok (.invokevirtual 153, 3) := by decide +kernel
theorem dX0_readPlan_100 : decode cX0_readPlan 100 = .ok (.pop, 1) := by decide +kernel
theorem dX0_readPlan_101 : decode cX0_readPlan 101 = .ok (.iinc 1 1, 3) := by decide +kernel
theorem dX0_readPlan_104 : decode cX0_readPlan 104 = .ok (.goto (-85), 3) := by decide +kernel
theorem dX0_readPlan_107 : decode cX0_readPlan 107 = .ok (.return_, 1) := by decide +kernel
theorem dX0_nextToken_0 : decode cX0_nextToken 0 = .ok (.aload_n 0, 1) := by decide +kernel
theorem dX0_nextToken_1 : decode cX0_nextToken 1 = .ok (.getfield 35, 3) := by decide +kernel
theorem dX0_nextToken_4 : decode cX0_nextToken 4 = .ok (.ifCond .ne 25, 3) := by decide +kernel
theorem dX0_nextToken_7 : decode cX0_nextToken 7 = .ok (.aload_n 0, 1) := by decide +kernel
theorem dX0_nextToken_8 : decode cX0_nextToken 8 = .ok (.getfield 12, 3) := by decide +kernel
theorem dX0_nextToken_11 : decode cX0_nextToken 11 = .ok (.invokevirtual 156, 3) := by decide +kernel
theorem dX0_nextToken_14 : decode cX0_nextToken 14 = .ok (.aload_n 0, 1) := by decide +kernel
theorem dX0_nextToken_15 : decode cX0_nextToken 15 = .ok (.getfield 12, 3) := by decide +kernel
theorem dX0_nextToken_18 : decode cX0_nextToken 18 = .ok (.getfield 52, 3) := by decide +kernel
theorem dX0_nextToken_21 : decode cX0_nextToken 21 = .ok (.ifCond .ne 8, 3) := by decide +kernel
theorem dX0_nextToken_24 : decode cX0_nextToken 24 = .ok (.aload_n 0, 1) := by decide +kernel
theorem dX0_nextToken_25 : decode cX0_nextToken 25 = .ok (.iconst 1, 1) := by decide +kernel
theorem dX0_nextToken_26 : decode cX0_nextToken 26 = .ok (.invokevirtual 82, 3) := by decide +kernel
theorem dX0_nextToken_29 : decode cX0_nextToken 29 = .ok (.aload_n 0, 1) := by decide +kernel
theorem dX0_nextToken_30 : decode cX0_nextToken 30 = .ok (.getfield 35, 3) := by decide +kernel
theorem dX0_nextToken_33 : decode cX0_nextToken 33 = .ok (.ifCond .ne 7, 3) := by decide +kernel
theorem dX0_nextToken_36 : decode cX0_nextToken 36 = .ok (.iconst 1, 1) := by decide +kernel
theorem dX0_nextToken_37 : decode cX0_nextToken 37 = .ok (.goto 4, 3) := by decide +kernel
theorem dX0_nextToken_40 : decode cX0_nextToken 40 = .ok (.iconst 0, 1) := by decide +kernel
theorem dX0_nextToken_41 : decode cX0_nextToken 41 = .ok (.ireturn, 1) := by decide +kernel
theorem dX0_nextNumber_0 : decode cX0_nextNumber 0 = .ok (.aload_n 0, 1) := by decide +kernel
theorem dX0_nextNumber_1 : decode cX0_nextNumber 1 = .ok (.invokevirtual 48, 3) := by decide +kernel
theorem dX0_nextNumber_4 : decode cX0_nextNumber 4 = .ok (.ifCond .eq 11, 3) := by decide +kernel
theorem dX0_nextNumber_7 : decode cX0_nextNumber 7 = .ok (.aload_n 0, 1) := by decide +kernel
theorem dX0_nextNumber_8 : decode cX0_nextNumber 8 = .ok (.iload_n 1, 1) := by decide +kernel
theorem dX0_nextNumber_9 : decode cX0_nextNumber 9 = .ok (.invokevirtual 120, 3) := by decide +kernel
theorem dX0_nextNumber_12 : decode cX0_nextNumber 12 = .ok (.goto 5, 3) := by decide +kernel
theorem dX0_nextNumber_15 : decode cX0_nextNumber 15 = .ok (.bipush (-4), 2) := by decide +kernel
theorem dX0_nextNumber_17 : decode cX0_nextNumber 17 = .ok (.ireturn, 1) := by decide +kernel
theorem dX0_numberHere_0 : decode cX0_numberHere 0 = .ok (.aload_n 0, 1) := by decide +kernel
theorem dX0_numberHere_1 : decode cX0_numberHere 1 = .ok (.getfield 35, 3) := by decide +kernel
theorem dX0_numberHere_4 : decode cX0_numberHere 4 = .ok (.ifCond .ne 19, 3) := by decide +kernel
theorem dX0_numberHere_7 : decode cX0_numberHere 7 = .ok (.aload_n 0, 1) := by decide +kernel
theorem dX0_numberHere_8 : decode cX0_numberHere 8 = .ok (.getfield 12, 3) := by decide +kernel
theorem dX0_numberHere_11 : decode cX0_numberHere 11 = .ok (.getfield 52, 3) := by decide +kernel
theorem dX0_numberHere_14 : decode cX0_numberHere 14 = .ok (.iconst 2, 1) := by decide +kernel
theorem dX0_numberHere_15 : decode cX0_numberHere 15 = .ok (.if_icmp .eq 8, 3) := by decide +kernel
theorem dX0_numberHere_18 : decode cX0_numberHere 18 = .ok (.aload_n 0, 1) := by decide +kernel
theorem dX0_numberHere_19 : decode cX0_numberHere 19 = .ok (.iconst 2, 1) := by decide +kernel
theorem dX0_numberHere_20 : decode cX0_numberHere 20 = .ok (.invokevirtual 82, 3) := by decide +kernel
theorem dX0_numberHere_23 : decode cX0_numberHere 23 = .ok (.aload_n 0, 1) := by decide +kernel
theorem dX0_numberHere_24 : decode cX0_numberHere 24 = .ok (.getfield 35, 3) := by decide +kernel
theorem dX0_numberHere_27 : decode cX0_numberHere 27 = .ok (.ifCond .ne 19, 3) := by decide +kernel
theorem dX0_numberHere_30 : decode cX0_numberHere 30 = .ok (.aload_n 0, 1) := by decide +kernel
theorem dX0_numberHere_31 : decode cX0_numberHere 31 = .ok (.getfield 12, 3) := by decide +kernel
theorem dX0_numberHere_34 : decode cX0_numberHere 34 = .ok (.getfield 159, 3) := by decide +kernel
theorem dX0_numberHere_37 : decode cX0_numberHere 37 = .ok (.iload_n 1, 1) := by decide +kernel
theorem dX0_numberHere_38 : decode cX0_numberHere 38 = .ok (.if_icmp .le 8, 3) := by decide +kernel
theorem dX0_numberHere_41 : decode cX0_numberHere 41 = .ok (.aload_n 0, 1) := by decide +kernel
theorem dX0_numberHere_42 : decode cX0_numberHere 42 = .ok (.iconst 3, 1) := by decide +kernel
theorem dX0_numberHere_43 : decode cX0_numberHere 43 = .ok (.invokevirtual 82, 3) := by decide +kernel
theorem dX0_numberHere_46 : decode cX0_numberHere 46 = .ok (.aload_n 0, 1) := by decide +kernel
theorem dX0_numberHere_47 : decode cX0_numberHere 47 = .ok (.getfield 35, 3) := by decide +kernel
theorem dX0_numberHere_50 : decode cX0_numberHere 50 = .ok (.ifCond .ne 13, 3) := by decide +kernel
theorem dX0_numberHere_53 : decode cX0_numberHere 53 = .ok (.aload_n 0, 1) := by decide +kernel
theorem dX0_numberHere_54 : decode cX0_numberHere 54 = .ok (.getfield 12, 3) := by decide +kernel
theorem dX0_numberHere_57 : decode cX0_numberHere 57 = .ok (.getfield 159, 3) := by decide +kernel
theorem dX0_numberHere_60 : decode cX0_numberHere 60 = .ok (.goto 5, 3) := by decide +kernel
theorem dX0_numberHere_63 : decode cX0_numberHere 63 = .ok (.bipush (-4), 2) := by decide +kernel
theorem dX0_numberHere_65 : decode cX0_numberHere 65 = .ok (.ireturn, 1) := by decide +kernel
theorem dX0_takeSign_0 : decode cX0_takeSign 0 = .ok (.aload_n 0, 1) := by decide +kernel
theorem dX0_takeSign_1 : decode cX0_takeSign 1 = .ok (.getfield 35, 3) := by decide +kernel
theorem dX0_takeSign_4 : decode cX0_takeSign 4 = .ok (.ifCond .ne 19, 3) := by decide +kernel
theorem dX0_takeSign_7 : decode cX0_takeSign 7 = .ok (.aload_n 0, 1) := by decide +kernel
theorem dX0_takeSign_8 : decode cX0_takeSign 8 = .ok (.getfield 12, 3) := by decide +kernel
theorem dX0_takeSign_11 : decode cX0_takeSign 11 = .ok (.getfield 52, 3) := by decide +kernel
theorem dX0_takeSign_14 : decode cX0_takeSign 14 = .ok (.iconst 3, 1) := by decide +kernel
theorem dX0_takeSign_15 : decode cX0_takeSign 15 = .ok (.if_icmp .eq 8, 3) := by decide +kernel
theorem dX0_takeSign_18 : decode cX0_takeSign 18 = .ok (.aload_n 0, 1) := by decide +kernel
theorem dX0_takeSign_19 : decode cX0_takeSign 19 = .ok (.iconst 2, 1) := by decide +kernel
theorem dX0_takeSign_20 : decode cX0_takeSign 20 = .ok (.invokevirtual 82, 3) := by decide +kernel
theorem dX0_takeSign_23 : decode cX0_takeSign 23 = .ok (.return_, 1) := by decide +kernel
theorem dX0_refuse_0 : decode cX0_refuse 0 = .ok (.aload_n 0, 1) := by decide +kernel
theorem dX0_refuse_1 : decode cX0_refuse 1 = .ok (.getfield 35, 3) := by decide +kernel
theorem dX0_refuse_4 : decode cX0_refuse 4 = .ok (.ifCond .ne 19, 3) := by decide +kernel
theorem dX0_refuse_7 : decode cX0_refuse 7 = .ok (.aload_n 0, 1) := by decide +kernel
theorem dX0_refuse_8 : decode cX0_refuse 8 = .ok (.iload_n 1, 1) := by decide +kernel
theorem dX0_refuse_9 : decode cX0_refuse 9 = .ok (.putfield 35, 3) := by decide +kernel
theorem dX0_refuse_12 : decode cX0_refuse 12 = .ok (.aload_n 0, 1) := by decide +kernel
theorem dX0_refuse_13 : decode cX0_refuse 13 = .ok (.aload_n 0, 1) := by decide +kernel
theorem dX0_refuse_14 : decode cX0_refuse 14 = .ok (.getfield 12, 3) := by decide +kernel
theorem dX0_refuse_17 : decode cX0_refuse 17 = .ok (.getfield 162, 3) := by decide +kernel
theorem dX0_refuse_20 : decode cX0_refuse 20 = .ok (.putfield 38, 3) := by decide +kernel
theorem dX0_refuse_23 : decode cX0_refuse 23 = .ok (.return_, 1) := by decide +kernel
theorem dX1_init_0 : decode cX1_init 0 = .ok (.aload_n 0, 1) := by decide +kernel
theorem dX1_init_1 : decode cX1_init 1 = .ok (.invokespecial 3, 3) := by decide +kernel
theorem dX1_init_4 : decode cX1_init 4 = .ok (.aload_n 0, 1) := by decide +kernel
theorem dX1_init_5 : decode cX1_init 5 = .ok (.bipush 40, 2) := by decide +kernel
theorem dX1_init_7 : decode cX1_init 7 = .ok (.newarray .int, 2) := by decide +kernel
theorem dX1_init_9 : decode cX1_init 9 = .ok (.putfield 9, 3) := by decide +kernel
theorem dX1_init_12 : decode cX1_init 12 = .ok (.aload_n 0, 1) := by decide +kernel
theorem dX1_init_13 : decode cX1_init 13 = .ok (.iconst (-1), 1) := by decide +kernel
theorem dX1_init_14 : decode cX1_init 14 = .ok (.putfield 15, 3) := by decide +kernel
theorem dX1_init_17 : decode cX1_init 17 = .ok (.return_, 1) := by decide +kernel
theorem dX1_renew_0 : decode cX1_renew 0 = .ok (.aload_n 0, 1) := by decide +kernel
theorem dX1_renew_1 : decode cX1_renew 1 = .ok (.iload_n 1, 1) := by decide +kernel
theorem dX1_renew_2 : decode cX1_renew 2 = .ok (.putfield 19, 3) := by decide +kernel
theorem dX1_renew_5 : decode cX1_renew 5 = .ok (.aload_n 0, 1) := by decide +kernel
theorem dX1_renew_6 : decode cX1_renew 6 = .ok (.iload_n 2, 1) := by decide +kernel
theorem dX1_renew_7 : decode cX1_renew 7 = .ok (.putfield 15, 3) := by decide +kernel
theorem dX1_renew_10 : decode cX1_renew 10 = .ok (.aload_n 0, 1) := by decide +kernel
theorem dX1_renew_11 : decode cX1_renew 11 = .ok (.getfield 9, 3) := by decide +kernel
theorem dX1_renew_14 : decode cX1_renew 14 = .ok (.iconst 0, 1) := by decide +kernel
theorem dX1_renew_15 : decode cX1_renew 15 = .ok (.invokestatic 22, 3) := by decide +kernel
theorem dX1_renew_18 : decode cX1_renew 18 = .ok (.return_, 1) := by decide +kernel
theorem dX1_faultAt_0 : decode cX1_faultAt 0 = .ok (.aload_n 0, 1) := by decide +kernel
theorem dX1_faultAt_1 : decode cX1_faultAt 1 = .ok (.getfield 15, 3) := by decide +kernel
theorem dX1_faultAt_4 : decode cX1_faultAt 4 = .ok (.ifCond .ge 5, 3) := by decide +kernel
theorem dX1_faultAt_7 : decode cX1_faultAt 7 = .ok (.iconst 1, 1) := by decide +kernel
theorem dX1_faultAt_8 : decode cX1_faultAt 8 = .ok (.ireturn, 1) := by decide +kernel
theorem dX1_faultAt_9 : decode cX1_faultAt 9 = .ok (.aload_n 0, 1) := by decide +kernel
theorem dX1_faultAt_10 : decode cX1_faultAt 10 = .ok (.getfield 19, 3) := by decide +kernel
theorem dX1_faultAt_13 : decode cX1_faultAt 13 = .ok (.iload_n 1, 1) := by decide +kernel
theorem dX1_faultAt_14 : decode cX1_faultAt 14 = .ok (.if_icmp .eq 5, 3) := by decide +kernel
theorem dX1_faultAt_17 : decode cX1_faultAt 17 = .ok (.iconst 3, 1) := by decide +kernel
theorem dX1_faultAt_18 : decode cX1_faultAt 18 = .ok (.ireturn, 1) := by decide +kernel
theorem dX1_faultAt_19 : decode cX1_faultAt 19 = .ok (.lload_n 2, 1) := by decide +kernel
theorem dX1_faultAt_20 : decode cX1_faultAt 20 = .ok (.lconst 0, 1) := by decide +kernel
theorem dX1_faultAt_21 : decode cX1_faultAt 21 = .ok (.lcmp, 1) := by decide +kernel
theorem dX1_faultAt_22 : decode cX1_faultAt 22 = .ok (.ifCond .lt 21, 3) := by decide +kernel
theorem dX1_faultAt_25 : decode cX1_faultAt 25 = .ok (.lload_n 2, 1) := by decide +kernel
theorem dX1_faultAt_26 : decode cX1_faultAt 26 = .ok (.aload_n 0, 1) := by decide +kernel
theorem dX1_faultAt_27 : decode cX1_faultAt 27 = .ok (.getfield 15, 3) := by decide +kernel
theorem dX1_faultAt_30 : decode cX1_faultAt 30 = .ok (.i2l, 1) := by decide +kernel
theorem dX1_faultAt_31 : decode cX1_faultAt 31 = .ok (.lcmp, 1) := by decide +kernel
theorem dX1_faultAt_32 : decode cX1_faultAt 32 = .ok (.ifCond .ge 11, 3) := by decide +kernel
theorem dX1_faultAt_35 : decode cX1_faultAt 35 = .ok (.lload_n 2, 1) := by decide +kernel
theorem dX1_faultAt_36 : decode cX1_faultAt 36 = .ok (.ldc2_w 28, 3) := by decide +kernel
theorem dX1_faultAt_39 : decode cX1_faultAt 39 = .ok (.lcmp, 1) := by decide +kernel
theorem dX1_faultAt_40 : decode cX1_faultAt 40 = .ok (.ifCond .lt 7, 3) := by decide +kernel
theorem dX1_faultAt_43 : decode cX1_faultAt 43 = .ok (.iconst 2, 1) := by decide +kernel
theorem dX1_faultAt_44 : decode cX1_faultAt 44 = .ok (.goto 4, 3) := by decide +kernel
theorem dX1_faultAt_47 : decode cX1_faultAt 47 = .ok (.iconst 0, 1) := by decide +kernel
theorem dX1_faultAt_48 : decode cX1_faultAt 48 = .ok (.ireturn, 1) := by decide +kernel
theorem dX1_faultAtTwo_0 : decode cX1_faultAtTwo 0 = .ok (.iload_n 2, 1) := by decide +kernel
theorem dX1_faultAtTwo_1 : decode cX1_faultAtTwo 1 = .ok (.i2l, 1) := by decide +kernel
theorem dX1_faultAtTwo_2 : decode cX1_faultAtTwo 2 = .ok (.ldc2_w 30, 3) := by decide +kernel
theorem dX1_faultAtTwo_5 : decode cX1_faultAtTwo 5 = .ok (.iload_n 3, 1) := by decide +kernel
theorem dX1_faultAtTwo_6 : decode cX1_faultAtTwo 6 = .ok (.i2l, 1) := by decide +kernel
theorem dX1_faultAtTwo_7 : decode cX1_faultAtTwo 7 = .ok (.lmul, 1) := by decide +kernel
theorem dX1_faultAtTwo_8 : decode cX1_faultAtTwo 8 = .ok (.ladd, 1) := by decide +kernel
theorem dX1_faultAtTwo_9 : decode cX1_faultAtTwo 9 = .ok (.lstore 4, 2) := by decide +kernel
theorem dX1_faultAtTwo_11 : decode cX1_faultAtTwo 11 = .ok (.aload_n 0, 1) := by decide +kernel
theorem dX1_faultAtTwo_12 : decode cX1_faultAtTwo 12 = .ok (.iload_n 1, 1) := by decide +kernel
theorem dX1_faultAtTwo_13 : decode cX1_faultAtTwo 13 = .ok (.lload 4, 2) := by decide +kernel
theorem dX1_faultAtTwo_15 : decode cX1_faultAtTwo 15 = .ok (.invokevirtual 32, 3) := by decide +kernel
theorem dX1_faultAtTwo_18 : decode cX1_faultAtTwo 18 = .ok (.istore 6, 2) := by decide +kernel
theorem dX1_faultAtTwo_20 : decode cX1_faultAtTwo 20 = .ok (.iload 6, 2) := by decide +kernel
theorem dX1_faultAtTwo_22 : decode cX1_faultAtTwo 22 = .ok (.ifCond .eq 8, 3) := by decide +kernel
theorem dX1_faultAtTwo_25 : decode cX1_faultAtTwo 25 = .ok (.iload 6, 2) := by decide +kernel
theorem dX1_faultAtTwo_27 : decode cX1_faultAtTwo 27 = .ok (.goto 12, 3) := by decide +kernel
theorem dX1_faultAtTwo_30 : decode cX1_faultAtTwo 30 = .ok (.aload_n 0, 1) := by decide +kernel
theorem dX1_faultAtTwo_31 : decode cX1_faultAtTwo 31 = .ok (.iload_n 1, 1) := by decide +kernel
theorem dX1_faultAtTwo_32 : decode cX1_faultAtTwo 32 = .ok (.lload 4, 2) := by decide +kernel
theorem dX1_faultAtTwo_34 : decode cX1_faultAtTwo 34 = .ok (.lconst 1, 1) := by decide +kernel
theorem dX1_faultAtTwo_35 : decode cX1_faultAtTwo 35 = .ok (.ladd, 1) := by decide +kernel
theorem dX1_faultAtTwo_36 : decode cX1_faultAtTwo 36 = .ok (.invokevirtual 32, 3) := by decide +kernel
theorem dX1_faultAtTwo_39 : decode cX1_faultAtTwo 39 = .ok (.ireturn, 1) := by decide +kernel
theorem dX2_init_0 : decode cX2_init 0 = .ok (.aload_n 0, 1) := by decide +kernel
theorem dX2_init_1 : decode cX2_init 1 = .ok (.invokespecial 3, 3) := by decide +kernel
theorem dX2_init_4 : decode cX2_init 4 = .ok (.aload_n 0, 1) := by decide +kernel
theorem dX2_init_5 : decode cX2_init 5 = .ok (.bipush 6, 2) := by decide +kernel
theorem dX2_init_7 : decode cX2_init 7 = .ok (.newarray .int, 2) := by decide +kernel
theorem dX2_init_9 : decode cX2_init 9 = .ok (.putfield 9, 3) := by decide +kernel
theorem dX2_init_12 : decode cX2_init 12 = .ok (.aload_n 0, 1) := by decide +kernel
theorem dX2_init_13 : decode cX2_init 13 = .ok (.bipush 6, 2) := by decide +kernel
theorem dX2_init_15 : decode cX2_init 15 = .ok (.newarray .int, 2) := by decide +kernel
theorem dX2_init_17 : decode cX2_init 17 = .ok (.putfield 15, 3) := by decide +kernel
theorem dX2_init_20 : decode cX2_init 20 = .ok (.aload_n 0, 1) := by decide +kernel
theorem dX2_init_21 : decode cX2_init 21 = .ok (.bipush 6, 2) := by decide +kernel
theorem dX2_init_23 : decode cX2_init 23 = .ok (.newarray .boolean, 2) := by decide +kernel
theorem dX2_init_25 : decode cX2_init 25 = .ok (.putfield 18, 3) := by decide +kernel
theorem dX2_init_28 : decode cX2_init 28 = .ok (.return_, 1) := by decide +kernel
theorem dX2_note_0 : decode cX2_note 0 = .ok (.aload_n 0, 1) := by decide +kernel
theorem dX2_note_1 : decode cX2_note 1 = .ok (.getfield 22, 3) := by decide +kernel
theorem dX2_note_4 : decode cX2_note 4 = .ok (.ifCond .lt 12, 3) := by decide +kernel
theorem dX2_note_7 : decode cX2_note 7 = .ok (.aload_n 0, 1) := by decide +kernel
theorem dX2_note_8 : decode cX2_note 8 = .ok (.getfield 22, 3) := by decide +kernel
theorem dX2_note_11 : decode cX2_note 11 = .ok (.bipush 6, 2) := by decide +kernel
theorem dX2_note_13 : decode cX2_note 13 = .ok (.if_icmp .lt 5, 3) := by decide +kernel
theorem dX2_note_16 : decode cX2_note 16 = .ok (.iconst 0, 1) := by decide +kernel
theorem dX2_note_17 : decode cX2_note 17 = .ok (.ireturn, 1) := by decide +kernel
theorem dX2_note_18 : decode cX2_note 18 = .ok (.aload_n 0, 1) := by decide +kernel
theorem dX2_note_19 : decode cX2_note 19 = .ok (.getfield 9, 3) := by decide +kernel
theorem dX2_note_22 : decode cX2_note 22 = .ok (.aload_n 0, 1) := by decide +kernel
theorem dX2_note_23 : decode cX2_note 23 = .ok (.getfield 22, 3) := by decide +kernel
theorem dX2_note_26 : decode cX2_note 26 = .ok (.iload_n 1, 1) := by decide +kernel
theorem dX2_note_27 : decode cX2_note 27 = .ok (.iastore, 1) := by decide +kernel
theorem dX2_note_28 : decode cX2_note 28 = .ok (.aload_n 0, 1) := by decide +kernel
theorem dX2_note_29 : decode cX2_note 29 = .ok (.getfield 15, 3) := by decide +kernel
theorem dX2_note_32 : decode cX2_note 32 = .ok (.aload_n 0, 1) := by decide +kernel
theorem dX2_note_33 : decode cX2_note 33 = .ok (.getfield 22, 3) := by decide +kernel
theorem dX2_note_36 : decode cX2_note 36 = .ok (.iload_n 2, 1) := by decide +kernel
theorem dX2_note_37 : decode cX2_note 37 = .ok (.iastore, 1) := by decide +kernel
theorem dX2_note_38 : decode cX2_note 38 = .ok (.aload_n 0, 1) := by decide +kernel
theorem dX2_note_39 : decode cX2_note 39 = .ok (.getfield 18, 3) := by decide +kernel
theorem dX2_note_42 : decode cX2_note 42 = .ok (.aload_n 0, 1) := by decide +kernel
theorem dX2_note_43 : decode cX2_note 43 = .ok (.getfield 22, 3) := by decide +kernel
theorem dX2_note_46 : decode cX2_note 46 = .ok (.iload_n 3, 1) := by decide +kernel
theorem dX2_note_47 : decode cX2_note 47 = .ok (.bastore, 1) := by decide +kernel
theorem dX2_note_48 : decode cX2_note 48 = .ok (.aload_n 0, 1) := by decide +kernel
theorem dX2_note_49 : decode cX2_note 49 = .ok (.dup, 1) := by decide +kernel
theorem dX2_note_50 : decode cX2_note 50 = .ok (.getfield 22, 3) := by decide +kernel
theorem dX2_note_53 : decode cX2_note 53 = .ok (.iconst 1, 1) := by decide +kernel
theorem dX2_note_54 : decode cX2_note 54 = .ok (.iadd, 1) := by decide +kernel
theorem dX2_note_55 : decode cX2_note 55 = .ok (.putfield 22, 3) := by decide +kernel
theorem dX2_note_58 : decode cX2_note 58 = .ok (.iconst 1, 1) := by decide +kernel
theorem dX2_note_59 : decode cX2_note 59 = .ok (.ireturn, 1) := by decide +kernel
theorem dX2_allHoldIn_0 : decode cX2_allHoldIn 0 = .ok (.iconst 0, 1) := by decide +kernel
theorem dX2_allHoldIn_1 : decode cX2_allHoldIn 1 = .ok (.istore_n 2, 1) := by decide +kernel
theorem dX2_allHoldIn_2 : decode cX2_allHoldIn 2 = .ok (.iload_n 2, 1) := by decide +kernel
theorem dX2_allHoldIn_3 : decode cX2_allHoldIn 3 = .ok (.aload_n 0, 1) := by decide +kernel
theorem dX2_allHoldIn_4 : decode cX2_allHoldIn 4 = .ok (.getfield 22, 3) := by decide +kernel
theorem dX2_allHoldIn_7 : decode cX2_allHoldIn 7 = .ok (.if_icmp .ge 58, 3) := by decide +kernel
theorem dX2_allHoldIn_10 : decode cX2_allHoldIn 10 = .ok (.iload_n 2, 1) := by decide +kernel
theorem dX2_allHoldIn_11 : decode cX2_allHoldIn 11 = .ok (.bipush 6, 2) := by decide +kernel
theorem dX2_allHoldIn_13 : decode cX2_allHoldIn 13 = .ok (.if_icmp .ge 52, 3) := by decide +kernel
theorem dX2_allHoldIn_16 : decode cX2_allHoldIn 16 = .ok (.aload_n 1, 1) := by decide +kernel
theorem dX2_allHoldIn_17 : decode cX2_allHoldIn 17 = .ok (.aload_n 0, 1) := by decide +kernel
theorem dX2_allHoldIn_18 : decode cX2_allHoldIn 18 = .ok (.getfield 9, 3) := by decide +kernel
theorem dX2_allHoldIn_21 : decode cX2_allHoldIn 21 = .ok (.iload_n 2, 1) := by decide +kernel
theorem dX2_allHoldIn_22 : decode cX2_allHoldIn 22 = .ok (.iaload, 1) := by decide +kernel
theorem dX2_allHoldIn_23 : decode cX2_allHoldIn 23 = .ok (.invokevirtual 26, 3) := by decide +kernel
theorem dX2_allHoldIn_26 : decode cX2_allHoldIn 26 = .ok (.ifCond .eq 33, 3) := by decide +kernel
theorem dX2_allHoldIn_29 : decode cX2_allHoldIn 29 = .ok (.aload_n 1, 1) := by decide +kernel
theorem dX2_allHoldIn_30 : decode cX2_allHoldIn 30 = .ok (.aload_n 0, 1) := by decide +kernel
theorem dX2_allHoldIn_31 : decode cX2_allHoldIn 31 = .ok (.getfield 9, 3) := by decide +kernel
theorem dX2_allHoldIn_34 : decode cX2_allHoldIn 34 = .ok (.iload_n 2, 1) := by decide +kernel
theorem dX2_allHoldIn_35 : decode cX2_allHoldIn 35 = .ok (.iaload, 1) := by decide +kernel
theorem dX2_allHoldIn_36 : decode cX2_allHoldIn 36 = .ok (.invokevirtual 32, 3) := by decide +kernel
theorem dX2_allHoldIn_39 : decode cX2_allHoldIn 39 = .ok (.aload_n 0, 1) := by decide +kernel
theorem dX2_allHoldIn_40 : decode cX2_allHoldIn 40 = .ok (.getfield 15, 3) := by decide +kernel
theorem dX2_allHoldIn_43 : decode cX2_allHoldIn 43 = .ok (.iload_n 2, 1) := by decide +kernel
theorem dX2_allHoldIn_44 : decode cX2_allHoldIn 44 = .ok (.iaload, 1) := by decide +kernel
theorem dX2_allHoldIn_45 : decode cX2_allHoldIn 45 = .ok (.invokestatic 36, 3) := by decide +kernel
theorem dX2_allHoldIn_48 : decode cX2_allHoldIn 48 = .ok (.aload_n 0, 1) := by decide +kernel
theorem dX2_allHoldIn_49 : decode cX2_allHoldIn 49 = .ok (.getfield 18, 3) := by decide +kernel
theorem dX2_allHoldIn_52 : decode cX2_allHoldIn 52 = .ok (.iload_n 2, 1) := by decide +kernel
theorem dX2_allHoldIn_53 : decode cX2_allHoldIn 53 = .ok (.baload, 1) := by decide +kernel
theorem dX2_allHoldIn_54 : decode cX2_allHoldIn 54 = .ok (.if_icmp .eq 5, 3) := by decide +kernel
theorem dX2_allHoldIn_57 : decode cX2_allHoldIn 57 = .ok (.iconst 0, 1) := by decide +kernel
theorem dX2_allHoldIn_58 : decode cX2_allHoldIn 58 = .ok (.ireturn, 1) := by decide +kernel
theorem dX2_allHoldIn_59 : decode cX2_allHoldIn 59 = .ok (.iinc 2 1, 3) := by decide +kernel
theorem dX2_allHoldIn_62 : decode cX2_allHoldIn 62 = .ok (.goto (-60), 3) := by decide +kernel
theorem dX2_allHoldIn_65 : decode cX2_allHoldIn 65 = .ok (.iconst 1, 1) := by decide +kernel
theorem dX2_allHoldIn_66 : decode cX2_allHoldIn 66 = .ok (.ireturn, 1) := by decide +kernel
theorem dX3_init_0 : decode cX3_init 0 = .ok (.aload_n 0, 1) := by decide +kernel
theorem dX3_init_1 : decode cX3_init 1 = .ok (.invokespecial 3, 3) := by decide +kernel
theorem dX3_init_4 : decode cX3_init 4 = .ok (.aload_n 0, 1) := by decide +kernel
theorem dX3_init_5 : decode cX3_init 5 = .ok (.sipush 160, 3) := by decide +kernel
theorem dX3_init_8 : decode cX3_init 8 = .ok (.newarray .byte, 2) := by decide +kernel
theorem dX3_init_10 : decode cX3_init 10 = .ok (.putfield 9, 3) := by decide +kernel
theorem dX3_init_13 : decode cX3_init 13 = .ok (.return_, 1) := by decide +kernel
theorem dX3_append_0 : decode cX3_append 0 = .ok (.aload_n 0, 1) := by decide +kernel
theorem dX3_append_1 : decode cX3_append 1 = .ok (.getfield 15, 3) := by decide +kernel
theorem dX3_append_4 : decode cX3_append 4 = .ok (.ifCond .lt 13, 3) := by decide +kernel
theorem dX3_append_7 : decode cX3_append 7 = .ok (.aload_n 0, 1) := by decide +kernel
theorem dX3_append_8 : decode cX3_append 8 = .ok (.getfield 15, 3) := by decide +kernel
theorem dX3_append_11 : decode cX3_append 11 = .ok (.sipush 160, 3) := by decide +kernel
theorem dX3_append_14 : decode cX3_append 14 = .ok (.if_icmp .lt 5, 3) := by decide +kernel
theorem dX3_append_17 : decode cX3_append 17 = .ok (.iconst 0, 1) := by decide +kernel
theorem dX3_append_18 : decode cX3_append 18 = .ok (.ireturn, 1) := by decide +kernel
theorem dX3_append_19 : decode cX3_append 19 = .ok (.aload_n 0, 1) := by decide +kernel
theorem dX3_append_20 : decode cX3_append 20 = .ok (.getfield 9, 3) := by decide +kernel
theorem dX3_append_23 : decode cX3_append 23 = .ok (.aload_n 0, 1) := by decide +kernel
theorem dX3_append_24 : decode cX3_append 24 = .ok (.getfield 15, 3) := by decide +kernel
theorem dX3_append_27 : decode cX3_append 27 = .ok (.iload_n 1, 1) := by decide +kernel
theorem dX3_append_28 : decode cX3_append 28 = .ok (.i2b, 1) := by decide +kernel
theorem dX3_append_29 : decode cX3_append 29 = .ok (.bastore, 1) := by decide +kernel
theorem dX3_append_30 : decode cX3_append 30 = .ok (.aload_n 0, 1) := by decide +kernel
theorem dX3_append_31 : decode cX3_append 31 = .ok (.dup, 1) := by decide +kernel
theorem dX3_append_32 : decode cX3_append 32 = .ok (.getfield 15, 3) := by decide +kernel
theorem dX3_append_35 : decode cX3_append 35 = .ok (.iconst 1, 1) := by decide +kernel
theorem dX3_append_36 : decode cX3_append 36 = .ok (.iadd, 1) := by decide +kernel
theorem dX3_append_37 : decode cX3_append 37 = .ok (.putfield 15, 3) := by decide +kernel
theorem dX3_append_40 : decode cX3_append 40 = .ok (.iconst 1, 1) := by decide +kernel
theorem dX3_append_41 : decode cX3_append 41 = .ok (.ireturn, 1) := by decide +kernel
theorem dX3_rewind_0 : decode cX3_rewind 0 = .ok (.aload_n 0, 1) := by decide +kernel
theorem dX3_rewind_1 : decode cX3_rewind 1 = .ok (.iconst 0, 1) := by decide +kernel
theorem dX3_rewind_2 : decode cX3_rewind 2 = .ok (.putfield 19, 3) := by decide +kernel
theorem dX3_rewind_5 : decode cX3_rewind 5 = .ok (.return_, 1) := by decide +kernel
theorem dX3_readToken_0 : decode cX3_readToken 0 = .ok (.aload_n 0, 1) := by decide +kernel
theorem dX3_readToken_1 : decode cX3_readToken 1 = .ok (.getfield 19, 3) := by decide +kernel
theorem dX3_readToken_4 : decode cX3_readToken 4 = .ok (.aload_n 0, 1) := by decide +kernel
theorem dX3_readToken_5 : decode cX3_readToken 5 = .ok (.getfield 15, 3) := by decide +kernel
theorem dX3_readToken_8 : decode cX3_readToken 8 = .ok (.if_icmp .ge 29, 3) := by decide +kernel
theorem dX3_readToken_11 : decode cX3_readToken 11 = .ok (.aload_n 0, 1) := by decide +kernel
theorem dX3_readToken_12 : decode cX3_readToken 12 = .ok (.aload_n 0, 1) := by decide +kernel
theorem dX3_readToken_13 : decode cX3_readToken 13 = .ok (.getfield 19, 3) := by decide +kernel
theorem dX3_readToken_16 : decode cX3_readToken 16 = .ok (.invokevirtual 22, 3) := by decide +kernel
theorem dX3_readToken_19 : decode cX3_readToken 19 = .ok (.bipush 32, 2) := by decide +kernel
theorem dX3_readToken_21 : decode cX3_readToken 21 = .ok (.if_icmp .ne 16, 3) := by decide +kernel
theorem dX3_readToken_24 : decode cX3_readToken 24 = .ok (.aload_n 0, 1) := by decide +kernel
theorem dX3_readToken_25 : decode cX3_readToken 25 = .ok (.dup, 1) := by decide +kernel
theorem dX3_readToken_26 : decode cX3_readToken 26 = .ok (.getfield 19, 3) := by decide +kernel
theorem dX3_readToken_29 : decode cX3_readToken 29 = .ok (.iconst 1, 1) := by decide +kernel
theorem dX3_readToken_30 : decode cX3_readToken 30 = .ok (.iadd, 1) := by decide +kernel
theorem dX3_readToken_31 : decode cX3_readToken 31 = .ok (.putfield 19, 3) := by decide +kernel
theorem dX3_readToken_34 : decode cX3_readToken 34 = .ok (.goto (-34), 3) := by decide +kernel
theorem dX3_readToken_37 : decode cX3_readToken 37 = .ok (.aload_n 0, 1) := by decide +kernel
theorem dX3_readToken_38 : decode cX3_readToken 38 = .ok (.aload_n 0, 1) := by decide +kernel
theorem dX3_readToken_39 : decode cX3_readToken 39 = .ok (.getfield 19, 3) := by decide +kernel
theorem dX3_readToken_42 : decode cX3_readToken 42 = .ok (.putfield 26, 3) := by decide +kernel
theorem dX3_readToken_45 : decode cX3_readToken 45 = .ok (.aload_n 0, 1) := by decide +kernel
theorem dX3_readToken_46 : decode cX3_readToken 46 = .ok (.iconst 0, 1) := by decide +kernel
theorem dX3_readToken_47 : decode cX3_readToken 47 = .ok (.putfield 29, 3) := by decide +kernel
theorem dX3_readToken_50 : decode cX3_readToken 50 = .ok (.aload_n 0, 1) := by decide +kernel
theorem dX3_readToken_51 : decode cX3_readToken 51 = .ok (.aload_n 0, 1) := by decide +kernel
theorem dX3_readToken_52 : decode cX3_readToken 52 = .ok (.aload_n 0, 1) := by decide +kernel
theorem dX3_readToken_53 : decode cX3_readToken 53 = .ok (.getfield 19, 3) := by decide +kernel
theorem dX3_readToken_56 : decode cX3_readToken 56 = .ok (.invokevirtual 22, 3) := by decide +kernel
theorem dX3_readToken_59 : decode cX3_readToken 59 = .ok (.invokestatic 32, 3) := by decide +kernel
theorem dX3_readToken_62 : decode cX3_readToken 62 = .ok (.putfield 35, 3) := by decide +kernel
theorem dX3_readToken_65 : decode cX3_readToken 65 = .ok (.aload_n 0, 1) := by decide +kernel
theorem dX3_readToken_66 : decode cX3_readToken 66 = .ok (.getfield 35, 3) := by decide +kernel
theorem dX3_readToken_69 : decode cX3_readToken 69 = .ok (.iconst 3, 1) := by decide +kernel
theorem dX3_readToken_70 : decode cX3_readToken 70 = .ok (.if_icmp .ne 13, 3) := by decide +kernel
theorem dX3_readToken_73 : decode cX3_readToken 73 = .ok (.aload_n 0, 1) := by decide +kernel
theorem dX3_readToken_74 : decode cX3_readToken 74 = .ok (.dup, 1) := by decide +kernel
theorem dX3_readToken_75 : decode cX3_readToken 75 = .ok (.getfield 19, 3) := by decide +kernel
theorem dX3_readToken_78 : decode cX3_readToken 78 = .ok (.iconst 1, 1) := by decide +kernel
theorem dX3_readToken_79 : decode cX3_readToken 79 = .ok (.iadd, 1) := by decide +kernel
theorem dX3_readToken_80 : decode cX3_readToken 80 = .ok (.putfield 19, 3) := by decide +kernel
theorem dX3_readToken_83 : decode cX3_readToken 83 = .ok (.aload_n 0, 1) := by decide +kernel
theorem dX3_readToken_84 : decode cX3_readToken 84 = .ok (.getfield 35, 3) := by decide +kernel
theorem dX3_readToken_87 : decode cX3_readToken 87 = .ok (.iconst 1, 1) := by decide +kernel
theorem dX3_readToken_88 : decode cX3_readToken 88 = .ok (.if_icmp .eq 11, 3) := by decide +kernel
theorem dX3_readToken_91 : decode cX3_readToken 91 = .ok (.aload_n 0, 1) := by decide +kernel
theorem dX3_readToken_92 : decode cX3_readToken 92 = .ok (.getfield 35, 3) := by decide +kernel
theorem dX3_readToken_95 : decode cX3_readToken 95 = .ok (.iconst 2, 1) := by decide +kernel
theorem dX3_readToken_96 : decode cX3_readToken 96 = .ok (.if_icmp .ne 7, 3) := by decide +kernel
theorem dX3_readToken_99 : decode cX3_readToken 99 = .ok (.iconst 1, 1) := by decide +kernel
theorem dX3_readToken_100 : decode cX3_readToken 100 = .ok (.goto 4, 3) := by decide +kernel
theorem dX3_readToken_103 : decode cX3_readToken 103 = .ok (.iconst 0, 1) := by decide +kernel
theorem dX3_readToken_104 : decode cX3_readToken 104 = .ok (.istore_n 1, 1) := by decide +kernel
theorem dX3_readToken_105 : decode cX3_readToken 105 = .ok (.iload_n 1, 1) := by decide +kernel
theorem dX3_readToken_106 : decode cX3_readToken 106 = .ok (.ifCond .eq 68, 3) := by decide +kernel
theorem dX3_readToken_109 : decode cX3_readToken 109 = .ok (.aload_n 0, 1) := by decide +kernel
theorem dX3_readToken_110 : decode cX3_readToken 110 = .ok (.getfield 19, 3) := by decide +kernel
theorem dX3_readToken_113 : decode cX3_readToken 113 = .ok (.aload_n 0, 1) := by decide +kernel
theorem dX3_readToken_114 : decode cX3_readToken 114 = .ok (.getfield 15, 3) := by decide +kernel
theorem dX3_readToken_117 : decode cX3_readToken 117 = .ok (.if_icmp .ge 57, 3) := by decide +kernel
theorem dX3_readToken_120 : decode cX3_readToken 120 = .ok (.aload_n 0, 1) := by decide +kernel
theorem dX3_readToken_121 : decode cX3_readToken 121 = .ok (.aload_n 0, 1) := by decide +kernel
theorem dX3_readToken_122 : decode cX3_readToken 122 = .ok (.getfield 19, 3) := by decide +kernel
theorem dX3_readToken_125 : decode cX3_readToken 125 = .ok (.invokevirtual 22, 3) := by decide +kernel
theorem dX3_readToken_128 : decode cX3_readToken 128 = .ok (.invokestatic 32, 3) := by decide +kernel
theorem dX3_readToken_131 : decode cX3_readToken 131 = .ok (.aload_n 0, 1) := by decide +kernel
theorem dX3_readToken_132 : decode cX3_readToken 132 = .ok (.getfield 35, 3) := by decide +kernel
theorem dX3_readToken_135 : decode cX3_readToken 135 = .ok (.if_icmp .ne 39, 3) := by decide +kernel
theorem dX3_readToken_138 : decode cX3_readToken 138 = .ok (.aload_n 0, 1) := by decide +kernel
theorem dX3_readToken_139 : decode cX3_readToken 139 = .ok (.aload_n 0, 1) := by decide +kernel
theorem dX3_readToken_140 : decode cX3_readToken 140 = .ok (.getfield 29, 3) := by decide +kernel
theorem dX3_readToken_143 : decode cX3_readToken 143 = .ok (.bipush 10, 2) := by decide +kernel
theorem dX3_readToken_145 : decode cX3_readToken 145 = .ok (.imul, 1) := by decide +kernel
theorem dX3_readToken_146 : decode cX3_readToken 146 = .ok (.aload_n 0, 1) := by decide +kernel
theorem dX3_readToken_147 : decode cX3_readToken 147 = .ok (.aload_n 0, 1) := by decide +kernel
theorem dX3_readToken_148 : decode cX3_readToken 148 = .ok (.getfield 19, 3) := by decide +kernel
theorem dX3_readToken_151 : decode cX3_readToken 151 = .ok (.invokevirtual 22, 3) := by decide +kernel
theorem dX3_readToken_154 : decode cX3_readToken 154 = .ok (.iadd, 1) := by decide +kernel
theorem dX3_readToken_155 : decode cX3_readToken 155 = .ok (.bipush 48, 2) := by decide +kernel
theorem dX3_readToken_157 : decode cX3_readToken 157 = .ok (.isub, 1) := by decide +kernel
theorem dX3_readToken_158 : decode cX3_readToken 158 = .ok (.putfield 29, 3) := by decide +kernel
theorem dX3_readToken_161 : decode cX3_readToken 161 = .ok (.aload_n 0, 1) := by decide +kernel
theorem dX3_readToken_162 : decode cX3_readToken 162 = .ok (.dup, 1) := by decide +kernel
theorem dX3_readToken_163 : decode cX3_readToken 163 = .ok (.getfield 19, 3) := by decide +kernel
theorem dX3_readToken_166 : decode cX3_readToken 166 = .ok (.iconst 1, 1) := by decide +kernel
theorem dX3_readToken_167 : decode cX3_readToken 167 = .ok (.iadd, 1) := by decide +kernel
theorem dX3_readToken_168 : decode cX3_readToken 168 = .ok (.putfield 19, 3) := by decide +kernel
theorem dX3_readToken_171 : decode cX3_readToken 171 = .ok (.goto (-66), 3) := by decide +kernel
theorem dX3_readToken_174 : decode cX3_readToken 174 = .ok (.aload_n 0, 1) := by decide +kernel
theorem dX3_readToken_175 : decode cX3_readToken 175 = .ok (.getfield 35, 3) := by decide +kernel
theorem dX3_readToken_178 : decode cX3_readToken 178 = .ok (.iconst 2, 1) := by decide +kernel
theorem dX3_readToken_179 : decode cX3_readToken 179 = .ok (.if_icmp .ne 21, 3) := by decide +kernel
theorem dX3_readToken_182 : decode cX3_readToken 182 = .ok (.aload_n 0, 1) := by decide +kernel
theorem dX3_readToken_183 : decode cX3_readToken 183 = .ok (.getfield 19, 3) := by decide +kernel
theorem dX3_readToken_186 : decode cX3_readToken 186 = .ok (.aload_n 0, 1) := by decide +kernel
theorem dX3_readToken_187 : decode cX3_readToken 187 = .ok (.getfield 26, 3) := by decide +kernel
theorem dX3_readToken_190 : decode cX3_readToken 190 = .ok (.isub, 1) := by decide +kernel
theorem dX3_readToken_191 : decode cX3_readToken 191 = .ok (.iconst 2, 1) := by decide +kernel
theorem dX3_readToken_192 : decode cX3_readToken 192 = .ok (.if_icmp .le 8, 3) := by decide +kernel
theorem dX3_readToken_195 : decode cX3_readToken 195 = .ok (.aload_n 0, 1) := by decide +kernel
theorem dX3_readToken_196 : decode cX3_readToken 196 = .ok (.iconst 0, 1) := by decide +kernel
theorem dX3_readToken_197 : decode cX3_readToken 197 = .ok (.putfield 35, 3) := by decide +kernel
theorem dX3_readToken_200 : decode cX3_readToken 200 = .ok (.return_, 1) := by decide +kernel
theorem dX3_tokenOf_0 : decode cX3_tokenOf 0 = .ok (.iload_n 0, 1) := by decide +kernel
theorem dX3_tokenOf_1 : decode cX3_tokenOf 1 = .ok (.ifCond .ge 5, 3) := by decide +kernel
theorem dX3_tokenOf_4 : decode cX3_tokenOf 4 = .ok (.iconst 4, 1) := by decide +kernel
theorem dX3_tokenOf_5 : decode cX3_tokenOf 5 = .ok (.ireturn, 1) := by decide +kernel
theorem dX3_tokenOf_6 : decode cX3_tokenOf 6 = .ok (.iload_n 0, 1) := by decide +kernel
theorem dX3_tokenOf_7 : decode cX3_tokenOf 7 = .ok (.bipush 97, 2) := by decide +kernel
theorem dX3_tokenOf_9 : decode cX3_tokenOf 9 = .ok (.if_icmp .lt 11, 3) := by decide +kernel
theorem dX3_tokenOf_12 : decode cX3_tokenOf 12 = .ok (.iload_n 0, 1) := by decide +kernel
theorem dX3_tokenOf_13 : decode cX3_tokenOf 13 = .ok (.bipush 122, 2) := by decide +kernel
theorem dX3_tokenOf_15 : decode cX3_tokenOf 15 = .ok (.if_icmp .gt 5, 3) := by decide +kernel
theorem dX3_tokenOf_18 : decode cX3_tokenOf 18 = .ok (.iconst 1, 1) := by decide +kernel
theorem dX3_tokenOf_19 : decode cX3_tokenOf 19 = .ok (.ireturn, 1) := by decide +kernel
theorem dX3_tokenOf_20 : decode cX3_tokenOf 20 = .ok (.iload_n 0, 1) := by decide +kernel
theorem dX3_tokenOf_21 : decode cX3_tokenOf 21 = .ok (.bipush 48, 2) := by decide +kernel
theorem dX3_tokenOf_23 : decode cX3_tokenOf 23 = .ok (.if_icmp .lt 11, 3) := by decide +kernel
theorem dX3_tokenOf_26 : decode cX3_tokenOf 26 = .ok (.iload_n 0, 1) := by decide +kernel
theorem dX3_tokenOf_27 : decode cX3_tokenOf 27 = .ok (.bipush 57, 2) := by decide +kernel
theorem dX3_tokenOf_29 : decode cX3_tokenOf 29 = .ok (.if_icmp .gt 5, 3) := by decide +kernel
theorem dX3_tokenOf_32 : decode cX3_tokenOf 32 = .ok (.iconst 2, 1) := by decide +kernel
theorem dX3_tokenOf_33 : decode cX3_tokenOf 33 = .ok (.ireturn, 1) := by decide +kernel
theorem dX3_tokenOf_34 : decode cX3_tokenOf 34 = .ok (.iload_n 0, 1) := by decide +kernel
theorem dX3_tokenOf_35 : decode cX3_tokenOf 35 = .ok (.bipush 59, 2) := by decide +kernel
theorem dX3_tokenOf_37 : decode cX3_tokenOf 37 = .ok (.if_icmp .ne 7, 3) := by decide +kernel
theorem dX3_tokenOf_40 : decode cX3_tokenOf 40 = .ok (.iconst 3, 1) := by decide +kernel
theorem dX3_tokenOf_41 : decode cX3_tokenOf 41 = .ok (.goto 4, 3) := by decide +kernel
theorem dX3_tokenOf_44 : decode cX3_tokenOf 44 = .ok (.iconst 0, 1) := by decide +kernel
theorem dX3_tokenOf_45 : decode cX3_tokenOf 45 = .ok (.ireturn, 1) := by decide +kernel
theorem dX3_isName_0 : decode cX3_isName 0 = .ok (.aload_n 0, 1) := by decide +kernel
theorem dX3_isName_1 : decode cX3_isName 1 = .ok (.getfield 35, 3) := by decide +kernel
theorem dX3_isName_4 : decode cX3_isName 4 = .ok (.iconst 1, 1) := by decide +kernel
theorem dX3_isName_5 : decode cX3_isName 5 = .ok (.if_icmp .ne 19, 3) := by decide +kernel
theorem dX3_isName_8 : decode cX3_isName 8 = .ok (.aload_n 0, 1) := by decide +kernel
theorem dX3_isName_9 : decode cX3_isName 9 = .ok (.getfield 19, 3) := by decide +kernel
theorem dX3_isName_12 : decode cX3_isName 12 = .ok (.aload_n 0, 1) := by decide +kernel
theorem dX3_isName_13 : decode cX3_isName 13 = .ok (.getfield 26, 3) := by decide +kernel
theorem dX3_isName_16 : decode cX3_isName 16 = .ok (.isub, 1) := by decide +kernel
theorem dX3_isName_17 : decode cX3_isName 17 = .ok (.aload_n 1, 1) := by decide +kernel
theorem dX3_isName_18 : decode cX3_isName 18 = .ok (.invokevirtual 38, 3) := by decide +kernel
theorem dX3_isName_21 : decode cX3_isName 21 = .ok (.if_icmp .eq 5, 3) := by decide +kernel
theorem dX3_isName_24 : decode cX3_isName 24 = .ok (.iconst 0, 1) := by decide +kernel
theorem dX3_isName_25 : decode cX3_isName 25 = .ok (.ireturn, 1) := by decide +kernel
theorem dX3_isName_26 : decode cX3_isName 26 = .ok (.iconst 0, 1) := by decide +kernel
theorem dX3_isName_27 : decode cX3_isName 27 = .ok (.istore_n 2, 1) := by decide +kernel
theorem dX3_isName_28 : decode cX3_isName 28 = .ok (.iload_n 2, 1) := by decide +kernel
theorem dX3_isName_29 : decode cX3_isName 29 = .ok (.aload_n 1, 1) := by decide +kernel
theorem dX3_isName_30 : decode cX3_isName 30 = .ok (.invokevirtual 38, 3) := by decide +kernel
theorem dX3_isName_33 : decode cX3_isName 33 = .ok (.if_icmp .ge 29, 3) := by decide +kernel
theorem dX3_isName_36 : decode cX3_isName 36 = .ok (.aload_n 0, 1) := by decide +kernel
theorem dX3_isName_37 : decode cX3_isName 37 = .ok (.aload_n 0, 1) := by decide +kernel
theorem dX3_isName_38 : decode cX3_isName 38 = .ok (.getfield 26, 3) := by decide +kernel
theorem dX3_isName_41 : decode cX3_isName 41 = .ok (.iload_n 2, 1) := by decide +kernel
theorem dX3_isName_42 : decode cX3_isName 42 = .ok (.iadd, 1) := by decide +kernel
theorem dX3_isName_43 : decode cX3_isName 43 = .ok (.invokevirtual 22, 3) := by decide +kernel
theorem dX3_isName_46 : decode cX3_isName 46 = .ok (.aload_n 1, 1) := by decide +kernel
theorem dX3_isName_47 : decode cX3_isName 47 = .ok (.iload_n 2, 1) := by decide +kernel
theorem dX3_isName_48 : decode cX3_isName 48 = .ok (.invokevirtual 43, 3) := by decide +kernel
theorem dX3_isName_51 : decode cX3_isName 51 = .ok (.if_icmp .eq 5, 3) := by decide +kernel
theorem dX3_isName_54 : decode cX3_isName 54 = .ok (.iconst 0, 1) := by decide +kernel
theorem dX3_isName_55 : decode cX3_isName 55 = .ok (.ireturn, 1) := by decide +kernel
theorem dX3_isName_56 : decode cX3_isName 56 = .ok (.iinc 2 1, 3) := by decide +kernel
theorem dX3_isName_59 : decode cX3_isName 59 = .ok (.goto (-31), 3) := by decide +kernel
theorem dX3_isName_62 : decode cX3_isName 62 = .ok (.iconst 1, 1) := by decide +kernel
theorem dX3_isName_63 : decode cX3_isName 63 = .ok (.ireturn, 1) := by decide +kernel
theorem dX3_byteAt_0 : decode cX3_byteAt 0 = .ok (.iload_n 1, 1) := by decide +kernel
theorem dX3_byteAt_1 : decode cX3_byteAt 1 = .ok (.ifCond .lt 27, 3) := by decide +kernel
theorem dX3_byteAt_4 : decode cX3_byteAt 4 = .ok (.iload_n 1, 1) := by decide +kernel
theorem dX3_byteAt_5 : decode cX3_byteAt 5 = .ok (.aload_n 0, 1) := by decide +kernel
theorem dX3_byteAt_6 : decode cX3_byteAt 6 = .ok (.getfield 15, 3) := by decide +kernel
theorem dX3_byteAt_9 : decode cX3_byteAt 9 = .ok (.if_icmp .ge 19, 3) := by decide +kernel
theorem dX3_byteAt_12 : decode cX3_byteAt 12 = .ok (.iload_n 1, 1) := by decide +kernel
theorem dX3_byteAt_13 : decode cX3_byteAt 13 = .ok (.sipush 160, 3) := by decide +kernel
theorem dX3_byteAt_16 : decode cX3_byteAt 16 = .ok (.if_icmp .ge 12, 3) := by decide +kernel
theorem dX3_byteAt_19 : decode cX3_byteAt 19 = .ok (.aload_n 0, 1) := by decide +kernel
theorem dX3_byteAt_20 : decode cX3_byteAt 20 = .ok (.getfield 9, 3) := by decide +kernel
theorem dX3_byteAt_23 : decode cX3_byteAt 23 = .ok (.iload_n 1, 1) := by decide +kernel
theorem dX3_byteAt_24 : decode cX3_byteAt 24 = .ok (.baload, 1) := by decide +kernel
theorem dX3_byteAt_25 : decode cX3_byteAt 25 = .ok (.goto 4, 3) := by decide +kernel
theorem dX3_byteAt_28 : decode cX3_byteAt 28 = .ok (.iconst (-1), 1) := by decide +kernel
theorem dX3_byteAt_29 : decode cX3_byteAt 29 = .ok (.ireturn, 1) := by decide +kernel
theorem dX4_init_0 : decode cX4_init 0 = .ok (.aload_n 0, 1) := by decide +kernel
theorem dX4_init_1 : decode cX4_init 1 = .ok (.invokespecial 3, 3) := by decide +kernel
theorem dX4_init_4 : decode cX4_init 4 = .ok (.aload_n 0, 1) := by decide +kernel
theorem dX4_init_5 : decode cX4_init 5 = .ok (.iconst 5, 1) := by decide +kernel
theorem dX4_init_6 : decode cX4_init 6 = .ok (.newarray .int, 2) := by decide +kernel
theorem dX4_init_8 : decode cX4_init 8 = .ok (.putfield 9, 3) := by decide +kernel
theorem dX4_init_11 : decode cX4_init 11 = .ok (.aload_n 0, 1) := by decide +kernel
theorem dX4_init_12 : decode cX4_init 12 = .ok (.iconst 5, 1) := by decide +kernel
theorem dX4_init_13 : decode cX4_init 13 = .ok (.newarray .int, 2) := by decide +kernel
theorem dX4_init_15 : decode cX4_init 15 = .ok (.putfield 15, 3) := by decide +kernel
theorem dX4_init_18 : decode cX4_init 18 = .ok (.aload_n 0, 1) := by decide +kernel
theorem dX4_init_19 : decode cX4_init 19 = .ok (.iconst 5, 1) := by decide +kernel
theorem dX4_init_20 : decode cX4_init 20 = .ok (.newarray .int, 2) := by decide +kernel
theorem dX4_init_22 : decode cX4_init 22 = .ok (.putfield 18, 3) := by decide +kernel
theorem dX4_init_25 : decode cX4_init 25 = .ok (.aload_n 0, 1) := by decide +kernel
theorem dX4_init_26 : decode cX4_init 26 = .ok (.iconst 5, 1) := by decide +kernel
theorem dX4_init_27 : decode cX4_init 27 = .ok (.newarray .int, 2) := by decide +kernel
theorem dX4_init_29 : decode cX4_init 29 = .ok (.putfield 21, 3) := by decide +kernel
theorem dX4_init_32 : decode cX4_init 32 = .ok (.aload_n 0, 1) := by decide +kernel
theorem dX4_init_33 : decode cX4_init 33 = .ok (.bipush 9, 2) := by decide +kernel
theorem dX4_init_35 : decode cX4_init 35 = .ok (.newarray .int, 2) := by decide +kernel
theorem dX4_init_37 : decode cX4_init 37 = .ok (.putfield 24, 3) := by decide +kernel
theorem dX4_init_40 : decode cX4_init 40 = .ok (.aload_n 0, 1) := by decide +kernel
theorem dX4_init_41 : decode cX4_init 41 = .ok (.bipush 9, 2) := by decide +kernel
theorem dX4_init_43 : decode cX4_init 43 = .ok (.newarray .int, 2) := by decide +kernel
theorem dX4_init_45 : decode cX4_init 45 = .ok (.putfield 27, 3) := by decide +kernel
theorem dX4_init_48 : decode cX4_init 48 = .ok (.aload_n 0, 1) := by decide +kernel
theorem dX4_init_49 : decode cX4_init 49 = .ok (.bipush 9, 2) := by decide +kernel
theorem dX4_init_51 : decode cX4_init 51 = .ok (.newarray .int, 2) := by decide +kernel
theorem dX4_init_53 : decode cX4_init 53 = .ok (.putfield 30, 3) := by decide +kernel
theorem dX4_init_56 : decode cX4_init 56 = .ok (.aload_n 0, 1) := by decide +kernel
theorem dX4_init_57 : decode cX4_init 57 = .ok (.bipush 8, 2) := by decide +kernel
theorem dX4_init_59 : decode cX4_init 59 = .ok (.newarray .int, 2) := by decide +kernel
theorem dX4_init_61 : decode cX4_init 61 = .ok (.putfield 33, 3) := by decide +kernel
theorem dX4_init_64 : decode cX4_init 64 = .ok (.aload_n 0, 1) := by decide +kernel
theorem dX4_init_65 : decode cX4_init 65 = .ok (.bipush 6, 2) := by decide +kernel
theorem dX4_init_67 : decode cX4_init 67 = .ok (.newarray .int, 2) := by decide +kernel
theorem dX4_init_69 : decode cX4_init 69 = .ok (.putfield 36, 3) := by decide +kernel
theorem dX4_init_72 : decode cX4_init 72 = .ok (.aload_n 0, 1) := by decide +kernel
theorem dX4_init_73 : decode cX4_init 73 = .ok (.bipush 6, 2) := by decide +kernel
theorem dX4_init_75 : decode cX4_init 75 = .ok (.newarray .int, 2) := by decide +kernel
theorem dX4_init_77 : decode cX4_init 77 = .ok (.putfield 39, 3) := by decide +kernel
theorem dX4_init_80 : decode cX4_init 80 = .ok (.aload_n 0, 1) := by decide +kernel
theorem dX4_init_81 : decode cX4_init 81 = .ok (.getfield 30, 3) := by decide +kernel
theorem dX4_init_84 : decode cX4_init 84 = .ok (.iconst (-1), 1) := by decide +kernel
theorem dX4_init_85 : decode cX4_init 85 = .ok (.invokestatic 42, 3) := by decide +kernel
theorem dX4_init_88 : decode cX4_init 88 = .ok (.return_, 1) := by decide +kernel
theorem dX4_clear_0 : decode cX4_clear 0 = .ok (.aload_n 0, 1) := by decide +kernel
theorem dX4_clear_1 : decode cX4_clear 1 = .ok (.iconst 0, 1) := by decide +kernel
theorem dX4_clear_2 : decode cX4_clear 2 = .ok (.putfield 48, 3) := by decide +kernel
theorem dX4_clear_5 : decode cX4_clear 5 = .ok (.aload_n 0, 1) := by decide +kernel
theorem dX4_clear_6 : decode cX4_clear 6 = .ok (.iconst 0, 1) := by decide +kernel
theorem dX4_clear_7 : decode cX4_clear 7 = .ok (.putfield 52, 3) := by decide +kernel
theorem dX4_clear_10 : decode cX4_clear 10 = .ok (.aload_n 0, 1) := by decide +kernel
theorem dX4_clear_11 : decode cX4_clear 11 = .ok (.iconst 0, 1) := by decide +kernel
theorem dX4_clear_12 : decode cX4_clear 12 = .ok (.putfield 55, 3) := by decide +kernel
theorem dX4_clear_15 : decode cX4_clear 15 = .ok (.aload_n 0, 1) := by decide +kernel
theorem dX4_clear_16 : decode cX4_clear 16 = .ok (.getfield 30, 3) := by decide +kernel
theorem dX4_clear_19 : decode cX4_clear 19 = .ok (.iconst (-1), 1) := by decide +kernel
theorem dX4_clear_20 : decode cX4_clear 20 = .ok (.invokestatic 42, 3) := by decide +kernel
theorem dX4_clear_23 : decode cX4_clear 23 = .ok (.aload_n 0, 1) := by decide +kernel
theorem dX4_clear_24 : decode cX4_clear 24 = .ok (.getfield 33, 3) := by decide +kernel
theorem dX4_clear_27 : decode cX4_clear 27 = .ok (.iconst 0, 1) := by decide +kernel
theorem dX4_clear_28 : decode cX4_clear 28 = .ok (.invokestatic 42, 3) := by decide +kernel
theorem dX4_clear_31 : decode cX4_clear 31 = .ok (.return_, 1) := by decide +kernel
theorem dX4_become_0 : decode cX4_become 0 = .ok (.aload_n 0, 1) := by decide +kernel
theorem dX4_become_1 : decode cX4_become 1 = .ok (.aload_n 1, 1) := by decide +kernel
theorem dX4_become_2 : decode cX4_become 2 = .ok (.getfield 48, 3) := by decide +kernel
theorem dX4_become_5 : decode cX4_become 5 = .ok (.putfield 48, 3) := by decide +kernel
theorem dX4_become_8 : decode cX4_become 8 = .ok (.aload_n 0, 1) := by decide +kernel
theorem dX4_become_9 : decode cX4_become 9 = .ok (.aload_n 1, 1) := by decide +kernel
theorem dX4_become_10 : decode cX4_become 10 = .ok (.getfield 52, 3) := by decide +kernel
theorem dX4_become_13 : decode cX4_become 13 = .ok (.putfield 52, 3) := by decide +kernel
theorem dX4_become_16 : decode cX4_become 16 = .ok (.aload_n 0, 1) := by decide +kernel
theorem dX4_become_17 : decode cX4_become 17 = .ok (.aload_n 1, 1) := by decide +kernel
theorem dX4_become_18 : decode cX4_become 18 = .ok (.getfield 55, 3) := by decide +kernel
theorem dX4_become_21 : decode cX4_become 21 = .ok (.putfield 55, 3) := by decide +kernel
theorem dX4_become_24 : decode cX4_become 24 = .ok (.aload_n 1, 1) := by decide +kernel
theorem dX4_become_25 : decode cX4_become 25 = .ok (.getfield 9, 3) := by decide +kernel
theorem dX4_become_28 : decode cX4_become 28 = .ok (.iconst 0, 1) := by decide +kernel
theorem dX4_become_29 : decode cX4_become 29 = .ok (.aload_n 0, 1) := by decide +kernel
theorem dX4_become_30 : decode cX4_become 30 = .ok (.getfield 9, 3) := by decide +kernel
theorem dX4_become_33 : decode cX4_become 33 = .ok (.iconst 0, 1) := by decide +kernel
theorem dX4_become_34 : decode cX4_become 34 = .ok (.iconst 5, 1) := by decide +kernel
theorem dX4_become_35 : decode cX4_become 35 = .ok (.invokestatic 58, 3) := by decide +kernel
theorem dX4_become_38 : decode cX4_become 38 = .ok (.aload_n 1, 1) := by decide +kernel
theorem dX4_become_39 : decode cX4_become 39 = .ok (.getfield 15, 3) := by decide +kernel
theorem dX4_become_42 : decode cX4_become 42 = .ok (.iconst 0, 1) := by decide +kernel
theorem dX4_become_43 : decode cX4_become 43 = .ok (.aload_n 0, 1) := by decide +kernel
theorem dX4_become_44 : decode cX4_become 44 = .ok (.getfield 15, 3) := by decide +kernel
theorem dX4_become_47 : decode cX4_become 47 = .ok (.iconst 0, 1) := by decide +kernel
theorem dX4_become_48 : decode cX4_become 48 = .ok (.iconst 5, 1) := by decide +kernel
theorem dX4_become_49 : decode cX4_become 49 = .ok (.invokestatic 58, 3) := by decide +kernel
theorem dX4_become_52 : decode cX4_become 52 = .ok (.aload_n 1, 1) := by decide +kernel
theorem dX4_become_53 : decode cX4_become 53 = .ok (.getfield 18, 3) := by decide +kernel
theorem dX4_become_56 : decode cX4_become 56 = .ok (.iconst 0, 1) := by decide +kernel
theorem dX4_become_57 : decode cX4_become 57 = .ok (.aload_n 0, 1) := by decide +kernel
theorem dX4_become_58 : decode cX4_become 58 = .ok (.getfield 18, 3) := by decide +kernel
theorem dX4_become_61 : decode cX4_become 61 = .ok (.iconst 0, 1) := by decide +kernel
theorem dX4_become_62 : decode cX4_become 62 = .ok (.iconst 5, 1) := by decide +kernel
theorem dX4_become_63 : decode cX4_become 63 = .ok (.invokestatic 58, 3) := by decide +kernel
theorem dX4_become_66 : decode cX4_become 66 = .ok (.aload_n 1, 1) := by decide +kernel
theorem dX4_become_67 : decode cX4_become 67 = .ok (.getfield 21, 3) := by decide +kernel
theorem dX4_become_70 : decode cX4_become 70 = .ok (.iconst 0, 1) := by decide +kernel
theorem dX4_become_71 : decode cX4_become 71 = .ok (.aload_n 0, 1) := by decide +kernel
theorem dX4_become_72 : decode cX4_become 72 = .ok (.getfield 21, 3) := by decide +kernel
theorem dX4_become_75 : decode cX4_become 75 = .ok (.iconst 0, 1) := by decide +kernel
theorem dX4_become_76 : decode cX4_become 76 = .ok (.iconst 5, 1) := by decide +kernel
theorem dX4_become_77 : decode cX4_become 77 = .ok (.invokestatic 58, 3) := by decide +kernel
theorem dX4_become_80 : decode cX4_become 80 = .ok (.aload_n 1, 1) := by decide +kernel
theorem dX4_become_81 : decode cX4_become 81 = .ok (.getfield 24, 3) := by decide +kernel
theorem dX4_become_84 : decode cX4_become 84 = .ok (.iconst 0, 1) := by decide +kernel
theorem dX4_become_85 : decode cX4_become 85 = .ok (.aload_n 0, 1) := by decide +kernel
theorem dX4_become_86 : decode cX4_become 86 = .ok (.getfield 24, 3) := by decide +kernel
theorem dX4_become_89 : decode cX4_become 89 = .ok (.iconst 0, 1) := by decide +kernel
theorem dX4_become_90 : decode cX4_become 90 = .ok (.bipush 9, 2) := by decide +kernel
theorem dX4_become_92 : decode cX4_become 92 = .ok (.invokestatic 58, 3) := by decide +kernel
theorem dX4_become_95 : decode cX4_become 95 = .ok (.aload_n 1, 1) := by decide +kernel
theorem dX4_become_96 : decode cX4_become 96 = .ok (.getfield 27, 3) := by decide +kernel
theorem dX4_become_99 : decode cX4_become 99 = .ok (.iconst 0, 1) := by decide +kernel
theorem dX4_become_100 : decode cX4_become 100 = .ok (.aload_n 0, 1) := by decide +kernel
theorem dX4_become_101 : decode cX4_become 101 = .ok (.getfield 27, 3) := by decide +kernel
theorem dX4_become_104 : decode cX4_become 104 = .ok (.iconst 0, 1) := by decide +kernel
theorem dX4_become_105 : decode cX4_become 105 = .ok (.bipush 9, 2) := by decide +kernel
theorem dX4_become_107 : decode cX4_become 107 = .ok (.invokestatic 58, 3) := by decide +kernel
theorem dX4_become_110 : decode cX4_become 110 = .ok (.aload_n 1, 1) := by decide +kernel
theorem dX4_become_111 : decode cX4_become 111 = .ok (.getfield 30, 3) := by decide +kernel
theorem dX4_become_114 : decode cX4_become 114 = .ok (.iconst 0, 1) := by decide +kernel
theorem dX4_become_115 : decode cX4_become 115 = .ok (.aload_n 0, 1) := by decide +kernel
theorem dX4_become_116 : decode cX4_become 116 = .ok (.getfield 30, 3) := by decide +kernel
theorem dX4_become_119 : decode cX4_become 119 = .ok (.iconst 0, 1) := by decide +kernel
theorem dX4_become_120 : decode cX4_become 120 = .ok (.bipush 9, 2) := by decide +kernel
theorem dX4_become_122 : decode cX4_become 122 = .ok (.invokestatic 58, 3) := by decide +kernel
theorem dX4_become_125 : decode cX4_become 125 = .ok (.aload_n 1, 1) := by decide +kernel
theorem dX4_become_126 : decode cX4_become 126 = .ok (.getfield 33, 3) := by decide +kernel
theorem dX4_become_129 : decode cX4_become 129 = .ok (.iconst 0, 1) := by decide +kernel
theorem dX4_become_130 : decode cX4_become 130 = .ok (.aload_n 0, 1) := by decide +kernel
theorem dX4_become_131 : decode cX4_become 131 = .ok (.getfield 33, 3) := by decide +kernel
theorem dX4_become_134 : decode cX4_become 134 = .ok (.iconst 0, 1) := by decide +kernel
theorem dX4_become_135 : decode cX4_become 135 = .ok (.bipush 8, 2) := by decide +kernel
theorem dX4_become_137 : decode cX4_become 137 = .ok (.invokestatic 58, 3) := by decide +kernel
theorem dX4_become_140 : decode cX4_become 140 = .ok (.aload_n 1, 1) := by decide +kernel
theorem dX4_become_141 : decode cX4_become 141 = .ok (.getfield 36, 3) := by decide +kernel
theorem dX4_become_144 : decode cX4_become 144 = .ok (.iconst 0, 1) := by decide +kernel
theorem dX4_become_145 : decode cX4_become 145 = .ok (.aload_n 0, 1) := by decide +kernel
theorem dX4_become_146 : decode cX4_become 146 = .ok (.getfield 36, 3) := by decide +kernel
theorem dX4_become_149 : decode cX4_become 149 = .ok (.iconst 0, 1) := by decide +kernel
theorem dX4_become_150 : decode cX4_become 150 = .ok (.bipush 6, 2) := by decide +kernel
theorem dX4_become_152 : decode cX4_become 152 = .ok (.invokestatic 58, 3) := by decide +kernel
theorem dX4_become_155 : decode cX4_become 155 = .ok (.aload_n 1, 1) := by decide +kernel
theorem dX4_become_156 : decode cX4_become 156 = .ok (.getfield 39, 3) := by decide +kernel
theorem dX4_become_159 : decode cX4_become 159 = .ok (.iconst 0, 1) := by decide +kernel
theorem dX4_become_160 : decode cX4_become 160 = .ok (.aload_n 0, 1) := by decide +kernel
theorem dX4_become_161 : decode cX4_become 161 = .ok (.getfield 39, 3) := by decide +kernel
theorem dX4_become_164 : decode cX4_become 164 = .ok (.iconst 0, 1) := by decide +kernel
theorem dX4_become_165 : decode cX4_become 165 = .ok (.bipush 6, 2) := by decide +kernel
theorem dX4_become_167 : decode cX4_become 167 = .ok (.invokestatic 58, 3) := by decide +kernel
theorem dX4_become_170 : decode cX4_become 170 = .ok (.return_, 1) := by decide +kernel
theorem dX4_isOne_0 : decode cX4_isOne 0 = .ok (.iload_n 1, 1) := by decide +kernel
theorem dX4_isOne_1 : decode cX4_isOne 1 = .ok (.ifCond .lt 20, 3) := by decide +kernel
theorem dX4_isOne_4 : decode cX4_isOne 4 = .ok (.iload_n 1, 1) := by decide +kernel
theorem dX4_isOne_5 : decode cX4_isOne 5 = .ok (.aload_n 0, 1) := by decide +kernel
theorem dX4_isOne_6 : decode cX4_isOne 6 = .ok (.getfield 48, 3) := by decide +kernel
theorem dX4_isOne_9 : decode cX4_isOne 9 = .ok (.if_icmp .ge 12, 3) := by decide +kernel
theorem dX4_isOne_12 : decode cX4_isOne 12 = .ok (.iload_n 1, 1) := by decide +kernel
theorem dX4_isOne_13 : decode cX4_isOne 13 = .ok (.iconst 5, 1) := by decide +kernel
theorem dX4_isOne_14 : decode cX4_isOne 14 = .ok (.if_icmp .ge 7, 3) := by decide +kernel
theorem dX4_isOne_17 : decode cX4_isOne 17 = .ok (.iconst 1, 1) := by decide +kernel
theorem dX4_isOne_18 : decode cX4_isOne 18 = .ok (.goto 4, 3) := by decide +kernel
theorem dX4_isOne_21 : decode cX4_isOne 21 = .ok (.iconst 0, 1) := by decide +kernel
theorem dX4_isOne_22 : decode cX4_isOne 22 = .ok (.ireturn, 1) := by decide +kernel
theorem dX4_isWall_0 : decode cX4_isWall 0 = .ok (.iload_n 1, 1) := by decide +kernel
theorem dX4_isWall_1 : decode cX4_isWall 1 = .ok (.ifCond .lt 21, 3) := by decide +kernel
theorem dX4_isWall_4 : decode cX4_isWall 4 = .ok (.iload_n 1, 1) := by decide +kernel
theorem dX4_isWall_5 : decode cX4_isWall 5 = .ok (.aload_n 0, 1) := by decide +kernel
theorem dX4_isWall_6 : decode cX4_isWall 6 = .ok (.getfield 52, 3) := by decide +kernel
theorem dX4_isWall_9 : decode cX4_isWall 9 = .ok (.if_icmp .ge 13, 3) := by decide +kernel
theorem dX4_isWall_12 : decode cX4_isWall 12 = .ok (.iload_n 1, 1) := by decide +kernel
theorem dX4_isWall_13 : decode cX4_isWall 13 = .ok (.bipush 9, 2) := by decide +kernel
theorem dX4_isWall_15 : decode cX4_isWall 15 = .ok (.if_icmp .ge 7, 3) := by decide +kernel
theorem dX4_isWall_18 : decode cX4_isWall 18 = .ok (.iconst 1, 1) := by decide +kernel
theorem dX4_isWall_19 : decode cX4_isWall 19 = .ok (.goto 4, 3) := by decide +kernel
theorem dX4_isWall_22 : decode cX4_isWall 22 = .ok (.iconst 0, 1) := by decide +kernel
theorem dX4_isWall_23 : decode cX4_isWall 23 = .ok (.ireturn, 1) := by decide +kernel
theorem dX4_addOne_0 : decode cX4_addOne 0 = .ok (.aload_n 0, 1) := by decide +kernel
theorem dX4_addOne_1 : decode cX4_addOne 1 = .ok (.getfield 48, 3) := by decide +kernel
theorem dX4_addOne_4 : decode cX4_addOne 4 = .ok (.ifCond .lt 11, 3) := by decide +kernel
theorem dX4_addOne_7 : decode cX4_addOne 7 = .ok (.aload_n 0, 1) := by decide +kernel
theorem dX4_addOne_8 : decode cX4_addOne 8 = .ok (.getfield 48, 3) := by decide +kernel
theorem dX4_addOne_11 : decode cX4_addOne 11 = .ok (.iconst 5, 1) := by decide +kernel
theorem dX4_addOne_12 : decode cX4_addOne 12 = .ok (.if_icmp .lt 5, 3) := by decide +kernel
theorem dX4_addOne_15 : decode cX4_addOne 15 = .ok (.iconst 0, 1) := by decide +kernel
theorem dX4_addOne_16 : decode cX4_addOne 16 = .ok (.ireturn, 1) := by decide +kernel
theorem dX4_addOne_17 : decode cX4_addOne 17 = .ok (.aload_n 0, 1) := by decide +kernel
theorem dX4_addOne_18 : decode cX4_addOne 18 = .ok (.getfield 9, 3) := by decide +kernel
theorem dX4_addOne_21 : decode cX4_addOne 21 = .ok (.aload_n 0, 1) := by decide +kernel
theorem dX4_addOne_22 : decode cX4_addOne 22 = .ok (.getfield 48, 3) := by decide +kernel
theorem dX4_addOne_25 : decode cX4_addOne 25 = .ok (.iload_n 1, 1) := by decide +kernel
theorem dX4_addOne_26 : decode cX4_addOne 26 = .ok (.iastore, 1) := by decide +kernel
theorem dX4_addOne_27 : decode cX4_addOne 27 = .ok (.aload_n 0, 1) := by decide +kernel
theorem dX4_addOne_28 : decode cX4_addOne 28 = .ok (.getfield 15, 3) := by decide +kernel
theorem dX4_addOne_31 : decode cX4_addOne 31 = .ok (.aload_n 0, 1) := by decide +kernel
theorem dX4_addOne_32 : decode cX4_addOne 32 = .ok (.getfield 48, 3) := by decide +kernel
theorem dX4_addOne_35 : decode cX4_addOne 35 = .ok (.iload_n 2, 1) := by decide +kernel
theorem dX4_addOne_36 : decode cX4_addOne 36 = .ok (.iastore, 1) := by decide +kernel
theorem dX4_addOne_37 : decode cX4_addOne 37 = .ok (.aload_n 0, 1) := by decide +kernel
theorem dX4_addOne_38 : decode cX4_addOne 38 = .ok (.getfield 18, 3) := by decide +kernel
theorem dX4_addOne_41 : decode cX4_addOne 41 = .ok (.aload_n 0, 1) := by decide +kernel
theorem dX4_addOne_42 : decode cX4_addOne 42 = .ok (.getfield 48, 3) := by decide +kernel
theorem dX4_addOne_45 : decode cX4_addOne 45 = .ok (.iload_n 3, 1) := by decide +kernel
theorem dX4_addOne_46 : decode cX4_addOne 46 = .ok (.iastore, 1) := by decide +kernel
theorem dX4_addOne_47 : decode cX4_addOne 47 = .ok (.aload_n 0, 1) := by decide +kernel
theorem dX4_addOne_48 : decode cX4_addOne 48 = .ok (.getfield 21, 3) := by decide +kernel
theorem dX4_addOne_51 : decode cX4_addOne 51 = .ok (.aload_n 0, 1) := by decide +kernel
theorem dX4_addOne_52 : decode cX4_addOne 52 = .ok (.getfield 48, 3) := by decide +kernel
theorem dX4_addOne_55 : decode cX4_addOne 55 = .ok (.iconst (-1), 1) := by decide +kernel
theorem dX4_addOne_56 : decode cX4_addOne 56 = .ok (.iastore, 1) := by decide +kernel
theorem dX4_addOne_57 : decode cX4_addOne 57 = .ok (.aload_n 0, 1) := by decide +kernel
theorem dX4_addOne_58 : decode cX4_addOne 58 = .ok (.dup, 1) := by decide +kernel
theorem dX4_addOne_59 : decode cX4_addOne 59 = .ok (.getfield 48, 3) := by decide +kernel
theorem dX4_addOne_62 : decode cX4_addOne 62 = .ok (.iconst 1, 1) := by decide +kernel
theorem dX4_addOne_63 : decode cX4_addOne 63 = .ok (.iadd, 1) := by decide +kernel
theorem dX4_addOne_64 : decode cX4_addOne 64 = .ok (.putfield 48, 3) := by decide +kernel
theorem dX4_addOne_67 : decode cX4_addOne 67 = .ok (.iconst 1, 1) := by decide +kernel
theorem dX4_addOne_68 : decode cX4_addOne 68 = .ok (.ireturn, 1) := by decide +kernel
theorem dX4_addWall_0 : decode cX4_addWall 0 = .ok (.aload_n 0, 1) := by decide +kernel
theorem dX4_addWall_1 : decode cX4_addWall 1 = .ok (.getfield 52, 3) := by decide +kernel
theorem dX4_addWall_4 : decode cX4_addWall 4 = .ok (.ifCond .lt 12, 3) := by decide +kernel
theorem dX4_addWall_7 : decode cX4_addWall 7 = .ok (.aload_n 0, 1) := by decide +kernel
theorem dX4_addWall_8 : decode cX4_addWall 8 = .ok (.getfield 52, 3) := by decide +kernel
theorem dX4_addWall_11 : decode cX4_addWall 11 = .ok (.bipush 9, 2) := by decide +kernel
theorem dX4_addWall_13 : decode cX4_addWall 13 = .ok (.if_icmp .lt 5, 3) := by decide +kernel
theorem dX4_addWall_16 : decode cX4_addWall 16 = .ok (.iconst 0, 1) := by decide +kernel
theorem dX4_addWall_17 : decode cX4_addWall 17 = .ok (.ireturn, 1) := by decide +kernel
theorem dX4_addWall_18 : decode cX4_addWall 18 = .ok (.aload_n 0, 1) := by decide +kernel
theorem dX4_addWall_19 : decode cX4_addWall 19 = .ok (.getfield 24, 3) := by decide +kernel
theorem dX4_addWall_22 : decode cX4_addWall 22 = .ok (.aload_n 0, 1) := by decide +kernel
theorem dX4_addWall_23 : decode cX4_addWall 23 = .ok (.getfield 52, 3) := by decide +kernel
theorem dX4_addWall_26 : decode cX4_addWall 26 = .ok (.iload_n 1, 1) := by decide +kernel
theorem dX4_addWall_27 : decode cX4_addWall 27 = .ok (.iastore, 1) := by decide +kernel
theorem dX4_addWall_28 : decode cX4_addWall 28 = .ok (.aload_n 0, 1) := by decide +kernel
theorem dX4_addWall_29 : decode cX4_addWall 29 = .ok (.getfield 27, 3) := by decide +kernel
theorem dX4_addWall_32 : decode cX4_addWall 32 = .ok (.aload_n 0, 1) := by decide +kernel
theorem dX4_addWall_33 : decode cX4_addWall 33 = .ok (.getfield 52, 3) := by decide +kernel
theorem dX4_addWall_36 : decode cX4_addWall 36 = .ok (.iload_n 2, 1) := by decide +kernel
theorem dX4_addWall_37 : decode cX4_addWall 37 = .ok (.iastore, 1) := by decide +kernel
theorem dX4_addWall_38 : decode cX4_addWall 38 = .ok (.aload_n 0, 1) := by decide +kernel
theorem dX4_addWall_39 : decode cX4_addWall 39 = .ok (.dup, 1) := by decide +kernel
theorem dX4_addWall_40 : decode cX4_addWall 40 = .ok (.getfield 52, 3) := by decide +kernel
theorem dX4_addWall_43 : decode cX4_addWall 43 = .ok (.iconst 1, 1) := by decide +kernel
theorem dX4_addWall_44 : decode cX4_addWall 44 = .ok (.iadd, 1) := by decide +kernel
theorem dX4_addWall_45 : decode cX4_addWall 45 = .ok (.putfield 52, 3) := by decide +kernel
theorem dX4_addWall_48 : decode cX4_addWall 48 = .ok (.iconst 1, 1) := by decide +kernel
theorem dX4_addWall_49 : decode cX4_addWall 49 = .ok (.ireturn, 1) := by decide +kernel
theorem dX4_addAct_0 : decode cX4_addAct 0 = .ok (.aload_n 0, 1) := by decide +kernel
theorem dX4_addAct_1 : decode cX4_addAct 1 = .ok (.getfield 55, 3) := by decide +kernel
theorem dX4_addAct_4 : decode cX4_addAct 4 = .ok (.ifCond .lt 12, 3) := by decide +kernel
theorem dX4_addAct_7 : decode cX4_addAct 7 = .ok (.aload_n 0, 1) := by decide +kernel
theorem dX4_addAct_8 : decode cX4_addAct 8 = .ok (.getfield 55, 3) := by decide +kernel
theorem dX4_addAct_11 : decode cX4_addAct 11 = .ok (.bipush 6, 2) := by decide +kernel
theorem dX4_addAct_13 : decode cX4_addAct 13 = .ok (.if_icmp .lt 5, 3) := by decide +kernel
theorem dX4_addAct_16 : decode cX4_addAct 16 = .ok (.iconst 0, 1) := by decide +kernel
theorem dX4_addAct_17 : decode cX4_addAct 17 = .ok (.ireturn, 1) := by decide +kernel
theorem dX4_addAct_18 : decode cX4_addAct 18 = .ok (.aload_n 0, 1) := by decide +kernel
theorem dX4_addAct_19 : decode cX4_addAct 19 = .ok (.getfield 36, 3) := by decide +kernel
theorem dX4_addAct_22 : decode cX4_addAct 22 = .ok (.aload_n 0, 1) := by decide +kernel
theorem dX4_addAct_23 : decode cX4_addAct 23 = .ok (.getfield 55, 3) := by decide +kernel
theorem dX4_addAct_26 : decode cX4_addAct 26 = .ok (.iload_n 1, 1) := by decide +kernel
theorem dX4_addAct_27 : decode cX4_addAct 27 = .ok (.iastore, 1) := by decide +kernel
theorem dX4_addAct_28 : decode cX4_addAct 28 = .ok (.aload_n 0, 1) := by decide +kernel
theorem dX4_addAct_29 : decode cX4_addAct 29 = .ok (.getfield 39, 3) := by decide +kernel
theorem dX4_addAct_32 : decode cX4_addAct 32 = .ok (.aload_n 0, 1) := by decide +kernel
theorem dX4_addAct_33 : decode cX4_addAct 33 = .ok (.getfield 55, 3) := by decide +kernel
theorem dX4_addAct_36 : decode cX4_addAct 36 = .ok (.iload_n 2, 1) := by decide +kernel
theorem dX4_addAct_37 : decode cX4_addAct 37 = .ok (.iastore, 1) := by decide +kernel
theorem dX4_addAct_38 : decode cX4_addAct 38 = .ok (.aload_n 0, 1) := by decide +kernel
theorem dX4_addAct_39 : decode cX4_addAct 39 = .ok (.dup, 1) := by decide +kernel
theorem dX4_addAct_40 : decode cX4_addAct 40 = .ok (.getfield 55, 3) := by decide +kernel
theorem dX4_addAct_43 : decode cX4_addAct 43 = .ok (.iconst 1, 1) := by decide +kernel
theorem dX4_addAct_44 : decode cX4_addAct 44 = .ok (.iadd, 1) := by decide +kernel
theorem dX4_addAct_45 : decode cX4_addAct 45 = .ok (.putfield 55, 3) := by decide +kernel
theorem dX4_addAct_48 : decode cX4_addAct 48 = .ok (.iconst 1, 1) := by decide +kernel
theorem dX4_addAct_49 : decode cX4_addAct 49 = .ok (.ireturn, 1) := by decide +kernel
theorem dX4_namesMissing_0 : decode cX4_namesMissing 0 = .ok (.aload_n 0, 1) := by decide +kernel
theorem dX4_namesMissing_1 : decode cX4_namesMissing 1 = .ok (.getfield 52, 3) := by decide +kernel
theorem dX4_namesMissing_4 : decode cX4_namesMissing 4 = .ok (.istore_n 1, 1) := by decide +kernel
theorem dX4_namesMissing_5 : decode cX4_namesMissing 5 = .ok (.iload_n 1, 1) := by decide +kernel
theorem dX4_namesMissing_6 : decode cX4_namesMissing 6 = .ok (.bipush 9, 2) := by decide +kernel
theorem dX4_namesMissing_8 : decode cX4_namesMissing 8 = .ok (.if_icmp .ge 25, 3) := by decide +kernel
theorem dX4_namesMissing_11 : decode cX4_namesMissing 11 = .ok (.iload_n 1, 1) := by decide +kernel
theorem dX4_namesMissing_12 : decode cX4_namesMissing 12 = .ok (.ifCond .lt 15, 3) := by decide +kernel
theorem dX4_namesMissing_15 : decode cX4_namesMissing 15 = .ok (.aload_n 0, 1) := by decide +kernel
theorem dX4_namesMissing_16 : decode cX4_namesMissing 16 = .ok (.getfield 30, 3) := by decide +kernel
theorem dX4_namesMissing_19 : decode cX4_namesMissing 19 = .ok (.iload_n 1, 1) := by decide +kernel
theorem dX4_namesMissing_20 : decode cX4_namesMissing 20 = .ok (.iaload, 1) := by decide +kernel
theorem dX4_namesMissing_21 : decode cX4_namesMissing 21 = .ok (.iconst (-1), 1) := by decide +kernel
theorem dX4_namesMissing_22 : decode cX4_namesMissing 22 = .ok (.if_icmp .eq 5, 3) := by decide +kernel
theorem dX4_namesMissing_25 : decode cX4_namesMissing 25 = .ok (.iconst 1, 1) := by decide +kernel
theorem dX4_namesMissing_26 : decode cX4_namesMissing 26 = .ok (.ireturn, 1) := by decide +kernel
theorem dX4_namesMissing_27 : decode cX4_namesMissing 27 = .ok (.iinc 1 1, 3) := by decide +kernel
theorem dX4_namesMissing_30 : decode cX4_namesMissing 30 = .ok (.goto (-25), 3) := by decide +kernel
theorem dX4_namesMissing_33 : decode cX4_namesMissing 33 = .ok (.iconst 0, 1) := by decide +kernel
theorem dX4_namesMissing_34 : decode cX4_namesMissing 34 = .ok (.istore_n 1, 1) := by decide +kernel
theorem dX4_namesMissing_35 : decode cX4_namesMissing 35 = .ok (.iload_n 1, 1) := by decide +kernel
theorem dX4_namesMissing_36 : decode cX4_namesMissing 36 = .ok (.aload_n 0, 1) := by decide +kernel
theorem dX4_namesMissing_37 : decode cX4_namesMissing 37 = .ok (.getfield 55, 3) := by decide +kernel
theorem dX4_namesMissing_40 : decode cX4_namesMissing 40 = .ok (.if_icmp .ge 43, 3) := by decide +kernel
theorem dX4_namesMissing_43 : decode cX4_namesMissing 43 = .ok (.iload_n 1, 1) := by decide +kernel
theorem dX4_namesMissing_44 : decode cX4_namesMissing 44 = .ok (.bipush 6, 2) := by decide +kernel
theorem dX4_namesMissing_46 : decode cX4_namesMissing 46 = .ok (.if_icmp .ge 37, 3) := by decide +kernel
theorem dX4_namesMissing_49 : decode cX4_namesMissing 49 = .ok (.aload_n 0, 1) := by decide +kernel
theorem dX4_namesMissing_50 : decode cX4_namesMissing 50 = .ok (.aload_n 0, 1) := by decide +kernel
theorem dX4_namesMissing_51 : decode cX4_namesMissing 51 = .ok (.getfield 36, 3) := by decide +kernel
theorem dX4_namesMissing_54 : decode cX4_namesMissing 54 = .ok (.iload_n 1, 1) := by decide +kernel
theorem dX4_namesMissing_55 : decode cX4_namesMissing 55 = .ok (.iaload, 1) := by decide +kernel
theorem dX4_namesMissing_56 : decode cX4_namesMissing 56 = .ok (.invokevirtual 64, 3) := by decide +kernel
theorem dX4_namesMissing_59 : decode cX4_namesMissing 59 = .ok (.ifCond .eq 16, 3) := by decide +kernel
theorem dX4_namesMissing_62 : decode cX4_namesMissing 62 = .ok (.aload_n 0, 1) := by decide +kernel
theorem dX4_namesMissing_63 : decode cX4_namesMissing 63 = .ok (.aload_n 0, 1) := by decide +kernel
theorem dX4_namesMissing_64 : decode cX4_namesMissing 64 = .ok (.getfield 39, 3) := by decide +kernel
theorem dX4_namesMissing_67 : decode cX4_namesMissing 67 = .ok (.iload_n 1, 1) := by decide +kernel
theorem dX4_namesMissing_68 : decode cX4_namesMissing 68 = .ok (.iaload, 1) := by decide +kernel
theorem dX4_namesMissing_69 : decode cX4_namesMissing 69 = .ok (.invokevirtual 68, 3) := by decide +kernel
theorem dX4_namesMissing_72 : decode cX4_namesMissing 72 = .ok (.ifCond .ne 5, 3) := by decide +kernel
theorem dX4_namesMissing_75 : decode cX4_namesMissing 75 = .ok (.iconst 1, 1) := by decide +kernel
theorem dX4_namesMissing_76 : decode cX4_namesMissing 76 = .ok (.ireturn, 1) := by decide +kernel
theorem dX4_namesMissing_77 : decode cX4_namesMissing 77 = .ok (.iinc 1 1, 3) := by decide +kernel
theorem dX4_namesMissing_80 : decode cX4_namesMissing 80 = .ok (.goto (-45), 3) := by decide +kernel
theorem dX4_namesMissing_83 : decode cX4_namesMissing 83 = .ok (.iconst 0, 1) := by decide +kernel
theorem dX4_namesMissing_84 : decode cX4_namesMissing 84 = .ok (.ireturn, 1) := by decide +kernel
theorem dX4_canHang_0 : decode cX4_canHang 0 = .ok (.aload_n 0, 1) := by decide +kernel
theorem dX4_canHang_1 : decode cX4_canHang 1 = .ok (.iload_n 1, 1) := by decide +kernel
theorem dX4_canHang_2 : decode cX4_canHang 2 = .ok (.invokevirtual 64, 3) := by decide +kernel
theorem dX4_canHang_5 : decode cX4_canHang 5 = .ok (.ifCond .eq 35, 3) := by decide +kernel
theorem dX4_canHang_8 : decode cX4_canHang 8 = .ok (.aload_n 0, 1) := by decide +kernel
theorem dX4_canHang_9 : decode cX4_canHang 9 = .ok (.iload_n 2, 1) := by decide +kernel
theorem dX4_canHang_10 : decode cX4_canHang 10 = .ok (.invokevirtual 68, 3) := by decide +kernel
theorem dX4_canHang_13 : decode cX4_canHang 13 = .ok (.ifCond .eq 27, 3) := by decide +kernel
theorem dX4_canHang_16 : decode cX4_canHang 16 = .ok (.aload_n 0, 1) := by decide +kernel
theorem dX4_canHang_17 : decode cX4_canHang 17 = .ok (.getfield 21, 3) := by decide +kernel
theorem dX4_canHang_20 : decode cX4_canHang 20 = .ok (.iload_n 1, 1) := by decide +kernel
theorem dX4_canHang_21 : decode cX4_canHang 21 = .ok (.iaload, 1) := by decide +kernel
theorem dX4_canHang_22 : decode cX4_canHang 22 = .ok (.iconst (-1), 1) := by decide +kernel
theorem dX4_canHang_23 : decode cX4_canHang 23 = .ok (.if_icmp .ne 17, 3) := by decide +kernel
theorem dX4_canHang_26 : decode cX4_canHang 26 = .ok (.aload_n 0, 1) := by decide +kernel
theorem dX4_canHang_27 : decode cX4_canHang 27 = .ok (.getfield 30, 3) := by decide +kernel
theorem dX4_canHang_30 : decode cX4_canHang 30 = .ok (.iload_n 2, 1) := by decide +kernel
theorem dX4_canHang_31 : decode cX4_canHang 31 = .ok (.iaload, 1) := by decide +kernel
theorem dX4_canHang_32 : decode cX4_canHang 32 = .ok (.iconst (-1), 1) := by decide +kernel
theorem dX4_canHang_33 : decode cX4_canHang 33 = .ok (.if_icmp .ne 7, 3) := by decide +kernel
theorem dX4_canHang_36 : decode cX4_canHang 36 = .ok (.iconst 1, 1) := by decide +kernel
theorem dX4_canHang_37 : decode cX4_canHang 37 = .ok (.goto 4, 3) := by decide +kernel
theorem dX4_canHang_40 : decode cX4_canHang 40 = .ok (.iconst 0, 1) := by decide +kernel
theorem dX4_canHang_41 : decode cX4_canHang 41 = .ok (.ireturn, 1) := by decide +kernel
theorem dX4_hangDoor_0 : decode cX4_hangDoor 0 = .ok (.aload_n 0, 1) := by decide +kernel
theorem dX4_hangDoor_1 : decode cX4_hangDoor 1 = .ok (.iload_n 1, 1) := by decide +kernel
theorem dX4_hangDoor_2 : decode cX4_hangDoor 2 = .ok (.iload_n 2, 1) := by decide +kernel
theorem dX4_hangDoor_3 : decode cX4_hangDoor 3 = .ok (.invokevirtual 71, 3) := by decide +kernel
theorem dX4_hangDoor_6 : decode cX4_hangDoor 6 = .ok (.ifCond .ne 5, 3) := by decide +kernel
theorem dX4_hangDoor_9 : decode cX4_hangDoor 9 = .ok (.iconst 0, 1) := by decide +kernel
theorem dX4_hangDoor_10 : decode cX4_hangDoor 10 = .ok (.ireturn, 1) := by decide +kernel
theorem dX4_hangDoor_11 : decode cX4_hangDoor 11 = .ok (.aload_n 0, 1) := by decide +kernel
theorem dX4_hangDoor_12 : decode cX4_hangDoor 12 = .ok (.getfield 21, 3) := by decide +kernel
theorem dX4_hangDoor_15 : decode cX4_hangDoor 15 = .ok (.iload_n 1, 1) := by decide +kernel
theorem dX4_hangDoor_16 : decode cX4_hangDoor 16 = .ok (.iload_n 2, 1) := by decide +kernel
theorem dX4_hangDoor_17 : decode cX4_hangDoor 17 = .ok (.iastore, 1) := by decide +kernel
theorem dX4_hangDoor_18 : decode cX4_hangDoor 18 = .ok (.aload_n 0, 1) := by decide +kernel
theorem dX4_hangDoor_19 : decode cX4_hangDoor 19 = .ok (.getfield 30, 3) := by decide +kernel
theorem dX4_hangDoor_22 : decode cX4_hangDoor 22 = .ok (.iload_n 2, 1) := by decide +kernel
theorem dX4_hangDoor_23 : decode cX4_hangDoor 23 = .ok (.iload_n 1, 1) := by decide +kernel
theorem dX4_hangDoor_24 : decode cX4_hangDoor 24 = .ok (.iastore, 1) := by decide +kernel
theorem dX4_hangDoor_25 : decode cX4_hangDoor 25 = .ok (.iconst 1, 1) := by decide +kernel
theorem dX4_hangDoor_26 : decode cX4_hangDoor 26 = .ok (.ireturn, 1) := by decide +kernel
theorem dX4_takeDoor_0 : decode cX4_takeDoor 0 = .ok (.aload_n 0, 1) := by decide +kernel
theorem dX4_takeDoor_1 : decode cX4_takeDoor 1 = .ok (.iload_n 1, 1) := by decide +kernel
theorem dX4_takeDoor_2 : decode cX4_takeDoor 2 = .ok (.invokevirtual 68, 3) := by decide +kernel
theorem dX4_takeDoor_5 : decode cX4_takeDoor 5 = .ok (.ifCond .eq 12, 3) := by decide +kernel
theorem dX4_takeDoor_8 : decode cX4_takeDoor 8 = .ok (.aload_n 0, 1) := by decide +kernel
theorem dX4_takeDoor_9 : decode cX4_takeDoor 9 = .ok (.getfield 30, 3) := by decide +kernel
theorem dX4_takeDoor_12 : decode cX4_takeDoor 12 = .ok (.iload_n 1, 1) := by decide +kernel
theorem dX4_takeDoor_13 : decode cX4_takeDoor 13 = .ok (.iaload, 1) := by decide +kernel
theorem dX4_takeDoor_14 : decode cX4_takeDoor 14 = .ok (.goto 4, 3) := by decide +kernel
theorem dX4_takeDoor_17 : decode cX4_takeDoor 17 = .ok (.iconst (-1), 1) := by decide +kernel
theorem dX4_takeDoor_18 : decode cX4_takeDoor 18 = .ok (.istore_n 3, 1) := by decide +kernel
theorem dX4_takeDoor_19 : decode cX4_takeDoor 19 = .ok (.aload_n 0, 1) := by decide +kernel
theorem dX4_takeDoor_20 : decode cX4_takeDoor 20 = .ok (.iload_n 3, 1) := by decide +kernel
theorem dX4_takeDoor_21 : decode cX4_takeDoor 21 = .ok (.invokevirtual 64, 3) := by decide +kernel
theorem dX4_takeDoor_24 : decode cX4_takeDoor 24 = .ok (.ifCond .ne 5, 3) := by decide +kernel
theorem dX4_takeDoor_27 : decode cX4_takeDoor 27 = .ok (.iconst (-1), 1) := by decide +kernel
theorem dX4_takeDoor_28 : decode cX4_takeDoor 28 = .ok (.ireturn, 1) := by decide +kernel
theorem dX4_takeDoor_29 : decode cX4_takeDoor 29 = .ok (.aload_n 0, 1) := by decide +kernel
theorem dX4_takeDoor_30 : decode cX4_takeDoor 30 = .ok (.getfield 30, 3) := by decide +kernel
theorem dX4_takeDoor_33 : decode cX4_takeDoor 33 = .ok (.iload_n 1, 1) := by decide +kernel
theorem dX4_takeDoor_34 : decode cX4_takeDoor 34 = .ok (.iconst (-1), 1) := by decide +kernel
theorem dX4_takeDoor_35 : decode cX4_takeDoor 35 = .ok (.iastore, 1) := by decide +kernel
theorem dX4_takeDoor_36 : decode cX4_takeDoor 36 = .ok (.aload_n 0, 1) := by decide +kernel
theorem dX4_takeDoor_37 : decode cX4_takeDoor 37 = .ok (.getfield 21, 3) := by decide +kernel
theorem dX4_takeDoor_40 : decode cX4_takeDoor 40 = .ok (.iload_n 3, 1) := by decide +kernel
theorem dX4_takeDoor_41 : decode cX4_takeDoor 41 = .ok (.iload_n 2, 1) := by decide +kernel
theorem dX4_takeDoor_42 : decode cX4_takeDoor 42 = .ok (.iastore, 1) := by decide +kernel
theorem dX4_takeDoor_43 : decode cX4_takeDoor 43 = .ok (.iload_n 3, 1) := by decide +kernel
theorem dX4_takeDoor_44 : decode cX4_takeDoor 44 = .ok (.ireturn, 1) := by decide +kernel
theorem dX4_moveDoor_0 : decode cX4_moveDoor 0 = .ok (.aload_n 0, 1) := by decide +kernel
theorem dX4_moveDoor_1 : decode cX4_moveDoor 1 = .ok (.iload_n 1, 1) := by decide +kernel
theorem dX4_moveDoor_2 : decode cX4_moveDoor 2 = .ok (.invokevirtual 64, 3) := by decide +kernel
theorem dX4_moveDoor_5 : decode cX4_moveDoor 5 = .ok (.ifCond .eq 31, 3) := by decide +kernel
theorem dX4_moveDoor_8 : decode cX4_moveDoor 8 = .ok (.aload_n 0, 1) := by decide +kernel
theorem dX4_moveDoor_9 : decode cX4_moveDoor 9 = .ok (.iload_n 2, 1) := by decide +kernel
theorem dX4_moveDoor_10 : decode cX4_moveDoor 10 = .ok (.invokevirtual 68, 3) := by decide +kernel
theorem dX4_moveDoor_13 : decode cX4_moveDoor 13 = .ok (.ifCond .eq 23, 3) := by decide +kernel
theorem dX4_moveDoor_16 : decode cX4_moveDoor 16 = .ok (.aload_n 0, 1) := by decide +kernel
theorem dX4_moveDoor_17 : decode cX4_moveDoor 17 = .ok (.getfield 30, 3) := by decide +kernel
theorem dX4_moveDoor_20 : decode cX4_moveDoor 20 = .ok (.iload_n 2, 1) := by decide +kernel
theorem dX4_moveDoor_21 : decode cX4_moveDoor 21 = .ok (.iaload, 1) := by decide +kernel
theorem dX4_moveDoor_22 : decode cX4_moveDoor 22 = .ok (.iconst (-1), 1) := by decide +kernel
theorem dX4_moveDoor_23 : decode cX4_moveDoor 23 = .ok (.if_icmp .eq 15, 3) := by decide +kernel
theorem dX4_moveDoor_26 : decode cX4_moveDoor 26 = .ok (.aload_n 0, 1) := by decide +kernel
theorem dX4_moveDoor_27 : decode cX4_moveDoor 27 = .ok (.getfield 30, 3) := by decide +kernel
theorem dX4_moveDoor_30 : decode cX4_moveDoor 30 = .ok (.iload_n 2, 1) := by decide +kernel
theorem dX4_moveDoor_31 : decode cX4_moveDoor 31 = .ok (.iaload, 1) := by decide +kernel
theorem dX4_moveDoor_32 : decode cX4_moveDoor 32 = .ok (.iload_n 1, 1) := by decide +kernel
theorem dX4_moveDoor_33 : decode cX4_moveDoor 33 = .ok (.if_icmp .eq 5, 3) := by decide +kernel
theorem dX4_moveDoor_36 : decode cX4_moveDoor 36 = .ok (.iconst 0, 1) := by decide +kernel
theorem dX4_moveDoor_37 : decode cX4_moveDoor 37 = .ok (.ireturn, 1) := by decide +kernel
theorem dX4_moveDoor_38 : decode cX4_moveDoor 38 = .ok (.aload_n 0, 1) := by decide +kernel
theorem dX4_moveDoor_39 : decode cX4_moveDoor 39 = .ok (.aload_n 0, 1) := by decide +kernel
theorem dX4_moveDoor_40 : decode cX4_moveDoor 40 = .ok (.getfield 21, 3) := by decide +kernel
theorem dX4_moveDoor_43 : decode cX4_moveDoor 43 = .ok (.iload_n 1, 1) := by decide +kernel
theorem dX4_moveDoor_44 : decode cX4_moveDoor 44 = .ok (.iaload, 1) := by decide +kernel
theorem dX4_moveDoor_45 : decode cX4_moveDoor 45 = .ok (.iconst (-1), 1) := by decide +kernel
theorem dX4_moveDoor_46 : decode cX4_moveDoor 46 = .ok (.invokevirtual 75, 3) := by decide +kernel
theorem dX4_moveDoor_49 : decode cX4_moveDoor 49 = .ok (.pop, 1) := by decide +kernel
theorem dX4_moveDoor_50 : decode cX4_moveDoor 50 = .ok (.aload_n 0, 1) := by decide +kernel
theorem dX4_moveDoor_51 : decode cX4_moveDoor 51 = .ok (.getfield 21, 3) := by decide +kernel
theorem dX4_moveDoor_54 : decode cX4_moveDoor 54 = .ok (.iload_n 1, 1) := by decide +kernel
theorem dX4_moveDoor_55 : decode cX4_moveDoor 55 = .ok (.iconst (-1), 1) := by decide +kernel
theorem dX4_moveDoor_56 : decode cX4_moveDoor 56 = .ok (.iastore, 1) := by decide +kernel
theorem dX4_moveDoor_57 : decode cX4_moveDoor 57 = .ok (.aload_n 0, 1) := by decide +kernel
theorem dX4_moveDoor_58 : decode cX4_moveDoor 58 = .ok (.iload_n 1, 1) := by decide +kernel
theorem dX4_moveDoor_59 : decode cX4_moveDoor 59 = .ok (.iload_n 2, 1) := by decide +kernel
theorem dX4_moveDoor_60 : decode cX4_moveDoor 60 = .ok (.invokevirtual 79, 3) := by decide +kernel
theorem dX4_moveDoor_63 : decode cX4_moveDoor 63 = .ok (.ireturn, 1) := by decide +kernel
theorem dX4_doorState_0 : decode cX4_doorState 0 = .ok (.aload_n 0, 1) := by decide +kernel
theorem dX4_doorState_1 : decode cX4_doorState 1 = .ok (.getfield 21, 3) := by decide +kernel
theorem dX4_doorState_4 : decode cX4_doorState 4 = .ok (.iload_n 1, 1) := by decide +kernel
theorem dX4_doorState_5 : decode cX4_doorState 5 = .ok (.iaload, 1) := by decide +kernel
theorem dX4_doorState_6 : decode cX4_doorState 6 = .ok (.iconst (-1), 1) := by decide +kernel
theorem dX4_doorState_7 : decode cX4_doorState 7 = .ok (.if_icmp .ne 7, 3) := by decide +kernel
theorem dX4_doorState_10 : decode cX4_doorState 10 = .ok (.iconst 0, 1) := by decide +kernel
theorem dX4_doorState_11 : decode cX4_doorState 11 = .ok (.goto 19, 3) := by decide +kernel
theorem dX4_doorState_14 : decode cX4_doorState 14 = .ok (.aload_n 0, 1) := by decide +kernel
theorem dX4_doorState_15 : decode cX4_doorState 15 = .ok (.getfield 21, 3) := by decide +kernel
theorem dX4_doorState_18 : decode cX4_doorState 18 = .ok (.iload_n 1, 1) := by decide +kernel
theorem dX4_doorState_19 : decode cX4_doorState 19 = .ok (.iaload, 1) := by decide +kernel
theorem dX4_doorState_20 : decode cX4_doorState 20 = .ok (.bipush (-2), 2) := by decide +kernel
theorem dX4_doorState_22 : decode cX4_doorState 22 = .ok (.if_icmp .ne 7, 3) := by decide +kernel
theorem dX4_doorState_25 : decode cX4_doorState 25 = .ok (.iconst 2, 1) := by decide +kernel
theorem dX4_doorState_26 : decode cX4_doorState 26 = .ok (.goto 4, 3) := by decide +kernel
theorem dX4_doorState_29 : decode cX4_doorState 29 = .ok (.iconst 1, 1) := by decide +kernel
theorem dX4_doorState_30 : decode cX4_doorState 30 = .ok (.ireturn, 1) := by decide +kernel
theorem dX4_doorsAt_0 : decode cX4_doorsAt 0 = .ok (.iconst 0, 1) := by decide +kernel
theorem dX4_doorsAt_1 : decode cX4_doorsAt 1 = .ok (.istore_n 2, 1) := by decide +kernel
theorem dX4_doorsAt_2 : decode cX4_doorsAt 2 = .ok (.iconst 0, 1) := by decide +kernel
theorem dX4_doorsAt_3 : decode cX4_doorsAt 3 = .ok (.istore_n 3, 1) := by decide +kernel
theorem dX4_doorsAt_4 : decode cX4_doorsAt 4 = .ok (.iload_n 3, 1) := by decide +kernel
theorem dX4_doorsAt_5 : decode cX4_doorsAt 5 = .ok (.aload_n 0, 1) := by decide +kernel
theorem dX4_doorsAt_6 : decode cX4_doorsAt 6 = .ok (.getfield 48, 3) := by decide +kernel
theorem dX4_doorsAt_9 : decode cX4_doorsAt 9 = .ok (.if_icmp .ge 25, 3) := by decide +kernel
theorem dX4_doorsAt_12 : decode cX4_doorsAt 12 = .ok (.aload_n 0, 1) := by decide +kernel
theorem dX4_doorsAt_13 : decode cX4_doorsAt 13 = .ok (.getfield 21, 3) := by decide +kernel
theorem dX4_doorsAt_16 : decode cX4_doorsAt 16 = .ok (.iload_n 3, 1) := by decide +kernel
theorem dX4_doorsAt_17 : decode cX4_doorsAt 17 = .ok (.iaload, 1) := by decide +kernel
theorem dX4_doorsAt_18 : decode cX4_doorsAt 18 = .ok (.iload_n 1, 1) := by decide +kernel
theorem dX4_doorsAt_19 : decode cX4_doorsAt 19 = .ok (.if_icmp .ne 9, 3) := by decide +kernel
theorem dX4_doorsAt_22 : decode cX4_doorsAt 22 = .ok (.iload_n 2, 1) := by decide +kernel
theorem dX4_doorsAt_23 : decode cX4_doorsAt 23 = .ok (.iconst 1, 1) := by decide +kernel
theorem dX4_doorsAt_24 : decode cX4_doorsAt 24 = .ok (.iload_n 3, 1) := by decide +kernel
theorem dX4_doorsAt_25 : decode cX4_doorsAt 25 = .ok (.ishl, 1) := by decide +kernel
theorem dX4_doorsAt_26 : decode cX4_doorsAt 26 = .ok (.ior, 1) := by decide +kernel
theorem dX4_doorsAt_27 : decode cX4_doorsAt 27 = .ok (.istore_n 2, 1) := by decide +kernel
theorem dX4_doorsAt_28 : decode cX4_doorsAt 28 = .ok (.iinc 3 1, 3) := by decide +kernel
theorem dX4_doorsAt_31 : decode cX4_doorsAt 31 = .ok (.goto (-27), 3) := by decide +kernel
theorem dX4_doorsAt_34 : decode cX4_doorsAt 34 = .ok (.iload_n 2, 1) := by decide +kernel
theorem dX4_doorsAt_35 : decode cX4_doorsAt 35 = .ok (.ireturn, 1) := by decide +kernel
theorem dX4_hungWalls_0 : decode cX4_hungWalls 0 = .ok (.iconst 0, 1) := by decide +kernel
theorem dX4_hungWalls_1 : decode cX4_hungWalls 1 = .ok (.istore_n 1, 1) := by decide +kernel
theorem dX4_hungWalls_2 : decode cX4_hungWalls 2 = .ok (.iconst 0, 1) := by decide +kernel
theorem dX4_hungWalls_3 : decode cX4_hungWalls 3 = .ok (.istore_n 2, 1) := by decide +kernel
theorem dX4_hungWalls_4 : decode cX4_hungWalls 4 = .ok (.iload_n 2, 1) := by decide +kernel
theorem dX4_hungWalls_5 : decode cX4_hungWalls 5 = .ok (.aload_n 0, 1) := by decide +kernel
theorem dX4_hungWalls_6 : decode cX4_hungWalls 6 = .ok (.getfield 52, 3) := by decide +kernel
theorem dX4_hungWalls_9 : decode cX4_hungWalls 9 = .ok (.if_icmp .ge 25, 3) := by decide +kernel
theorem dX4_hungWalls_12 : decode cX4_hungWalls 12 = .ok (.aload_n 0, 1) := by decide +kernel
theorem dX4_hungWalls_13 : decode cX4_hungWalls 13 = .ok (.getfield 30, 3) := by decide +kernel
theorem dX4_hungWalls_16 : decode cX4_hungWalls 16 = .ok (.iload_n 2, 1) := by decide +kernel
theorem dX4_hungWalls_17 : decode cX4_hungWalls 17 = .ok (.iaload, 1) := by decide +kernel
theorem dX4_hungWalls_18 : decode cX4_hungWalls 18 = .ok (.iconst (-1), 1) := by decide +kernel
theorem dX4_hungWalls_19 : decode cX4_hungWalls 19 = .ok (.if_icmp .eq 9, 3) := by decide +kernel
theorem dX4_hungWalls_22 : decode cX4_hungWalls 22 = .ok (.iload_n 1, 1) := by decide +kernel
theorem dX4_hungWalls_23 : decode cX4_hungWalls 23 = .ok (.iconst 1, 1) := by decide +kernel
theorem dX4_hungWalls_24 : decode cX4_hungWalls 24 = .ok (.iload_n 2, 1) := by decide +kernel
theorem dX4_hungWalls_25 : decode cX4_hungWalls 25 = .ok (.ishl, 1) := by decide +kernel
theorem dX4_hungWalls_26 : decode cX4_hungWalls 26 = .ok (.ior, 1) := by decide +kernel
theorem dX4_hungWalls_27 : decode cX4_hungWalls 27 = .ok (.istore_n 1, 1) := by decide +kernel
theorem dX4_hungWalls_28 : decode cX4_hungWalls 28 = .ok (.iinc 2 1, 3) := by decide +kernel
theorem dX4_hungWalls_31 : decode cX4_hungWalls 31 = .ok (.goto (-27), 3) := by decide +kernel
theorem dX4_hungWalls_34 : decode cX4_hungWalls 34 = .ok (.iload_n 1, 1) := by decide +kernel
theorem dX4_hungWalls_35 : decode cX4_hungWalls 35 = .ok (.ireturn, 1) := by decide +kernel
theorem dX4_lets_0 : decode cX4_lets 0 = .ok (.aload_n 0, 1) := by decide +kernel
theorem dX4_lets_1 : decode cX4_lets 1 = .ok (.iload_n 1, 1) := by decide +kernel
theorem dX4_lets_2 : decode cX4_lets 2 = .ok (.invokevirtual 64, 3) := by decide +kernel
theorem dX4_lets_5 : decode cX4_lets 5 = .ok (.ifCond .eq 11, 3) := by decide +kernel
theorem dX4_lets_8 : decode cX4_lets 8 = .ok (.aload_n 0, 1) := by decide +kernel
theorem dX4_lets_9 : decode cX4_lets 9 = .ok (.iload_n 2, 1) := by decide +kernel
theorem dX4_lets_10 : decode cX4_lets 10 = .ok (.invokevirtual 64, 3) := by decide +kernel
theorem dX4_lets_13 : decode cX4_lets 13 = .ok (.ifCond .ne 5, 3) := by decide +kernel
theorem dX4_lets_16 : decode cX4_lets 16 = .ok (.iconst 0, 1) := by decide +kernel
theorem dX4_lets_17 : decode cX4_lets 17 = .ok (.ireturn, 1) := by decide +kernel
theorem dX4_lets_18 : decode cX4_lets 18 = .ok (.aload_n 0, 1) := by decide +kernel
theorem dX4_lets_19 : decode cX4_lets 19 = .ok (.getfield 9, 3) := by decide +kernel
theorem dX4_lets_22 : decode cX4_lets 22 = .ok (.iload_n 1, 1) := by decide +kernel
theorem dX4_lets_23 : decode cX4_lets 23 = .ok (.iaload, 1) := by decide +kernel
theorem dX4_lets_24 : decode cX4_lets 24 = .ok (.tableswitch 81 0 2 #[28, 39, 60], 28) := by decide +kernel
theorem dX4_lets_52 : decode cX4_lets 52 = .ok (.iload_n 2, 1) := by decide +kernel
theorem dX4_lets_53 : decode cX4_lets 53 = .ok (.iload_n 1, 1) := by decide +kernel
theorem dX4_lets_54 : decode cX4_lets 54 = .ok (.if_icmp .ne 7, 3) := by decide +kernel
theorem dX4_lets_57 : decode cX4_lets 57 = .ok (.iconst 1, 1) := by decide +kernel
theorem dX4_lets_58 : decode cX4_lets 58 = .ok (.goto 4, 3) := by decide +kernel
theorem dX4_lets_61 : decode cX4_lets 61 = .ok (.iconst 0, 1) := by decide +kernel
theorem dX4_lets_62 : decode cX4_lets 62 = .ok (.ireturn, 1) := by decide +kernel
theorem dX4_lets_63 : decode cX4_lets 63 = .ok (.aload_n 0, 1) := by decide +kernel
theorem dX4_lets_64 : decode cX4_lets 64 = .ok (.getfield 15, 3) := by decide +kernel
theorem dX4_lets_67 : decode cX4_lets 67 = .ok (.iload_n 2, 1) := by decide +kernel
theorem dX4_lets_68 : decode cX4_lets 68 = .ok (.iaload, 1) := by decide +kernel
theorem dX4_lets_69 : decode cX4_lets 69 = .ok (.aload_n 0, 1) := by decide +kernel
theorem dX4_lets_70 : decode cX4_lets 70 = .ok (.getfield 15, 3) := by decide +kernel
theorem dX4_lets_73 : decode cX4_lets 73 = .ok (.iload_n 1, 1) := by decide +kernel
theorem dX4_lets_74 : decode cX4_lets 74 = .ok (.iaload, 1) := by decide +kernel
theorem dX4_lets_75 : decode cX4_lets 75 = .ok (.if_icmp .ne 7, 3) := by decide +kernel
theorem dX4_lets_78 : decode cX4_lets 78 = .ok (.iconst 1, 1) := by decide +kernel
theorem dX4_lets_79 : decode cX4_lets 79 = .ok (.goto 4, 3) := by decide +kernel
theorem dX4_lets_82 : decode cX4_lets 82 = .ok (.iconst 0, 1) := by decide +kernel
theorem dX4_lets_83 : decode cX4_lets 83 = .ok (.ireturn, 1) := by decide +kernel
theorem dX4_lets_84 : decode cX4_lets 84 = .ok (.aload_n 0, 1) := by decide +kernel
theorem dX4_lets_85 : decode cX4_lets 85 = .ok (.getfield 15, 3) := by decide +kernel
theorem dX4_lets_88 : decode cX4_lets 88 = .ok (.iload_n 2, 1) := by decide +kernel
theorem dX4_lets_89 : decode cX4_lets 89 = .ok (.iaload, 1) := by decide +kernel
theorem dX4_lets_90 : decode cX4_lets 90 = .ok (.aload_n 0, 1) := by decide +kernel
theorem dX4_lets_91 : decode cX4_lets 91 = .ok (.getfield 15, 3) := by decide +kernel
theorem dX4_lets_94 : decode cX4_lets 94 = .ok (.iload_n 1, 1) := by decide +kernel
theorem dX4_lets_95 : decode cX4_lets 95 = .ok (.iaload, 1) := by decide +kernel
theorem dX4_lets_96 : decode cX4_lets 96 = .ok (.if_icmp .eq 7, 3) := by decide +kernel
theorem dX4_lets_99 : decode cX4_lets 99 = .ok (.iconst 1, 1) := by decide +kernel
theorem dX4_lets_100 : decode cX4_lets 100 = .ok (.goto 4, 3) := by decide +kernel
theorem dX4_lets_103 : decode cX4_lets 103 = .ok (.iconst 0, 1) := by decide +kernel
theorem dX4_lets_104 : decode cX4_lets 104 = .ok (.ireturn, 1) := by decide +kernel
theorem dX4_lets_105 : decode cX4_lets 105 = .ok (.iload_n 2, 1) := by decide +kernel
theorem dX4_lets_106 : decode cX4_lets 106 = .ok (.iload_n 1, 1) := by decide +kernel
theorem dX4_lets_107 : decode cX4_lets 107 = .ok (.if_icmp .eq 7, 3) := by decide +kernel
theorem dX4_lets_110 : decode cX4_lets 110 = .ok (.iconst 1, 1) := by decide +kernel
theorem dX4_lets_111 : decode cX4_lets 111 = .ok (.goto 4, 3) := by decide +kernel
theorem dX4_lets_114 : decode cX4_lets 114 = .ok (.iconst 0, 1) := by decide +kernel
theorem dX4_lets_115 : decode cX4_lets 115 = .ok (.ireturn, 1) := by decide +kernel
theorem dX4_whomLets_0 : decode cX4_whomLets 0 = .ok (.iconst 0, 1) := by decide +kernel
theorem dX4_whomLets_1 : decode cX4_whomLets 1 = .ok (.istore_n 2, 1) := by decide +kernel
theorem dX4_whomLets_2 : decode cX4_whomLets 2 = .ok (.iconst 0, 1) := by decide +kernel
theorem dX4_whomLets_3 : decode cX4_whomLets 3 = .ok (.istore_n 3, 1) := by decide +kernel
theorem dX4_whomLets_4 : decode cX4_whomLets 4 = .ok (.iload_n 3, 1) := by decide +kernel
theorem dX4_whomLets_5 : decode cX4_whomLets 5 = .ok (.aload_n 0, 1) := by decide +kernel
theorem dX4_whomLets_6 : decode cX4_whomLets 6 = .ok (.getfield 48, 3) := by decide +kernel
theorem dX4_whomLets_9 : decode cX4_whomLets 9 = .ok (.if_icmp .ge 29, 3) := by decide +kernel
theorem dX4_whomLets_12 : decode cX4_whomLets 12 = .ok (.aload_n 0, 1) := by decide +kernel
theorem dX4_whomLets_13 : decode cX4_whomLets 13 = .ok (.aload_n 0, 1) := by decide +kernel
theorem dX4_whomLets_14 : decode cX4_whomLets 14 = .ok (.getfield 30, 3) := by decide +kernel
theorem dX4_whomLets_17 : decode cX4_whomLets 17 = .ok (.iload_n 1, 1) := by decide +kernel
theorem dX4_whomLets_18 : decode cX4_whomLets 18 = .ok (.iaload, 1) := by decide +kernel
theorem dX4_whomLets_19 : decode cX4_whomLets 19 = .ok (.iload_n 3, 1) := by decide +kernel
theorem dX4_whomLets_20 : decode cX4_whomLets 20 = .ok (.invokevirtual 82, 3) := by decide +kernel
theorem dX4_whomLets_23 : decode cX4_whomLets 23 = .ok (.ifCond .eq 9, 3) := by decide +kernel
theorem dX4_whomLets_26 : decode cX4_whomLets 26 = .ok (.iload_n 2, 1) := by decide +kernel
theorem dX4_whomLets_27 : decode cX4_whomLets 27 = .ok (.iconst 1, 1) := by decide +kernel
theorem dX4_whomLets_28 : decode cX4_whomLets 28 = .ok (.iload_n 3, 1) := by decide +kernel
theorem dX4_whomLets_29 : decode cX4_whomLets 29 = .ok (.ishl, 1) := by decide +kernel
theorem dX4_whomLets_30 : decode cX4_whomLets 30 = .ok (.ior, 1) := by decide +kernel
theorem dX4_whomLets_31 : decode cX4_whomLets 31 = .ok (.istore_n 2, 1) := by decide +kernel
theorem dX4_whomLets_32 : decode cX4_whomLets 32 = .ok (.iinc 3 1, 3) := by decide +kernel
theorem dX4_whomLets_35 : decode cX4_whomLets 35 = .ok (.goto (-31), 3) := by decide +kernel
theorem dX4_whomLets_38 : decode cX4_whomLets 38 = .ok (.iload_n 2, 1) := by decide +kernel
theorem dX4_whomLets_39 : decode cX4_whomLets 39 = .ok (.ireturn, 1) := by decide +kernel
theorem dX4_passed_0 : decode cX4_passed 0 = .ok (.iconst 0, 1) := by decide +kernel
theorem dX4_passed_1 : decode cX4_passed 1 = .ok (.istore_n 2, 1) := by decide +kernel
theorem dX4_passed_2 : decode cX4_passed 2 = .ok (.iconst 0, 1) := by decide +kernel
theorem dX4_passed_3 : decode cX4_passed 3 = .ok (.istore_n 3, 1) := by decide +kernel
theorem dX4_passed_4 : decode cX4_passed 4 = .ok (.iload_n 3, 1) := by decide +kernel
theorem dX4_passed_5 : decode cX4_passed 5 = .ok (.aload_n 0, 1) := by decide +kernel
theorem dX4_passed_6 : decode cX4_passed 6 = .ok (.getfield 52, 3) := by decide +kernel
theorem dX4_passed_9 : decode cX4_passed 9 = .ok (.if_icmp .ge 29, 3) := by decide +kernel
theorem dX4_passed_12 : decode cX4_passed 12 = .ok (.aload_n 0, 1) := by decide +kernel
theorem dX4_passed_13 : decode cX4_passed 13 = .ok (.aload_n 0, 1) := by decide +kernel
theorem dX4_passed_14 : decode cX4_passed 14 = .ok (.getfield 30, 3) := by decide +kernel
theorem dX4_passed_17 : decode cX4_passed 17 = .ok (.iload_n 3, 1) := by decide +kernel
theorem dX4_passed_18 : decode cX4_passed 18 = .ok (.iaload, 1) := by decide +kernel
theorem dX4_passed_19 : decode cX4_passed 19 = .ok (.iload_n 1, 1) := by decide +kernel
theorem dX4_passed_20 : decode cX4_passed 20 = .ok (.invokevirtual 82, 3) := by decide +kernel
theorem dX4_passed_23 : decode cX4_passed 23 = .ok (.ifCond .eq 9, 3) := by decide +kernel
theorem dX4_passed_26 : decode cX4_passed 26 = .ok (.iload_n 2, 1) := by decide +kernel
theorem dX4_passed_27 : decode cX4_passed 27 = .ok (.iconst 1, 1) := by decide +kernel
theorem dX4_passed_28 : decode cX4_passed 28 = .ok (.iload_n 3, 1) := by decide +kernel
theorem dX4_passed_29 : decode cX4_passed 29 = .ok (.ishl, 1) := by decide +kernel
theorem dX4_passed_30 : decode cX4_passed 30 = .ok (.ior, 1) := by decide +kernel
theorem dX4_passed_31 : decode cX4_passed 31 = .ok (.istore_n 2, 1) := by decide +kernel
theorem dX4_passed_32 : decode cX4_passed 32 = .ok (.iinc 3 1, 3) := by decide +kernel
theorem dX4_passed_35 : decode cX4_passed 35 = .ok (.goto (-31), 3) := by decide +kernel
theorem dX4_passed_38 : decode cX4_passed 38 = .ok (.iload_n 2, 1) := by decide +kernel
theorem dX4_passed_39 : decode cX4_passed 39 = .ok (.ireturn, 1) := by decide +kernel
theorem dX4_passedIfHung_0 : decode cX4_passedIfHung 0 = .ok (.aload_n 0, 1) := by decide +kernel
theorem dX4_passedIfHung_1 : decode cX4_passedIfHung 1 = .ok (.iload_n 1, 1) := by decide +kernel
theorem dX4_passedIfHung_2 : decode cX4_passedIfHung 2 = .ok (.iload_n 3, 1) := by decide +kernel
theorem dX4_passedIfHung_3 : decode cX4_passedIfHung 3 = .ok (.invokevirtual 82, 3) := by decide +kernel
theorem dX4_passedIfHung_6 : decode cX4_passedIfHung 6 = .ok (.ifCond .eq 15, 3) := by decide +kernel
theorem dX4_passedIfHung_9 : decode cX4_passedIfHung 9 = .ok (.aload_n 0, 1) := by decide +kernel
theorem dX4_passedIfHung_10 : decode cX4_passedIfHung 10 = .ok (.iload_n 3, 1) := by decide +kernel
theorem dX4_passedIfHung_11 : decode cX4_passedIfHung 11 = .ok (.invokevirtual 85, 3) := by decide +kernel
theorem dX4_passedIfHung_14 : decode cX4_passedIfHung 14 = .ok (.iconst 1, 1) := by decide +kernel
theorem dX4_passedIfHung_15 : decode cX4_passedIfHung 15 = .ok (.iload_n 2, 1) := by decide +kernel
theorem dX4_passedIfHung_16 : decode cX4_passedIfHung 16 = .ok (.ishl, 1) := by decide +kernel
theorem dX4_passedIfHung_17 : decode cX4_passedIfHung 17 = .ok (.ior, 1) := by decide +kernel
theorem dX4_passedIfHung_18 : decode cX4_passedIfHung 18 = .ok (.goto 8, 3) := by decide +kernel
theorem dX4_passedIfHung_21 : decode cX4_passedIfHung 21 = .ok (.aload_n 0, 1) := by decide +kernel
theorem dX4_passedIfHung_22 : decode cX4_passedIfHung 22 = .ok (.iload_n 3, 1) := by decide +kernel
theorem dX4_passedIfHung_23 : decode cX4_passedIfHung 23 = .ok (.invokevirtual 85, 3) := by decide +kernel
theorem dX4_passedIfHung_26 : decode cX4_passedIfHung 26 = .ok (.ireturn, 1) := by decide +kernel
theorem dX4_nextTo_0 : decode cX4_nextTo 0 = .ok (.iconst 0, 1) := by decide +kernel
theorem dX4_nextTo_1 : decode cX4_nextTo 1 = .ok (.istore_n 3, 1) := by decide +kernel
theorem dX4_nextTo_2 : decode cX4_nextTo 2 = .ok (.iconst 0, 1) := by decide +kernel
theorem dX4_nextTo_3 : decode cX4_nextTo 3 = .ok (.istore 4, 2) := by decide +kernel
theorem dX4_nextTo_5 : decode cX4_nextTo 5 = .ok (.iload 4, 2) := by decide +kernel
theorem dX4_nextTo_7 : decode cX4_nextTo 7 = .ok (.aload_n 0, 1) := by decide +kernel
theorem dX4_nextTo_8 : decode cX4_nextTo 8 = .ok (.getfield 52, 3) := by decide +kernel
theorem dX4_nextTo_11 : decode cX4_nextTo 11 = .ok (.if_icmp .ge 79, 3) := by decide +kernel
theorem dX4_nextTo_14 : decode cX4_nextTo 14 = .ok (.iload_n 2, 1) := by decide +kernel
theorem dX4_nextTo_15 : decode cX4_nextTo 15 = .ok (.iload 4, 2) := by decide +kernel
theorem dX4_nextTo_17 : decode cX4_nextTo 17 = .ok (.invokestatic 89, 3) := by decide +kernel
theorem dX4_nextTo_20 : decode cX4_nextTo 20 = .ok (.istore 5, 2) := by decide +kernel
theorem dX4_nextTo_22 : decode cX4_nextTo 22 = .ok (.iload 5, 2) := by decide +kernel
theorem dX4_nextTo_24 : decode cX4_nextTo 24 = .ok (.ifCond .eq 29, 3) := by decide +kernel
theorem dX4_nextTo_27 : decode cX4_nextTo 27 = .ok (.iload_n 1, 1) := by decide +kernel
theorem dX4_nextTo_28 : decode cX4_nextTo 28 = .ok (.aload_n 0, 1) := by decide +kernel
theorem dX4_nextTo_29 : decode cX4_nextTo 29 = .ok (.getfield 24, 3) := by decide +kernel
theorem dX4_nextTo_32 : decode cX4_nextTo 32 = .ok (.iload 4, 2) := by decide +kernel
theorem dX4_nextTo_34 : decode cX4_nextTo 34 = .ok (.iaload, 1) := by decide +kernel
theorem dX4_nextTo_35 : decode cX4_nextTo 35 = .ok (.invokestatic 89, 3) := by decide +kernel
theorem dX4_nextTo_38 : decode cX4_nextTo 38 = .ok (.ifCond .eq 15, 3) := by decide +kernel
theorem dX4_nextTo_41 : decode cX4_nextTo 41 = .ok (.iload_n 3, 1) := by decide +kernel
theorem dX4_nextTo_42 : decode cX4_nextTo 42 = .ok (.iconst 1, 1) := by decide +kernel
theorem dX4_nextTo_43 : decode cX4_nextTo 43 = .ok (.aload_n 0, 1) := by decide +kernel
theorem dX4_nextTo_44 : decode cX4_nextTo 44 = .ok (.getfield 27, 3) := by decide +kernel
theorem dX4_nextTo_47 : decode cX4_nextTo 47 = .ok (.iload 4, 2) := by decide +kernel
theorem dX4_nextTo_49 : decode cX4_nextTo 49 = .ok (.iaload, 1) := by decide +kernel
theorem dX4_nextTo_50 : decode cX4_nextTo 50 = .ok (.ishl, 1) := by decide +kernel
theorem dX4_nextTo_51 : decode cX4_nextTo 51 = .ok (.ior, 1) := by decide +kernel
theorem dX4_nextTo_52 : decode cX4_nextTo 52 = .ok (.istore_n 3, 1) := by decide +kernel
theorem dX4_nextTo_53 : decode cX4_nextTo 53 = .ok (.iload 5, 2) := by decide +kernel
theorem dX4_nextTo_55 : decode cX4_nextTo 55 = .ok (.ifCond .eq 29, 3) := by decide +kernel
theorem dX4_nextTo_58 : decode cX4_nextTo 58 = .ok (.iload_n 1, 1) := by decide +kernel
theorem dX4_nextTo_59 : decode cX4_nextTo 59 = .ok (.aload_n 0, 1) := by decide +kernel
theorem dX4_nextTo_60 : decode cX4_nextTo 60 = .ok (.getfield 27, 3) := by decide +kernel
theorem dX4_nextTo_63 : decode cX4_nextTo 63 = .ok (.iload 4, 2) := by decide +kernel
theorem dX4_nextTo_65 : decode cX4_nextTo 65 = .ok (.iaload, 1) := by decide +kernel
theorem dX4_nextTo_66 : decode cX4_nextTo 66 = .ok (.invokestatic 89, 3) := by decide +kernel
theorem dX4_nextTo_69 : decode cX4_nextTo 69 = .ok (.ifCond .eq 15, 3) := by decide +kernel
theorem dX4_nextTo_72 : decode cX4_nextTo 72 = .ok (.iload_n 3, 1) := by decide +kernel
theorem dX4_nextTo_73 : decode cX4_nextTo 73 = .ok (.iconst 1, 1) := by decide +kernel
theorem dX4_nextTo_74 : decode cX4_nextTo 74 = .ok (.aload_n 0, 1) := by decide +kernel
theorem dX4_nextTo_75 : decode cX4_nextTo 75 = .ok (.getfield 24, 3) := by decide +kernel
theorem dX4_nextTo_78 : decode cX4_nextTo 78 = .ok (.iload 4, 2) := by decide +kernel
theorem dX4_nextTo_80 : decode cX4_nextTo 80 = .ok (.iaload, 1) := by decide +kernel
theorem dX4_nextTo_81 : decode cX4_nextTo 81 = .ok (.ishl, 1) := by decide +kernel
theorem dX4_nextTo_82 : decode cX4_nextTo 82 = .ok (.ior, 1) := by decide +kernel
theorem dX4_nextTo_83 : decode cX4_nextTo 83 = .ok (.istore_n 3, 1) := by decide +kernel
theorem dX4_nextTo_84 : decode cX4_nextTo 84 = .ok (.iinc 4 1, 3) := by decide +kernel
theorem dX4_nextTo_87 : decode cX4_nextTo 87 = .ok (.goto (-82), 3) := by decide +kernel
theorem dX4_nextTo_90 : decode cX4_nextTo 90 = .ok (.iload_n 3, 1) := by decide +kernel
theorem dX4_nextTo_91 : decode cX4_nextTo 91 = .ok (.ireturn, 1) := by decide +kernel
theorem dX4_spread_0 : decode cX4_spread 0 = .ok (.iconst 1, 1) := by decide +kernel
theorem dX4_spread_1 : decode cX4_spread 1 = .ok (.iload_n 1, 1) := by decide +kernel
theorem dX4_spread_2 : decode cX4_spread 2 = .ok (.ishl, 1) := by decide +kernel
theorem dX4_spread_3 : decode cX4_spread 3 = .ok (.istore_n 3, 1) := by decide +kernel
theorem dX4_spread_4 : decode cX4_spread 4 = .ok (.iload_n 3, 1) := by decide +kernel
theorem dX4_spread_5 : decode cX4_spread 5 = .ok (.aload_n 0, 1) := by decide +kernel
theorem dX4_spread_6 : decode cX4_spread 6 = .ok (.iload_n 3, 1) := by decide +kernel
theorem dX4_spread_7 : decode cX4_spread 7 = .ok (.iload_n 2, 1) := by decide +kernel
theorem dX4_spread_8 : decode cX4_spread 8 = .ok (.invokevirtual 92, 3) := by decide +kernel
theorem dX4_spread_11 : decode cX4_spread 11 = .ok (.ior, 1) := by decide +kernel
theorem dX4_spread_12 : decode cX4_spread 12 = .ok (.istore 4, 2) := by decide +kernel
theorem dX4_spread_14 : decode cX4_spread 14 = .ok (.iconst 1, 1) := by decide +kernel
theorem dX4_spread_15 : decode cX4_spread 15 = .ok (.istore 5, 2) := by decide +kernel
theorem dX4_spread_17 : decode cX4_spread 17 = .ok (.iload 5, 2) := by decide +kernel
theorem dX4_spread_19 : decode cX4_spread 19 = .ok (.bipush 8, 2) := by decide +kernel
theorem dX4_spread_21 : decode cX4_spread 21 = .ok (.if_icmp .ge 29, 3) := by decide +kernel
theorem dX4_spread_24 : decode cX4_spread 24 = .ok (.iload 4, 2) := by decide +kernel
theorem dX4_spread_26 : decode cX4_spread 26 = .ok (.iload_n 3, 1) := by decide +kernel
theorem dX4_spread_27 : decode cX4_spread 27 = .ok (.if_icmp .eq 23, 3) := by decide +kernel
theorem dX4_spread_30 : decode cX4_spread 30 = .ok (.iload 4, 2) := by decide +kernel
theorem dX4_spread_32 : decode cX4_spread 32 = .ok (.istore_n 3, 1) := by decide +kernel
theorem dX4_spread_33 : decode cX4_spread 33 = .ok (.iload 4, 2) := by decide +kernel
theorem dX4_spread_35 : decode cX4_spread 35 = .ok (.aload_n 0, 1) := by decide +kernel
theorem dX4_spread_36 : decode cX4_spread 36 = .ok (.iload_n 3, 1) := by decide +kernel
theorem dX4_spread_37 : decode cX4_spread 37 = .ok (.iload_n 2, 1) := by decide +kernel
theorem dX4_spread_38 : decode cX4_spread 38 = .ok (.invokevirtual 92, 3) := by decide +kernel
theorem dX4_spread_41 : decode cX4_spread 41 = .ok (.ior, 1) := by decide +kernel
theorem dX4_spread_42 : decode cX4_spread 42 = .ok (.istore 4, 2) := by decide +kernel
theorem dX4_spread_44 : decode cX4_spread 44 = .ok (.iinc 5 1, 3) := by decide +kernel
theorem dX4_spread_47 : decode cX4_spread 47 = .ok (.goto (-30), 3) := by decide +kernel
theorem dX4_spread_50 : decode cX4_spread 50 = .ok (.iload 4, 2) := by decide +kernel
theorem dX4_spread_52 : decode cX4_spread 52 = .ok (.ireturn, 1) := by decide +kernel
theorem dX4_distance_0 : decode cX4_distance 0 = .ok (.iconst 1, 1) := by decide +kernel
theorem dX4_distance_1 : decode cX4_distance 1 = .ok (.iload_n 1, 1) := by decide +kernel
theorem dX4_distance_2 : decode cX4_distance 2 = .ok (.ishl, 1) := by decide +kernel
theorem dX4_distance_3 : decode cX4_distance 3 = .ok (.istore 4, 2) := by decide +kernel
theorem dX4_distance_5 : decode cX4_distance 5 = .ok (.iconst 0, 1) := by decide +kernel
theorem dX4_distance_6 : decode cX4_distance 6 = .ok (.istore 5, 2) := by decide +kernel
theorem dX4_distance_8 : decode cX4_distance 8 = .ok (.iload 5, 2) := by decide +kernel
theorem dX4_distance_10 : decode cX4_distance 10 = .ok (.bipush 8, 2) := by decide +kernel
theorem dX4_distance_12 : decode cX4_distance 12 = .ok (.if_icmp .ge 33, 3) := by decide +kernel
theorem dX4_distance_15 : decode cX4_distance 15 = .ok (.iload 4, 2) := by decide +kernel
theorem dX4_distance_17 : decode cX4_distance 17 = .ok (.iload_n 2, 1) := by decide +kernel
theorem dX4_distance_18 : decode cX4_distance 18 = .ok (.invokestatic 89, 3) := by decide +kernel
theorem dX4_distance_21 : decode cX4_distance 21 = .ok (.ifCond .eq 6, 3) := by decide +kernel
theorem dX4_distance_24 : decode cX4_distance 24 = .ok (.iload 5, 2) := by decide +kernel
theorem dX4_distance_26 : decode cX4_distance 26 = .ok (.ireturn, 1) := by decide +kernel
theorem dX4_distance_27 : decode cX4_distance 27 = .ok (.iload 4, 2) := by decide +kernel
theorem dX4_distance_29 : decode cX4_distance 29 = .ok (.aload_n 0, 1) := by decide +kernel
theorem dX4_distance_30 : decode cX4_distance 30 = .ok (.iload 4, 2) := by decide +kernel
theorem dX4_distance_32 : decode cX4_distance 32 = .ok (.iload_n 3, 1) := by decide +kernel
theorem dX4_distance_33 : decode cX4_distance 33 = .ok (.invokevirtual 92, 3) := by decide +kernel
theorem dX4_distance_36 : decode cX4_distance 36 = .ok (.ior, 1) := by decide +kernel
theorem dX4_distance_37 : decode cX4_distance 37 = .ok (.istore 4, 2) := by decide +kernel
theorem dX4_distance_39 : decode cX4_distance 39 = .ok (.iinc 5 1, 3) := by decide +kernel
theorem dX4_distance_42 : decode cX4_distance 42 = .ok (.goto (-34), 3) := by decide +kernel
theorem dX4_distance_45 : decode cX4_distance 45 = .ok (.bipush (-4), 2) := by decide +kernel
theorem dX4_distance_47 : decode cX4_distance 47 = .ok (.ireturn, 1) := by decide +kernel
theorem dX4_distanceIfHung_0 : decode cX4_distanceIfHung 0 = .ok (.aload_n 0, 1) := by decide +kernel
theorem dX4_distanceIfHung_1 : decode cX4_distanceIfHung 1 = .ok (.iload_n 1, 1) := by decide +kernel
theorem dX4_distanceIfHung_2 : decode cX4_distanceIfHung 2 = .ok (.iload_n 2, 1) := by decide +kernel
theorem dX4_distanceIfHung_3 : decode cX4_distanceIfHung 3 = .ok (.invokevirtual 71, 3) := by decide +kernel
theorem dX4_distanceIfHung_6 : decode cX4_distanceIfHung 6 = .ok (.ifCond .eq 25, 3) := by decide +kernel
theorem dX4_distanceIfHung_9 : decode cX4_distanceIfHung 9 = .ok (.aload_n 0, 1) := by decide +kernel
theorem dX4_distanceIfHung_10 : decode cX4_distanceIfHung 10 = .ok (.aload_n 0, 1) := by decide +kernel
theorem dX4_distanceIfHung_11 : decode cX4_distanceIfHung 11 = .ok (.getfield 18, 3) := by decide +kernel
theorem dX4_distanceIfHung_14 : decode cX4_distanceIfHung 14 = .ok (.iload_n 3, 1) := by decide +kernel
theorem dX4_distanceIfHung_15 : decode cX4_distanceIfHung 15 = .ok (.iaload, 1) := by decide +kernel
theorem dX4_distanceIfHung_16 : decode cX4_distanceIfHung 16 = .ok (.iload 4, 2) := by decide +kernel
theorem dX4_distanceIfHung_18 : decode cX4_distanceIfHung 18 = .ok (.aload_n 0, 1) := by decide +kernel
theorem dX4_distanceIfHung_19 : decode cX4_distanceIfHung 19 = .ok (.iload_n 1, 1) := by decide +kernel
theorem dX4_distanceIfHung_20 : decode cX4_distanceIfHung 20 = .ok (.iload_n 2, 1) := by decide +kernel
theorem dX4_distanceIfHung_21 : decode cX4_distanceIfHung 21 = .ok (.iload_n 3, 1) := by decide +kernel
theorem dX4_distanceIfHung_22 : decode cX4_distanceIfHung 22 = .ok (.invokevirtual 95, 3) := by decide +kernel
theorem dX4_distanceIfHung_25 : decode cX4_distanceIfHung 25 = .ok (.invokevirtual 99, 3) := by decide +kernel
theorem dX4_distanceIfHung_28 : decode cX4_distanceIfHung 28 = .ok (.goto 5, 3) := by decide +kernel
theorem dX4_distanceIfHung_31 : decode cX4_distanceIfHung 31 = .ok (.bipush (-4), 2) := by decide +kernel
theorem dX4_distanceIfHung_33 : decode cX4_distanceIfHung 33 = .ok (.ireturn, 1) := by decide +kernel
theorem dX4_gainIfHung_0 : decode cX4_gainIfHung 0 = .ok (.aload_n 0, 1) := by decide +kernel
theorem dX4_gainIfHung_1 : decode cX4_gainIfHung 1 = .ok (.iload_n 1, 1) := by decide +kernel
theorem dX4_gainIfHung_2 : decode cX4_gainIfHung 2 = .ok (.iload_n 2, 1) := by decide +kernel
theorem dX4_gainIfHung_3 : decode cX4_gainIfHung 3 = .ok (.invokevirtual 71, 3) := by decide +kernel
theorem dX4_gainIfHung_6 : decode cX4_gainIfHung 6 = .ok (.ifCond .eq 28, 3) := by decide +kernel
theorem dX4_gainIfHung_9 : decode cX4_gainIfHung 9 = .ok (.aload_n 0, 1) := by decide +kernel
theorem dX4_gainIfHung_10 : decode cX4_gainIfHung 10 = .ok (.iload_n 1, 1) := by decide +kernel
theorem dX4_gainIfHung_11 : decode cX4_gainIfHung 11 = .ok (.aload_n 0, 1) := by decide +kernel
theorem dX4_gainIfHung_12 : decode cX4_gainIfHung 12 = .ok (.aload_n 0, 1) := by decide +kernel
theorem dX4_gainIfHung_13 : decode cX4_gainIfHung 13 = .ok (.getfield 18, 3) := by decide +kernel
theorem dX4_gainIfHung_16 : decode cX4_gainIfHung 16 = .ok (.iload_n 1, 1) := by decide +kernel
theorem dX4_gainIfHung_17 : decode cX4_gainIfHung 17 = .ok (.iaload, 1) := by decide +kernel
theorem dX4_gainIfHung_18 : decode cX4_gainIfHung 18 = .ok (.aload_n 0, 1) := by decide +kernel
theorem dX4_gainIfHung_19 : decode cX4_gainIfHung 19 = .ok (.iload_n 1, 1) := by decide +kernel
theorem dX4_gainIfHung_20 : decode cX4_gainIfHung 20 = .ok (.iload_n 2, 1) := by decide +kernel
theorem dX4_gainIfHung_21 : decode cX4_gainIfHung 21 = .ok (.iload_n 1, 1) := by decide +kernel
theorem dX4_gainIfHung_22 : decode cX4_gainIfHung 22 = .ok (.invokevirtual 95, 3) := by decide +kernel
theorem dX4_gainIfHung_25 : decode cX4_gainIfHung 25 = .ok (.invokevirtual 102, 3) := by decide +kernel
theorem dX4_gainIfHung_28 : decode cX4_gainIfHung 28 = .ok (.invokevirtual 105, 3) := by decide +kernel
theorem dX4_gainIfHung_31 : decode cX4_gainIfHung 31 = .ok (.goto 5, 3) := by decide +kernel
theorem dX4_gainIfHung_34 : decode cX4_gainIfHung 34 = .ok (.bipush (-4), 2) := by decide +kernel
theorem dX4_gainIfHung_36 : decode cX4_gainIfHung 36 = .ok (.ireturn, 1) := by decide +kernel
theorem dX4_reached_0 : decode cX4_reached 0 = .ok (.aload_n 0, 1) := by decide +kernel
theorem dX4_reached_1 : decode cX4_reached 1 = .ok (.aload_n 0, 1) := by decide +kernel
theorem dX4_reached_2 : decode cX4_reached 2 = .ok (.getfield 18, 3) := by decide +kernel
theorem dX4_reached_5 : decode cX4_reached 5 = .ok (.iload_n 1, 1) := by decide +kernel
theorem dX4_reached_6 : decode cX4_reached 6 = .ok (.iaload, 1) := by decide +kernel
theorem dX4_reached_7 : decode cX4_reached 7 = .ok (.aload_n 0, 1) := by decide +kernel
theorem dX4_reached_8 : decode cX4_reached 8 = .ok (.iload_n 1, 1) := by decide +kernel
theorem dX4_reached_9 : decode cX4_reached 9 = .ok (.invokevirtual 85, 3) := by decide +kernel
theorem dX4_reached_12 : decode cX4_reached 12 = .ok (.invokevirtual 102, 3) := by decide +kernel
theorem dX4_reached_15 : decode cX4_reached 15 = .ok (.ireturn, 1) := by decide +kernel
theorem dX4_wallOnWay_0 : decode cX4_wallOnWay 0 = .ok (.aload_n 0, 1) := by decide +kernel
theorem dX4_wallOnWay_1 : decode cX4_wallOnWay 1 = .ok (.iload_n 1, 1) := by decide +kernel
theorem dX4_wallOnWay_2 : decode cX4_wallOnWay 2 = .ok (.invokevirtual 85, 3) := by decide +kernel
theorem dX4_wallOnWay_5 : decode cX4_wallOnWay 5 = .ok (.istore 4, 2) := by decide +kernel
theorem dX4_wallOnWay_7 : decode cX4_wallOnWay 7 = .ok (.aload_n 0, 1) := by decide +kernel
theorem dX4_wallOnWay_8 : decode cX4_wallOnWay 8 = .ok (.getfield 18, 3) := by decide +kernel
theorem dX4_wallOnWay_11 : decode cX4_wallOnWay 11 = .ok (.iload_n 1, 1) := by decide +kernel
theorem dX4_wallOnWay_12 : decode cX4_wallOnWay 12 = .ok (.iaload, 1) := by decide +kernel
theorem dX4_wallOnWay_13 : decode cX4_wallOnWay 13 = .ok (.istore 5, 2) := by decide +kernel
theorem dX4_wallOnWay_15 : decode cX4_wallOnWay 15 = .ok (.bipush (-4), 2) := by decide +kernel
theorem dX4_wallOnWay_17 : decode cX4_wallOnWay 17 = .ok (.istore 6, 2) := by decide +kernel
theorem dX4_wallOnWay_19 : decode cX4_wallOnWay 19 = .ok (.iconst 0, 1) := by decide +kernel
theorem dX4_wallOnWay_20 : decode cX4_wallOnWay 20 = .ok (.istore 7, 2) := by decide +kernel
theorem dX4_wallOnWay_22 : decode cX4_wallOnWay 22 = .ok (.iload 7, 2) := by decide +kernel
theorem dX4_wallOnWay_24 : decode cX4_wallOnWay 24 = .ok (.iload_n 3, 1) := by decide +kernel
theorem dX4_wallOnWay_25 : decode cX4_wallOnWay 25 = .ok (.if_icmp .gt 40, 3) := by decide +kernel
theorem dX4_wallOnWay_28 : decode cX4_wallOnWay 28 = .ok (.aload_n 0, 1) := by decide +kernel
theorem dX4_wallOnWay_29 : decode cX4_wallOnWay 29 = .ok (.iload 5, 2) := by decide +kernel
theorem dX4_wallOnWay_31 : decode cX4_wallOnWay 31 = .ok (.iload_n 2, 1) := by decide +kernel
theorem dX4_wallOnWay_32 : decode cX4_wallOnWay 32 = .ok (.iload 4, 2) := by decide +kernel
theorem dX4_wallOnWay_34 : decode cX4_wallOnWay 34 = .ok (.invokevirtual 108, 3) := by decide +kernel
theorem dX4_wallOnWay_37 : decode cX4_wallOnWay 37 = .ok (.istore 6, 2) := by decide +kernel
theorem dX4_wallOnWay_39 : decode cX4_wallOnWay 39 = .ok (.iload 6, 2) := by decide +kernel
theorem dX4_wallOnWay_41 : decode cX4_wallOnWay 41 = .ok (.bipush (-4), 2) := by decide +kernel
theorem dX4_wallOnWay_43 : decode cX4_wallOnWay 43 = .ok (.if_icmp .ne 6, 3) := by decide +kernel
theorem dX4_wallOnWay_46 : decode cX4_wallOnWay 46 = .ok (.bipush (-4), 2) := by decide +kernel
theorem dX4_wallOnWay_48 : decode cX4_wallOnWay 48 = .ok (.ireturn, 1) := by decide +kernel
theorem dX4_wallOnWay_49 : decode cX4_wallOnWay 49 = .ok (.aload_n 0, 1) := by decide +kernel
theorem dX4_wallOnWay_50 : decode cX4_wallOnWay 50 = .ok (.iload 6, 2) := by decide +kernel
theorem dX4_wallOnWay_52 : decode cX4_wallOnWay 52 = .ok (.iload 5, 2) := by decide +kernel
theorem dX4_wallOnWay_54 : decode cX4_wallOnWay 54 = .ok (.invokevirtual 111, 3) := by decide +kernel
theorem dX4_wallOnWay_57 : decode cX4_wallOnWay 57 = .ok (.istore 5, 2) := by decide +kernel
theorem dX4_wallOnWay_59 : decode cX4_wallOnWay 59 = .ok (.iinc 7 1, 3) := by decide +kernel
theorem dX4_wallOnWay_62 : decode cX4_wallOnWay 62 = .ok (.goto (-40), 3) := by decide +kernel
theorem dX4_wallOnWay_65 : decode cX4_wallOnWay 65 = .ok (.iload 6, 2) := by decide +kernel
theorem dX4_wallOnWay_67 : decode cX4_wallOnWay 67 = .ok (.ireturn, 1) := by decide +kernel
theorem dX4_firstTowards_0 : decode cX4_firstTowards 0 = .ok (.aload_n 0, 1) := by decide +kernel
theorem dX4_firstTowards_1 : decode cX4_firstTowards 1 = .ok (.iload_n 1, 1) := by decide +kernel
theorem dX4_firstTowards_2 : decode cX4_firstTowards 2 = .ok (.iload_n 2, 1) := by decide +kernel
theorem dX4_firstTowards_3 : decode cX4_firstTowards 3 = .ok (.iload_n 3, 1) := by decide +kernel
theorem dX4_firstTowards_4 : decode cX4_firstTowards 4 = .ok (.invokevirtual 99, 3) := by decide +kernel
theorem dX4_firstTowards_7 : decode cX4_firstTowards 7 = .ok (.istore 4, 2) := by decide +kernel
theorem dX4_firstTowards_9 : decode cX4_firstTowards 9 = .ok (.iconst 0, 1) := by decide +kernel
theorem dX4_firstTowards_10 : decode cX4_firstTowards 10 = .ok (.istore 5, 2) := by decide +kernel
theorem dX4_firstTowards_12 : decode cX4_firstTowards 12 = .ok (.iload 5, 2) := by decide +kernel
theorem dX4_firstTowards_14 : decode cX4_firstTowards 14 = .ok (.aload_n 0, 1) := by decide +kernel
theorem dX4_firstTowards_15 : decode cX4_firstTowards 15 = .ok (.getfield 52, 3) := by decide +kernel
theorem dX4_firstTowards_18 : decode cX4_firstTowards 18 = .ok (.if_icmp .ge 55, 3) := by decide +kernel
theorem dX4_firstTowards_21 : decode cX4_firstTowards 21 = .ok (.iload 4, 2) := by decide +kernel
theorem dX4_firstTowards_23 : decode cX4_firstTowards 23 = .ok (.ifCond .le 50, 3) := by decide +kernel
theorem dX4_firstTowards_26 : decode cX4_firstTowards 26 = .ok (.aload_n 0, 1) := by decide +kernel
theorem dX4_firstTowards_27 : decode cX4_firstTowards 27 = .ok (.iload 5, 2) := by decide +kernel
theorem dX4_firstTowards_29 : decode cX4_firstTowards 29 = .ok (.iload_n 1, 1) := by decide +kernel
theorem dX4_firstTowards_30 : decode cX4_firstTowards 30 = .ok (.invokevirtual 111, 3) := by decide +kernel
theorem dX4_firstTowards_33 : decode cX4_firstTowards 33 = .ok (.istore 6, 2) := by decide +kernel
theorem dX4_firstTowards_35 : decode cX4_firstTowards 35 = .ok (.iload_n 3, 1) := by decide +kernel
theorem dX4_firstTowards_36 : decode cX4_firstTowards 36 = .ok (.iload 5, 2) := by decide +kernel
theorem dX4_firstTowards_38 : decode cX4_firstTowards 38 = .ok (.invokestatic 89, 3) := by decide +kernel
theorem dX4_firstTowards_41 : decode cX4_firstTowards 41 = .ok (.ifCond .eq 26, 3) := by decide +kernel
theorem dX4_firstTowards_44 : decode cX4_firstTowards 44 = .ok (.iload 6, 2) := by decide +kernel
theorem dX4_firstTowards_46 : decode cX4_firstTowards 46 = .ok (.ifCond .lt 21, 3) := by decide +kernel
theorem dX4_firstTowards_49 : decode cX4_firstTowards 49 = .ok (.aload_n 0, 1) := by decide +kernel
theorem dX4_firstTowards_50 : decode cX4_firstTowards 50 = .ok (.iload 6, 2) := by decide +kernel
theorem dX4_firstTowards_52 : decode cX4_firstTowards 52 = .ok (.iload_n 2, 1) := by decide +kernel
theorem dX4_firstTowards_53 : decode cX4_firstTowards 53 = .ok (.iload_n 3, 1) := by decide +kernel
theorem dX4_firstTowards_54 : decode cX4_firstTowards 54 = .ok (.invokevirtual 99, 3) := by decide +kernel
theorem dX4_firstTowards_57 : decode cX4_firstTowards 57 = .ok (.iload 4, 2) := by decide +kernel
theorem dX4_firstTowards_59 : decode cX4_firstTowards 59 = .ok (.iconst 1, 1) := by decide +kernel
theorem dX4_firstTowards_60 : decode cX4_firstTowards 60 = .ok (.isub, 1) := by decide +kernel
theorem dX4_firstTowards_61 : decode cX4_firstTowards 61 = .ok (.if_icmp .ne 6, 3) := by decide +kernel
theorem dX4_firstTowards_64 : decode cX4_firstTowards 64 = .ok (.iload 5, 2) := by decide +kernel
theorem dX4_firstTowards_66 : decode cX4_firstTowards 66 = .ok (.ireturn, 1) := by decide +kernel
theorem dX4_firstTowards_67 : decode cX4_firstTowards 67 = .ok (.iinc 5 1, 3) := by decide +kernel
theorem dX4_firstTowards_70 : decode cX4_firstTowards 70 = .ok (.goto (-58), 3) := by decide +kernel
theorem dX4_firstTowards_73 : decode cX4_firstTowards 73 = .ok (.bipush (-4), 2) := by decide +kernel
theorem dX4_firstTowards_75 : decode cX4_firstTowards 75 = .ok (.ireturn, 1) := by decide +kernel
theorem dX4_otherSide_0 : decode cX4_otherSide 0 = .ok (.aload_n 0, 1) := by decide +kernel
theorem dX4_otherSide_1 : decode cX4_otherSide 1 = .ok (.getfield 24, 3) := by decide +kernel
theorem dX4_otherSide_4 : decode cX4_otherSide 4 = .ok (.iload_n 1, 1) := by decide +kernel
theorem dX4_otherSide_5 : decode cX4_otherSide 5 = .ok (.iaload, 1) := by decide +kernel
theorem dX4_otherSide_6 : decode cX4_otherSide 6 = .ok (.iload_n 2, 1) := by decide +kernel
theorem dX4_otherSide_7 : decode cX4_otherSide 7 = .ok (.if_icmp .ne 12, 3) := by decide +kernel
theorem dX4_otherSide_10 : decode cX4_otherSide 10 = .ok (.aload_n 0, 1) := by decide +kernel
theorem dX4_otherSide_11 : decode cX4_otherSide 11 = .ok (.getfield 27, 3) := by decide +kernel
theorem dX4_otherSide_14 : decode cX4_otherSide 14 = .ok (.iload_n 1, 1) := by decide +kernel
theorem dX4_otherSide_15 : decode cX4_otherSide 15 = .ok (.iaload, 1) := by decide +kernel
theorem dX4_otherSide_16 : decode cX4_otherSide 16 = .ok (.goto 24, 3) := by decide +kernel
theorem dX4_otherSide_19 : decode cX4_otherSide 19 = .ok (.aload_n 0, 1) := by decide +kernel
theorem dX4_otherSide_20 : decode cX4_otherSide 20 = .ok (.getfield 27, 3) := by decide +kernel
theorem dX4_otherSide_23 : decode cX4_otherSide 23 = .ok (.iload_n 1, 1) := by decide +kernel
theorem dX4_otherSide_24 : decode cX4_otherSide 24 = .ok (.iaload, 1) := by decide +kernel
theorem dX4_otherSide_25 : decode cX4_otherSide 25 = .ok (.iload_n 2, 1) := by decide +kernel
theorem dX4_otherSide_26 : decode cX4_otherSide 26 = .ok (.if_icmp .ne 12, 3) := by decide +kernel
theorem dX4_otherSide_29 : decode cX4_otherSide 29 = .ok (.aload_n 0, 1) := by decide +kernel
theorem dX4_otherSide_30 : decode cX4_otherSide 30 = .ok (.getfield 24, 3) := by decide +kernel
theorem dX4_otherSide_33 : decode cX4_otherSide 33 = .ok (.iload_n 1, 1) := by decide +kernel
theorem dX4_otherSide_34 : decode cX4_otherSide 34 = .ok (.iaload, 1) := by decide +kernel
theorem dX4_otherSide_35 : decode cX4_otherSide 35 = .ok (.goto 5, 3) := by decide +kernel
theorem dX4_otherSide_38 : decode cX4_otherSide 38 = .ok (.bipush (-4), 2) := by decide +kernel
theorem dX4_otherSide_40 : decode cX4_otherSide 40 = .ok (.ireturn, 1) := by decide +kernel
theorem dX4_unreached_0 : decode cX4_unreached 0 = .ok (.sipush 255, 3) := by decide +kernel
theorem dX4_unreached_3 : decode cX4_unreached 3 = .ok (.istore_n 1, 1) := by decide +kernel
theorem dX4_unreached_4 : decode cX4_unreached 4 = .ok (.iconst 0, 1) := by decide +kernel
theorem dX4_unreached_5 : decode cX4_unreached 5 = .ok (.istore_n 2, 1) := by decide +kernel
theorem dX4_unreached_6 : decode cX4_unreached 6 = .ok (.iload_n 2, 1) := by decide +kernel
theorem dX4_unreached_7 : decode cX4_unreached 7 = .ok (.aload_n 0, 1) := by decide +kernel
theorem dX4_unreached_8 : decode cX4_unreached 8 = .ok (.getfield 48, 3) := by decide +kernel
theorem dX4_unreached_11 : decode cX4_unreached 11 = .ok (.if_icmp .ge 19, 3) := by decide +kernel
theorem dX4_unreached_14 : decode cX4_unreached 14 = .ok (.iload_n 1, 1) := by decide +kernel
theorem dX4_unreached_15 : decode cX4_unreached 15 = .ok (.aload_n 0, 1) := by decide +kernel
theorem dX4_unreached_16 : decode cX4_unreached 16 = .ok (.iload_n 2, 1) := by decide +kernel
theorem dX4_unreached_17 : decode cX4_unreached 17 = .ok (.invokevirtual 114, 3) := by decide +kernel
theorem dX4_unreached_20 : decode cX4_unreached 20 = .ok (.iconst (-1), 1) := by decide +kernel
theorem dX4_unreached_21 : decode cX4_unreached 21 = .ok (.ixor, 1) := by decide +kernel
theorem dX4_unreached_22 : decode cX4_unreached 22 = .ok (.iand, 1) := by decide +kernel
theorem dX4_unreached_23 : decode cX4_unreached 23 = .ok (.istore_n 1, 1) := by decide +kernel
theorem dX4_unreached_24 : decode cX4_unreached 24 = .ok (.iinc 2 1, 3) := by decide +kernel
theorem dX4_unreached_27 : decode cX4_unreached 27 = .ok (.goto (-21), 3) := by decide +kernel
theorem dX4_unreached_30 : decode cX4_unreached 30 = .ok (.iload_n 1, 1) := by decide +kernel
theorem dX4_unreached_31 : decode cX4_unreached 31 = .ok (.ireturn, 1) := by decide +kernel
theorem dX4_whoReaches_0 : decode cX4_whoReaches 0 = .ok (.iconst 0, 1) := by decide +kernel
theorem dX4_whoReaches_1 : decode cX4_whoReaches 1 = .ok (.istore_n 2, 1) := by decide +kernel
theorem dX4_whoReaches_2 : decode cX4_whoReaches 2 = .ok (.iconst 0, 1) := by decide +kernel
theorem dX4_whoReaches_3 : decode cX4_whoReaches 3 = .ok (.istore_n 3, 1) := by decide +kernel
theorem dX4_whoReaches_4 : decode cX4_whoReaches 4 = .ok (.iload_n 3, 1) := by decide +kernel
theorem dX4_whoReaches_5 : decode cX4_whoReaches 5 = .ok (.aload_n 0, 1) := by decide +kernel
theorem dX4_whoReaches_6 : decode cX4_whoReaches 6 = .ok (.getfield 48, 3) := by decide +kernel
theorem dX4_whoReaches_9 : decode cX4_whoReaches 9 = .ok (.if_icmp .ge 27, 3) := by decide +kernel
theorem dX4_whoReaches_12 : decode cX4_whoReaches 12 = .ok (.aload_n 0, 1) := by decide +kernel
theorem dX4_whoReaches_13 : decode cX4_whoReaches 13 = .ok (.iload_n 3, 1) := by decide +kernel
theorem dX4_whoReaches_14 : decode cX4_whoReaches 14 = .ok (.invokevirtual 114, 3) := by decide +kernel
theorem dX4_whoReaches_17 : decode cX4_whoReaches 17 = .ok (.iload_n 1, 1) := by decide +kernel
theorem dX4_whoReaches_18 : decode cX4_whoReaches 18 = .ok (.invokestatic 89, 3) := by decide +kernel
theorem dX4_whoReaches_21 : decode cX4_whoReaches 21 = .ok (.ifCond .eq 9, 3) := by decide +kernel
theorem dX4_whoReaches_24 : decode cX4_whoReaches 24 = .ok (.iload_n 2, 1) := by decide +kernel
theorem dX4_whoReaches_25 : decode cX4_whoReaches 25 = .ok (.iconst 1, 1) := by decide +kernel
theorem dX4_whoReaches_26 : decode cX4_whoReaches 26 = .ok (.iload_n 3, 1) := by decide +kernel
theorem dX4_whoReaches_27 : decode cX4_whoReaches 27 = .ok (.ishl, 1) := by decide +kernel
theorem dX4_whoReaches_28 : decode cX4_whoReaches 28 = .ok (.ior, 1) := by decide +kernel
theorem dX4_whoReaches_29 : decode cX4_whoReaches 29 = .ok (.istore_n 2, 1) := by decide +kernel
theorem dX4_whoReaches_30 : decode cX4_whoReaches 30 = .ok (.iinc 3 1, 3) := by decide +kernel
theorem dX4_whoReaches_33 : decode cX4_whoReaches 33 = .ok (.goto (-29), 3) := by decide +kernel
theorem dX4_whoReaches_36 : decode cX4_whoReaches 36 = .ok (.iload_n 2, 1) := by decide +kernel
theorem dX4_whoReaches_37 : decode cX4_whoReaches 37 = .ok (.ireturn, 1) := by decide +kernel
theorem dX4_reachedByAll_0 : decode cX4_reachedByAll 0 = .ok (.iconst 0, 1) := by decide +kernel
theorem dX4_reachedByAll_1 : decode cX4_reachedByAll 1 = .ok (.istore_n 1, 1) := by decide +kernel
theorem dX4_reachedByAll_2 : decode cX4_reachedByAll 2 = .ok (.iconst 0, 1) := by decide +kernel
theorem dX4_reachedByAll_3 : decode cX4_reachedByAll 3 = .ok (.istore_n 2, 1) := by decide +kernel
theorem dX4_reachedByAll_4 : decode cX4_reachedByAll 4 = .ok (.iload_n 2, 1) := by decide +kernel
theorem dX4_reachedByAll_5 : decode cX4_reachedByAll 5 = .ok (.aload_n 0, 1) := by decide +kernel
theorem dX4_reachedByAll_6 : decode cX4_reachedByAll 6 = .ok (.getfield 48, 3) := by decide +kernel
theorem dX4_reachedByAll_9 : decode cX4_reachedByAll 9 = .ok (.if_icmp .ge 20, 3) := by decide +kernel
theorem dX4_reachedByAll_12 : decode cX4_reachedByAll 12 = .ok (.iload_n 1, 1) := by decide +kernel
theorem dX4_reachedByAll_13 : decode cX4_reachedByAll 13 = .ok (.aload_n 0, 1) := by decide +kernel
theorem dX4_reachedByAll_14 : decode cX4_reachedByAll 14 = .ok (.iload_n 2, 1) := by decide +kernel
theorem dX4_reachedByAll_15 : decode cX4_reachedByAll 15 = .ok (.invokevirtual 114, 3) := by decide +kernel
theorem dX4_reachedByAll_18 : decode cX4_reachedByAll 18 = .ok (.invokestatic 117, 3) := by decide +kernel
theorem dX4_reachedByAll_21 : decode cX4_reachedByAll 21 = .ok (.iadd, 1) := by decide +kernel
theorem dX4_reachedByAll_22 : decode cX4_reachedByAll 22 = .ok (.istore_n 1, 1) := by decide +kernel
theorem dX4_reachedByAll_23 : decode cX4_reachedByAll 23 = .ok (.iinc 2 1, 3) := by decide +kernel
theorem dX4_reachedByAll_26 : decode cX4_reachedByAll 26 = .ok (.goto (-22), 3) := by decide +kernel
theorem dX4_reachedByAll_29 : decode cX4_reachedByAll 29 = .ok (.iload_n 1, 1) := by decide +kernel
theorem dX4_reachedByAll_30 : decode cX4_reachedByAll 30 = .ok (.ireturn, 1) := by decide +kernel
theorem dX4_worthOf_0 : decode cX4_worthOf 0 = .ok (.iconst 0, 1) := by decide +kernel
theorem dX4_worthOf_1 : decode cX4_worthOf 1 = .ok (.istore_n 2, 1) := by decide +kernel
theorem dX4_worthOf_2 : decode cX4_worthOf 2 = .ok (.iconst 0, 1) := by decide +kernel
theorem dX4_worthOf_3 : decode cX4_worthOf 3 = .ok (.istore_n 3, 1) := by decide +kernel
theorem dX4_worthOf_4 : decode cX4_worthOf 4 = .ok (.iload_n 3, 1) := by decide +kernel
theorem dX4_worthOf_5 : decode cX4_worthOf 5 = .ok (.bipush 8, 2) := by decide +kernel
theorem dX4_worthOf_7 : decode cX4_worthOf 7 = .ok (.if_icmp .ge 26, 3) := by decide +kernel
theorem dX4_worthOf_10 : decode cX4_worthOf 10 = .ok (.iload_n 1, 1) := by decide +kernel
theorem dX4_worthOf_11 : decode cX4_worthOf 11 = .ok (.iload_n 3, 1) := by decide +kernel
theorem dX4_worthOf_12 : decode cX4_worthOf 12 = .ok (.invokestatic 89, 3) := by decide +kernel
theorem dX4_worthOf_15 : decode cX4_worthOf 15 = .ok (.ifCond .eq 12, 3) := by decide +kernel
theorem dX4_worthOf_18 : decode cX4_worthOf 18 = .ok (.iload_n 2, 1) := by decide +kernel
theorem dX4_worthOf_19 : decode cX4_worthOf 19 = .ok (.aload_n 0, 1) := by decide +kernel
theorem dX4_worthOf_20 : decode cX4_worthOf 20 = .ok (.getfield 33, 3) := by decide +kernel
theorem dX4_worthOf_23 : decode cX4_worthOf 23 = .ok (.iload_n 3, 1) := by decide +kernel
theorem dX4_worthOf_24 : decode cX4_worthOf 24 = .ok (.iaload, 1) := by decide +kernel
theorem dX4_worthOf_25 : decode cX4_worthOf 25 = .ok (.iadd, 1) := by decide +kernel
theorem dX4_worthOf_26 : decode cX4_worthOf 26 = .ok (.istore_n 2, 1) := by decide +kernel
theorem dX4_worthOf_27 : decode cX4_worthOf 27 = .ok (.iinc 3 1, 3) := by decide +kernel
theorem dX4_worthOf_30 : decode cX4_worthOf 30 = .ok (.goto (-26), 3) := by decide +kernel
theorem dX4_worthOf_33 : decode cX4_worthOf 33 = .ok (.iload_n 2, 1) := by decide +kernel
theorem dX4_worthOf_34 : decode cX4_worthOf 34 = .ok (.ireturn, 1) := by decide +kernel
theorem dX4_gainOf_0 : decode cX4_gainOf 0 = .ok (.aload_n 0, 1) := by decide +kernel
theorem dX4_gainOf_1 : decode cX4_gainOf 1 = .ok (.iload_n 2, 1) := by decide +kernel
theorem dX4_gainOf_2 : decode cX4_gainOf 2 = .ok (.iconst 1, 1) := by decide +kernel
theorem dX4_gainOf_3 : decode cX4_gainOf 3 = .ok (.aload_n 0, 1) := by decide +kernel
theorem dX4_gainOf_4 : decode cX4_gainOf 4 = .ok (.getfield 18, 3) := by decide +kernel
theorem dX4_gainOf_7 : decode cX4_gainOf 7 = .ok (.iload_n 1, 1) := by decide +kernel
theorem dX4_gainOf_8 : decode cX4_gainOf 8 = .ok (.iaload, 1) := by decide +kernel
theorem dX4_gainOf_9 : decode cX4_gainOf 9 = .ok (.ishl, 1) := by decide +kernel
theorem dX4_gainOf_10 : decode cX4_gainOf 10 = .ok (.iconst (-1), 1) := by decide +kernel
theorem dX4_gainOf_11 : decode cX4_gainOf 11 = .ok (.ixor, 1) := by decide +kernel
theorem dX4_gainOf_12 : decode cX4_gainOf 12 = .ok (.iand, 1) := by decide +kernel
theorem dX4_gainOf_13 : decode cX4_gainOf 13 = .ok (.invokevirtual 122, 3) := by decide +kernel
theorem dX4_gainOf_16 : decode cX4_gainOf 16 = .ok (.ireturn, 1) := by decide +kernel
theorem dX4_leastShutting_0 : decode cX4_leastShutting 0 = .ok (.aload_n 0, 1) := by decide +kernel
theorem dX4_leastShutting_1 : decode cX4_leastShutting 1 = .ok (.invokevirtual 125, 3) := by decide +kernel
theorem dX4_leastShutting_4 : decode cX4_leastShutting 4 = .ok (.istore_n 3, 1) := by decide +kernel
theorem dX4_leastShutting_5 : decode cX4_leastShutting 5 = .ok (.aload_n 0, 1) := by decide +kernel
theorem dX4_leastShutting_6 : decode cX4_leastShutting 6 = .ok (.iload_n 1, 1) := by decide +kernel
theorem dX4_leastShutting_7 : decode cX4_leastShutting 7 = .ok (.invokevirtual 85, 3) := by decide +kernel
theorem dX4_leastShutting_10 : decode cX4_leastShutting 10 = .ok (.istore 4, 2) := by decide +kernel
theorem dX4_leastShutting_12 : decode cX4_leastShutting 12 = .ok (.iload_n 3, 1) := by decide +kernel
theorem dX4_leastShutting_13 : decode cX4_leastShutting 13 = .ok (.istore 5, 2) := by decide +kernel
theorem dX4_leastShutting_15 : decode cX4_leastShutting 15 = .ok (.iconst 0, 1) := by decide +kernel
theorem dX4_leastShutting_16 : decode cX4_leastShutting 16 = .ok (.istore 6, 2) := by decide +kernel
theorem dX4_leastShutting_18 : decode cX4_leastShutting 18 = .ok (.iload 6, 2) := by decide +kernel
theorem dX4_leastShutting_20 : decode cX4_leastShutting 20 = .ok (.sipush 512, 3) := by decide +kernel
theorem dX4_leastShutting_23 : decode cX4_leastShutting 23 = .ok (.if_icmp .ge 83, 3) := by decide +kernel
theorem dX4_leastShutting_26 : decode cX4_leastShutting 26 = .ok (.iload 6, 2) := by decide +kernel
theorem dX4_leastShutting_28 : decode cX4_leastShutting 28 = .ok (.invokestatic 117, 3) := by decide +kernel
theorem dX4_leastShutting_31 : decode cX4_leastShutting 31 = .ok (.iload 5, 2) := by decide +kernel
theorem dX4_leastShutting_33 : decode cX4_leastShutting 33 = .ok (.invokestatic 117, 3) := by decide +kernel
theorem dX4_leastShutting_36 : decode cX4_leastShutting 36 = .ok (.if_icmp .ge 7, 3) := by decide +kernel
theorem dX4_leastShutting_39 : decode cX4_leastShutting 39 = .ok (.iconst 1, 1) := by decide +kernel
theorem dX4_leastShutting_40 : decode cX4_leastShutting 40 = .ok (.goto 4, 3) := by decide +kernel
theorem dX4_leastShutting_43 : decode cX4_leastShutting 43 = .ok (.iconst 0, 1) := by decide +kernel
theorem dX4_leastShutting_44 : decode cX4_leastShutting 44 = .ok (.istore 7, 2) := by decide +kernel
theorem dX4_leastShutting_46 : decode cX4_leastShutting 46 = .ok (.iload 6, 2) := by decide +kernel
theorem dX4_leastShutting_48 : decode cX4_leastShutting 48 = .ok (.iload_n 3, 1) := by decide +kernel
theorem dX4_leastShutting_49 : decode cX4_leastShutting 49 = .ok (.iconst (-1), 1) := by decide +kernel
theorem dX4_leastShutting_50 : decode cX4_leastShutting 50 = .ok (.ixor, 1) := by decide +kernel
theorem dX4_leastShutting_51 : decode cX4_leastShutting 51 = .ok (.iand, 1) := by decide +kernel
theorem dX4_leastShutting_52 : decode cX4_leastShutting 52 = .ok (.ifCond .ne 12, 3) := by decide +kernel
theorem dX4_leastShutting_55 : decode cX4_leastShutting 55 = .ok (.iload 7, 2) := by decide +kernel
theorem dX4_leastShutting_57 : decode cX4_leastShutting 57 = .ok (.ifCond .eq 7, 3) := by decide +kernel
theorem dX4_leastShutting_60 : decode cX4_leastShutting 60 = .ok (.iconst 1, 1) := by decide +kernel
theorem dX4_leastShutting_61 : decode cX4_leastShutting 61 = .ok (.goto 4, 3) := by decide +kernel
theorem dX4_leastShutting_64 : decode cX4_leastShutting 64 = .ok (.iconst 0, 1) := by decide +kernel
theorem dX4_leastShutting_65 : decode cX4_leastShutting 65 = .ok (.istore 8, 2) := by decide +kernel
theorem dX4_leastShutting_67 : decode cX4_leastShutting 67 = .ok (.iload 8, 2) := by decide +kernel
theorem dX4_leastShutting_69 : decode cX4_leastShutting 69 = .ok (.ifCond .eq 31, 3) := by decide +kernel
theorem dX4_leastShutting_72 : decode cX4_leastShutting 72 = .ok (.aload_n 0, 1) := by decide +kernel
theorem dX4_leastShutting_73 : decode cX4_leastShutting 73 = .ok (.aload_n 0, 1) := by decide +kernel
theorem dX4_leastShutting_74 : decode cX4_leastShutting 74 = .ok (.getfield 18, 3) := by decide +kernel
theorem dX4_leastShutting_77 : decode cX4_leastShutting 77 = .ok (.iload_n 1, 1) := by decide +kernel
theorem dX4_leastShutting_78 : decode cX4_leastShutting 78 = .ok (.iaload, 1) := by decide +kernel
theorem dX4_leastShutting_79 : decode cX4_leastShutting 79 = .ok (.iload 4, 2) := by decide +kernel
theorem dX4_leastShutting_81 : decode cX4_leastShutting 81 = .ok (.iload 6, 2) := by decide +kernel
theorem dX4_leastShutting_83 : decode cX4_leastShutting 83 = .ok (.iconst (-1), 1) := by decide +kernel
theorem dX4_leastShutting_84 : decode cX4_leastShutting 84 = .ok (.ixor, 1) := by decide +kernel
theorem dX4_leastShutting_85 : decode cX4_leastShutting 85 = .ok (.iand, 1) := by decide +kernel
theorem dX4_leastShutting_86 : decode cX4_leastShutting 86 = .ok (.invokevirtual 102, 3) := by decide +kernel
theorem dX4_leastShutting_89 : decode cX4_leastShutting 89 = .ok (.iload_n 2, 1) := by decide +kernel
theorem dX4_leastShutting_90 : decode cX4_leastShutting 90 = .ok (.invokestatic 89, 3) := by decide +kernel
theorem dX4_leastShutting_93 : decode cX4_leastShutting 93 = .ok (.ifCond .ne 7, 3) := by decide +kernel
theorem dX4_leastShutting_96 : decode cX4_leastShutting 96 = .ok (.iload 6, 2) := by decide +kernel
theorem dX4_leastShutting_98 : decode cX4_leastShutting 98 = .ok (.istore 5, 2) := by decide +kernel
theorem dX4_leastShutting_100 : decode cX4_leastShutting 100 = .ok (.iinc 6 1, 3) := by decide +kernel
theorem dX4_leastShutting_103 : decode cX4_leastShutting 103 = .ok (.goto (-85), 3) := by decide +kernel
theorem dX4_leastShutting_106 : decode cX4_leastShutting 106 = .ok (.iload 5, 2) := by decide +kernel
theorem dX4_leastShutting_108 : decode cX4_leastShutting 108 = .ok (.ireturn, 1) := by decide +kernel
theorem dX4_followPlan_0 : decode cX4_followPlan 0 = .ok (.iconst 0, 1) := by decide +kernel
theorem dX4_followPlan_1 : decode cX4_followPlan 1 = .ok (.istore_n 2, 1) := by decide +kernel
theorem dX4_followPlan_2 : decode cX4_followPlan 2 = .ok (.iconst 0, 1) := by decide +kernel
theorem dX4_followPlan_3 : decode cX4_followPlan 3 = .ok (.istore_n 3, 1) := by decide +kernel
theorem dX4_followPlan_4 : decode cX4_followPlan 4 = .ok (.iload_n 3, 1) := by decide +kernel
theorem dX4_followPlan_5 : decode cX4_followPlan 5 = .ok (.aload_n 0, 1) := by decide +kernel
theorem dX4_followPlan_6 : decode cX4_followPlan 6 = .ok (.getfield 55, 3) := by decide +kernel
theorem dX4_followPlan_9 : decode cX4_followPlan 9 = .ok (.if_icmp .ge 39, 3) := by decide +kernel
theorem dX4_followPlan_12 : decode cX4_followPlan 12 = .ok (.iload_n 3, 1) := by decide +kernel
theorem dX4_followPlan_13 : decode cX4_followPlan 13 = .ok (.iload_n 1, 1) := by decide +kernel
theorem dX4_followPlan_14 : decode cX4_followPlan 14 = .ok (.if_icmp .eq 28, 3) := by decide +kernel
theorem dX4_followPlan_17 : decode cX4_followPlan 17 = .ok (.aload_n 0, 1) := by decide +kernel
theorem dX4_followPlan_18 : decode cX4_followPlan 18 = .ok (.aload_n 0, 1) := by decide +kernel
theorem dX4_followPlan_19 : decode cX4_followPlan 19 = .ok (.getfield 36, 3) := by decide +kernel
theorem dX4_followPlan_22 : decode cX4_followPlan 22 = .ok (.iload_n 3, 1) := by decide +kernel
theorem dX4_followPlan_23 : decode cX4_followPlan 23 = .ok (.iaload, 1) := by decide +kernel
theorem dX4_followPlan_24 : decode cX4_followPlan 24 = .ok (.aload_n 0, 1) := by decide +kernel
theorem dX4_followPlan_25 : decode cX4_followPlan 25 = .ok (.getfield 39, 3) := by decide +kernel
theorem dX4_followPlan_28 : decode cX4_followPlan 28 = .ok (.iload_n 3, 1) := by decide +kernel
theorem dX4_followPlan_29 : decode cX4_followPlan 29 = .ok (.iaload, 1) := by decide +kernel
theorem dX4_followPlan_30 : decode cX4_followPlan 30 = .ok (.invokevirtual 79, 3) := by decide +kernel
theorem dX4_followPlan_33 : decode cX4_followPlan 33 = .ok (.ifCond .eq 9, 3) := by decide +kernel
theorem dX4_followPlan_36 : decode cX4_followPlan 36 = .ok (.iload_n 2, 1) := by decide +kernel
theorem dX4_followPlan_37 : decode cX4_followPlan 37 = .ok (.iconst 1, 1) := by decide +kernel
theorem dX4_followPlan_38 : decode cX4_followPlan 38 = .ok (.iload_n 3, 1) := by decide +kernel
theorem dX4_followPlan_39 : decode cX4_followPlan 39 = .ok (.ishl, 1) := by decide +kernel
theorem dX4_followPlan_40 : decode cX4_followPlan 40 = .ok (.ior, 1) := by decide +kernel
theorem dX4_followPlan_41 : decode cX4_followPlan 41 = .ok (.istore_n 2, 1) := by decide +kernel
theorem dX4_followPlan_42 : decode cX4_followPlan 42 = .ok (.iinc 3 1, 3) := by decide +kernel
theorem dX4_followPlan_45 : decode cX4_followPlan 45 = .ok (.goto (-41), 3) := by decide +kernel
theorem dX4_followPlan_48 : decode cX4_followPlan 48 = .ok (.iload_n 2, 1) := by decide +kernel
theorem dX4_followPlan_49 : decode cX4_followPlan 49 = .ok (.ireturn, 1) := by decide +kernel
theorem dX4_driftOnce_0 : decode cX4_driftOnce 0 = .ok (.aload_n 0, 1) := by decide +kernel
theorem dX4_driftOnce_1 : decode cX4_driftOnce 1 = .ok (.getfield 48, 3) := by decide +kernel
theorem dX4_driftOnce_4 : decode cX4_driftOnce 4 = .ok (.ifCond .le 10, 3) := by decide +kernel
theorem dX4_driftOnce_7 : decode cX4_driftOnce 7 = .ok (.aload_n 0, 1) := by decide +kernel
theorem dX4_driftOnce_8 : decode cX4_driftOnce 8 = .ok (.getfield 52, 3) := by decide +kernel
theorem dX4_driftOnce_11 : decode cX4_driftOnce 11 = .ok (.ifCond .gt 4, 3) := by decide +kernel
theorem dX4_driftOnce_14 : decode cX4_driftOnce 14 = .ok (.return_, 1) := by decide +kernel
theorem dX4_driftOnce_15 : decode cX4_driftOnce 15 = .ok (.iload_n 1, 1) := by decide +kernel
theorem dX4_driftOnce_16 : decode cX4_driftOnce 16 = .ok (.bipush 8, 2) := by decide +kernel
theorem dX4_driftOnce_18 : decode cX4_driftOnce 18 = .ok (.idiv, 1) := by decide +kernel
theorem dX4_driftOnce_19 : decode cX4_driftOnce 19 = .ok (.aload_n 0, 1) := by decide +kernel
theorem dX4_driftOnce_20 : decode cX4_driftOnce 20 = .ok (.getfield 52, 3) := by decide +kernel
theorem dX4_driftOnce_23 : decode cX4_driftOnce 23 = .ok (.irem, 1) := by decide +kernel
theorem dX4_driftOnce_24 : decode cX4_driftOnce 24 = .ok (.istore_n 2, 1) := by decide +kernel
theorem dX4_driftOnce_25 : decode cX4_driftOnce 25 = .ok (.aload_n 0, 1) := by decide +kernel
theorem dX4_driftOnce_26 : decode cX4_driftOnce 26 = .ok (.iload_n 1, 1) := by decide +kernel
theorem dX4_driftOnce_27 : decode cX4_driftOnce 27 = .ok (.aload_n 0, 1) := by decide +kernel
theorem dX4_driftOnce_28 : decode cX4_driftOnce 28 = .ok (.getfield 48, 3) := by decide +kernel
theorem dX4_driftOnce_31 : decode cX4_driftOnce 31 = .ok (.irem, 1) := by decide +kernel
theorem dX4_driftOnce_32 : decode cX4_driftOnce 32 = .ok (.iload_n 2, 1) := by decide +kernel
theorem dX4_driftOnce_33 : decode cX4_driftOnce 33 = .ok (.invokevirtual 79, 3) := by decide +kernel
theorem dX4_driftOnce_36 : decode cX4_driftOnce 36 = .ok (.ifCond .ne 10, 3) := by decide +kernel
theorem dX4_driftOnce_39 : decode cX4_driftOnce 39 = .ok (.aload_n 0, 1) := by decide +kernel
theorem dX4_driftOnce_40 : decode cX4_driftOnce 40 = .ok (.iload_n 2, 1) := by decide +kernel
theorem dX4_driftOnce_41 : decode cX4_driftOnce 41 = .ok (.iconst (-1), 1) := by decide +kernel
theorem dX4_driftOnce_42 : decode cX4_driftOnce 42 = .ok (.invokevirtual 75, 3) := by decide +kernel
theorem dX4_driftOnce_45 : decode cX4_driftOnce 45 = .ok (.pop, 1) := by decide +kernel
theorem dX4_driftOnce_46 : decode cX4_driftOnce 46 = .ok (.return_, 1) := by decide +kernel
theorem dX4_jamWeights_0 : decode cX4_jamWeights 0 = .ok (.bipush 10, 2) := by decide +kernel
theorem dX4_jamWeights_2 : decode cX4_jamWeights 2 = .ok (.aload_n 0, 1) := by decide +kernel
theorem dX4_jamWeights_3 : decode cX4_jamWeights 3 = .ok (.invokevirtual 125, 3) := by decide +kernel
theorem dX4_jamWeights_6 : decode cX4_jamWeights 6 = .ok (.invokestatic 117, 3) := by decide +kernel
theorem dX4_jamWeights_9 : decode cX4_jamWeights 9 = .ok (.invokestatic 129, 3) := by decide +kernel
theorem dX4_jamWeights_12 : decode cX4_jamWeights 12 = .ok (.lreturn, 1) := by decide +kernel
theorem dX4_reachedWhenJammed_0 : decode cX4_reachedWhenJammed 0 = .ok (.aload_n 0, 1) := by decide +kernel
theorem dX4_reachedWhenJammed_1 : decode cX4_reachedWhenJammed 1 = .ok (.invokevirtual 125, 3) := by decide +kernel
theorem dX4_reachedWhenJammed_4 : decode cX4_reachedWhenJammed 4 = .ok (.istore 4, 2) := by decide +kernel
theorem dX4_reachedWhenJammed_6 : decode cX4_reachedWhenJammed 6 = .ok (.aload_n 0, 1) := by decide +kernel
theorem dX4_reachedWhenJammed_7 : decode cX4_reachedWhenJammed 7 = .ok (.iload_n 2, 1) := by decide +kernel
theorem dX4_reachedWhenJammed_8 : decode cX4_reachedWhenJammed 8 = .ok (.invokevirtual 85, 3) := by decide +kernel
theorem dX4_reachedWhenJammed_11 : decode cX4_reachedWhenJammed 11 = .ok (.istore 5, 2) := by decide +kernel
theorem dX4_reachedWhenJammed_13 : decode cX4_reachedWhenJammed 13 = .ok (.lconst 0, 1) := by decide +kernel
theorem dX4_reachedWhenJammed_14 : decode cX4_reachedWhenJammed 14 = .ok (.lstore 6, 2) := by decide +kernel
theorem dX4_reachedWhenJammed_16 : decode cX4_reachedWhenJammed 16 = .ok (.iconst 0, 1) := by decide +kernel
theorem dX4_reachedWhenJammed_17 : decode cX4_reachedWhenJammed 17 = .ok (.istore 8, 2) := by decide +kernel
theorem dX4_reachedWhenJammed_19 : decode cX4_reachedWhenJammed 19 = .ok (.iload 8, 2) := by decide +kernel
theorem dX4_reachedWhenJammed_21 : decode cX4_reachedWhenJammed 21 = .ok (.sipush 512, 3) := by decide +kernel
theorem dX4_reachedWhenJammed_24 : decode cX4_reachedWhenJammed 24 = .ok (.if_icmp .ge 79, 3) := by decide +kernel
theorem dX4_reachedWhenJammed_27 : decode cX4_reachedWhenJammed 27 = .ok (.iload 8, 2) := by decide +kernel
theorem dX4_reachedWhenJammed_29 : decode cX4_reachedWhenJammed 29 = .ok (.iload 4, 2) := by decide +kernel
theorem dX4_reachedWhenJammed_31 : decode cX4_reachedWhenJammed 31 = .ok (.iconst (-1), 1) := by decide +kernel
theorem dX4_reachedWhenJammed_32 : decode cX4_reachedWhenJammed 32 = .ok (.ixor, 1) := by decide +kernel
theorem dX4_reachedWhenJammed_33 : decode cX4_reachedWhenJammed 33 = .ok (.iand, 1) := by decide +kernel
theorem dX4_reachedWhenJammed_34 : decode cX4_reachedWhenJammed 34 = .ok (.ifCond .ne 63, 3) := by decide +kernel
theorem dX4_reachedWhenJammed_37 : decode cX4_reachedWhenJammed 37 = .ok (.iload_n 1, 1) := by decide +kernel
theorem dX4_reachedWhenJammed_38 : decode cX4_reachedWhenJammed 38 = .ok (.iload 8, 2) := by decide +kernel
theorem dX4_reachedWhenJammed_40 : decode cX4_reachedWhenJammed 40 = .ok (.invokestatic 117, 3) := by decide +kernel
theorem dX4_reachedWhenJammed_43 : decode cX4_reachedWhenJammed 43 = .ok (.invokestatic 129, 3) := by decide +kernel
theorem dX4_reachedWhenJammed_46 : decode cX4_reachedWhenJammed 46 = .ok (.bipush 10, 2) := by decide +kernel
theorem dX4_reachedWhenJammed_48 : decode cX4_reachedWhenJammed 48 = .ok (.iload_n 1, 1) := by decide +kernel
theorem dX4_reachedWhenJammed_49 : decode cX4_reachedWhenJammed 49 = .ok (.isub, 1) := by decide +kernel
theorem dX4_reachedWhenJammed_50 : decode cX4_reachedWhenJammed 50 = .ok (.iload 4, 2) := by decide +kernel
theorem dX4_reachedWhenJammed_52 : decode cX4_reachedWhenJammed 52 = .ok (.iload 8, 2) := by decide +kernel
theorem dX4_reachedWhenJammed_54 : decode cX4_reachedWhenJammed 54 = .ok (.iconst (-1), 1) := by decide +kernel
theorem dX4_reachedWhenJammed_55 : decode cX4_reachedWhenJammed 55 = .ok (.ixor, 1) := by decide +kernel
theorem dX4_reachedWhenJammed_56 : decode cX4_reachedWhenJammed 56 = .ok (.iand, 1) := by decide +kernel
theorem dX4_reachedWhenJammed_57 : decode cX4_reachedWhenJammed 57 = .ok (.invokestatic 117, 3) := by decide +kernel
theorem dX4_reachedWhenJammed_60 : decode cX4_reachedWhenJammed 60 = .ok (.invokestatic 129, 3) := by decide +kernel
theorem dX4_reachedWhenJammed_63 : decode cX4_reachedWhenJammed 63 = .ok (.lmul, 1) := by decide +kernel
theorem dX4_reachedWhenJammed_64 : decode cX4_reachedWhenJammed 64 = .ok (.lstore 9, 2) := by decide +kernel
theorem dX4_reachedWhenJammed_66 : decode cX4_reachedWhenJammed 66 = .ok (.lload 6, 2) := by decide +kernel
theorem dX4_reachedWhenJammed_68 : decode cX4_reachedWhenJammed 68 = .ok (.lload 9, 2) := by decide +kernel
theorem dX4_reachedWhenJammed_70 : decode cX4_reachedWhenJammed 70 = .ok (.iload_n 3, 1) := by decide +kernel
theorem dX4_reachedWhenJammed_71 : decode cX4_reachedWhenJammed 71 = .ok (.aload_n 0, 1) := by decide +kernel
theorem dX4_reachedWhenJammed_72 : decode cX4_reachedWhenJammed 72 = .ok (.aload_n 0, 1) := by decide +kernel
theorem dX4_reachedWhenJammed_73 : decode cX4_reachedWhenJammed 73 = .ok (.getfield 18, 3) := by decide +kernel
theorem dX4_reachedWhenJammed_76 : decode cX4_reachedWhenJammed 76 = .ok (.iload_n 2, 1) := by decide +kernel
theorem dX4_reachedWhenJammed_77 : decode cX4_reachedWhenJammed 77 = .ok (.iaload, 1) := by decide +kernel
theorem dX4_reachedWhenJammed_78 : decode cX4_reachedWhenJammed 78 = .ok (.iload 5, 2) := by decide +kernel
theorem dX4_reachedWhenJammed_80 : decode cX4_reachedWhenJammed 80 = .ok (.iload 8, 2) := by decide +kernel
theorem dX4_reachedWhenJammed_82 : decode cX4_reachedWhenJammed 82 = .ok (.iconst (-1), 1) := by decide +kernel
theorem dX4_reachedWhenJammed_83 : decode cX4_reachedWhenJammed 83 = .ok (.ixor, 1) := by decide +kernel
theorem dX4_reachedWhenJammed_84 : decode cX4_reachedWhenJammed 84 = .ok (.iand, 1) := by decide +kernel
theorem dX4_reachedWhenJammed_85 : decode cX4_reachedWhenJammed 85 = .ok (.invokevirtual 102, 3) := by decide +kernel
theorem dX4_reachedWhenJammed_88 : decode cX4_reachedWhenJammed 88 = .ok (.iand, 1) := by decide +kernel
theorem dX4_reachedWhenJammed_89 : decode cX4_reachedWhenJammed 89 = .ok (.invokestatic 117, 3) := by decide +kernel
theorem dX4_reachedWhenJammed_92 : decode cX4_reachedWhenJammed 92 = .ok (.i2l, 1) := by decide +kernel
theorem dX4_reachedWhenJammed_93 : decode cX4_reachedWhenJammed 93 = .ok (.lmul, 1) := by decide +kernel
theorem dX4_reachedWhenJammed_94 : decode cX4_reachedWhenJammed 94 = .ok (.ladd, 1) := by decide +kernel
theorem dX4_reachedWhenJammed_95 : decode cX4_reachedWhenJammed 95 = .ok (.lstore 6, 2) := by decide +kernel
theorem dX4_reachedWhenJammed_97 : decode cX4_reachedWhenJammed 97 = .ok (.iinc 8 1, 3) := by decide +kernel
theorem dX4_reachedWhenJammed_100 : decode cX4_reachedWhenJammed 100 = .ok (.goto (-81), 3) := by decide +kernel
theorem dX4_reachedWhenJammed_103 : decode cX4_reachedWhenJammed 103 = .ok (.lload 6, 2) := by decide +kernel
theorem dX4_reachedWhenJammed_105 : decode cX4_reachedWhenJammed 105 = .ok (.lreturn, 1) := by decide +kernel
theorem dX4_power_0 : decode cX4_power 0 = .ok (.lconst 1, 1) := by decide +kernel
theorem dX4_power_1 : decode cX4_power 1 = .ok (.lstore_n 2, 1) := by decide +kernel
theorem dX4_power_2 : decode cX4_power 2 = .ok (.iconst 0, 1) := by decide +kernel
theorem dX4_power_3 : decode cX4_power 3 = .ok (.istore 4, 2) := by decide +kernel
theorem dX4_power_5 : decode cX4_power 5 = .ok (.iload 4, 2) := by decide +kernel
theorem dX4_power_7 : decode cX4_power 7 = .ok (.iload_n 1, 1) := by decide +kernel
theorem dX4_power_8 : decode cX4_power 8 = .ok (.if_icmp .ge 14, 3) := by decide +kernel
theorem dX4_power_11 : decode cX4_power 11 = .ok (.lload_n 2, 1) := by decide +kernel
theorem dX4_power_12 : decode cX4_power 12 = .ok (.iload_n 0, 1) := by decide +kernel
theorem dX4_power_13 : decode cX4_power 13 = .ok (.i2l, 1) := by decide +kernel
theorem dX4_power_14 : decode cX4_power 14 = .ok (.lmul, 1) := by decide +kernel
theorem dX4_power_15 : decode cX4_power 15 = .ok (.lstore_n 2, 1) := by decide +kernel
theorem dX4_power_16 : decode cX4_power 16 = .ok (.iinc 4 1, 3) := by decide +kernel
theorem dX4_power_19 : decode cX4_power 19 = .ok (.goto (-14), 3) := by decide +kernel
theorem dX4_power_22 : decode cX4_power 22 = .ok (.lload_n 2, 1) := by decide +kernel
theorem dX4_power_23 : decode cX4_power 23 = .ok (.lreturn, 1) := by decide +kernel
