/-! the methods' tables, on: the library's -/
def m_AB_init : kx_M := (⟨"java/util/AbstractList", "<init>", "()V"⟩, prog_33_method_1_code, 1, (none))
def t_AB_init : List (Nat × Instr × Nat) := [(0, .aload_n 0, 1), (1, .invokespecial 1, 3), (4, .aload_n 0, 1), (5, .iconst 0, 1), (6, .putfield 7, 3), (9, .return_, 1)]
theorem d_AB_init : kx_dk m_AB_init.2.1 t_AB_init = true := by decide +kernel
theorem w_AB_init : kx_MW m_AB_init 0 := ⟨kx_ic kx_L2 15 (by decide +kernel) rfl, kx_ic kx_L1 10 (by decide +kernel) rfl, by decide +kernel, by decide +kernel, by decide, by decide +kernel⟩
theorem wi_AB_init : Cond.instanceMethod m_AB_init.1 ∈ kx_good := kx_ic kx_L2 14 (by decide +kernel) rfl
def m_AC_init : kx_M := (⟨"java/util/AbstractCollection", "<init>", "()V"⟩, prog_32_method_1_code, 1, (none))
def t_AC_init : List (Nat × Instr × Nat) := [(0, .aload_n 0, 1), (1, .invokespecial 1, 3), (4, .return_, 1)]
theorem d_AC_init : kx_dk m_AC_init.2.1 t_AC_init = true := by decide +kernel
theorem w_AC_init : kx_MW m_AC_init 0 := ⟨kx_ic kx_L2 18 (by decide +kernel) rfl, kx_ic kx_L1 9 (by decide +kernel) rfl, by decide +kernel, by decide +kernel, by decide, by decide +kernel⟩
theorem wi_AC_init : Cond.instanceMethod m_AC_init.1 ∈ kx_good := kx_ic kx_L2 17 (by decide +kernel) rfl
def m_AL_add0 : kx_M := (⟨"java/util/ArrayList", "add", "(Ljava/lang/Object;[Ljava/lang/Object;I)V"⟩, prog_34_method_24_code, 4, (none))
def t_AL_add0 : List (Nat × Instr × Nat) := [(0, .iload_n 3, 1), (1, .aload_n 2, 1), (2, .arraylength, 1), (3, .if_icmp .ne 8, 3), (6, .aload_n 0, 1), (7, .invokevirtual 129, 3), (10, .astore_n 2, 1), (11, .aload_n 2, 1), (12, .iload_n 3, 1), (13, .aload_n 1, 1), (14, .aastore, 1), (15, .aload_n 0, 1), (16, .iload_n 3, 1), (17, .iconst 1, 1), (18, .iadd, 1), (19, .putfield 48, 3), (22, .return_, 1)]
theorem d_AL_add0 : kx_dk m_AL_add0.2.1 t_AL_add0 = true := by decide +kernel
theorem w_AL_add0 : kx_MW m_AL_add0 3 := ⟨kx_ic kx_L4 193 (by decide +kernel) rfl, kx_ic kx_L1 11 (by decide +kernel) rfl, by decide +kernel, by decide +kernel, by decide, by decide +kernel⟩
theorem wi_AL_add0 : Cond.instanceMethod m_AL_add0.1 ∈ kx_good := kx_ic kx_L4 192 (by decide +kernel) rfl
theorem we_AL_add0 : Cond.selects m_AL_add0.1.cls m_AL_add0.1 m_AL_add0.1 ∈ kx_good := kx_inl (by decide +kernel) rfl
def m_AL_add1 : kx_M := (⟨"java/util/ArrayList", "add", "(Ljava/lang/Object;)Z"⟩, prog_34_method_25_code, 2, (some .boolean))
def t_AL_add1 : List (Nat × Instr × Nat) := [(0, .aload_n 0, 1), (1, .dup, 1), (2, .getfield 63, 3), (5, .iconst 1, 1), (6, .iadd, 1), (7, .putfield 63, 3), (10, .aload_n 0, 1), (11, .aload_n 1, 1), (12, .aload_n 0, 1), (13, .getfield 9, 3), (16, .aload_n 0, 1), (17, .getfield 48, 3), (20, .invokevirtual 131, 3), (23, .iconst 1, 1), (24, .ireturn, 1)]
theorem d_AL_add1 : kx_dk m_AL_add1.2.1 t_AL_add1 = true := by decide +kernel
theorem w_AL_add1 : kx_MW m_AL_add1 1 := ⟨kx_ic kx_L4 189 (by decide +kernel) rfl, kx_ic kx_L1 11 (by decide +kernel) rfl, by decide +kernel, by decide +kernel, by decide, by decide +kernel⟩
theorem wi_AL_add1 : Cond.instanceMethod m_AL_add1.1 ∈ kx_good := kx_ic kx_L4 187 (by decide +kernel) rfl
theorem we_AL_add1 : Cond.selects m_AL_add1.1.cls m_AL_add1.1 m_AL_add1.1 ∈ kx_good := kx_ic kx_L4 188 (by decide +kernel) rfl
def m_AL_elementData : kx_M := (⟨"java/util/ArrayList", "elementData", "(I)Ljava/lang/Object;"⟩, prog_34_method_18_code, 2, (some (.object "java/lang/Object")))
def t_AL_elementData : List (Nat × Instr × Nat) := [(0, .aload_n 0, 1), (1, .getfield 9, 3), (4, .iload_n 1, 1), (5, .aaload, 1), (6, .areturn, 1)]
theorem d_AL_elementData : kx_dk m_AL_elementData.2.1 t_AL_elementData = true := by decide +kernel
theorem w_AL_elementData : kx_MW m_AL_elementData 1 := ⟨kx_ic kx_L5 23 (by decide +kernel) rfl, kx_ic kx_L1 11 (by decide +kernel) rfl, by decide +kernel, by decide +kernel, by decide, by decide +kernel⟩
theorem wi_AL_elementData : Cond.instanceMethod m_AL_elementData.1 ∈ kx_good := kx_ic kx_L5 21 (by decide +kernel) rfl
theorem we_AL_elementData : Cond.selects m_AL_elementData.1.cls m_AL_elementData.1 m_AL_elementData.1 ∈ kx_good := kx_ic kx_L5 22 (by decide +kernel) rfl
def m_AL_get : kx_M := (⟨"java/util/ArrayList", "get", "(I)Ljava/lang/Object;"⟩, prog_34_method_20_code, 2, (some (.object "java/lang/Object")))
def t_AL_get : List (Nat × Instr × Nat) := [(0, .iload_n 1, 1), (1, .aload_n 0, 1), (2, .getfield 48, 3), (5, .invokestatic 118, 3), (8, .pop, 1), (9, .aload_n 0, 1), (10, .iload_n 1, 1), (11, .invokevirtual 123, 3), (14, .areturn, 1)]
theorem d_AL_get : kx_dk m_AL_get.2.1 t_AL_get = true := by decide +kernel
theorem w_AL_get : kx_MW m_AL_get 1 := ⟨kx_ic kx_L5 15 (by decide +kernel) rfl, kx_ic kx_L1 11 (by decide +kernel) rfl, by decide +kernel, by decide +kernel, by decide, by decide +kernel⟩
theorem wi_AL_get : Cond.instanceMethod m_AL_get.1 ∈ kx_good := kx_ic kx_L5 13 (by decide +kernel) rfl
theorem we_AL_get : Cond.selects m_AL_get.1.cls m_AL_get.1 m_AL_get.1 ∈ kx_good := kx_ic kx_L5 14 (by decide +kernel) rfl
def m_AL_grow0 : kx_M := (⟨"java/util/ArrayList", "grow", "(I)[Ljava/lang/Object;"⟩, prog_34_method_6_code, 4, (some (.array (.object "java/lang/Object"))))
def t_AL_grow0 : List (Nat × Instr × Nat) := [(0, .aload_n 0, 1), (1, .getfield 9, 3), (4, .arraylength, 1), (5, .istore_n 2, 1), (6, .iload_n 2, 1), (7, .ifCond .gt 13, 3), (10, .aload_n 0, 1), (11, .getfield 9, 3), (14, .getstatic 39, 3), (17, .if_acmp .eq 28, 3), (20, .iload_n 2, 1), (21, .iload_n 1, 1), (22, .iload_n 2, 1), (23, .isub, 1), (24, .iload_n 2, 1), (25, .iconst 1, 1), (26, .ishr, 1), (27, .invokestatic 73, 3), (30, .istore_n 3, 1), (31, .aload_n 0, 1), (32, .aload_n 0, 1), (33, .getfield 9, 3), (36, .iload_n 3, 1), (37, .invokestatic 66, 3), (40, .dup_x1, 1), (41, .putfield 9, 3), (44, .areturn, 1), (45, .aload_n 0, 1), (46, .bipush 10, 2), (48, .iload_n 1, 1), (49, .invokestatic 79, 3), (52, .anewarray 7, 3), (55, .dup_x1, 1), (56, .putfield 9, 3), (59, .areturn, 1)]
theorem d_AL_grow0 : kx_dk m_AL_grow0.2.1 t_AL_grow0 = true := by decide +kernel
theorem w_AL_grow0 : kx_MW m_AL_grow0 1 := ⟨kx_ic kx_L4 201 (by decide +kernel) rfl, kx_ic kx_L1 11 (by decide +kernel) rfl, by decide +kernel, by decide +kernel, by decide, by decide +kernel⟩
theorem wi_AL_grow0 : Cond.instanceMethod m_AL_grow0.1 ∈ kx_good := kx_ic kx_L4 200 (by decide +kernel) rfl
theorem we_AL_grow0 : Cond.selects m_AL_grow0.1.cls m_AL_grow0.1 m_AL_grow0.1 ∈ kx_good := kx_inl (by decide +kernel) rfl
def m_AL_grow1 : kx_M := (⟨"java/util/ArrayList", "grow", "()[Ljava/lang/Object;"⟩, prog_34_method_7_code, 1, (some (.array (.object "java/lang/Object"))))
def t_AL_grow1 : List (Nat × Instr × Nat) := [(0, .aload_n 0, 1), (1, .aload_n 0, 1), (2, .getfield 48, 3), (5, .iconst 1, 1), (6, .iadd, 1), (7, .invokevirtual 69, 3), (10, .areturn, 1)]
theorem d_AL_grow1 : kx_dk m_AL_grow1.2.1 t_AL_grow1 = true := by decide +kernel
theorem w_AL_grow1 : kx_MW m_AL_grow1 0 := ⟨kx_ic kx_L4 197 (by decide +kernel) rfl, kx_ic kx_L1 11 (by decide +kernel) rfl, by decide +kernel, by decide +kernel, by decide, by decide +kernel⟩
theorem wi_AL_grow1 : Cond.instanceMethod m_AL_grow1.1 ∈ kx_good := kx_ic kx_L4 196 (by decide +kernel) rfl
theorem we_AL_grow1 : Cond.selects m_AL_grow1.1.cls m_AL_grow1.1 m_AL_grow1.1 ∈ kx_good := kx_inl (by decide +kernel) rfl
def m_AL_init : kx_M := (⟨"java/util/ArrayList", "<init>", "()V"⟩, prog_34_method_2_code, 1, (none))
def t_AL_init : List (Nat × Instr × Nat) := [(0, .aload_n 0, 1), (1, .invokespecial 1, 3), (4, .aload_n 0, 1), (5, .getstatic 39, 3), (8, .putfield 9, 3), (11, .return_, 1)]
theorem d_AL_init : kx_dk m_AL_init.2.1 t_AL_init = true := by decide +kernel
theorem w_AL_init : kx_MW m_AL_init 0 := ⟨kx_ic kx_L2 12 (by decide +kernel) rfl, kx_ic kx_L1 11 (by decide +kernel) rfl, by decide +kernel, by decide +kernel, by decide, by decide +kernel⟩
theorem wi_AL_init : Cond.instanceMethod m_AL_init.1 ∈ kx_good := kx_ic kx_L2 11 (by decide +kernel) rfl
def m_AL_size : kx_M := (⟨"java/util/ArrayList", "size", "()I"⟩, prog_34_method_8_code, 1, (some .int))
def t_AL_size : List (Nat × Instr × Nat) := [(0, .aload_n 0, 1), (1, .getfield 48, 3), (4, .ireturn, 1)]
theorem d_AL_size : kx_dk m_AL_size.2.1 t_AL_size = true := by decide +kernel
theorem w_AL_size : kx_MW m_AL_size 0 := ⟨kx_ic kx_L4 185 (by decide +kernel) rfl, kx_ic kx_L1 11 (by decide +kernel) rfl, by decide +kernel, by decide +kernel, by decide, by decide +kernel⟩
theorem wi_AL_size : Cond.instanceMethod m_AL_size.1 ∈ kx_good := kx_ic kx_L4 183 (by decide +kernel) rfl
theorem we_AL_size : Cond.selects m_AL_size.1.cls m_AL_size.1 m_AL_size.1 ∈ kx_good := kx_ic kx_L4 184 (by decide +kernel) rfl
def m_AS_hugeLength : kx_M := (⟨"jdk/internal/util/ArraysSupport", "hugeLength", "(II)I"⟩, prog_41_method_28_code, 3, (some .int))
def t_AS_hugeLength : List (Nat × Instr × Nat) := [(0, .iload_n 0, 1), (1, .iload_n 1, 1), (2, .iadd, 1), (3, .istore_n 2, 1), (4, .iload_n 2, 1), (5, .ifCond .ge 44, 3), (8, .new 204, 3), (11, .dup, 1), (12, .new 89, 3), (15, .dup, 1), (16, .invokespecial 91, 3), (19, .ldc 206, 2), (21, .invokevirtual 94, 3), (24, .iload_n 0, 1), (25, .invokevirtual 98, 3), (28, .ldc 208, 2), (30, .invokevirtual 94, 3), (33, .iload_n 1, 1), (34, .invokevirtual 98, 3), (37, .ldc 210, 2), (39, .invokevirtual 94, 3), (42, .invokevirtual 101, 3), (45, .invokespecial 212, 3), (48, .athrow, 1), (49, .iload_n 2, 1), (50, .ldc 200, 2), (52, .if_icmp .gt 6, 3), (55, .ldc 200, 2), (57, .ireturn, 1), (58, .iload_n 2, 1), (59, .ireturn, 1)]
theorem d_AS_hugeLength : kx_dk m_AS_hugeLength.2.1 t_AS_hugeLength = true := by decide +kernel
theorem w_AS_hugeLength : kx_MW m_AS_hugeLength 2 := ⟨kx_ic kx_L4 209 (by decide +kernel) rfl, kx_ic kx_L1 25 (by decide +kernel) rfl, by decide +kernel, by decide +kernel, by decide, by decide +kernel⟩
theorem wt_AS_hugeLength : Cond.static m_AS_hugeLength.1 ∈ kx_good := kx_ic kx_L4 208 (by decide +kernel) rfl
def m_AS_newLength : kx_M := (⟨"jdk/internal/util/ArraysSupport", "newLength", "(III)I"⟩, prog_41_method_27_code, 4, (some .int))
def t_AS_newLength : List (Nat × Instr × Nat) := [(0, .iload_n 0, 1), (1, .iload_n 1, 1), (2, .iload_n 2, 1), (3, .invokestatic 194, 3), (6, .iadd, 1), (7, .istore_n 3, 1), (8, .iconst 0, 1), (9, .iload_n 3, 1), (10, .if_icmp .ge 11, 3), (13, .iload_n 3, 1), (14, .ldc 200, 2), (16, .if_icmp .gt 5, 3), (19, .iload_n 3, 1), (20, .ireturn, 1), (21, .iload_n 0, 1), (22, .iload_n 1, 1), (23, .invokestatic 201, 3), (26, .ireturn, 1)]
theorem d_AS_newLength : kx_dk m_AS_newLength.2.1 t_AS_newLength = true := by decide +kernel
theorem w_AS_newLength : kx_MW m_AS_newLength 3 := ⟨kx_ic kx_L4 204 (by decide +kernel) rfl, kx_ic kx_L1 25 (by decide +kernel) rfl, by decide +kernel, by decide +kernel, by decide, by decide +kernel⟩
theorem wt_AS_newLength : Cond.static m_AS_newLength.1 ∈ kx_good := kx_ic kx_L4 203 (by decide +kernel) rfl
def m_Ar_copyOf0 : kx_M := (⟨"java/util/Arrays", "copyOf", "([Ljava/lang/Object;I)[Ljava/lang/Object;"⟩, prog_35_method_119_code, 2, (some (.array (.object "java/lang/Object"))))
def t_Ar_copyOf0 : List (Nat × Instr × Nat) := [(0, .aload_n 0, 1), (1, .iload_n 1, 1), (2, .aload_n 0, 1), (3, .invokevirtual 86, 3), (6, .invokestatic 300, 3), (9, .areturn, 1)]
theorem d_Ar_copyOf0 : kx_dk m_Ar_copyOf0.2.1 t_Ar_copyOf0 = true := by decide +kernel
theorem w_Ar_copyOf0 : kx_MW m_Ar_copyOf0 2 := ⟨kx_ic kx_L4 212 (by decide +kernel) rfl, kx_ic kx_L1 26 (by decide +kernel) rfl, by decide +kernel, by decide +kernel, by decide, by decide +kernel⟩
theorem wt_Ar_copyOf0 : Cond.static m_Ar_copyOf0.1 ∈ kx_good := kx_ic kx_L4 211 (by decide +kernel) rfl
def m_Ar_copyOf1 : kx_M := (⟨"java/util/Arrays", "copyOf", "([Ljava/lang/Object;ILjava/lang/Class;)[Ljava/lang/Object;"⟩, prog_35_method_120_code, 4, (some (.array (.object "java/lang/Object"))))
def t_Ar_copyOf1 : List (Nat × Instr × Nat) := [(0, .aload_n 2, 1), (1, .ldc 110, 2), (3, .if_acmp .ne 10, 3), (6, .iload_n 1, 1), (7, .anewarray 2, 3), (10, .goto 14, 3), (13, .aload_n 2, 1), (14, .invokevirtual 90, 3), (17, .iload_n 1, 1), (18, .invokestatic 95, 3), (21, .checkcast 110, 3), (24, .astore_n 3, 1), (25, .aload_n 0, 1), (26, .iconst 0, 1), (27, .aload_n 3, 1), (28, .iconst 0, 1), (29, .aload_n 0, 1), (30, .arraylength, 1), (31, .iload_n 1, 1), (32, .invokestatic 304, 3), (35, .invokestatic 150, 3), (38, .aload_n 3, 1), (39, .areturn, 1)]
theorem d_Ar_copyOf1 : kx_dk m_Ar_copyOf1.2.1 t_Ar_copyOf1 = true := by decide +kernel
theorem w_Ar_copyOf1 : kx_MW m_Ar_copyOf1 3 := ⟨kx_ic kx_L4 234 (by decide +kernel) rfl, kx_ic kx_L1 26 (by decide +kernel) rfl, by decide +kernel, by decide +kernel, by decide, by decide +kernel⟩
theorem wt_Ar_copyOf1 : Cond.static m_Ar_copyOf1.1 ∈ kx_good := kx_ic kx_L4 233 (by decide +kernel) rfl
def m_Ar_fill : kx_M := (⟨"java/util/Arrays", "fill", "([JJ)V"⟩, prog_35_method_101_code, 5, (none))
def t_Ar_fill : List (Nat × Instr × Nat) := [(0, .iconst 0, 1), (1, .istore_n 3, 1), (2, .aload_n 0, 1), (3, .arraylength, 1), (4, .istore 4, 2), (6, .iload_n 3, 1), (7, .iload 4, 2), (9, .if_icmp .ge 13, 3), (12, .aload_n 0, 1), (13, .iload_n 3, 1), (14, .lload_n 1, 1), (15, .lastore, 1), (16, .iinc 3 1, 3), (19, .goto (-13), 3), (22, .return_, 1)]
theorem d_Ar_fill : kx_dk m_Ar_fill.2.1 t_Ar_fill = true := by decide +kernel
theorem w_Ar_fill : kx_MW m_Ar_fill 2 := ⟨kx_ic kx_L6 23 (by decide +kernel) rfl, kx_ic kx_L1 26 (by decide +kernel) rfl, by decide +kernel, by decide +kernel, by decide, by decide +kernel⟩
theorem wt_Ar_fill : Cond.static m_Ar_fill.1 ∈ kx_good := kx_ic kx_L6 22 (by decide +kernel) rfl
def m_In_bitCount : kx_M := (⟨"java/lang/Integer", "bitCount", "(I)I"⟩, prog_21_method_49_code, 1, (some .int))
def t_In_bitCount : List (Nat × Instr × Nat) := [(0, .iload_n 0, 1), (1, .iload_n 0, 1), (2, .iconst 1, 1), (3, .iushr, 1), (4, .ldc_w 265, 3), (7, .iand, 1), (8, .isub, 1), (9, .istore_n 0, 1), (10, .iload_n 0, 1), (11, .ldc_w 266, 3), (14, .iand, 1), (15, .iload_n 0, 1), (16, .iconst 2, 1), (17, .iushr, 1), (18, .ldc_w 266, 3), (21, .iand, 1), (22, .iadd, 1), (23, .istore_n 0, 1), (24, .iload_n 0, 1), (25, .iload_n 0, 1), (26, .iconst 4, 1), (27, .iushr, 1), (28, .iadd, 1), (29, .ldc_w 267, 3), (32, .iand, 1), (33, .istore_n 0, 1), (34, .iload_n 0, 1), (35, .iload_n 0, 1), (36, .bipush 8, 2), (38, .iushr, 1), (39, .iadd, 1), (40, .istore_n 0, 1), (41, .iload_n 0, 1), (42, .iload_n 0, 1), (43, .bipush 16, 2), (45, .iushr, 1), (46, .iadd, 1), (47, .istore_n 0, 1), (48, .iload_n 0, 1), (49, .bipush 63, 2), (51, .iand, 1), (52, .ireturn, 1)]
theorem d_In_bitCount : kx_dk m_In_bitCount.2.1 t_In_bitCount = true := by decide +kernel
theorem w_In_bitCount : kx_MW m_In_bitCount 1 := ⟨kx_ic kx_L4 56 (by decide +kernel) rfl, kx_ic kx_L1 23 (by decide +kernel) rfl, by decide +kernel, by decide +kernel, by decide, by decide +kernel⟩
theorem wt_In_bitCount : Cond.static m_In_bitCount.1 ∈ kx_good := kx_ic kx_L4 55 (by decide +kernel) rfl
def m_Lo_bitCount : kx_M := (⟨"java/lang/Long", "bitCount", "(J)I"⟩, prog_23_method_50_code, 2, (some .int))
def t_Lo_bitCount : List (Nat × Instr × Nat) := [(0, .lload_n 0, 1), (1, .lload_n 0, 1), (2, .iconst 1, 1), (3, .lushr, 1), (4, .ldc2_w 314, 3), (7, .land, 1), (8, .lsub, 1), (9, .lstore_n 0, 1), (10, .lload_n 0, 1), (11, .ldc2_w 316, 3), (14, .land, 1), (15, .lload_n 0, 1), (16, .iconst 2, 1), (17, .lushr, 1), (18, .ldc2_w 316, 3), (21, .land, 1), (22, .ladd, 1), (23, .lstore_n 0, 1), (24, .lload_n 0, 1), (25, .lload_n 0, 1), (26, .iconst 4, 1), (27, .lushr, 1), (28, .ladd, 1), (29, .ldc2_w 318, 3), (32, .land, 1), (33, .lstore_n 0, 1), (34, .lload_n 0, 1), (35, .lload_n 0, 1), (36, .bipush 8, 2), (38, .lushr, 1), (39, .ladd, 1), (40, .lstore_n 0, 1), (41, .lload_n 0, 1), (42, .lload_n 0, 1), (43, .bipush 16, 2), (45, .lushr, 1), (46, .ladd, 1), (47, .lstore_n 0, 1), (48, .lload_n 0, 1), (49, .lload_n 0, 1), (50, .bipush 32, 2), (52, .lushr, 1), (53, .ladd, 1), (54, .lstore_n 0, 1), (55, .lload_n 0, 1), (56, .l2i, 1), (57, .bipush 127, 2), (59, .iand, 1), (60, .ireturn, 1)]
theorem d_Lo_bitCount : kx_dk m_Lo_bitCount.2.1 t_Lo_bitCount = true := by decide +kernel
theorem w_Lo_bitCount : kx_MW m_Lo_bitCount 1 := ⟨kx_ic kx_L6 33 (by decide +kernel) rfl, kx_ic kx_L1 30 (by decide +kernel) rfl, by decide +kernel, by decide +kernel, by decide, by decide +kernel⟩
theorem wt_Lo_bitCount : Cond.static m_Lo_bitCount.1 ∈ kx_good := kx_ic kx_L6 32 (by decide +kernel) rfl
def m_Ob_checkIndex : kx_M := (⟨"java/util/Objects", "checkIndex", "(II)I"⟩, prog_38_method_17_code, 2, (some .int))
def t_Ob_checkIndex : List (Nat × Instr × Nat) := [(0, .iload_n 0, 1), (1, .iload_n 1, 1), (2, .aconst_null, 1), (3, .invokestatic 105, 3), (6, .ireturn, 1)]
theorem d_Ob_checkIndex : kx_dk m_Ob_checkIndex.2.1 t_Ob_checkIndex = true := by decide +kernel
theorem w_Ob_checkIndex : kx_MW m_Ob_checkIndex 2 := ⟨kx_ic kx_L5 18 (by decide +kernel) rfl, kx_ic kx_L1 28 (by decide +kernel) rfl, by decide +kernel, by decide +kernel, by decide, by decide +kernel⟩
theorem wt_Ob_checkIndex : Cond.static m_Ob_checkIndex.1 ∈ kx_good := kx_ic kx_L5 17 (by decide +kernel) rfl
def m_Pr_checkIndex : kx_M := (⟨"jdk/internal/util/Preconditions", "checkIndex", "(IILjava/util/function/BiFunction;)I"⟩, prog_42_method_11_code, 3, (some .int))
def t_Pr_checkIndex : List (Nat × Instr × Nat) := [(0, .iload_n 0, 1), (1, .ifCond .lt 8, 3), (4, .iload_n 0, 1), (5, .iload_n 1, 1), (6, .if_icmp .lt 10, 3), (9, .aload_n 2, 1), (10, .iload_n 0, 1), (11, .iload_n 1, 1), (12, .invokestatic 95, 3), (15, .athrow, 1), (16, .iload_n 0, 1), (17, .ireturn, 1)]
theorem d_Pr_checkIndex : kx_dk m_Pr_checkIndex.2.1 t_Pr_checkIndex = true := by decide +kernel
theorem w_Pr_checkIndex : kx_MW m_Pr_checkIndex 3 := ⟨kx_ic kx_L3 83 (by decide +kernel) rfl, kx_ic kx_L1 21 (by decide +kernel) rfl, by decide +kernel, by decide +kernel, by decide, by decide +kernel⟩
theorem wt_Pr_checkIndex : Cond.static m_Pr_checkIndex.1 ∈ kx_good := kx_ic kx_L3 82 (by decide +kernel) rfl
def m_SL_charAt : kx_M := (⟨"java/lang/StringLatin1", "charAt", "([BI)C"⟩, prog_26_method_2_code, 2, (some .char))
def t_SL_charAt : List (Nat × Instr × Nat) := [(0, .iload_n 1, 1), (1, .aload_n 0, 1), (2, .arraylength, 1), (3, .invokestatic 9, 3), (6, .aload_n 0, 1), (7, .iload_n 1, 1), (8, .baload, 1), (9, .sipush 255, 3), (12, .iand, 1), (13, .i2c, 1), (14, .ireturn, 1)]
theorem d_SL_charAt : kx_dk m_SL_charAt.2.1 t_SL_charAt = true := by decide +kernel
theorem w_SL_charAt : kx_MW m_SL_charAt 2 := ⟨kx_ic kx_L3 75 (by decide +kernel) rfl, kx_ic kx_L1 20 (by decide +kernel) rfl, by decide +kernel, by decide +kernel, by decide, by decide +kernel⟩
theorem wt_SL_charAt : Cond.static m_SL_charAt.1 ∈ kx_good := kx_ic kx_L3 74 (by decide +kernel) rfl
def m_SU_charAt : kx_M := (⟨"java/lang/StringUTF16", "charAt", "([BI)C"⟩, prog_27_method_83_code, 2, (some .char))
def t_SU_charAt : List (Nat × Instr × Nat) := [(0, .iload_n 1, 1), (1, .aload_n 0, 1), (2, .invokestatic 67, 3), (5, .aload_n 0, 1), (6, .iload_n 1, 1), (7, .invokestatic 71, 3), (10, .ireturn, 1)]
theorem d_SU_charAt : kx_dk m_SU_charAt.2.1 t_SU_charAt = true := by decide +kernel
theorem w_SU_charAt : kx_MW m_SU_charAt 2 := ⟨kx_ic kx_L3 86 (by decide +kernel) rfl, kx_ic kx_L1 22 (by decide +kernel) rfl, by decide +kernel, by decide +kernel, by decide, by decide +kernel⟩
theorem wt_SU_charAt : Cond.static m_SU_charAt.1 ∈ kx_good := kx_ic kx_L3 85 (by decide +kernel) rfl
def m_SU_checkIndex : kx_M := (⟨"java/lang/StringUTF16", "checkIndex", "(I[B)V"⟩, prog_27_method_91_code, 2, (none))
def t_SU_checkIndex : List (Nat × Instr × Nat) := [(0, .iload_n 0, 1), (1, .aload_n 1, 1), (2, .invokestatic 48, 3), (5, .invokestatic 414, 3), (8, .return_, 1)]
theorem d_SU_checkIndex : kx_dk m_SU_checkIndex.2.1 t_SU_checkIndex = true := by decide +kernel
theorem w_SU_checkIndex : kx_MW m_SU_checkIndex 2 := ⟨kx_ic kx_L3 89 (by decide +kernel) rfl, kx_ic kx_L1 22 (by decide +kernel) rfl, by decide +kernel, by decide +kernel, by decide, by decide +kernel⟩
theorem wt_SU_checkIndex : Cond.static m_SU_checkIndex.1 ∈ kx_good := kx_ic kx_L3 88 (by decide +kernel) rfl
def m_SU_getChar : kx_M := (⟨"java/lang/StringUTF16", "getChar", "([BI)C"⟩, prog_27_method_5_code, 2, (some .char))
def t_SU_getChar : List (Nat × Instr × Nat) := [(0, .getstatic 44, 3), (3, .ifCond .ne 25, 3), (6, .iload_n 1, 1), (7, .ifCond .lt 11, 3), (10, .iload_n 1, 1), (11, .aload_n 0, 1), (12, .invokestatic 48, 3), (15, .if_icmp .lt 13, 3), (18, .new 52, 3), (21, .dup, 1), (22, .ldc 54, 2), (24, .invokespecial 56, 3), (27, .athrow, 1), (28, .iload_n 1, 1), (29, .iconst 1, 1), (30, .ishl, 1), (31, .istore_n 1, 1), (32, .aload_n 0, 1), (33, .iload_n 1, 1), (34, .iinc 1 1, 3), (37, .baload, 1), (38, .sipush 255, 3), (41, .iand, 1), (42, .getstatic 59, 3), (45, .ishl, 1), (46, .aload_n 0, 1), (47, .iload_n 1, 1), (48, .baload, 1), (49, .sipush 255, 3), (52, .iand, 1), (53, .getstatic 63, 3), (56, .ishl, 1), (57, .ior, 1), (58, .i2c, 1), (59, .ireturn, 1)]
theorem d_SU_getChar : kx_dk m_SU_getChar.2.1 t_SU_getChar = true := by decide +kernel
theorem w_SU_getChar : kx_MW m_SU_getChar 2 := ⟨kx_ic kx_L3 96 (by decide +kernel) rfl, kx_ic kx_L1 22 (by decide +kernel) rfl, by decide +kernel, by decide +kernel, by decide, by decide +kernel⟩
theorem wt_SU_getChar : Cond.static m_SU_getChar.1 ∈ kx_good := kx_ic kx_L3 95 (by decide +kernel) rfl
def m_SU_length : kx_M := (⟨"java/lang/StringUTF16", "length", "([B)I"⟩, prog_27_method_6_code, 1, (some .int))
def t_SU_length : List (Nat × Instr × Nat) := [(0, .aload_n 0, 1), (1, .arraylength, 1), (2, .iconst 1, 1), (3, .ishr, 1), (4, .ireturn, 1)]
theorem d_SU_length : kx_dk m_SU_length.2.1 t_SU_length = true := by decide +kernel
theorem w_SU_length : kx_MW m_SU_length 1 := ⟨kx_ic kx_L3 92 (by decide +kernel) rfl, kx_ic kx_L1 22 (by decide +kernel) rfl, by decide +kernel, by decide +kernel, by decide, by decide +kernel⟩
theorem wt_SU_length : Cond.static m_SU_length.1 ∈ kx_good := kx_ic kx_L3 91 (by decide +kernel) rfl
def m_Sg_charAt : kx_M := (⟨"java/lang/String", "charAt", "(I)C"⟩, prog_25_method_56_code, 2, (some .char))
def t_Sg_charAt : List (Nat × Instr × Nat) := [(0, .aload_n 0, 1), (1, .invokevirtual 492, 3), (4, .ifCond .eq 12, 3), (7, .aload_n 0, 1), (8, .getfield 9, 3), (11, .iload_n 1, 1), (12, .invokestatic 495, 3), (15, .ireturn, 1), (16, .aload_n 0, 1), (17, .getfield 9, 3), (20, .iload_n 1, 1), (21, .invokestatic 498, 3), (24, .ireturn, 1)]
theorem d_Sg_charAt : kx_dk m_Sg_charAt.2.1 t_Sg_charAt = true := by decide +kernel
theorem w_Sg_charAt : kx_MW m_Sg_charAt 1 := ⟨kx_ic kx_L3 68 (by decide +kernel) rfl, kx_ic kx_L1 19 (by decide +kernel) rfl, by decide +kernel, by decide +kernel, by decide, by decide +kernel⟩
theorem wi_Sg_charAt : Cond.instanceMethod m_Sg_charAt.1 ∈ kx_good := kx_ic kx_L3 66 (by decide +kernel) rfl
theorem we_Sg_charAt : Cond.selects m_Sg_charAt.1.cls m_Sg_charAt.1 m_Sg_charAt.1 ∈ kx_good := kx_ic kx_L3 67 (by decide +kernel) rfl
def m_Sg_checkIndex : kx_M := (⟨"java/lang/String", "checkIndex", "(II)V"⟩, prog_25_method_155_code, 2, (none))
def t_Sg_checkIndex : List (Nat × Instr × Nat) := [(0, .iload_n 0, 1), (1, .iload_n 1, 1), (2, .getstatic 1053, 3), (5, .invokestatic 1059, 3), (8, .pop, 1), (9, .return_, 1)]
theorem d_Sg_checkIndex : kx_dk m_Sg_checkIndex.2.1 t_Sg_checkIndex = true := by decide +kernel
theorem w_Sg_checkIndex : kx_MW m_Sg_checkIndex 2 := ⟨kx_ic kx_L3 78 (by decide +kernel) rfl, kx_ic kx_L1 19 (by decide +kernel) rfl, by decide +kernel, by decide +kernel, by decide, by decide +kernel⟩
theorem wt_Sg_checkIndex : Cond.static m_Sg_checkIndex.1 ∈ kx_good := kx_ic kx_L3 77 (by decide +kernel) rfl
def m_Sg_coder : kx_M := (⟨"java/lang/String", "coder", "()B"⟩, prog_25_method_152_code, 1, (some .byte))
def t_Sg_coder : List (Nat × Instr × Nat) := [(0, .getstatic 38, 3), (3, .ifCond .eq 10, 3), (6, .aload_n 0, 1), (7, .getfield 15, 3), (10, .goto 4, 3), (13, .iconst 1, 1), (14, .ireturn, 1)]
theorem d_Sg_coder : kx_dk m_Sg_coder.2.1 t_Sg_coder = true := by decide +kernel
theorem w_Sg_coder : kx_MW m_Sg_coder 0 := ⟨kx_ic kx_L3 62 (by decide +kernel) rfl, kx_ic kx_L1 19 (by decide +kernel) rfl, by decide +kernel, by decide +kernel, by decide, by decide +kernel⟩
theorem wi_Sg_coder : Cond.instanceMethod m_Sg_coder.1 ∈ kx_good := kx_ic kx_L3 60 (by decide +kernel) rfl
theorem we_Sg_coder : Cond.selects m_Sg_coder.1.cls m_Sg_coder.1 m_Sg_coder.1 ∈ kx_good := kx_ic kx_L3 61 (by decide +kernel) rfl
def m_Sg_isLatin1 : kx_M := (⟨"java/lang/String", "isLatin1", "()Z"⟩, prog_25_method_154_code, 1, (some .boolean))
def t_Sg_isLatin1 : List (Nat × Instr × Nat) := [(0, .getstatic 38, 3), (3, .ifCond .eq 14, 3), (6, .aload_n 0, 1), (7, .getfield 15, 3), (10, .ifCond .ne 7, 3), (13, .iconst 1, 1), (14, .goto 4, 3), (17, .iconst 0, 1), (18, .ireturn, 1)]
theorem d_Sg_isLatin1 : kx_dk m_Sg_isLatin1.2.1 t_Sg_isLatin1 = true := by decide +kernel
theorem w_Sg_isLatin1 : kx_MW m_Sg_isLatin1 0 := ⟨kx_ic kx_L3 72 (by decide +kernel) rfl, kx_ic kx_L1 19 (by decide +kernel) rfl, by decide +kernel, by decide +kernel, by decide, by decide +kernel⟩
theorem wi_Sg_isLatin1 : Cond.instanceMethod m_Sg_isLatin1.1 ∈ kx_good := kx_ic kx_L3 70 (by decide +kernel) rfl
theorem we_Sg_isLatin1 : Cond.selects m_Sg_isLatin1.1.cls m_Sg_isLatin1.1 m_Sg_isLatin1.1 ∈ kx_good := kx_ic kx_L3 71 (by decide +kernel) rfl
def m_Sg_length : kx_M := (⟨"java/lang/String", "length", "()I"⟩, prog_25_method_54_code, 1, (some .int))
def t_Sg_length : List (Nat × Instr × Nat) := [(0, .aload_n 0, 1), (1, .getfield 9, 3), (4, .arraylength, 1), (5, .aload_n 0, 1), (6, .invokevirtual 335, 3), (9, .ishr, 1), (10, .ireturn, 1)]
theorem d_Sg_length : kx_dk m_Sg_length.2.1 t_Sg_length = true := by decide +kernel
theorem w_Sg_length : kx_MW m_Sg_length 0 := ⟨kx_ic kx_L3 58 (by decide +kernel) rfl, kx_ic kx_L1 19 (by decide +kernel) rfl, by decide +kernel, by decide +kernel, by decide, by decide +kernel⟩
theorem wi_Sg_length : Cond.instanceMethod m_Sg_length.1 ∈ kx_good := kx_ic kx_L3 56 (by decide +kernel) rfl
theorem we_Sg_length : Cond.selects m_Sg_length.1.cls m_Sg_length.1 m_Sg_length.1 ∈ kx_good := kx_ic kx_L3 57 (by decide +kernel) rfl
