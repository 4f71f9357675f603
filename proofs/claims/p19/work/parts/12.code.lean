abbrev cX3_meansOf : ByteArray := prog_5_method_4_code
def yX3_meansOf : MethodName := ⟨RX3, "meansOf", "(II)I"⟩
def iX3_meansOf : List (List (Nat × Instr)) := [[(0, .aload_n 0), (1, .getfield 9), (4, .getfield 15), (7, .astore_n 3), (8, .aload_n 0), (9, .getfield 9), (12, .getfield 67), (15, .getfield 71)], [(18, .iload_n 1), (19, .iaload), (20, .istore 4), (22, .iconst 0), (23, .istore 5), (25, .iload 5), (27, .aload_n 3), (28, .getfield 21), (31, .if_icmp .ge 48)], [(34, .aload_n 3), (35, .getfield 76), (38, .iload 5), (40, .iaload), (41, .iload_n 1), (42, .if_icmp .ne 31), (45, .iload_n 2), (46, .aload_n 3), (47, .getfield 27)], [(50, .iload 5), (52, .iaload), (53, .invokestatic 48), (56, .ifCond .ne 17), (59, .iload 4), (61, .aload_n 0), (62, .getfield 9)], [(65, .iload 5), (67, .invokevirtual 31), (70, .iadd), (71, .istore 4), (73, .iinc 5 1), (76, .goto (-51)), (79, .iload 4)], [(81, .ireturn)]]
set_option maxRecDepth 20000 in
theorem iX3_meansOf_ok : mm_dec cX3_meansOf iX3_meansOf = true := by decide +kernel
set_option maxRecDepth 20000 in
theorem wX3_meansOf : mm_MV yX3_meansOf cX3_meansOf 6 (some .int) 3 := ⟨by decide, Or.inr ⟨_, rfl, rfl⟩, ⟨by decide +kernel, by decide +kernel⟩, mm_G_in (i := 797) (by decide +kernel) rfl, mm_G_in (i := 798) (by decide +kernel) rfl, mm_G_in (i := 75) (by decide +kernel) rfl, mm_G_in (i := 799) (by decide +kernel) rfl⟩
def vX3_meansOf : mm_L := [(31, 2, some 0, sX0_restOf)]
def zX3_meansOf : mm_L := [(48, 2, none, sX11_isIn)]
def sX3_meansOf : mm_F := mm_S (mm_gf gLX3) (mm_pf pLX3) (mm_mv vX3_meansOf) (mm_mv zX3_meansOf) (mm_kc kLX3) mm_gs0 mm_rf0 (some .int) 6 (mm_ins iX3_meansOf)
set_option maxRecDepth 20000 in
theorem tX3_meansOf (l : Launch) : mm_Ct l yX3_meansOf cX3_meansOf 6 (some .int) 1 sX3_meansOf := mm_meth (by decide +kernel) (mm_gf_ok gLX3_ok) (mm_pf_ok pLX3_ok) (mm_mv_ok (L := vX3_meansOf) (List.forall_mem_cons.mpr ⟨mm_LV.mk (i := 787) wX0_restOf (tX0_restOf l) (by decide) (by decide +kernel) (by decide +kernel), fun _ h => absurd h List.not_mem_nil⟩)) (mm_ms_ok (L := zX3_meansOf) (List.forall_mem_cons.mpr ⟨⟨rfl, Or.inl (mm_LS.nest wX11_isIn (tX11_isIn l) (by decide) (by decide +kernel) rfl (by decide +kernel))⟩, fun _ h => absurd h List.not_mem_nil⟩)) (mm_kc_ok kLX3_ok) mm_gs0_ok mm_rf0_ok (mm_dec_ok iX3_meansOf_ok)
abbrev cX3_chainFrom : ByteArray := prog_5_method_5_code
def yX3_chainFrom : MethodName := ⟨RX3, "chainFrom", "(I)I"⟩
def iX3_chainFrom : List (List (Nat × Instr)) := [[(0, .iload_n 1), (1, .aload_n 0), (2, .getfield 9), (5, .getfield 67), (8, .getfield 79), (11, .ior), (12, .istore_n 2), (13, .aload_n 0), (14, .iconst 0), (15, .putfield 82)], [(18, .iconst 0), (19, .istore_n 3), (20, .iload_n 3), (21, .bipush 8), (23, .if_icmp .ge 75), (26, .iload_n 2), (27, .istore 4), (29, .iconst 0), (30, .istore 5)], [(32, .iload 5), (34, .bipush 8), (36, .if_icmp .ge 35), (39, .aload_n 0), (40, .iload 5), (42, .iload_n 2), (43, .invokevirtual 85), (46, .aload_n 0), (47, .iload 5)], [(49, .iload_n 2), (50, .invokevirtual 89), (53, .if_icmp .le 12), (56, .iload 4), (58, .iconst 1), (59, .iload 5), (61, .ishl), (62, .ior), (63, .istore 4)], [(65, .iinc 5 1), (68, .goto (-36)), (71, .iload 4), (73, .iload_n 2), (74, .if_icmp .ne 5), (77, .iload_n 2), (78, .ireturn), (79, .iload 4)], [(81, .istore_n 2), (82, .aload_n 0), (83, .dup), (84, .getfield 82), (87, .iconst 1), (88, .iadd), (89, .putfield 82), (92, .iinc 3 1), (95, .goto (-75))], [(98, .iload_n 2), (99, .ireturn)]]
set_option maxRecDepth 20000 in
theorem iX3_chainFrom_ok : mm_dec cX3_chainFrom iX3_chainFrom = true := by decide +kernel
set_option maxRecDepth 20000 in
theorem wX3_chainFrom : mm_MV yX3_chainFrom cX3_chainFrom 6 (some .int) 3 := ⟨by decide, Or.inr ⟨_, rfl, rfl⟩, ⟨by decide +kernel, by decide +kernel⟩, mm_G_in (i := 805) (by decide +kernel) rfl, mm_G_in (i := 806) (by decide +kernel) rfl, mm_G_in (i := 75) (by decide +kernel) rfl, mm_G_in (i := 807) (by decide +kernel) rfl⟩
def vX3_chainFrom : mm_L := [(85, 3, some 3, sX3_burdenOf), (89, 3, some 3, sX3_meansOf)]
def zX3_chainFrom : mm_L := []
def sX3_chainFrom : mm_F := mm_S (mm_gf gLX3) (mm_pf pLX3) (mm_mv vX3_chainFrom) (mm_mv zX3_chainFrom) (mm_kc kLX3) mm_gs0 mm_rf0 (some .int) 6 (mm_ins iX3_chainFrom)
set_option maxRecDepth 20000 in
theorem tX3_chainFrom (l : Launch) : mm_Ct l yX3_chainFrom cX3_chainFrom 6 (some .int) 4 sX3_chainFrom := mm_meth (by decide +kernel) (mm_gf_ok gLX3_ok) (mm_pf_ok pLX3_ok) (mm_mv_ok (L := vX3_chainFrom) (List.forall_mem_cons.mpr ⟨mm_LV.mk (i := 808) wX3_burdenOf (tX3_burdenOf l) (by decide) (by decide +kernel) (by decide +kernel), List.forall_mem_cons.mpr ⟨mm_LV.mk (i := 809) wX3_meansOf (tX3_meansOf l) (by decide) (by decide +kernel) (by decide +kernel), fun _ h => absurd h List.not_mem_nil⟩⟩)) (mm_ms_ok (L := zX3_chainFrom) (fun _ h => absurd h List.not_mem_nil)) (mm_kc_ok kLX3_ok) mm_gs0_ok mm_rf0_ok (mm_dec_ok iX3_chainFrom_ok)
abbrev cX3_worstOne : ByteArray := prog_5_method_6_code
def yX3_worstOne : MethodName := ⟨RX3, "worstOne", "()I"⟩
def iX3_worstOne : List (List (Nat × Instr)) := [[(0, .bipush (-9)), (2, .istore_n 1), (3, .iconst 0), (4, .istore_n 2), (5, .iconst 0), (6, .istore_n 3), (7, .iload_n 3), (8, .bipush 8), (10, .if_icmp .ge 43), (13, .aload_n 0), (14, .getfield 9)], [(17, .iload_n 3), (18, .invokevirtual 92), (21, .ifCond .ne 26), (24, .aload_n 0), (25, .iconst 1), (26, .iload_n 3), (27, .ishl), (28, .invokevirtual 95), (31, .invokestatic 98)], [(34, .istore 4), (36, .iload 4), (38, .iload_n 2), (39, .if_icmp .le 8), (42, .iload 4), (44, .istore_n 2), (45, .iload_n 3), (46, .istore_n 1), (47, .iinc 3 1)], [(50, .goto (-43)), (53, .iload_n 1), (54, .ireturn)]]
set_option maxRecDepth 20000 in
theorem iX3_worstOne_ok : mm_dec cX3_worstOne iX3_worstOne = true := by decide +kernel
set_option maxRecDepth 20000 in
theorem wX3_worstOne : mm_MV yX3_worstOne cX3_worstOne 5 (some .int) 3 := ⟨by decide, Or.inr ⟨_, rfl, rfl⟩, ⟨by decide +kernel, by decide +kernel⟩, mm_G_in (i := 815) (by decide +kernel) rfl, mm_G_in (i := 816) (by decide +kernel) rfl, mm_G_in (i := 75) (by decide +kernel) rfl, mm_G_in (i := 817) (by decide +kernel) rfl⟩
def vX3_worstOne : mm_L := [(92, 2, some 0, sX0_isFallen), (95, 2, some 3, sX3_chainFrom)]
def zX3_worstOne : mm_L := [(98, 1, none, sJ6_bitCount_0f7a4)]
def sX3_worstOne : mm_F := mm_S (mm_gf gLX3) (mm_pf pLX3) (mm_mv vX3_worstOne) (mm_mv zX3_worstOne) (mm_kc kLX3) mm_gs0 mm_rf0 (some .int) 5 (mm_ins iX3_worstOne)
set_option maxRecDepth 20000 in
theorem tX3_worstOne (l : Launch) : mm_Ct l yX3_worstOne cX3_worstOne 5 (some .int) 5 sX3_worstOne := mm_meth (by decide +kernel) (mm_gf_ok gLX3_ok) (mm_pf_ok pLX3_ok) (mm_mv_ok (L := vX3_worstOne) (List.forall_mem_cons.mpr ⟨mm_LV.mk (i := 818) wX0_isFallen (tX0_isFallen l) (by decide) (by decide +kernel) (by decide +kernel), List.forall_mem_cons.mpr ⟨mm_LV.mk (i := 819) wX3_chainFrom (tX3_chainFrom l) (by decide) (by decide +kernel) (by decide +kernel), fun _ h => absurd h List.not_mem_nil⟩⟩)) (mm_ms_ok (L := zX3_worstOne) (List.forall_mem_cons.mpr ⟨⟨rfl, Or.inl (mm_LS.mk (i := 820) wJ6_bitCount_0f7a4 (tJ6_bitCount_0f7a4 l) (by decide) (by decide +kernel) (by decide +kernel))⟩, fun _ h => absurd h List.not_mem_nil⟩)) (mm_kc_ok kLX3_ok) mm_gs0_ok mm_rf0_ok (mm_dec_ok iX3_worstOne_ok)
abbrev cX3_mayLose : ByteArray := prog_5_method_7_code
def yX3_mayLose : MethodName := ⟨RX3, "mayLose", "(I)I"⟩
def iX3_mayLose : List (List (Nat × Instr)) := [[(0, .aload_n 0), (1, .getfield 9), (4, .getfield 67), (7, .getfield 79), (10, .istore_n 2), (11, .aload_n 0), (12, .iload_n 1), (13, .iload_n 2), (14, .invokevirtual 89)], [(17, .aload_n 0), (18, .iload_n 1), (19, .iload_n 2), (20, .invokevirtual 85), (23, .isub), (24, .istore_n 3), (25, .aload_n 0), (26, .getfield 9), (29, .iload_n 1), (30, .invokevirtual 92)], [(33, .ifCond .ne 7), (36, .iload_n 3), (37, .ifCond .ge 6), (40, .bipush (-9)), (42, .ireturn), (43, .iload_n 3), (44, .aload_n 0), (45, .getfield 9)], [(48, .getfield 67), (51, .getfield 71), (54, .iload_n 1), (55, .iaload), (56, .invokestatic 103), (59, .ireturn)]]
set_option maxRecDepth 20000 in
theorem iX3_mayLose_ok : mm_dec cX3_mayLose iX3_mayLose = true := by decide +kernel
set_option maxRecDepth 20000 in
theorem wX3_mayLose : mm_MV yX3_mayLose cX3_mayLose 4 (some .int) 3 := ⟨by decide, Or.inr ⟨_, rfl, rfl⟩, ⟨by decide +kernel, by decide +kernel⟩, mm_G_in (i := 826) (by decide +kernel) rfl, mm_G_in (i := 827) (by decide +kernel) rfl, mm_G_in (i := 75) (by decide +kernel) rfl, mm_G_in (i := 828) (by decide +kernel) rfl⟩
def vX3_mayLose : mm_L := [(89, 3, some 3, sX3_meansOf), (85, 3, some 3, sX3_burdenOf), (92, 2, some 0, sX0_isFallen)]
def zX3_mayLose : mm_L := [(103, 2, none, sJ9_min_7cf53)]
def sX3_mayLose : mm_F := mm_S (mm_gf gLX3) (mm_pf pLX3) (mm_mv vX3_mayLose) (mm_mv zX3_mayLose) (mm_kc kLX3) mm_gs0 mm_rf0 (some .int) 4 (mm_ins iX3_mayLose)
set_option maxRecDepth 20000 in
theorem tX3_mayLose (l : Launch) : mm_Ct l yX3_mayLose cX3_mayLose 4 (some .int) 4 sX3_mayLose := mm_meth (by decide +kernel) (mm_gf_ok gLX3_ok) (mm_pf_ok pLX3_ok) (mm_mv_ok (L := vX3_mayLose) (List.forall_mem_cons.mpr ⟨mm_LV.mk (i := 809) wX3_meansOf (tX3_meansOf l) (by decide) (by decide +kernel) (by decide +kernel), List.forall_mem_cons.mpr ⟨mm_LV.mk (i := 808) wX3_burdenOf (tX3_burdenOf l) (by decide) (by decide +kernel) (by decide +kernel), List.forall_mem_cons.mpr ⟨mm_LV.mk (i := 818) wX0_isFallen (tX0_isFallen l) (by decide) (by decide +kernel) (by decide +kernel), fun _ h => absurd h List.not_mem_nil⟩⟩⟩)) (mm_ms_ok (L := zX3_mayLose) (List.forall_mem_cons.mpr ⟨⟨rfl, Or.inl (mm_LS.mk (i := 829) wJ9_min_7cf53 (tJ9_min_7cf53 l) (by decide) (by decide +kernel) (by decide +kernel))⟩, fun _ h => absurd h List.not_mem_nil⟩)) (mm_kc_ok kLX3_ok) mm_gs0_ok mm_rf0_ok (mm_dec_ok iX3_mayLose_ok)
abbrev cX4_isKind : ByteArray := prog_6_method_2_code
def yX4_isKind : MethodName := ⟨RX4, "isKind", "(I)Z"⟩
def iX4_isKind : List (List (Nat × Instr)) := [[(0, .iload_n 0), (1, .ifCond .lt 13), (4, .iload_n 0), (5, .bipush 7), (7, .if_icmp .ge 7), (10, .iconst 1), (11, .goto 4), (14, .iconst 0), (15, .ireturn)]]
set_option maxRecDepth 20000 in
theorem iX4_isKind_ok : mm_dec cX4_isKind iX4_isKind = true := by decide +kernel
set_option maxRecDepth 20000 in
theorem wX4_isKind : mm_MS yX4_isKind cX4_isKind 1 (some .boolean) := ⟨by decide, ⟨by decide +kernel, by decide +kernel⟩, mm_G_in (i := 954) (by decide +kernel) rfl, mm_G_in (i := 79) (by decide +kernel) rfl, mm_G_in (i := 955) (by decide +kernel) rfl⟩
def vX4_isKind : mm_L := []
def zX4_isKind : mm_L := []
def sX4_isKind : mm_F := mm_S (mm_gf gLX4) (mm_pf pLX4) (mm_mv vX4_isKind) (mm_mv zX4_isKind) (mm_kc kLX4) gsX4 mm_rf0 (some .boolean) 1 (mm_ins iX4_isKind)
set_option maxRecDepth 20000 in
theorem tX4_isKind (l : Launch) : mm_Ct l yX4_isKind cX4_isKind 1 (some .boolean) 0 sX4_isKind := mm_meth (by decide +kernel) (mm_gf_ok gLX4_ok) (mm_pf_ok pLX4_ok) (mm_mv_ok (L := vX4_isKind) (fun _ h => absurd h List.not_mem_nil)) (mm_ms_ok (L := zX4_isKind) (fun _ h => absurd h List.not_mem_nil)) (mm_kc_ok kLX4_ok) gsX4_ok mm_rf0_ok (mm_dec_ok iX4_isKind_ok)
abbrev cJ9_floorDiv_7cf53 : ByteArray := prog_16_method_47_code
def yJ9_floorDiv_7cf53 : MethodName := ⟨RJ9, "floorDiv", "(II)I"⟩
def iJ9_floorDiv_7cf53 : List (List (Nat × Instr)) := [[(0, .iload_n 0), (1, .iload_n 1), (2, .idiv), (3, .istore_n 2), (4, .iload_n 0), (5, .iload_n 1), (6, .ixor), (7, .ifCond .ge 14), (10, .iload_n 2), (11, .iload_n 1), (12, .imul), (13, .iload_n 0), (14, .if_icmp .eq 7)], [(17, .iload_n 2), (18, .iconst 1), (19, .isub), (20, .ireturn), (21, .iload_n 2), (22, .ireturn)]]
set_option maxRecDepth 20000 in
theorem iJ9_floorDiv_7cf53_ok : mm_dec cJ9_floorDiv_7cf53 iJ9_floorDiv_7cf53 = true := by decide +kernel
set_option maxRecDepth 20000 in
theorem wJ9_floorDiv_7cf53 : mm_MS yJ9_floorDiv_7cf53 cJ9_floorDiv_7cf53 3 (some .int) := ⟨by decide, ⟨by decide +kernel, by decide +kernel⟩, mm_G_in (i := 972) (by decide +kernel) rfl, mm_G_in (i := 85) (by decide +kernel) rfl, mm_G_in (i := 973) (by decide +kernel) rfl⟩
def vJ9_floorDiv_7cf53 : mm_L := []
def zJ9_floorDiv_7cf53 : mm_L := []
def sJ9_floorDiv_7cf53 : mm_F := mm_S (mm_gf gLJ9) (mm_pf pLJ9) (mm_mv vJ9_floorDiv_7cf53) (mm_mv zJ9_floorDiv_7cf53) (mm_kc kLJ9) mm_gs0 mm_rf0 (some .int) 3 (mm_ins iJ9_floorDiv_7cf53)
set_option maxRecDepth 20000 in
theorem tJ9_floorDiv_7cf53 (l : Launch) : mm_Ct l yJ9_floorDiv_7cf53 cJ9_floorDiv_7cf53 3 (some .int) 0 sJ9_floorDiv_7cf53 := mm_meth (by decide +kernel) (mm_gf_ok gLJ9_ok) (mm_pf_ok pLJ9_ok) (mm_mv_ok (L := vJ9_floorDiv_7cf53) (fun _ h => absurd h List.not_mem_nil)) (mm_ms_ok (L := zJ9_floorDiv_7cf53) (fun _ h => absurd h List.not_mem_nil)) (mm_kc_ok kLJ9_ok) mm_gs0_ok mm_rf0_ok (mm_dec_ok iJ9_floorDiv_7cf53_ok)
abbrev cX4_askBody : ByteArray := prog_6_method_4_code
def yX4_askBody : MethodName := ⟨RX4, "askBody", "(III)I"⟩
def iX4_askBody : List (List (Nat × Instr)) := [[(0, .iload_n 1), (1, .invokestatic 17), (4, .ifCond .eq 8), (7, .iload_n 3), (8, .iconst 2), (9, .if_icmp .le 5), (12, .iconst 0), (13, .ireturn), (14, .aload_n 0), (15, .dup)], [(16, .getfield 21), (19, .getstatic 25), (22, .iload_n 1), (23, .iaload), (24, .i2l), (25, .ladd), (26, .putfield 21), (29, .aload_n 0), (30, .getstatic 29)], [(33, .iload_n 1), (34, .iaload), (35, .iload_n 2), (36, .iload_n 3), (37, .iconst 1), (38, .iadd), (39, .invokevirtual 13), (42, .istore 4), (44, .iload_n 1), (45, .tableswitch 120 0 5 #[39, 48, 71, 78, 85, 90])], [], [], [(84, .aload_n 0), (85, .getfield 7), (88, .iload_n 2), (89, .invokevirtual 32), (92, .ireturn), (93, .iload 4), (95, .aload_n 0)], [(96, .getfield 7), (99, .aload_n 0), (100, .getfield 7), (103, .getfield 38), (106, .getfield 42), (109, .iload_n 2), (110, .iaload), (111, .invokevirtual 47)], [(114, .iadd), (115, .ireturn), (116, .iload 4), (118, .iconst 2), (119, .invokestatic 50), (122, .ireturn), (123, .iload 4), (125, .iconst 3), (126, .invokestatic 50)], [(129, .ireturn), (130, .iload 4), (132, .iconst 2), (133, .iadd), (134, .ireturn), (135, .iload 4), (137, .aload_n 0), (138, .getfield 7), (141, .getfield 56)], [(144, .getfield 60), (147, .aload_n 0), (148, .getfield 7), (151, .getfield 38), (154, .getfield 65), (157, .iload_n 2), (158, .iaload), (159, .iaload)], [(160, .bipush 10), (162, .idiv), (163, .iadd), (164, .ireturn), (165, .iconst 0), (166, .iload 4), (168, .aload_n 0), (169, .getfield 7), (172, .iload_n 2), (173, .invokevirtual 32)], [(176, .isub), (177, .invokestatic 68), (180, .ireturn)]]
set_option maxRecDepth 20000 in
theorem iX4_askBody_ok : mm_dec cX4_askBody iX4_askBody = true := by decide +kernel
set_option maxRecDepth 20000 in
theorem wX4_askBody : mm_MV yX4_askBody cX4_askBody 5 (some .int) 4 := ⟨by decide, Or.inr ⟨_, rfl, rfl⟩, ⟨by decide +kernel, by decide +kernel⟩, mm_G_in (i := 962) (by decide +kernel) rfl, mm_G_in (i := 34) (by decide +kernel) rfl, mm_G_in (i := 79) (by decide +kernel) rfl, mm_G_in (i := 963) (by decide +kernel) rfl⟩
def vX4_askBody_3 : mm_L := [(32, 2, some 0, sX0_leftOf), (47, 2, some 0, sX0_restOf)]
def zX4_askBody_3 : mm_L := [(17, 1, none, sX4_isKind), (50, 2, none, sJ9_floorDiv_7cf53), (68, 2, none, sJ9_max_7cf53)]
def sX4_askBody_3 : mm_F := mm_S (mm_gf gLX4) (mm_pf pLX4) (mm_mv vX4_askBody_3) (mm_mv zX4_askBody_3) (mm_kc kLX4) gsX4 mm_rf0 (some .int) 5 (mm_ins iX4_askBody)
set_option maxRecDepth 20000 in
theorem tX4_askBody_3 (l : Launch) : mm_Ct l yX4_askBody cX4_askBody 5 (some .int) 2 sX4_askBody_3 := mm_meth (by decide +kernel) (mm_gf_ok gLX4_ok) (mm_pf_ok pLX4_ok) (mm_mv_ok (L := vX4_askBody_3) (List.forall_mem_cons.mpr ⟨mm_LV.mk (i := 969) wX0_leftOf (tX0_leftOf l) (by decide) (by decide +kernel) (by decide +kernel), List.forall_mem_cons.mpr ⟨mm_LV.mk (i := 970) wX0_restOf (tX0_restOf l) (by decide) (by decide +kernel) (by decide +kernel), fun _ h => absurd h List.not_mem_nil⟩⟩)) (mm_ms_ok (L := zX4_askBody_3) (List.forall_mem_cons.mpr ⟨⟨rfl, Or.inl (mm_LS.mk (i := 964) wX4_isKind (tX4_isKind l) (by decide) (by decide +kernel) (by decide +kernel))⟩, List.forall_mem_cons.mpr ⟨⟨rfl, Or.inl (mm_LS.mk (i := 971) wJ9_floorDiv_7cf53 (tJ9_floorDiv_7cf53 l) (by decide) (by decide +kernel) (by decide +kernel))⟩, List.forall_mem_cons.mpr ⟨⟨rfl, Or.inl (mm_LS.mk (i := 974) wJ9_max_7cf53 (tJ9_max_7cf53 l) (by decide) (by decide +kernel) (by decide +kernel))⟩, fun _ h => absurd h List.not_mem_nil⟩⟩⟩)) (mm_kc_ok kLX4_ok) gsX4_ok mm_rf0_ok (mm_dec_ok iX4_askBody_ok)
def vX4_askBody_2 : mm_L := [(13, 4, some 4, sX4_askBody_3), (32, 2, some 0, sX0_leftOf), (47, 2, some 0, sX0_restOf)]
def zX4_askBody_2 : mm_L := [(17, 1, none, sX4_isKind), (50, 2, none, sJ9_floorDiv_7cf53), (68, 2, none, sJ9_max_7cf53)]
def sX4_askBody_2 : mm_F := mm_S (mm_gf gLX4) (mm_pf pLX4) (mm_mv vX4_askBody_2) (mm_mv zX4_askBody_2) (mm_kc kLX4) gsX4 mm_rf0 (some .int) 5 (mm_ins iX4_askBody)
set_option maxRecDepth 20000 in
theorem tX4_askBody_2 (l : Launch) : mm_Ct l yX4_askBody cX4_askBody 5 (some .int) 3 sX4_askBody_2 := mm_meth (by decide +kernel) (mm_gf_ok gLX4_ok) (mm_pf_ok pLX4_ok) (mm_mv_ok (L := vX4_askBody_2) (List.forall_mem_cons.mpr ⟨mm_LV.mk (i := 960) wX4_askBody (tX4_askBody_3 l) (by decide) (by decide +kernel) (by decide +kernel), List.forall_mem_cons.mpr ⟨mm_LV.mk (i := 969) wX0_leftOf (tX0_leftOf l) (by decide) (by decide +kernel) (by decide +kernel), List.forall_mem_cons.mpr ⟨mm_LV.mk (i := 970) wX0_restOf (tX0_restOf l) (by decide) (by decide +kernel) (by decide +kernel), fun _ h => absurd h List.not_mem_nil⟩⟩⟩)) (mm_ms_ok (L := zX4_askBody_2) (List.forall_mem_cons.mpr ⟨⟨rfl, Or.inl (mm_LS.mk (i := 964) wX4_isKind (tX4_isKind l) (by decide) (by decide +kernel) (by decide +kernel))⟩, List.forall_mem_cons.mpr ⟨⟨rfl, Or.inl (mm_LS.mk (i := 971) wJ9_floorDiv_7cf53 (tJ9_floorDiv_7cf53 l) (by decide) (by decide +kernel) (by decide +kernel))⟩, List.forall_mem_cons.mpr ⟨⟨rfl, Or.inl (mm_LS.mk (i := 974) wJ9_max_7cf53 (tJ9_max_7cf53 l) (by decide) (by decide +kernel) (by decide +kernel))⟩, fun _ h => absurd h List.not_mem_nil⟩⟩⟩)) (mm_kc_ok kLX4_ok) gsX4_ok mm_rf0_ok (mm_dec_ok iX4_askBody_ok)
def vX4_askBody_1 : mm_L := [(13, 4, some 4, sX4_askBody_2), (32, 2, some 0, sX0_leftOf), (47, 2, some 0, sX0_restOf)]
def zX4_askBody_1 : mm_L := [(17, 1, none, sX4_isKind), (50, 2, none, sJ9_floorDiv_7cf53), (68, 2, none, sJ9_max_7cf53)]
def sX4_askBody_1 : mm_F := mm_S (mm_gf gLX4) (mm_pf pLX4) (mm_mv vX4_askBody_1) (mm_mv zX4_askBody_1) (mm_kc kLX4) gsX4 mm_rf0 (some .int) 5 (mm_ins iX4_askBody)
set_option maxRecDepth 20000 in
theorem tX4_askBody_1 (l : Launch) : mm_Ct l yX4_askBody cX4_askBody 5 (some .int) 4 sX4_askBody_1 := mm_meth (by decide +kernel) (mm_gf_ok gLX4_ok) (mm_pf_ok pLX4_ok) (mm_mv_ok (L := vX4_askBody_1) (List.forall_mem_cons.mpr ⟨mm_LV.mk (i := 960) wX4_askBody (tX4_askBody_2 l) (by decide) (by decide +kernel) (by decide +kernel), List.forall_mem_cons.mpr ⟨mm_LV.mk (i := 969) wX0_leftOf (tX0_leftOf l) (by decide) (by decide +kernel) (by decide +kernel), List.forall_mem_cons.mpr ⟨mm_LV.mk (i := 970) wX0_restOf (tX0_restOf l) (by decide) (by decide +kernel) (by decide +kernel), fun _ h => absurd h List.not_mem_nil⟩⟩⟩)) (mm_ms_ok (L := zX4_askBody_1) (List.forall_mem_cons.mpr ⟨⟨rfl, Or.inl (mm_LS.mk (i := 964) wX4_isKind (tX4_isKind l) (by decide) (by decide +kernel) (by decide +kernel))⟩, List.forall_mem_cons.mpr ⟨⟨rfl, Or.inl (mm_LS.mk (i := 971) wJ9_floorDiv_7cf53 (tJ9_floorDiv_7cf53 l) (by decide) (by decide +kernel) (by decide +kernel))⟩, List.forall_mem_cons.mpr ⟨⟨rfl, Or.inl (mm_LS.mk (i := 974) wJ9_max_7cf53 (tJ9_max_7cf53 l) (by decide) (by decide +kernel) (by decide +kernel))⟩, fun _ h => absurd h List.not_mem_nil⟩⟩⟩)) (mm_kc_ok kLX4_ok) gsX4_ok mm_rf0_ok (mm_dec_ok iX4_askBody_ok)
def vX4_askBody_0 : mm_L := [(13, 4, some 4, sX4_askBody_1), (32, 2, some 0, sX0_leftOf), (47, 2, some 0, sX0_restOf)]
def zX4_askBody_0 : mm_L := [(17, 1, none, sX4_isKind), (50, 2, none, sJ9_floorDiv_7cf53), (68, 2, none, sJ9_max_7cf53)]
def sX4_askBody_0 : mm_F := mm_S (mm_gf gLX4) (mm_pf pLX4) (mm_mv vX4_askBody_0) (mm_mv zX4_askBody_0) (mm_kc kLX4) gsX4 mm_rf0 (some .int) 5 (mm_ins iX4_askBody)
set_option maxRecDepth 20000 in
theorem tX4_askBody_0 (l : Launch) : mm_Ct l yX4_askBody cX4_askBody 5 (some .int) 5 sX4_askBody_0 := mm_meth (by decide +kernel) (mm_gf_ok gLX4_ok) (mm_pf_ok pLX4_ok) (mm_mv_ok (L := vX4_askBody_0) (List.forall_mem_cons.mpr ⟨mm_LV.mk (i := 960) wX4_askBody (tX4_askBody_1 l) (by decide) (by decide +kernel) (by decide +kernel), List.forall_mem_cons.mpr ⟨mm_LV.mk (i := 969) wX0_leftOf (tX0_leftOf l) (by decide) (by decide +kernel) (by decide +kernel), List.forall_mem_cons.mpr ⟨mm_LV.mk (i := 970) wX0_restOf (tX0_restOf l) (by decide) (by decide +kernel) (by decide +kernel), fun _ h => absurd h List.not_mem_nil⟩⟩⟩)) (mm_ms_ok (L := zX4_askBody_0) (List.forall_mem_cons.mpr ⟨⟨rfl, Or.inl (mm_LS.mk (i := 964) wX4_isKind (tX4_isKind l) (by decide) (by decide +kernel) (by decide +kernel))⟩, List.forall_mem_cons.mpr ⟨⟨rfl, Or.inl (mm_LS.mk (i := 971) wJ9_floorDiv_7cf53 (tJ9_floorDiv_7cf53 l) (by decide) (by decide +kernel) (by decide +kernel))⟩, List.forall_mem_cons.mpr ⟨⟨rfl, Or.inl (mm_LS.mk (i := 974) wJ9_max_7cf53 (tJ9_max_7cf53 l) (by decide) (by decide +kernel) (by decide +kernel))⟩, fun _ h => absurd h List.not_mem_nil⟩⟩⟩)) (mm_kc_ok kLX4_ok) gsX4_ok mm_rf0_ok (mm_dec_ok iX4_askBody_ok)
abbrev cX4_valueAs : ByteArray := prog_6_method_3_code
def yX4_valueAs : MethodName := ⟨RX4, "valueAs", "(II)I"⟩
def iX4_valueAs : List (List (Nat × Instr)) := [[(0, .aload_n 0), (1, .iload_n 1), (2, .iload_n 2), (3, .iconst 0), (4, .invokevirtual 13), (7, .ireturn)]]
set_option maxRecDepth 20000 in
theorem iX4_valueAs_ok : mm_dec cX4_valueAs iX4_valueAs = true := by decide +kernel
set_option maxRecDepth 20000 in
theorem wX4_valueAs : mm_MV yX4_valueAs cX4_valueAs 3 (some .int) 4 := ⟨by decide, Or.inr ⟨_, rfl, rfl⟩, ⟨by decide +kernel, by decide +kernel⟩, mm_G_in (i := 957) (by decide +kernel) rfl, mm_G_in (i := 958) (by decide +kernel) rfl, mm_G_in (i := 79) (by decide +kernel) rfl, mm_G_in (i := 959) (by decide +kernel) rfl⟩
def vX4_valueAs : mm_L := [(13, 4, some 4, sX4_askBody_0)]
def zX4_valueAs : mm_L := []
def sX4_valueAs : mm_F := mm_S (mm_gf gLX4) (mm_pf pLX4) (mm_mv vX4_valueAs) (mm_mv zX4_valueAs) (mm_kc kLX4) gsX4 mm_rf0 (some .int) 3 (mm_ins iX4_valueAs)
set_option maxRecDepth 20000 in
theorem tX4_valueAs (l : Launch) : mm_Ct l yX4_valueAs cX4_valueAs 3 (some .int) 6 sX4_valueAs := mm_meth (by decide +kernel) (mm_gf_ok gLX4_ok) (mm_pf_ok pLX4_ok) (mm_mv_ok (L := vX4_valueAs) (List.forall_mem_cons.mpr ⟨mm_LV.mk (i := 960) wX4_askBody (tX4_askBody_0 l) (by decide) (by decide +kernel) (by decide +kernel), fun _ h => absurd h List.not_mem_nil⟩)) (mm_ms_ok (L := zX4_valueAs) (fun _ h => absurd h List.not_mem_nil)) (mm_kc_ok kLX4_ok) gsX4_ok mm_rf0_ok (mm_dec_ok iX4_valueAs_ok)
abbrev cX5_copyFrom : ByteArray := prog_7_method_3_code
def yX5_copyFrom : MethodName := ⟨RX5, "copyFrom", "(LSuretyRoll$Ledger;)V"⟩
def iX5_copyFrom : List (List (Nat × Instr)) := [[(0, .aload_n 1), (1, .getfield 9), (4, .iconst 0), (5, .aload_n 0), (6, .getfield 9), (9, .iconst 0), (10, .bipush 10), (12, .invokestatic 38), (15, .aload_n 1)], [(16, .getfield 15), (19, .iconst 0), (20, .aload_n 0), (21, .getfield 15), (24, .iconst 0), (25, .bipush 16), (27, .invokestatic 38), (30, .aload_n 1), (31, .getfield 18)], [(34, .iconst 0), (35, .aload_n 0), (36, .getfield 18), (39, .iconst 0), (40, .bipush 16), (42, .invokestatic 38), (45, .aload_n 1), (46, .getfield 21)], [(49, .iconst 0), (50, .aload_n 0), (51, .getfield 21), (54, .iconst 0), (55, .bipush 64), (57, .invokestatic 38), (60, .aload_n 1), (61, .getfield 24)], [(64, .iconst 0), (65, .aload_n 0), (66, .getfield 24), (69, .iconst 0), (70, .bipush 8), (72, .invokestatic 38), (75, .aload_n 0), (76, .aload_n 1), (77, .getfield 44)], [(80, .putfield 44), (83, .aload_n 0), (84, .aload_n 1), (85, .getfield 48), (88, .putfield 48), (91, .return_)]]
set_option maxRecDepth 20000 in
theorem iX5_copyFrom_ok : mm_dec cX5_copyFrom iX5_copyFrom = true := by decide +kernel
set_option maxRecDepth 20000 in
theorem wX5_copyFrom : mm_MV yX5_copyFrom cX5_copyFrom 2 none 5 := ⟨by decide, Or.inr ⟨_, rfl, rfl⟩, ⟨by decide +kernel, by decide +kernel⟩, mm_G_in (i := 980) (by decide +kernel) rfl, mm_G_in (i := 981) (by decide +kernel) rfl, mm_G_in (i := 73) (by decide +kernel) rfl, mm_G_in (i := 982) (by decide +kernel) rfl⟩
def vX5_copyFrom : mm_L := []
def zX5_copyFrom : mm_L := [(38, 5, none, mm_acp)]
def sX5_copyFrom : mm_F := mm_S (mm_gf gLX5) (mm_pf pLX5) (mm_mv vX5_copyFrom) (mm_mv zX5_copyFrom) (mm_kc kLX5) mm_gs0 mm_rf0 none 2 (mm_ins iX5_copyFrom)
set_option maxRecDepth 20000 in
theorem tX5_copyFrom (l : Launch) : mm_Ct l yX5_copyFrom cX5_copyFrom 2 none 1 sX5_copyFrom := mm_meth (by decide +kernel) (mm_gf_ok gLX5_ok) (mm_pf_ok pLX5_ok) (mm_mv_ok (L := vX5_copyFrom) (fun _ h => absurd h List.not_mem_nil)) (mm_ms_ok (L := zX5_copyFrom) (List.forall_mem_cons.mpr ⟨⟨rfl, Or.inr (mm_LA.mk (i := 615) (by decide) (by decide +kernel))⟩, fun _ h => absurd h List.not_mem_nil⟩)) (mm_kc_ok kLX5_ok) mm_gs0_ok mm_rf0_ok (mm_dec_ok iX5_copyFrom_ok)
abbrev cX5_coinsOfAll : ByteArray := prog_7_method_4_code
def yX5_coinsOfAll : MethodName := ⟨RX5, "coinsOfAll", "()I"⟩
def iX5_coinsOfAll : List (List (Nat × Instr)) := [[(0, .iconst 0), (1, .istore_n 1), (2, .iconst 0), (3, .istore_n 2), (4, .iload_n 2), (5, .bipush 8), (7, .if_icmp .ge 18), (10, .iload_n 1), (11, .aload_n 0), (12, .getfield 24), (15, .iload_n 2)], [(16, .iaload), (17, .iadd), (18, .istore_n 1), (19, .iinc 2 1), (22, .goto (-18)), (25, .iload_n 1), (26, .ireturn)]]
set_option maxRecDepth 20000 in
theorem iX5_coinsOfAll_ok : mm_dec cX5_coinsOfAll iX5_coinsOfAll = true := by decide +kernel
set_option maxRecDepth 20000 in
theorem wX5_coinsOfAll : mm_MV yX5_coinsOfAll cX5_coinsOfAll 3 (some .int) 5 := ⟨by decide, Or.inr ⟨_, rfl, rfl⟩, ⟨by decide +kernel, by decide +kernel⟩, mm_G_in (i := 984) (by decide +kernel) rfl, mm_G_in (i := 985) (by decide +kernel) rfl, mm_G_in (i := 73) (by decide +kernel) rfl, mm_G_in (i := 986) (by decide +kernel) rfl⟩
def vX5_coinsOfAll : mm_L := []
def zX5_coinsOfAll : mm_L := []
def sX5_coinsOfAll : mm_F := mm_S (mm_gf gLX5) (mm_pf pLX5) (mm_mv vX5_coinsOfAll) (mm_mv zX5_coinsOfAll) (mm_kc kLX5) mm_gs0 mm_rf0 (some .int) 3 (mm_ins iX5_coinsOfAll)
set_option maxRecDepth 20000 in
theorem tX5_coinsOfAll (l : Launch) : mm_Ct l yX5_coinsOfAll cX5_coinsOfAll 3 (some .int) 0 sX5_coinsOfAll := mm_meth (by decide +kernel) (mm_gf_ok gLX5_ok) (mm_pf_ok pLX5_ok) (mm_mv_ok (L := vX5_coinsOfAll) (fun _ h => absurd h List.not_mem_nil)) (mm_ms_ok (L := zX5_coinsOfAll) (fun _ h => absurd h List.not_mem_nil)) (mm_kc_ok kLX5_ok) mm_gs0_ok mm_rf0_ok (mm_dec_ok iX5_coinsOfAll_ok)
