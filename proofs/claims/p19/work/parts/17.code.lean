abbrev cX11_keep : ByteArray := prog_1_method_26_code
def yX11_keep : MethodName := ⟨RX11, "keep", "(I)I"⟩
def iX11_keep : List (List (Nat × Instr)) := [[(0, .iload_n 1), (1, .ifCond .lt 8), (4, .iload_n 1), (5, .iconst 2), (6, .if_icmp .lt 5), (9, .iconst (-1)), (10, .ireturn), (11, .aload_n 0), (12, .getfield 78), (15, .iload_n 1)], [(16, .aaload), (17, .aload_n 0), (18, .getfield 28), (21, .getfield 163), (24, .invokevirtual 263), (27, .aload_n 0), (28, .dup), (29, .getfield 106)], [(32, .iconst 1), (33, .iload_n 1), (34, .ishl), (35, .ior), (36, .putfield 106), (39, .aload_n 0), (40, .getfield 28), (43, .getfield 163), (46, .invokevirtual 267)], [(49, .ireturn)]]
set_option maxRecDepth 20000 in
theorem iX11_keep_ok : mm_dec cX11_keep iX11_keep = true := by decide +kernel
set_option maxRecDepth 20000 in
theorem wX11_keep : mm_MV yX11_keep cX11_keep 2 (some .int) 11 := ⟨by decide, Or.inr ⟨_, rfl, rfl⟩, ⟨by decide +kernel, by decide +kernel⟩, mm_G_in (i := 976) (by decide +kernel) rfl, mm_G_in (i := 977) (by decide +kernel) rfl, mm_G_in (i := 68) (by decide +kernel) rfl, mm_G_in (i := 978) (by decide +kernel) rfl⟩
def vX11_keep : mm_L := [(263, 2, some 5, sX5_copyFrom), (267, 1, some 5, sX5_coinsOfAll)]
def zX11_keep : mm_L := []
def sX11_keep : mm_F := mm_S (mm_gf gLX11) (mm_pf pLX11) (mm_mv vX11_keep) (mm_mv zX11_keep) (mm_kc kLX11) mm_gs0 mm_rf0 (some .int) 2 (mm_ins iX11_keep)
set_option maxRecDepth 20000 in
theorem tX11_keep (l : Launch) : mm_Ct l yX11_keep cX11_keep 2 (some .int) 2 sX11_keep := mm_meth (by decide +kernel) (mm_gf_ok gLX11_ok) (mm_pf_ok pLX11_ok) (mm_mv_ok (L := vX11_keep) (List.forall_mem_cons.mpr ⟨mm_LV.mk (i := 979) wX5_copyFrom (tX5_copyFrom l) (by decide) (by decide +kernel) (by decide +kernel), List.forall_mem_cons.mpr ⟨mm_LV.mk (i := 983) wX5_coinsOfAll (tX5_coinsOfAll l) (by decide) (by decide +kernel) (by decide +kernel), fun _ h => absurd h List.not_mem_nil⟩⟩)) (mm_ms_ok (L := zX11_keep) (fun _ h => absurd h List.not_mem_nil)) (mm_kc_ok kLX11_ok) mm_gs0_ok mm_rf0_ok (mm_dec_ok iX11_keep_ok)
abbrev cX11_restore : ByteArray := prog_1_method_27_code
def yX11_restore : MethodName := ⟨RX11, "restore", "(I)I"⟩
def iX11_restore : List (List (Nat × Instr)) := [[(0, .iload_n 1), (1, .ifCond .lt 8), (4, .iload_n 1), (5, .iconst 2), (6, .if_icmp .lt 5), (9, .iconst (-1)), (10, .ireturn), (11, .aload_n 0), (12, .getfield 106), (15, .iload_n 1)], [(16, .invokestatic 183), (19, .ifCond .ne 6), (22, .bipush (-2)), (24, .ireturn), (25, .aload_n 0), (26, .getfield 28), (29, .getfield 163)], [(32, .aload_n 0), (33, .getfield 78), (36, .iload_n 1), (37, .aaload), (38, .invokevirtual 263), (41, .aload_n 0), (42, .getfield 28), (45, .getfield 163)], [(48, .invokevirtual 267), (51, .ireturn)]]
set_option maxRecDepth 20000 in
theorem iX11_restore_ok : mm_dec cX11_restore iX11_restore = true := by decide +kernel
set_option maxRecDepth 20000 in
theorem wX11_restore : mm_MV yX11_restore cX11_restore 2 (some .int) 11 := ⟨by decide, Or.inr ⟨_, rfl, rfl⟩, ⟨by decide +kernel, by decide +kernel⟩, mm_G_in (i := 988) (by decide +kernel) rfl, mm_G_in (i := 989) (by decide +kernel) rfl, mm_G_in (i := 68) (by decide +kernel) rfl, mm_G_in (i := 990) (by decide +kernel) rfl⟩
def vX11_restore : mm_L := [(263, 2, some 5, sX5_copyFrom), (267, 1, some 5, sX5_coinsOfAll)]
def zX11_restore : mm_L := [(183, 2, none, sX11_isIn)]
def sX11_restore : mm_F := mm_S (mm_gf gLX11) (mm_pf pLX11) (mm_mv vX11_restore) (mm_mv zX11_restore) (mm_kc kLX11) mm_gs0 mm_rf0 (some .int) 2 (mm_ins iX11_restore)
set_option maxRecDepth 20000 in
theorem tX11_restore (l : Launch) : mm_Ct l yX11_restore cX11_restore 2 (some .int) 2 sX11_restore := mm_meth (by decide +kernel) (mm_gf_ok gLX11_ok) (mm_pf_ok pLX11_ok) (mm_mv_ok (L := vX11_restore) (List.forall_mem_cons.mpr ⟨mm_LV.mk (i := 979) wX5_copyFrom (tX5_copyFrom l) (by decide) (by decide +kernel) (by decide +kernel), List.forall_mem_cons.mpr ⟨mm_LV.mk (i := 983) wX5_coinsOfAll (tX5_coinsOfAll l) (by decide) (by decide +kernel) (by decide +kernel), fun _ h => absurd h List.not_mem_nil⟩⟩)) (mm_ms_ok (L := zX11_restore) (List.forall_mem_cons.mpr ⟨⟨rfl, Or.inl (mm_LS.mk (i := 660) wX11_isIn (tX11_isIn l) (by decide) (by decide +kernel) (by decide +kernel))⟩, fun _ h => absurd h List.not_mem_nil⟩)) (mm_kc_ok kLX11_ok) mm_gs0_ok mm_rf0_ok (mm_dec_ok iX11_restore_ok)
abbrev cX11_count : ByteArray := prog_1_method_28_code
def yX11_count : MethodName := ⟨RX11, "count", "(I)I"⟩
def iX11_count : List (List (Nat × Instr)) := [[(0, .iload_n 1), (1, .tableswitch 105 0 5 #[39, 50, 61, 75, 89, 97])], [], [(40, .aload_n 0), (41, .getfield 28), (44, .getfield 109), (47, .getfield 270)], [(50, .ireturn), (51, .aload_n 0), (52, .getfield 28), (55, .getfield 109), (58, .getfield 273), (61, .ireturn), (62, .aload_n 0), (63, .getfield 28)], [(66, .getfield 163), (69, .getfield 276), (72, .invokestatic 279), (75, .ireturn), (76, .aload_n 0), (77, .getfield 28)], [(80, .getfield 163), (83, .getfield 180), (86, .invokestatic 279), (89, .ireturn), (90, .aload_n 0), (91, .getfield 10), (94, .getfield 83)], [(97, .ireturn), (98, .aload_n 0), (99, .getfield 28), (102, .invokevirtual 284), (105, .ireturn), (106, .iconst (-1)), (107, .ireturn)]]
set_option maxRecDepth 20000 in
theorem iX11_count_ok : mm_dec cX11_count iX11_count = true := by decide +kernel
set_option maxRecDepth 20000 in
theorem wX11_count : mm_MV yX11_count cX11_count 2 (some .int) 11 := ⟨by decide, Or.inr ⟨_, rfl, rfl⟩, ⟨by decide +kernel, by decide +kernel⟩, mm_G_in (i := 992) (by decide +kernel) rfl, mm_G_in (i := 993) (by decide +kernel) rfl, mm_G_in (i := 68) (by decide +kernel) rfl, mm_G_in (i := 994) (by decide +kernel) rfl⟩
def vX11_count : mm_L := [(284, 1, some 0, sX0_restOfAll)]
def zX11_count : mm_L := [(279, 1, none, sJ6_bitCount_0f7a4)]
def sX11_count : mm_F := mm_S (mm_gf gLX11) (mm_pf pLX11) (mm_mv vX11_count) (mm_mv zX11_count) (mm_kc kLX11) mm_gs0 mm_rf0 (some .int) 2 (mm_ins iX11_count)
set_option maxRecDepth 20000 in
theorem tX11_count (l : Launch) : mm_Ct l yX11_count cX11_count 2 (some .int) 2 sX11_count := mm_meth (by decide +kernel) (mm_gf_ok gLX11_ok) (mm_pf_ok pLX11_ok) (mm_mv_ok (L := vX11_count) (List.forall_mem_cons.mpr ⟨mm_LV.mk (i := 996) wX0_restOfAll (tX0_restOfAll l) (by decide) (by decide +kernel) (by decide +kernel), fun _ h => absurd h List.not_mem_nil⟩)) (mm_ms_ok (L := zX11_count) (List.forall_mem_cons.mpr ⟨⟨rfl, Or.inl (mm_LS.mk (i := 995) wJ6_bitCount_0f7a4 (tJ6_bitCount_0f7a4 l) (by decide) (by decide +kernel) (by decide +kernel))⟩, fun _ h => absurd h List.not_mem_nil⟩)) (mm_kc_ok kLX11_ok) mm_gs0_ok mm_rf0_ok (mm_dec_ok iX11_count_ok)
abbrev cX11_trace : ByteArray := prog_1_method_29_code
def yX11_trace : MethodName := ⟨RX11, "trace", "()J"⟩
def iX11_trace : List (List (Nat × Instr)) := [[(0, .aload_n 0), (1, .getfield 72), (4, .getfield 287), (7, .lreturn)]]
set_option maxRecDepth 20000 in
theorem iX11_trace_ok : mm_dec cX11_trace iX11_trace = true := by decide +kernel
set_option maxRecDepth 20000 in
theorem wX11_trace : mm_MV yX11_trace cX11_trace 1 (some .long) 11 := ⟨by decide, Or.inr ⟨_, rfl, rfl⟩, ⟨by decide +kernel, by decide +kernel⟩, mm_G_in (i := 1001) (by decide +kernel) rfl, mm_G_in (i := 1002) (by decide +kernel) rfl, mm_G_in (i := 68) (by decide +kernel) rfl, mm_G_in (i := 1003) (by decide +kernel) rfl⟩
def vX11_trace : mm_L := []
def zX11_trace : mm_L := []
def sX11_trace : mm_F := mm_S (mm_gf gLX11) (mm_pf pLX11) (mm_mv vX11_trace) (mm_mv zX11_trace) (mm_kc kLX11) mm_gs0 mm_rf0 (some .long) 1 (mm_ins iX11_trace)
set_option maxRecDepth 20000 in
theorem tX11_trace (l : Launch) : mm_Ct l yX11_trace cX11_trace 1 (some .long) 0 sX11_trace := mm_meth (by decide +kernel) (mm_gf_ok gLX11_ok) (mm_pf_ok pLX11_ok) (mm_mv_ok (L := vX11_trace) (fun _ h => absurd h List.not_mem_nil)) (mm_ms_ok (L := zX11_trace) (fun _ h => absurd h List.not_mem_nil)) (mm_kc_ok kLX11_ok) mm_gs0_ok mm_rf0_ok (mm_dec_ok iX11_trace_ok)
abbrev cX12_in : ByteArray := prog_14_method_3_code
def yX12_in : MethodName := ⟨RX12, "in", "(III)Z"⟩
def iX12_in : List (List (Nat × Instr)) := [[(0, .iload_n 0), (1, .iload_n 1), (2, .if_icmp .lt 12), (5, .iload_n 0), (6, .iload_n 2), (7, .if_icmp .gt 7), (10, .iconst 1), (11, .goto 4), (14, .iconst 0), (15, .ireturn)]]
set_option maxRecDepth 20000 in
theorem iX12_in_ok : mm_dec cX12_in iX12_in = true := by decide +kernel
set_option maxRecDepth 20000 in
theorem wX12_in : mm_MS yX12_in cX12_in 3 (some .boolean) := ⟨by decide, ⟨by decide +kernel, by decide +kernel⟩, mm_G_in (i := 1089) (by decide +kernel) rfl, mm_G_in (i := 80) (by decide +kernel) rfl, mm_G_in (i := 1090) (by decide +kernel) rfl⟩
def vX12_in : mm_L := []
def zX12_in : mm_L := []
def sX12_in : mm_F := mm_S (mm_gf gLX12) (mm_pf pLX12) (mm_mv vX12_in) (mm_mv zX12_in) (mm_kc kLX12) mm_gs0 mm_rf0 (some .boolean) 3 (mm_ins iX12_in)
set_option maxRecDepth 20000 in
theorem tX12_in (l : Launch) : mm_Ct l yX12_in cX12_in 3 (some .boolean) 0 sX12_in := mm_meth (by decide +kernel) (mm_gf_ok gLX12_ok) (mm_pf_ok pLX12_ok) (mm_mv_ok (L := vX12_in) (fun _ h => absurd h List.not_mem_nil)) (mm_ms_ok (L := zX12_in) (fun _ h => absurd h List.not_mem_nil)) (mm_kc_ok kLX12_ok) mm_gs0_ok mm_rf0_ok (mm_dec_ok iX12_in_ok)
abbrev cX12_lesser : ByteArray := prog_14_method_4_code
def yX12_lesser : MethodName := ⟨RX12, "lesser", "(II)I"⟩
def iX12_lesser : List (List (Nat × Instr)) := [[(0, .iload_n 0), (1, .iload_n 1), (2, .if_icmp .ge 7), (5, .iload_n 0), (6, .goto 4), (9, .iload_n 1), (10, .ireturn)]]
set_option maxRecDepth 20000 in
theorem iX12_lesser_ok : mm_dec cX12_lesser iX12_lesser = true := by decide +kernel
set_option maxRecDepth 20000 in
theorem wX12_lesser : mm_MS yX12_lesser cX12_lesser 2 (some .int) := ⟨by decide, ⟨by decide +kernel, by decide +kernel⟩, mm_G_in (i := 1139) (by decide +kernel) rfl, mm_G_in (i := 80) (by decide +kernel) rfl, mm_G_in (i := 1140) (by decide +kernel) rfl⟩
def vX12_lesser : mm_L := []
def zX12_lesser : mm_L := []
def sX12_lesser : mm_F := mm_S (mm_gf gLX12) (mm_pf pLX12) (mm_mv vX12_lesser) (mm_mv zX12_lesser) (mm_kc kLX12) mm_gs0 mm_rf0 (some .int) 2 (mm_ins iX12_lesser)
set_option maxRecDepth 20000 in
theorem tX12_lesser (l : Launch) : mm_Ct l yX12_lesser cX12_lesser 2 (some .int) 0 sX12_lesser := mm_meth (by decide +kernel) (mm_gf_ok gLX12_ok) (mm_pf_ok pLX12_ok) (mm_mv_ok (L := vX12_lesser) (fun _ h => absurd h List.not_mem_nil)) (mm_ms_ok (L := zX12_lesser) (fun _ h => absurd h List.not_mem_nil)) (mm_kc_ok kLX12_ok) mm_gs0_ok mm_rf0_ok (mm_dec_ok iX12_lesser_ok)
abbrev cX12_isPerson : ByteArray := prog_14_method_5_code
def yX12_isPerson : MethodName := ⟨RX12, "isPerson", "(I)Z"⟩
def iX12_isPerson : List (List (Nat × Instr)) := [[(0, .iload_n 0), (1, .iconst 0), (2, .bipush 7), (4, .invokestatic 45), (7, .ireturn)]]
set_option maxRecDepth 20000 in
theorem iX12_isPerson_ok : mm_dec cX12_isPerson iX12_isPerson = true := by decide +kernel
set_option maxRecDepth 20000 in
theorem wX12_isPerson : mm_MS yX12_isPerson cX12_isPerson 1 (some .boolean) := ⟨by decide, ⟨by decide +kernel, by decide +kernel⟩, mm_G_in (i := 1174) (by decide +kernel) rfl, mm_G_in (i := 80) (by decide +kernel) rfl, mm_G_in (i := 1175) (by decide +kernel) rfl⟩
def vX12_isPerson : mm_L := []
def zX12_isPerson : mm_L := [(45, 3, none, sX12_in)]
def sX12_isPerson : mm_F := mm_S (mm_gf gLX12) (mm_pf pLX12) (mm_mv vX12_isPerson) (mm_mv zX12_isPerson) (mm_kc kLX12) mm_gs0 mm_rf0 (some .boolean) 1 (mm_ins iX12_isPerson)
set_option maxRecDepth 20000 in
theorem tX12_isPerson (l : Launch) : mm_Ct l yX12_isPerson cX12_isPerson 1 (some .boolean) 1 sX12_isPerson := mm_meth (by decide +kernel) (mm_gf_ok gLX12_ok) (mm_pf_ok pLX12_ok) (mm_mv_ok (L := vX12_isPerson) (fun _ h => absurd h List.not_mem_nil)) (mm_ms_ok (L := zX12_isPerson) (List.forall_mem_cons.mpr ⟨⟨rfl, Or.inl (mm_LS.mk (i := 1088) wX12_in (tX12_in l) (by decide) (by decide +kernel) (by decide +kernel))⟩, fun _ h => absurd h List.not_mem_nil⟩)) (mm_kc_ok kLX12_ok) mm_gs0_ok mm_rf0_ok (mm_dec_ok iX12_isPerson_ok)
abbrev cX12_isDebt : ByteArray := prog_14_method_6_code
def yX12_isDebt : MethodName := ⟨RX12, "isDebt", "(I)Z"⟩
def iX12_isDebt : List (List (Nat × Instr)) := [[(0, .iload_n 1), (1, .iconst 0), (2, .aload_n 0), (3, .getfield 49), (6, .iconst 1), (7, .isub), (8, .invokestatic 45), (11, .ireturn)]]
set_option maxRecDepth 20000 in
theorem iX12_isDebt_ok : mm_dec cX12_isDebt iX12_isDebt = true := by decide +kernel
set_option maxRecDepth 20000 in
theorem wX12_isDebt : mm_MV yX12_isDebt cX12_isDebt 2 (some .boolean) 12 := ⟨by decide, Or.inr ⟨_, rfl, rfl⟩, ⟨by decide +kernel, by decide +kernel⟩, mm_G_in (i := 1151) (by decide +kernel) rfl, mm_G_in (i := 43) (by decide +kernel) rfl, mm_G_in (i := 80) (by decide +kernel) rfl, mm_G_in (i := 1152) (by decide +kernel) rfl⟩
def vX12_isDebt : mm_L := []
def zX12_isDebt : mm_L := [(45, 3, none, sX12_in)]
def sX12_isDebt : mm_F := mm_S (mm_gf gLX12) (mm_pf pLX12) (mm_mv vX12_isDebt) (mm_mv zX12_isDebt) (mm_kc kLX12) mm_gs0 mm_rf0 (some .boolean) 2 (mm_ins iX12_isDebt)
set_option maxRecDepth 20000 in
theorem tX12_isDebt (l : Launch) : mm_Ct l yX12_isDebt cX12_isDebt 2 (some .boolean) 1 sX12_isDebt := mm_meth (by decide +kernel) (mm_gf_ok gLX12_ok) (mm_pf_ok pLX12_ok) (mm_mv_ok (L := vX12_isDebt) (fun _ h => absurd h List.not_mem_nil)) (mm_ms_ok (L := zX12_isDebt) (List.forall_mem_cons.mpr ⟨⟨rfl, Or.inl (mm_LS.mk (i := 1088) wX12_in (tX12_in l) (by decide) (by decide +kernel) (by decide +kernel))⟩, fun _ h => absurd h List.not_mem_nil⟩)) (mm_kc_ok kLX12_ok) mm_gs0_ok mm_rf0_ok (mm_dec_ok iX12_isDebt_ok)
abbrev cX12_isStand : ByteArray := prog_14_method_7_code
def yX12_isStand : MethodName := ⟨RX12, "isStand", "(I)Z"⟩
def iX12_isStand : List (List (Nat × Instr)) := [[(0, .iload_n 1), (1, .iconst 0), (2, .aload_n 0), (3, .getfield 52), (6, .iconst 1), (7, .isub), (8, .invokestatic 45), (11, .ireturn)]]
set_option maxRecDepth 20000 in
theorem iX12_isStand_ok : mm_dec cX12_isStand iX12_isStand = true := by decide +kernel
set_option maxRecDepth 20000 in
theorem wX12_isStand : mm_MV yX12_isStand cX12_isStand 2 (some .boolean) 12 := ⟨by decide, Or.inr ⟨_, rfl, rfl⟩, ⟨by decide +kernel, by decide +kernel⟩, mm_G_in (i := 1163) (by decide +kernel) rfl, mm_G_in (i := 45) (by decide +kernel) rfl, mm_G_in (i := 80) (by decide +kernel) rfl, mm_G_in (i := 1164) (by decide +kernel) rfl⟩
def vX12_isStand : mm_L := []
def zX12_isStand : mm_L := [(45, 3, none, sX12_in)]
def sX12_isStand : mm_F := mm_S (mm_gf gLX12) (mm_pf pLX12) (mm_mv vX12_isStand) (mm_mv zX12_isStand) (mm_kc kLX12) mm_gs0 mm_rf0 (some .boolean) 2 (mm_ins iX12_isStand)
set_option maxRecDepth 20000 in
theorem tX12_isStand (l : Launch) : mm_Ct l yX12_isStand cX12_isStand 2 (some .boolean) 1 sX12_isStand := mm_meth (by decide +kernel) (mm_gf_ok gLX12_ok) (mm_pf_ok pLX12_ok) (mm_mv_ok (L := vX12_isStand) (fun _ h => absurd h List.not_mem_nil)) (mm_ms_ok (L := zX12_isStand) (List.forall_mem_cons.mpr ⟨⟨rfl, Or.inl (mm_LS.mk (i := 1088) wX12_in (tX12_in l) (by decide) (by decide +kernel) (by decide +kernel))⟩, fun _ h => absurd h List.not_mem_nil⟩)) (mm_kc_ok kLX12_ok) mm_gs0_ok mm_rf0_ok (mm_dec_ok iX12_isStand_ok)
abbrev cX12_type : ByteArray := prog_14_method_8_code
def yX12_type : MethodName := ⟨RX12, "type", "(JI)I"⟩
def iX12_type : List (List (Nat × Instr)) := [[(0, .aload_n 0), (1, .iconst 0), (2, .putfield 41), (5, .iload_n 3), (6, .iconst 1), (7, .bipush 8), (9, .invokestatic 45), (12, .ifCond .ne 5), (15, .iconst (-1))], [(16, .ireturn), (17, .aload_n 0), (18, .getfield 55), (21, .iload_n 3), (22, .iadd), (23, .sipush 400), (26, .if_icmp .le 6), (29, .bipush (-3)), (31, .ireturn)], [(32, .iload_n 3), (33, .iconst 1), (34, .isub), (35, .istore 4), (37, .iload 4), (39, .ifCond .lt 40), (42, .aload_n 0), (43, .getfield 35), (46, .aload_n 0), (47, .getfield 55)], [(50, .lload_n 1), (51, .bipush 8), (53, .iload 4), (55, .imul), (56, .lshr), (57, .ldc2_w 58), (60, .land), (61, .l2i), (62, .iastore), (63, .aload_n 0)], [(64, .dup), (65, .getfield 55), (68, .iconst 1), (69, .iadd), (70, .putfield 55), (73, .iinc 4 (-1)), (76, .goto (-39)), (79, .aload_n 0)], [(80, .getfield 55), (83, .ireturn)]]
set_option maxRecDepth 20000 in
theorem iX12_type_ok : mm_dec cX12_type iX12_type = true := by decide +kernel
set_option maxRecDepth 20000 in
theorem wX12_type : mm_MV yX12_type cX12_type 5 (some .int) 12 := ⟨by decide, Or.inr ⟨_, rfl, rfl⟩, ⟨by decide +kernel, by decide +kernel⟩, mm_G_in (i := 1085) (by decide +kernel) rfl, mm_G_in (i := 1086) (by decide +kernel) rfl, mm_G_in (i := 80) (by decide +kernel) rfl, mm_G_in (i := 1087) (by decide +kernel) rfl⟩
def vX12_type : mm_L := []
def zX12_type : mm_L := [(45, 3, none, sX12_in)]
def sX12_type : mm_F := mm_S (mm_gf gLX12) (mm_pf pLX12) (mm_mv vX12_type) (mm_mv zX12_type) (mm_kc kLX12) mm_gs0 mm_rf0 (some .int) 5 (mm_ins iX12_type)
set_option maxRecDepth 20000 in
theorem tX12_type (l : Launch) : mm_Ct l yX12_type cX12_type 5 (some .int) 1 sX12_type := mm_meth (by decide +kernel) (mm_gf_ok gLX12_ok) (mm_pf_ok pLX12_ok) (mm_mv_ok (L := vX12_type) (fun _ h => absurd h List.not_mem_nil)) (mm_ms_ok (L := zX12_type) (List.forall_mem_cons.mpr ⟨⟨rfl, Or.inl (mm_LS.mk (i := 1088) wX12_in (tX12_in l) (by decide) (by decide +kernel) (by decide +kernel))⟩, fun _ h => absurd h List.not_mem_nil⟩)) (mm_kc_ok kLX12_ok) mm_gs0_ok mm_rf0_ok (mm_dec_ok iX12_type_ok)
abbrev cX12_clear : ByteArray := prog_14_method_9_code
def yX12_clear : MethodName := ⟨RX12, "clear", "()I"⟩
def iX12_clear : List (List (Nat × Instr)) := [[(0, .aload_n 0), (1, .iconst 0), (2, .putfield 41), (5, .aload_n 0), (6, .getfield 55), (9, .istore_n 1), (10, .aload_n 0), (11, .iconst 0), (12, .putfield 55), (15, .iload_n 1)], [(16, .ireturn)]]
set_option maxRecDepth 20000 in
theorem iX12_clear_ok : mm_dec cX12_clear iX12_clear = true := by decide +kernel
set_option maxRecDepth 20000 in
theorem wX12_clear : mm_MV yX12_clear cX12_clear 2 (some .int) 12 := ⟨by decide, Or.inr ⟨_, rfl, rfl⟩, ⟨by decide +kernel, by decide +kernel⟩, mm_G_in (i := 1093) (by decide +kernel) rfl, mm_G_in (i := 1094) (by decide +kernel) rfl, mm_G_in (i := 80) (by decide +kernel) rfl, mm_G_in (i := 1095) (by decide +kernel) rfl⟩
def vX12_clear : mm_L := []
def zX12_clear : mm_L := []
def sX12_clear : mm_F := mm_S (mm_gf gLX12) (mm_pf pLX12) (mm_mv vX12_clear) (mm_mv zX12_clear) (mm_kc kLX12) mm_gs0 mm_rf0 (some .int) 2 (mm_ins iX12_clear)
set_option maxRecDepth 20000 in
theorem tX12_clear (l : Launch) : mm_Ct l yX12_clear cX12_clear 2 (some .int) 0 sX12_clear := mm_meth (by decide +kernel) (mm_gf_ok gLX12_ok) (mm_pf_ok pLX12_ok) (mm_mv_ok (L := vX12_clear) (fun _ h => absurd h List.not_mem_nil)) (mm_ms_ok (L := zX12_clear) (fun _ h => absurd h List.not_mem_nil)) (mm_kc_ok kLX12_ok) mm_gs0_ok mm_rf0_ok (mm_dec_ok iX12_clear_ok)
abbrev cX12_byteAt : ByteArray := prog_14_method_10_code
def yX12_byteAt : MethodName := ⟨RX12, "byteAt", "(I)I"⟩
def iX12_byteAt : List (List (Nat × Instr)) := [[(0, .iload_n 1), (1, .aload_n 0), (2, .getfield 55), (5, .if_icmp .ge 12), (8, .aload_n 0), (9, .getfield 35), (12, .iload_n 1), (13, .iaload), (14, .goto 4)], [(17, .iconst (-1)), (18, .ireturn)]]
set_option maxRecDepth 20000 in
theorem iX12_byteAt_ok : mm_dec cX12_byteAt iX12_byteAt = true := by decide +kernel
set_option maxRecDepth 20000 in
theorem wX12_byteAt : mm_MV yX12_byteAt cX12_byteAt 2 (some .int) 12 := ⟨by decide, Or.inr ⟨_, rfl, rfl⟩, ⟨by decide +kernel, by decide +kernel⟩, mm_G_in (i := 1106) (by decide +kernel) rfl, mm_G_in (i := 36) (by decide +kernel) rfl, mm_G_in (i := 80) (by decide +kernel) rfl, mm_G_in (i := 1107) (by decide +kernel) rfl⟩
def vX12_byteAt : mm_L := []
def zX12_byteAt : mm_L := []
def sX12_byteAt : mm_F := mm_S (mm_gf gLX12) (mm_pf pLX12) (mm_mv vX12_byteAt) (mm_mv zX12_byteAt) (mm_kc kLX12) mm_gs0 mm_rf0 (some .int) 2 (mm_ins iX12_byteAt)
set_option maxRecDepth 20000 in
theorem tX12_byteAt (l : Launch) : mm_Ct l yX12_byteAt cX12_byteAt 2 (some .int) 0 sX12_byteAt := mm_meth (by decide +kernel) (mm_gf_ok gLX12_ok) (mm_pf_ok pLX12_ok) (mm_mv_ok (L := vX12_byteAt) (fun _ h => absurd h List.not_mem_nil)) (mm_ms_ok (L := zX12_byteAt) (fun _ h => absurd h List.not_mem_nil)) (mm_kc_ok kLX12_ok) mm_gs0_ok mm_rf0_ok (mm_dec_ok iX12_byteAt_ok)
abbrev cX12_add : ByteArray := prog_14_method_11_code
def yX12_add : MethodName := ⟨RX12, "add", "(JI)J"⟩
def iX12_add : List (List (Nat × Instr)) := [[(0, .iload_n 2), (1, .ifCond .ne 7), (4, .lload_n 0), (5, .goto 11), (8, .ldc2_w 60), (11, .lload_n 0), (12, .lmul), (13, .iload_n 2), (14, .i2l), (15, .ladd)], [(16, .lreturn)]]
set_option maxRecDepth 20000 in
theorem iX12_add_ok : mm_dec cX12_add iX12_add = true := by decide +kernel
set_option maxRecDepth 20000 in
theorem wX12_add : mm_MS yX12_add cX12_add 3 (some .long) := ⟨by decide, ⟨by decide +kernel, by decide +kernel⟩, mm_G_in (i := 1109) (by decide +kernel) rfl, mm_G_in (i := 80) (by decide +kernel) rfl, mm_G_in (i := 1110) (by decide +kernel) rfl⟩
def vX12_add : mm_L := []
def zX12_add : mm_L := []
def sX12_add : mm_F := mm_S (mm_gf gLX12) (mm_pf pLX12) (mm_mv vX12_add) (mm_mv zX12_add) (mm_kc kLX12) mm_gs0 mm_rf0 (some .long) 3 (mm_ins iX12_add)
set_option maxRecDepth 20000 in
theorem tX12_add (l : Launch) : mm_Ct l yX12_add cX12_add 3 (some .long) 0 sX12_add := mm_meth (by decide +kernel) (mm_gf_ok gLX12_ok) (mm_pf_ok pLX12_ok) (mm_mv_ok (L := vX12_add) (fun _ h => absurd h List.not_mem_nil)) (mm_ms_ok (L := zX12_add) (fun _ h => absurd h List.not_mem_nil)) (mm_kc_ok kLX12_ok) mm_gs0_ok mm_rf0_ok (mm_dec_ok iX12_add_ok)
abbrev cX12_word : ByteArray := prog_14_method_12_code
def yX12_word : MethodName := ⟨RX12, "word", "(IIIIII)J"⟩
def iX12_word : List (List (Nat × Instr)) := [[(0, .lconst 0), (1, .iload_n 0), (2, .invokestatic 62), (5, .iload_n 1), (6, .invokestatic 62), (9, .iload_n 2), (10, .invokestatic 62), (13, .iload_n 3), (14, .invokestatic 62)], [(17, .iload 4), (19, .invokestatic 62), (22, .iload 5), (24, .invokestatic 62), (27, .lreturn)]]
set_option maxRecDepth 20000 in
theorem iX12_word_ok : mm_dec cX12_word iX12_word = true := by decide +kernel
set_option maxRecDepth 20000 in
theorem wX12_word : mm_MS yX12_word cX12_word 6 (some .long) := ⟨by decide, ⟨by decide +kernel, by decide +kernel⟩, mm_G_in (i := 1116) (by decide +kernel) rfl, mm_G_in (i := 80) (by decide +kernel) rfl, mm_G_in (i := 1117) (by decide +kernel) rfl⟩
def vX12_word : mm_L := []
def zX12_word : mm_L := [(62, 2, none, sX12_add)]
def sX12_word : mm_F := mm_S (mm_gf gLX12) (mm_pf pLX12) (mm_mv vX12_word) (mm_mv zX12_word) (mm_kc kLX12) mm_gs0 mm_rf0 (some .long) 6 (mm_ins iX12_word)
set_option maxRecDepth 20000 in
theorem tX12_word (l : Launch) : mm_Ct l yX12_word cX12_word 6 (some .long) 1 sX12_word := mm_meth (by decide +kernel) (mm_gf_ok gLX12_ok) (mm_pf_ok pLX12_ok) (mm_mv_ok (L := vX12_word) (fun _ h => absurd h List.not_mem_nil)) (mm_ms_ok (L := zX12_word) (List.forall_mem_cons.mpr ⟨⟨rfl, Or.inl (mm_LS.mk (i := 1108) wX12_add (tX12_add l) (by decide) (by decide +kernel) (by decide +kernel))⟩, fun _ h => absurd h List.not_mem_nil⟩)) (mm_kc_ok kLX12_ok) mm_gs0_ok mm_rf0_ok (mm_dec_ok iX12_word_ok)
abbrev cX12_wordOf : ByteArray := prog_14_method_13_code
def yX12_wordOf : MethodName := ⟨RX12, "wordOf", "(J)I"⟩
def iX12_wordOf : List (List (Nat × Instr)) := [[(0, .lload_n 0), (1, .bipush 100), (3, .bipush 101), (5, .bipush 98), (7, .bipush 116), (9, .iconst 0), (10, .iconst 0), (11, .invokestatic 66), (14, .lcmp), (15, .ifCond .ne 7)], [(18, .iconst 0), (19, .goto 119), (22, .lload_n 0), (23, .bipush 115), (25, .bipush 116), (27, .bipush 97), (29, .bipush 110), (31, .bipush 100)], [(33, .iconst 0), (34, .invokestatic 66), (37, .lcmp), (38, .ifCond .ne 7), (41, .iconst 1), (42, .goto 96), (45, .lload_n 0), (46, .bipush 111)], [(48, .bipush 118), (50, .bipush 101), (52, .bipush 114), (54, .iconst 0), (55, .iconst 0), (56, .invokestatic 66), (59, .lcmp), (60, .ifCond .ne 7), (63, .iconst 2)], [(64, .goto 74), (67, .lload_n 0), (68, .bipush 119), (70, .bipush 104), (72, .bipush 111), (74, .bipush 108), (76, .bipush 101), (78, .iconst 0), (79, .invokestatic 66)], [(82, .lcmp), (83, .ifCond .ne 7), (86, .iconst 3), (87, .goto 51), (90, .lload_n 0), (91, .bipush 112), (93, .bipush 97), (95, .bipush 114)], [(97, .bipush 116), (99, .iconst 0), (100, .iconst 0), (101, .invokestatic 66), (104, .lcmp), (105, .ifCond .ne 7), (108, .iconst 4), (109, .goto 29)], [(112, .lload_n 0), (113, .bipush 98), (115, .bipush 101), (117, .bipush 104), (119, .bipush 105), (121, .bipush 110), (123, .bipush 100), (125, .invokestatic 66)], [(128, .lcmp), (129, .ifCond .ne 7), (132, .iconst 5), (133, .goto 5), (136, .bipush (-9)), (138, .ireturn)]]
set_option maxRecDepth 20000 in
theorem iX12_wordOf_ok : mm_dec cX12_wordOf iX12_wordOf = true := by decide +kernel
set_option maxRecDepth 20000 in
theorem wX12_wordOf : mm_MS yX12_wordOf cX12_wordOf 2 (some .int) := ⟨by decide, ⟨by decide +kernel, by decide +kernel⟩, mm_G_in (i := 1113) (by decide +kernel) rfl, mm_G_in (i := 80) (by decide +kernel) rfl, mm_G_in (i := 1114) (by decide +kernel) rfl⟩
def vX12_wordOf : mm_L := []
def zX12_wordOf : mm_L := [(66, 6, none, sX12_word)]
def sX12_wordOf : mm_F := mm_S (mm_gf gLX12) (mm_pf pLX12) (mm_mv vX12_wordOf) (mm_mv zX12_wordOf) (mm_kc kLX12) mm_gs0 mm_rf0 (some .int) 2 (mm_ins iX12_wordOf)
set_option maxRecDepth 20000 in
theorem tX12_wordOf (l : Launch) : mm_Ct l yX12_wordOf cX12_wordOf 2 (some .int) 2 sX12_wordOf := mm_meth (by decide +kernel) (mm_gf_ok gLX12_ok) (mm_pf_ok pLX12_ok) (mm_mv_ok (L := vX12_wordOf) (fun _ h => absurd h List.not_mem_nil)) (mm_ms_ok (L := zX12_wordOf) (List.forall_mem_cons.mpr ⟨⟨rfl, Or.inl (mm_LS.mk (i := 1115) wX12_word (tX12_word l) (by decide) (by decide +kernel) (by decide +kernel))⟩, fun _ h => absurd h List.not_mem_nil⟩)) (mm_kc_ok kLX12_ok) mm_gs0_ok mm_rf0_ok (mm_dec_ok iX12_wordOf_ok)
abbrev cX12_advances : ByteArray := prog_14_method_14_code
def yX12_advances : MethodName := ⟨RX12, "advances", "()V"⟩
def iX12_advances : List (List (Nat × Instr)) := [[(0, .aload_n 0), (1, .aload_n 0), (2, .getfield 70), (5, .invokevirtual 73), (8, .bipush 32), (10, .if_icmp .ne 16), (13, .aload_n 0), (14, .dup), (15, .getfield 70)], [(18, .iconst 1), (19, .iadd), (20, .putfield 70), (23, .goto (-23)), (26, .aload_n 0), (27, .aload_n 0), (28, .getfield 70), (31, .putfield 77)], [(34, .aload_n 0), (35, .aload_n 0), (36, .getfield 70), (39, .invokevirtual 73), (42, .istore_n 1), (43, .iload_n 1), (44, .ifCond .ge 11), (47, .aload_n 0)], [(48, .iconst 0), (49, .putfield 80), (52, .goto 296), (55, .iload_n 1), (56, .bipush 97), (58, .bipush 122), (60, .invokestatic 45), (63, .ifCond .eq 97)], [(66, .lconst 0), (67, .lstore_n 2), (68, .aload_n 0), (69, .aload_n 0), (70, .getfield 70), (73, .invokevirtual 73), (76, .bipush 97), (78, .bipush 122)], [(80, .invokestatic 45), (83, .ifCond .eq 47), (86, .aload_n 0), (87, .getfield 70), (90, .aload_n 0), (91, .getfield 77), (94, .isub), (95, .bipush 7)], [(97, .if_icmp .ge 18), (100, .lload_n 2), (101, .aload_n 0), (102, .aload_n 0), (103, .getfield 70), (106, .invokevirtual 73), (109, .invokestatic 62)], [(112, .goto 4), (115, .lload_n 2), (116, .lstore_n 2), (117, .aload_n 0), (118, .dup), (119, .getfield 70), (122, .iconst 1), (123, .iadd), (124, .putfield 70), (127, .goto (-59))], [(130, .aload_n 0), (131, .lload_n 2), (132, .invokestatic 83), (135, .putfield 87), (138, .aload_n 0), (139, .aload_n 0), (140, .getfield 87), (143, .bipush (-9))], [(145, .if_icmp .ne 8), (148, .bipush 6), (150, .goto 4), (153, .iconst 1), (154, .putfield 80), (157, .goto 191)], [(160, .iload_n 1), (161, .bipush 48), (163, .bipush 57), (165, .invokestatic 45), (168, .ifCond .eq 121), (171, .aload_n 0), (172, .iconst 0), (173, .putfield 87)], [(176, .aload_n 0), (177, .aload_n 0), (178, .getfield 70), (181, .invokevirtual 73), (184, .bipush 48), (186, .bipush 57), (188, .invokestatic 45), (191, .ifCond .eq 56)], [(194, .aload_n 0), (195, .aload_n 0), (196, .getfield 87), (199, .sipush 999), (202, .if_icmp .le 10), (205, .aload_n 0), (206, .getfield 87)], [(209, .goto 22), (212, .bipush 10), (214, .aload_n 0), (215, .getfield 87), (218, .imul), (219, .aload_n 0), (220, .aload_n 0), (221, .getfield 70)], [(224, .invokevirtual 73), (227, .iadd), (228, .bipush 48), (230, .isub), (231, .putfield 87), (234, .aload_n 0), (235, .dup), (236, .getfield 70), (239, .iconst 1)], [(240, .iadd), (241, .putfield 70), (244, .goto (-68)), (247, .aload_n 0), (248, .aload_n 0), (249, .getfield 87), (252, .sipush 999), (255, .if_icmp .gt 22)], [(258, .iload_n 1), (259, .bipush 48), (261, .if_icmp .ne 21), (264, .aload_n 0), (265, .getfield 70), (268, .aload_n 0), (269, .getfield 77)], [(272, .isub), (273, .iconst 1), (274, .if_icmp .le 8), (277, .bipush 6), (279, .goto 4), (282, .iconst 3), (283, .putfield 80), (286, .goto 62)], [(289, .aload_n 0), (290, .dup), (291, .getfield 70), (294, .iconst 1), (295, .iadd), (296, .putfield 70), (299, .aload_n 0), (300, .iload_n 1), (301, .bipush 65), (303, .isub)], [(304, .putfield 87), (307, .aload_n 0), (308, .iload_n 1), (309, .bipush 65), (311, .bipush 72), (313, .invokestatic 45), (316, .ifCond .eq 7), (319, .iconst 2)], [(320, .goto 25), (323, .iload_n 1), (324, .bipush 47), (326, .if_icmp .ne 7), (329, .iconst 4), (330, .goto 15), (333, .iload_n 1), (334, .bipush 59)], [(336, .if_icmp .ne 7), (339, .iconst 5), (340, .goto 5), (343, .bipush 6), (345, .putfield 80), (348, .return_)]]
set_option maxRecDepth 20000 in
theorem iX12_advances_ok : mm_dec cX12_advances iX12_advances = true := by decide +kernel
set_option maxRecDepth 20000 in
theorem wX12_advances : mm_MV yX12_advances cX12_advances 4 none 12 := ⟨by decide, Or.inr ⟨_, rfl, rfl⟩, ⟨by decide +kernel, by decide +kernel⟩, mm_G_in (i := 1102) (by decide +kernel) rfl, mm_G_in (i := 35) (by decide +kernel) rfl, mm_G_in (i := 80) (by decide +kernel) rfl, mm_G_in (i := 1103) (by decide +kernel) rfl⟩
def vX12_advances : mm_L := [(73, 2, some 12, sX12_byteAt)]
def zX12_advances : mm_L := [(45, 3, none, sX12_in), (62, 2, none, sX12_add), (83, 1, none, sX12_wordOf)]
def sX12_advances : mm_F := mm_S (mm_gf gLX12) (mm_pf pLX12) (mm_mv vX12_advances) (mm_mv zX12_advances) (mm_kc kLX12) mm_gs0 mm_rf0 none 4 (mm_ins iX12_advances)
set_option maxRecDepth 20000 in
theorem tX12_advances (l : Launch) : mm_Ct l yX12_advances cX12_advances 4 none 3 sX12_advances := mm_meth (by decide +kernel) (mm_gf_ok gLX12_ok) (mm_pf_ok pLX12_ok) (mm_mv_ok (L := vX12_advances) (List.forall_mem_cons.mpr ⟨mm_LV.mk (i := 1104) wX12_byteAt (tX12_byteAt l) (by decide) (by decide +kernel) (by decide +kernel), fun _ h => absurd h List.not_mem_nil⟩)) (mm_ms_ok (L := zX12_advances) (List.forall_mem_cons.mpr ⟨⟨rfl, Or.inl (mm_LS.mk (i := 1088) wX12_in (tX12_in l) (by decide) (by decide +kernel) (by decide +kernel))⟩, List.forall_mem_cons.mpr ⟨⟨rfl, Or.inl (mm_LS.mk (i := 1108) wX12_add (tX12_add l) (by decide) (by decide +kernel) (by decide +kernel))⟩, List.forall_mem_cons.mpr ⟨⟨rfl, Or.inl (mm_LS.mk (i := 1112) wX12_wordOf (tX12_wordOf l) (by decide) (by decide +kernel) (by decide +kernel))⟩, fun _ h => absurd h List.not_mem_nil⟩⟩⟩)) (mm_kc_ok kLX12_ok) mm_gs0_ok mm_rf0_ok (mm_dec_ok iX12_advances_ok)
abbrev cX12_isWell : ByteArray := prog_14_method_15_code
def yX12_isWell : MethodName := ⟨RX12, "isWell", "()Z"⟩
def iX12_isWell : List (List (Nat × Instr)) := [[(0, .aload_n 0), (1, .getfield 90), (4, .ifCond .ge 7), (7, .iconst 1), (8, .goto 4), (11, .iconst 0), (12, .ireturn)]]
set_option maxRecDepth 20000 in
theorem iX12_isWell_ok : mm_dec cX12_isWell iX12_isWell = true := by decide +kernel
set_option maxRecDepth 20000 in
theorem wX12_isWell : mm_MV yX12_isWell cX12_isWell 1 (some .boolean) 12 := ⟨by decide, Or.inr ⟨_, rfl, rfl⟩, ⟨by decide +kernel, by decide +kernel⟩, mm_G_in (i := 1120) (by decide +kernel) rfl, mm_G_in (i := 37) (by decide +kernel) rfl, mm_G_in (i := 80) (by decide +kernel) rfl, mm_G_in (i := 1121) (by decide +kernel) rfl⟩
def vX12_isWell : mm_L := []
def zX12_isWell : mm_L := []
def sX12_isWell : mm_F := mm_S (mm_gf gLX12) (mm_pf pLX12) (mm_mv vX12_isWell) (mm_mv zX12_isWell) (mm_kc kLX12) mm_gs0 mm_rf0 (some .boolean) 1 (mm_ins iX12_isWell)
set_option maxRecDepth 20000 in
theorem tX12_isWell (l : Launch) : mm_Ct l yX12_isWell cX12_isWell 1 (some .boolean) 0 sX12_isWell := mm_meth (by decide +kernel) (mm_gf_ok gLX12_ok) (mm_pf_ok pLX12_ok) (mm_mv_ok (L := vX12_isWell) (fun _ h => absurd h List.not_mem_nil)) (mm_ms_ok (L := zX12_isWell) (fun _ h => absurd h List.not_mem_nil)) (mm_kc_ok kLX12_ok) mm_gs0_ok mm_rf0_ok (mm_dec_ok iX12_isWell_ok)
