abbrev cX1_isPaidWhole : ByteArray := prog_3_method_4_code
def yX1_isPaidWhole : MethodName := ⟨RX1, "isPaidWhole", "(II)Z"⟩
def iX1_isPaidWhole : List (List (Nat × Instr)) := [[(0, .iload_n 2), (1, .aload_n 0), (2, .getfield 18), (5, .getfield 34), (8, .getfield 70), (11, .iload_n 1), (12, .iaload), (13, .invokestatic 73)], [(16, .ifCond .ne 5), (19, .iconst 1), (20, .ireturn), (21, .iconst 0), (22, .istore_n 3), (23, .iconst 0), (24, .istore 4), (26, .iload 4), (28, .bipush 8), (30, .if_icmp .ge 28)], [(33, .iload_n 2), (34, .iload 4), (36, .invokestatic 73), (39, .ifCond .ne 13), (42, .iload_n 3), (43, .aload_n 0), (44, .getfield 15), (47, .iload 4)], [(49, .iaload), (50, .iadd), (51, .istore_n 3), (52, .iinc 4 1), (55, .goto (-29)), (58, .iload_n 3), (59, .aload_n 0), (60, .getfield 18), (63, .iload_n 1)], [(64, .invokevirtual 76), (67, .if_icmp .lt 7), (70, .iconst 1), (71, .goto 4), (74, .iconst 0), (75, .ireturn)]]
set_option maxRecDepth 20000 in
theorem iX1_isPaidWhole_ok : mm_dec cX1_isPaidWhole iX1_isPaidWhole = true := by decide +kernel
set_option maxRecDepth 20000 in
theorem wX1_isPaidWhole : mm_MV yX1_isPaidWhole cX1_isPaidWhole 5 (some .boolean) 1 := ⟨by decide, Or.inr ⟨_, rfl, rfl⟩, ⟨by decide +kernel, by decide +kernel⟩, mm_G_in (i := 917) (by decide +kernel) rfl, mm_G_in (i := 30) (by decide +kernel) rfl, mm_G_in (i := 77) (by decide +kernel) rfl, mm_G_in (i := 918) (by decide +kernel) rfl⟩
def vX1_isPaidWhole : mm_L := [(76, 2, some 0, sX0_restOf)]
def zX1_isPaidWhole : mm_L := [(73, 2, none, sX11_isIn)]
def sX1_isPaidWhole : mm_F := mm_S (mm_gf gLX1) (mm_pf pLX1) (mm_mv vX1_isPaidWhole) (mm_mv zX1_isPaidWhole) (mm_kc kLX1) mm_gs0 mm_rf0 (some .boolean) 5 (mm_ins iX1_isPaidWhole)
set_option maxRecDepth 20000 in
theorem tX1_isPaidWhole (l : Launch) : mm_Ct l yX1_isPaidWhole cX1_isPaidWhole 5 (some .boolean) 1 sX1_isPaidWhole := mm_meth (by decide +kernel) (mm_gf_ok gLX1_ok) (mm_pf_ok pLX1_ok) (mm_mv_ok (L := vX1_isPaidWhole) (List.forall_mem_cons.mpr ⟨mm_LV.mk (i := 920) wX0_restOf (tX0_restOf l) (by decide) (by decide +kernel) (by decide +kernel), fun _ h => absurd h List.not_mem_nil⟩)) (mm_ms_ok (L := zX1_isPaidWhole) (List.forall_mem_cons.mpr ⟨⟨rfl, Or.inl (mm_LS.nest wX11_isIn (tX11_isIn l) (by decide) (by decide +kernel) rfl (by decide +kernel))⟩, fun _ h => absurd h List.not_mem_nil⟩)) (mm_kc_ok kLX1_ok) mm_gs0_ok mm_rf0_ok (mm_dec_ok iX1_isPaidWhole_ok)
abbrev cX1_weightOf : ByteArray := prog_3_method_5_code
def yX1_weightOf : MethodName := ⟨RX1, "weightOf", "(I)I"⟩
def iX1_weightOf : List (List (Nat × Instr)) := [[(0, .iconst 1), (1, .istore_n 2), (2, .iconst 0), (3, .istore_n 3), (4, .iload_n 3), (5, .bipush 8), (7, .if_icmp .ge 38), (10, .iload_n 2), (11, .iload_n 1), (12, .iload_n 3), (13, .invokestatic 73)], [(16, .ifCond .eq 12), (19, .aload_n 0), (20, .getfield 9), (23, .iload_n 3), (24, .iaload), (25, .goto 12), (28, .bipush 10), (30, .aload_n 0), (31, .getfield 9)], [(34, .iload_n 3), (35, .iaload), (36, .isub), (37, .imul), (38, .istore_n 2), (39, .iinc 3 1), (42, .goto (-38)), (45, .iload_n 2), (46, .ireturn)]]
set_option maxRecDepth 20000 in
theorem iX1_weightOf_ok : mm_dec cX1_weightOf iX1_weightOf = true := by decide +kernel
set_option maxRecDepth 20000 in
theorem wX1_weightOf : mm_MV yX1_weightOf cX1_weightOf 4 (some .int) 1 := ⟨by decide, Or.inr ⟨_, rfl, rfl⟩, ⟨by decide +kernel, by decide +kernel⟩, mm_G_in (i := 923) (by decide +kernel) rfl, mm_G_in (i := 31) (by decide +kernel) rfl, mm_G_in (i := 77) (by decide +kernel) rfl, mm_G_in (i := 924) (by decide +kernel) rfl⟩
def vX1_weightOf : mm_L := []
def zX1_weightOf : mm_L := [(73, 2, none, sX11_isIn)]
def sX1_weightOf : mm_F := mm_S (mm_gf gLX1) (mm_pf pLX1) (mm_mv vX1_weightOf) (mm_mv zX1_weightOf) (mm_kc kLX1) mm_gs0 mm_rf0 (some .int) 4 (mm_ins iX1_weightOf)
set_option maxRecDepth 20000 in
theorem tX1_weightOf (l : Launch) : mm_Ct l yX1_weightOf cX1_weightOf 4 (some .int) 1 sX1_weightOf := mm_meth (by decide +kernel) (mm_gf_ok gLX1_ok) (mm_pf_ok pLX1_ok) (mm_mv_ok (L := vX1_weightOf) (fun _ h => absurd h List.not_mem_nil)) (mm_ms_ok (L := zX1_weightOf) (List.forall_mem_cons.mpr ⟨⟨rfl, Or.inl (mm_LS.nest wX11_isIn (tX11_isIn l) (by decide) (by decide +kernel) rfl (by decide +kernel))⟩, fun _ h => absurd h List.not_mem_nil⟩)) (mm_kc_ok kLX1_ok) mm_gs0_ok mm_rf0_ok (mm_dec_ok iX1_weightOf_ok)
abbrev cX1_shareOf : ByteArray := prog_3_method_2_code
def yX1_shareOf : MethodName := ⟨RX1, "shareOf", "(I)I"⟩
def iX1_shareOf : List (List (Nat × Instr)) := [[(0, .aload_n 0), (1, .iload_n 1), (2, .invokevirtual 22), (5, .iconst 0), (6, .istore_n 2), (7, .iconst 0), (8, .istore_n 3), (9, .iload_n 3), (10, .sipush 255), (13, .if_icmp .gt 26)], [(16, .aload_n 0), (17, .iload_n 1), (18, .iload_n 3), (19, .invokevirtual 26), (22, .ifCond .eq 11), (25, .iload_n 2), (26, .aload_n 0), (27, .iload_n 3), (28, .invokevirtual 30), (31, .iadd)], [(32, .istore_n 2), (33, .iinc 3 1), (36, .goto (-27)), (39, .iload_n 2), (40, .ireturn)]]
set_option maxRecDepth 20000 in
theorem iX1_shareOf_ok : mm_dec cX1_shareOf iX1_shareOf = true := by decide +kernel
set_option maxRecDepth 20000 in
theorem wX1_shareOf : mm_MV yX1_shareOf cX1_shareOf 4 (some .int) 1 := ⟨by decide, Or.inr ⟨_, rfl, rfl⟩, ⟨by decide +kernel, by decide +kernel⟩, mm_G_in (i := 905) (by decide +kernel) rfl, mm_G_in (i := 906) (by decide +kernel) rfl, mm_G_in (i := 77) (by decide +kernel) rfl, mm_G_in (i := 907) (by decide +kernel) rfl⟩
def vX1_shareOf : mm_L := [(22, 2, some 1, sX1_findGreatest), (26, 3, some 1, sX1_isPaidWhole), (30, 2, some 1, sX1_weightOf)]
def zX1_shareOf : mm_L := []
def sX1_shareOf : mm_F := mm_S (mm_gf gLX1) (mm_pf pLX1) (mm_mv vX1_shareOf) (mm_mv zX1_shareOf) (mm_kc kLX1) mm_gs0 mm_rf0 (some .int) 4 (mm_ins iX1_shareOf)
set_option maxRecDepth 20000 in
theorem tX1_shareOf (l : Launch) : mm_Ct l yX1_shareOf cX1_shareOf 4 (some .int) 4 sX1_shareOf := mm_meth (by decide +kernel) (mm_gf_ok gLX1_ok) (mm_pf_ok pLX1_ok) (mm_mv_ok (L := vX1_shareOf) (List.forall_mem_cons.mpr ⟨mm_LV.mk (i := 908) wX1_findGreatest (tX1_findGreatest l) (by decide) (by decide +kernel) (by decide +kernel), List.forall_mem_cons.mpr ⟨mm_LV.mk (i := 915) wX1_isPaidWhole (tX1_isPaidWhole l) (by decide) (by decide +kernel) (by decide +kernel), List.forall_mem_cons.mpr ⟨mm_LV.mk (i := 921) wX1_weightOf (tX1_weightOf l) (by decide) (by decide +kernel) (by decide +kernel), fun _ h => absurd h List.not_mem_nil⟩⟩⟩)) (mm_ms_ok (L := zX1_shareOf) (fun _ h => absurd h List.not_mem_nil)) (mm_kc_ok kLX1_ok) mm_gs0_ok mm_rf0_ok (mm_dec_ok iX1_shareOf_ok)
abbrev cX2_moveCoins : ByteArray := prog_4_method_4_code
def yX2_moveCoins : MethodName := ⟨RX2, "moveCoins", "(IIII)Z"⟩
def iX2_moveCoins : List (List (Nat × Instr)) := [[(0, .aload_n 0), (1, .getfield 9), (4, .getfield 47), (7, .getfield 60), (10, .astore 5), (12, .aload_n 0), (13, .getfield 9)], [(16, .getfield 15), (19, .getfield 63), (22, .iload_n 2), (23, .iaload), (24, .istore 6), (26, .iload_n 3), (27, .iload 4), (29, .if_icmp .gt 11)], [(32, .iload_n 3), (33, .aload 5), (35, .iload_n 1), (36, .iaload), (37, .if_icmp .le 5), (40, .iconst 0), (41, .ireturn), (42, .iload_n 1), (43, .iload 6), (45, .if_icmp .eq 18)], [(48, .aload 5), (50, .iload 6), (52, .iaload), (53, .iload_n 3), (54, .iadd), (55, .sipush 9999), (58, .if_icmp .le 5), (61, .iconst 0), (62, .ireturn), (63, .aload 5)], [(65, .iload_n 1), (66, .dup2), (67, .iaload), (68, .iload_n 3), (69, .isub), (70, .iastore), (71, .aload 5), (73, .iload 6), (75, .dup2), (76, .iaload), (77, .iload_n 3), (78, .iadd), (79, .iastore)], [(80, .aload_n 0), (81, .getfield 9), (84, .getfield 47), (87, .getfield 66), (90, .iload_n 2), (91, .dup2), (92, .iaload), (93, .iload_n 3), (94, .iadd), (95, .iastore)], [(96, .iconst 1), (97, .ireturn)]]
set_option maxRecDepth 20000 in
theorem iX2_moveCoins_ok : mm_dec cX2_moveCoins iX2_moveCoins = true := by decide +kernel
set_option maxRecDepth 20000 in
theorem wX2_moveCoins : mm_MV yX2_moveCoins cX2_moveCoins 7 (some .boolean) 2 := ⟨by decide, Or.inr ⟨_, rfl, rfl⟩, ⟨by decide +kernel, by decide +kernel⟩, mm_G_in (i := 720) (by decide +kernel) rfl, mm_G_in (i := 15) (by decide +kernel) rfl, mm_G_in (i := 74) (by decide +kernel) rfl, mm_G_in (i := 721) (by decide +kernel) rfl⟩
def vX2_moveCoins : mm_L := []
def zX2_moveCoins : mm_L := []
def sX2_moveCoins : mm_F := mm_S (mm_gf gLX2) (mm_pf pLX2) (mm_mv vX2_moveCoins) (mm_mv zX2_moveCoins) (mm_kc kLX2) mm_gs0 mm_rf0 (some .boolean) 7 (mm_ins iX2_moveCoins)
set_option maxRecDepth 20000 in
theorem tX2_moveCoins (l : Launch) : mm_Ct l yX2_moveCoins cX2_moveCoins 7 (some .boolean) 0 sX2_moveCoins := mm_meth (by decide +kernel) (mm_gf_ok gLX2_ok) (mm_pf_ok pLX2_ok) (mm_mv_ok (L := vX2_moveCoins) (fun _ h => absurd h List.not_mem_nil)) (mm_ms_ok (L := zX2_moveCoins) (fun _ h => absurd h List.not_mem_nil)) (mm_kc_ok kLX2_ok) mm_gs0_ok mm_rf0_ok (mm_dec_ok iX2_moveCoins_ok)
abbrev cX2_payByDebtor : ByteArray := prog_4_method_2_code
def yX2_payByDebtor : MethodName := ⟨RX2, "payByDebtor", "(II)I"⟩
def iX2_payByDebtor : List (List (Nat × Instr)) := [[(0, .aload_n 0), (1, .aload_n 0), (2, .getfield 9), (5, .getfield 15), (8, .getfield 21), (11, .iload_n 1), (12, .iaload), (13, .iload_n 1), (14, .iload_n 2), (15, .aload_n 0)], [(16, .getfield 9), (19, .iload_n 1), (20, .invokevirtual 27), (23, .invokevirtual 31), (26, .ifCond .ne 6), (29, .bipush (-2)), (31, .ireturn)], [(32, .aload_n 0), (33, .getfield 9), (36, .iload_n 1), (37, .invokevirtual 35), (40, .ireturn)]]
set_option maxRecDepth 20000 in
theorem iX2_payByDebtor_ok : mm_dec cX2_payByDebtor iX2_payByDebtor = true := by decide +kernel
set_option maxRecDepth 20000 in
theorem wX2_payByDebtor : mm_MV yX2_payByDebtor cX2_payByDebtor 3 (some .int) 2 := ⟨by decide, Or.inr ⟨_, rfl, rfl⟩, ⟨by decide +kernel, by decide +kernel⟩, mm_G_in (i := 753) (by decide +kernel) rfl, mm_G_in (i := 754) (by decide +kernel) rfl, mm_G_in (i := 74) (by decide +kernel) rfl, mm_G_in (i := 755) (by decide +kernel) rfl⟩
def vX2_payByDebtor : mm_L := [(27, 2, some 0, sX0_askOfDebtor), (31, 5, some 2, sX2_moveCoins), (35, 2, some 0, sX0_restOf)]
def zX2_payByDebtor : mm_L := []
def sX2_payByDebtor : mm_F := mm_S (mm_gf gLX2) (mm_pf pLX2) (mm_mv vX2_payByDebtor) (mm_mv zX2_payByDebtor) (mm_kc kLX2) mm_gs0 mm_rf0 (some .int) 3 (mm_ins iX2_payByDebtor)
set_option maxRecDepth 20000 in
theorem tX2_payByDebtor (l : Launch) : mm_Ct l yX2_payByDebtor cX2_payByDebtor 3 (some .int) 3 sX2_payByDebtor := mm_meth (by decide +kernel) (mm_gf_ok gLX2_ok) (mm_pf_ok pLX2_ok) (mm_mv_ok (L := vX2_payByDebtor) (List.forall_mem_cons.mpr ⟨mm_LV.mk (i := 756) wX0_askOfDebtor (tX0_askOfDebtor l) (by decide) (by decide +kernel) (by decide +kernel), List.forall_mem_cons.mpr ⟨mm_LV.mk (i := 718) wX2_moveCoins (tX2_moveCoins l) (by decide) (by decide +kernel) (by decide +kernel), List.forall_mem_cons.mpr ⟨mm_LV.mk (i := 751) wX0_restOf (tX0_restOf l) (by decide) (by decide +kernel) (by decide +kernel), fun _ h => absurd h List.not_mem_nil⟩⟩⟩)) (mm_ms_ok (L := zX2_payByDebtor) (fun _ h => absurd h List.not_mem_nil)) (mm_kc_ok kLX2_ok) mm_gs0_ok mm_rf0_ok (mm_dec_ok iX2_payByDebtor_ok)
abbrev cX2_addBack : ByteArray := prog_4_method_8_code
def yX2_addBack : MethodName := ⟨RX2, "addBack", "(III)V"⟩
def iX2_addBack : List (List (Nat × Instr)) := [[(0, .aload_n 0), (1, .getfield 9), (4, .getfield 47), (7, .getfield 111), (10, .iload_n 1), (11, .bipush 8), (13, .imul), (14, .iload_n 2), (15, .iadd)], [(16, .dup2), (17, .iaload), (18, .iload_n 3), (19, .iadd), (20, .iastore), (21, .return_)]]
set_option maxRecDepth 20000 in
theorem iX2_addBack_ok : mm_dec cX2_addBack iX2_addBack = true := by decide +kernel
set_option maxRecDepth 20000 in
theorem wX2_addBack : mm_MV yX2_addBack cX2_addBack 4 none 2 := ⟨by decide, Or.inr ⟨_, rfl, rfl⟩, ⟨by decide +kernel, by decide +kernel⟩, mm_G_in (i := 729) (by decide +kernel) rfl, mm_G_in (i := 17) (by decide +kernel) rfl, mm_G_in (i := 74) (by decide +kernel) rfl, mm_G_in (i := 730) (by decide +kernel) rfl⟩
def vX2_addBack : mm_L := []
def zX2_addBack : mm_L := []
def sX2_addBack : mm_F := mm_S (mm_gf gLX2) (mm_pf pLX2) (mm_mv vX2_addBack) (mm_mv zX2_addBack) (mm_kc kLX2) mm_gs0 mm_rf0 none 4 (mm_ins iX2_addBack)
set_option maxRecDepth 20000 in
theorem tX2_addBack (l : Launch) : mm_Ct l yX2_addBack cX2_addBack 4 none 0 sX2_addBack := mm_meth (by decide +kernel) (mm_gf_ok gLX2_ok) (mm_pf_ok pLX2_ok) (mm_mv_ok (L := vX2_addBack) (fun _ h => absurd h List.not_mem_nil)) (mm_ms_ok (L := zX2_addBack) (fun _ h => absurd h List.not_mem_nil)) (mm_kc_ok kLX2_ok) mm_gs0_ok mm_rf0_ok (mm_dec_ok iX2_addBack_ok)
abbrev cX2_sharersOf : ByteArray := prog_4_method_7_code
def yX2_sharersOf : MethodName := ⟨RX2, "sharersOf", "(I)I"⟩
def iX2_sharersOf : List (List (Nat × Instr)) := [[(0, .iconst 0), (1, .istore_n 2), (2, .iconst 0), (3, .istore_n 3), (4, .iload_n 3), (5, .aload_n 0), (6, .getfield 9), (9, .getfield 15), (12, .getfield 101), (15, .if_icmp .ge 38)], [(18, .aload_n 0), (19, .getfield 9), (22, .iload_n 3), (23, .iload_n 1), (24, .invokevirtual 105), (27, .ifCond .eq 20), (30, .iload_n 2), (31, .iconst 1)], [(32, .aload_n 0), (33, .getfield 9), (36, .getfield 15), (39, .getfield 41), (42, .iload_n 3), (43, .iaload), (44, .ishl), (45, .ior), (46, .istore_n 2), (47, .iinc 3 1)], [(50, .goto (-46)), (53, .iload_n 2), (54, .aload_n 0), (55, .getfield 9), (58, .getfield 47), (61, .getfield 108)], [(64, .iconst (-1)), (65, .ixor), (66, .iand), (67, .ireturn)]]
set_option maxRecDepth 20000 in
theorem iX2_sharersOf_ok : mm_dec cX2_sharersOf iX2_sharersOf = true := by decide +kernel
set_option maxRecDepth 20000 in
theorem wX2_sharersOf : mm_MV yX2_sharersOf cX2_sharersOf 4 (some .int) 2 := ⟨by decide, Or.inr ⟨_, rfl, rfl⟩, ⟨by decide +kernel, by decide +kernel⟩, mm_G_in (i := 738) (by decide +kernel) rfl, mm_G_in (i := 19) (by decide +kernel) rfl, mm_G_in (i := 74) (by decide +kernel) rfl, mm_G_in (i := 739) (by decide +kernel) rfl⟩
def vX2_sharersOf : mm_L := [(105, 3, some 0, sX0_standsWhole)]
def zX2_sharersOf : mm_L := []
def sX2_sharersOf : mm_F := mm_S (mm_gf gLX2) (mm_pf pLX2) (mm_mv vX2_sharersOf) (mm_mv zX2_sharersOf) (mm_kc kLX2) mm_gs0 mm_rf0 (some .int) 4 (mm_ins iX2_sharersOf)
set_option maxRecDepth 20000 in
theorem tX2_sharersOf (l : Launch) : mm_Ct l yX2_sharersOf cX2_sharersOf 4 (some .int) 2 sX2_sharersOf := mm_meth (by decide +kernel) (mm_gf_ok gLX2_ok) (mm_pf_ok pLX2_ok) (mm_mv_ok (L := vX2_sharersOf) (List.forall_mem_cons.mpr ⟨mm_LV.mk (i := 740) wX0_standsWhole (tX0_standsWhole l) (by decide) (by decide +kernel) (by decide +kernel), fun _ h => absurd h List.not_mem_nil⟩)) (mm_ms_ok (L := zX2_sharersOf) (fun _ h => absurd h List.not_mem_nil)) (mm_kc_ok kLX2_ok) mm_gs0_ok mm_rf0_ok (mm_dec_ok iX2_sharersOf_ok)
abbrev cJ6_bitCount_0f7a4 : ByteArray := prog_15_method_49_code
def yJ6_bitCount_0f7a4 : MethodName := ⟨RJ6, "bitCount", "(I)I"⟩
def iJ6_bitCount_0f7a4 : List (List (Nat × Instr)) := [[(0, .iload_n 0), (1, .iload_n 0), (2, .iconst 1), (3, .iushr), (4, .ldc_w 265), (7, .iand), (8, .isub), (9, .istore_n 0), (10, .iload_n 0), (11, .ldc_w 266), (14, .iand), (15, .iload_n 0)], [(16, .iconst 2), (17, .iushr), (18, .ldc_w 266), (21, .iand), (22, .iadd), (23, .istore_n 0), (24, .iload_n 0), (25, .iload_n 0), (26, .iconst 4), (27, .iushr), (28, .iadd), (29, .ldc_w 267)], [(32, .iand), (33, .istore_n 0), (34, .iload_n 0), (35, .iload_n 0), (36, .bipush 8), (38, .iushr), (39, .iadd), (40, .istore_n 0), (41, .iload_n 0), (42, .iload_n 0), (43, .bipush 16), (45, .iushr), (46, .iadd), (47, .istore_n 0)], [(48, .iload_n 0), (49, .bipush 63), (51, .iand), (52, .ireturn)]]
set_option maxRecDepth 20000 in
theorem iJ6_bitCount_0f7a4_ok : mm_dec cJ6_bitCount_0f7a4 iJ6_bitCount_0f7a4 = true := by decide +kernel
set_option maxRecDepth 20000 in
theorem wJ6_bitCount_0f7a4 : mm_MS yJ6_bitCount_0f7a4 cJ6_bitCount_0f7a4 1 (some .int) := ⟨by decide, ⟨by decide +kernel, by decide +kernel⟩, mm_G_in (i := 745) (by decide +kernel) rfl, mm_G_in (i := 88) (by decide +kernel) rfl, mm_G_in (i := 746) (by decide +kernel) rfl⟩
def vJ6_bitCount_0f7a4 : mm_L := []
def zJ6_bitCount_0f7a4 : mm_L := []
def sJ6_bitCount_0f7a4 : mm_F := mm_S (mm_gf gLJ6) (mm_pf pLJ6) (mm_mv vJ6_bitCount_0f7a4) (mm_mv zJ6_bitCount_0f7a4) (mm_kc kLJ6) mm_gs0 mm_rf0 (some .int) 1 (mm_ins iJ6_bitCount_0f7a4)
set_option maxRecDepth 20000 in
theorem tJ6_bitCount_0f7a4 (l : Launch) : mm_Ct l yJ6_bitCount_0f7a4 cJ6_bitCount_0f7a4 1 (some .int) 0 sJ6_bitCount_0f7a4 := mm_meth (by decide +kernel) (mm_gf_ok gLJ6_ok) (mm_pf_ok pLJ6_ok) (mm_mv_ok (L := vJ6_bitCount_0f7a4) (fun _ h => absurd h List.not_mem_nil)) (mm_ms_ok (L := zJ6_bitCount_0f7a4) (fun _ h => absurd h List.not_mem_nil)) (mm_kc_ok kLJ6_ok) mm_gs0_ok mm_rf0_ok (mm_dec_ok iJ6_bitCount_0f7a4_ok)
abbrev cX2_shareBack : ByteArray := prog_4_method_6_code
def yX2_shareBack : MethodName := ⟨RX2, "shareBack", "(III)V"⟩
def iX2_shareBack : List (List (Nat × Instr)) := [[(0, .aload_n 0), (1, .iload_n 1), (2, .invokevirtual 89), (5, .iconst 1), (6, .iload_n 2), (7, .ishl), (8, .iconst (-1)), (9, .ixor), (10, .iand), (11, .istore 4), (13, .iload_n 3), (14, .iload 4)], [(16, .invokestatic 92), (19, .iconst 1), (20, .iadd), (21, .idiv), (22, .istore 5), (24, .iconst 0), (25, .istore 6), (27, .iload 6), (29, .bipush 8), (31, .if_icmp .ge 28)], [(34, .iload 4), (36, .iload 6), (38, .invokestatic 97), (41, .ifCond .eq 12), (44, .aload_n 0), (45, .iload 6), (47, .iload_n 2)], [(48, .iload 5), (50, .invokevirtual 79), (53, .iinc 6 1), (56, .goto (-29)), (59, .return_)]]
set_option maxRecDepth 20000 in
theorem iX2_shareBack_ok : mm_dec cX2_shareBack iX2_shareBack = true := by decide +kernel
set_option maxRecDepth 20000 in
theorem wX2_shareBack : mm_MV yX2_shareBack cX2_shareBack 7 none 2 := ⟨by decide, Or.inr ⟨_, rfl, rfl⟩, ⟨by decide +kernel, by decide +kernel⟩, mm_G_in (i := 734) (by decide +kernel) rfl, mm_G_in (i := 18) (by decide +kernel) rfl, mm_G_in (i := 74) (by decide +kernel) rfl, mm_G_in (i := 735) (by decide +kernel) rfl⟩
def vX2_shareBack : mm_L := [(89, 2, some 2, sX2_sharersOf), (79, 4, some 2, sX2_addBack)]
def zX2_shareBack : mm_L := [(92, 1, none, sJ6_bitCount_0f7a4), (97, 2, none, sX11_isIn)]
def sX2_shareBack : mm_F := mm_S (mm_gf gLX2) (mm_pf pLX2) (mm_mv vX2_shareBack) (mm_mv zX2_shareBack) (mm_kc kLX2) mm_gs0 mm_rf0 none 7 (mm_ins iX2_shareBack)
set_option maxRecDepth 20000 in
theorem tX2_shareBack (l : Launch) : mm_Ct l yX2_shareBack cX2_shareBack 7 none 3 sX2_shareBack := mm_meth (by decide +kernel) (mm_gf_ok gLX2_ok) (mm_pf_ok pLX2_ok) (mm_mv_ok (L := vX2_shareBack) (List.forall_mem_cons.mpr ⟨mm_LV.mk (i := 736) wX2_sharersOf (tX2_sharersOf l) (by decide) (by decide +kernel) (by decide +kernel), List.forall_mem_cons.mpr ⟨mm_LV.mk (i := 727) wX2_addBack (tX2_addBack l) (by decide) (by decide +kernel) (by decide +kernel), fun _ h => absurd h List.not_mem_nil⟩⟩)) (mm_ms_ok (L := zX2_shareBack) (List.forall_mem_cons.mpr ⟨⟨rfl, Or.inl (mm_LS.mk (i := 744) wJ6_bitCount_0f7a4 (tJ6_bitCount_0f7a4 l) (by decide) (by decide +kernel) (by decide +kernel))⟩, List.forall_mem_cons.mpr ⟨⟨rfl, Or.inl (mm_LS.nest wX11_isIn (tX11_isIn l) (by decide) (by decide +kernel) rfl (by decide +kernel))⟩, fun _ h => absurd h List.not_mem_nil⟩⟩)) (mm_kc_ok kLX2_ok) mm_gs0_ok mm_rf0_ok (mm_dec_ok iX2_shareBack_ok)
abbrev cX2_addBacks : ByteArray := prog_4_method_5_code
def yX2_addBacks : MethodName := ⟨RX2, "addBacks", "(II)V"⟩
def iX2_addBacks : List (List (Nat × Instr)) := [[(0, .aload_n 0), (1, .getfield 9), (4, .getfield 15), (7, .astore_n 3), (8, .aload_n 3), (9, .getfield 41), (12, .iload_n 1), (13, .iaload), (14, .istore 4)], [(16, .aload_n 3), (17, .getfield 38), (20, .iload_n 1), (21, .iaload), (22, .istore 5), (24, .aload_n 3), (25, .getfield 69), (28, .iload_n 1), (29, .iaload), (30, .iconst 3), (31, .if_icmp .ne 40)], [(34, .aload_n 3), (35, .getfield 72), (38, .iload_n 1), (39, .iaload), (40, .istore 6), (42, .aload_n 0), (43, .getfield 9), (46, .iload 6)], [(48, .invokevirtual 75), (51, .ifCond .eq 17), (54, .aload_n 0), (55, .aload_n 3), (56, .getfield 41), (59, .iload 6), (61, .iaload), (62, .iload 4)], [(64, .iload_n 2), (65, .invokevirtual 79), (68, .goto 46), (71, .aload_n 0), (72, .getfield 9), (75, .aload_n 3), (76, .getfield 21), (79, .iload 5)], [(81, .iaload), (82, .invokevirtual 83), (85, .ifCond .eq 15), (88, .aload_n 0), (89, .iload 5), (91, .iload 4), (93, .iload_n 2), (94, .invokevirtual 86)], [(97, .goto 17), (100, .aload_n 0), (101, .aload_n 3), (102, .getfield 21), (105, .iload 5), (107, .iaload), (108, .iload 4), (110, .iload_n 2), (111, .invokevirtual 79)], [(114, .return_)]]
set_option maxRecDepth 20000 in
theorem iX2_addBacks_ok : mm_dec cX2_addBacks iX2_addBacks = true := by decide +kernel
set_option maxRecDepth 20000 in
theorem wX2_addBacks : mm_MV yX2_addBacks cX2_addBacks 7 none 2 := ⟨by decide, Or.inr ⟨_, rfl, rfl⟩, ⟨by decide +kernel, by decide +kernel⟩, mm_G_in (i := 724) (by decide +kernel) rfl, mm_G_in (i := 16) (by decide +kernel) rfl, mm_G_in (i := 74) (by decide +kernel) rfl, mm_G_in (i := 725) (by decide +kernel) rfl⟩
def vX2_addBacks : mm_L := [(75, 2, some 0, sX0_isStanding), (79, 4, some 2, sX2_addBack), (83, 2, some 0, sX0_isFallen), (86, 4, some 2, sX2_shareBack)]
def zX2_addBacks : mm_L := []
def sX2_addBacks : mm_F := mm_S (mm_gf gLX2) (mm_pf pLX2) (mm_mv vX2_addBacks) (mm_mv zX2_addBacks) (mm_kc kLX2) mm_gs0 mm_rf0 none 7 (mm_ins iX2_addBacks)
set_option maxRecDepth 20000 in
theorem tX2_addBacks (l : Launch) : mm_Ct l yX2_addBacks cX2_addBacks 7 none 4 sX2_addBacks := mm_meth (by decide +kernel) (mm_gf_ok gLX2_ok) (mm_pf_ok pLX2_ok) (mm_mv_ok (L := vX2_addBacks) (List.forall_mem_cons.mpr ⟨mm_LV.mk (i := 726) wX0_isStanding (tX0_isStanding l) (by decide) (by decide +kernel) (by decide +kernel), List.forall_mem_cons.mpr ⟨mm_LV.mk (i := 727) wX2_addBack (tX2_addBack l) (by decide) (by decide +kernel) (by decide +kernel), List.forall_mem_cons.mpr ⟨mm_LV.mk (i := 731) wX0_isFallen (tX0_isFallen l) (by decide) (by decide +kernel) (by decide +kernel), List.forall_mem_cons.mpr ⟨mm_LV.mk (i := 732) wX2_shareBack (tX2_shareBack l) (by decide) (by decide +kernel) (by decide +kernel), fun _ h => absurd h List.not_mem_nil⟩⟩⟩⟩)) (mm_ms_ok (L := zX2_addBacks) (fun _ h => absurd h List.not_mem_nil)) (mm_kc_ok kLX2_ok) mm_gs0_ok mm_rf0_ok (mm_dec_ok iX2_addBacks_ok)
abbrev cX2_payByStanding : ByteArray := prog_4_method_3_code
def yX2_payByStanding : MethodName := ⟨RX2, "payByStanding", "(II)I"⟩
def iX2_payByStanding : List (List (Nat × Instr)) := [[(0, .aload_n 0), (1, .getfield 9), (4, .getfield 15), (7, .getfield 38), (10, .iload_n 1), (11, .iaload), (12, .istore_n 3), (13, .aload_n 0), (14, .aload_n 0), (15, .getfield 9)], [(18, .getfield 15), (21, .getfield 41), (24, .iload_n 1), (25, .iaload), (26, .iload_n 3), (27, .iload_n 2), (28, .aload_n 0), (29, .getfield 9)], [(32, .iload_n 1), (33, .invokevirtual 44), (36, .invokevirtual 31), (39, .ifCond .ne 6), (42, .bipush (-2)), (44, .ireturn), (45, .aload_n 0), (46, .getfield 9)], [(49, .getfield 47), (52, .getfield 51), (55, .iload_n 1), (56, .dup2), (57, .iaload), (58, .iload_n 2), (59, .iadd), (60, .iastore), (61, .aload_n 0), (62, .iload_n 1), (63, .iload_n 2)], [(64, .invokevirtual 56), (67, .aload_n 0), (68, .getfield 9), (71, .iload_n 3), (72, .invokevirtual 35), (75, .ireturn)]]
set_option maxRecDepth 20000 in
theorem iX2_payByStanding_ok : mm_dec cX2_payByStanding iX2_payByStanding = true := by decide +kernel
set_option maxRecDepth 20000 in
theorem wX2_payByStanding : mm_MV yX2_payByStanding cX2_payByStanding 4 (some .int) 2 := ⟨by decide, Or.inr ⟨_, rfl, rfl⟩, ⟨by decide +kernel, by decide +kernel⟩, mm_G_in (i := 714) (by decide +kernel) rfl, mm_G_in (i := 715) (by decide +kernel) rfl, mm_G_in (i := 74) (by decide +kernel) rfl, mm_G_in (i := 716) (by decide +kernel) rfl⟩
def vX2_payByStanding : mm_L := [(44, 2, some 0, sX0_askOfStanding), (31, 5, some 2, sX2_moveCoins), (56, 3, some 2, sX2_addBacks), (35, 2, some 0, sX0_restOf)]
def zX2_payByStanding : mm_L := []
def sX2_payByStanding : mm_F := mm_S (mm_gf gLX2) (mm_pf pLX2) (mm_mv vX2_payByStanding) (mm_mv zX2_payByStanding) (mm_kc kLX2) mm_gs0 mm_rf0 (some .int) 4 (mm_ins iX2_payByStanding)
set_option maxRecDepth 20000 in
theorem tX2_payByStanding (l : Launch) : mm_Ct l yX2_payByStanding cX2_payByStanding 4 (some .int) 5 sX2_payByStanding := mm_meth (by decide +kernel) (mm_gf_ok gLX2_ok) (mm_pf_ok pLX2_ok) (mm_mv_ok (L := vX2_payByStanding) (List.forall_mem_cons.mpr ⟨mm_LV.mk (i := 717) wX0_askOfStanding (tX0_askOfStanding l) (by decide) (by decide +kernel) (by decide +kernel), List.forall_mem_cons.mpr ⟨mm_LV.mk (i := 718) wX2_moveCoins (tX2_moveCoins l) (by decide) (by decide +kernel) (by decide +kernel), List.forall_mem_cons.mpr ⟨mm_LV.mk (i := 722) wX2_addBacks (tX2_addBacks l) (by decide) (by decide +kernel) (by decide +kernel), List.forall_mem_cons.mpr ⟨mm_LV.mk (i := 751) wX0_restOf (tX0_restOf l) (by decide) (by decide +kernel) (by decide +kernel), fun _ h => absurd h List.not_mem_nil⟩⟩⟩⟩)) (mm_ms_ok (L := zX2_payByStanding) (fun _ h => absurd h List.not_mem_nil)) (mm_kc_ok kLX2_ok) mm_gs0_ok mm_rf0_ok (mm_dec_ok iX2_payByStanding_ok)
abbrev cX2_standingWhole : ByteArray := prog_4_method_10_code
def yX2_standingWhole : MethodName := ⟨RX2, "standingWhole", "(I)I"⟩
def iX2_standingWhole : List (List (Nat × Instr)) := [[(0, .iconst 0), (1, .istore_n 2), (2, .iconst 0), (3, .istore_n 3), (4, .iload_n 3), (5, .aload_n 0), (6, .getfield 9), (9, .getfield 15), (12, .getfield 101), (15, .if_icmp .ge 27)], [(18, .aload_n 0), (19, .getfield 9), (22, .iload_n 3), (23, .iload_n 1), (24, .invokevirtual 105), (27, .ifCond .eq 9), (30, .iload_n 2), (31, .iconst 1)], [(32, .iload_n 3), (33, .ishl), (34, .ior), (35, .istore_n 2), (36, .iinc 3 1), (39, .goto (-35)), (42, .iload_n 2), (43, .ireturn)]]
set_option maxRecDepth 20000 in
theorem iX2_standingWhole_ok : mm_dec cX2_standingWhole iX2_standingWhole = true := by decide +kernel
set_option maxRecDepth 20000 in
theorem wX2_standingWhole : mm_MV yX2_standingWhole cX2_standingWhole 4 (some .int) 2 := ⟨by decide, Or.inr ⟨_, rfl, rfl⟩, ⟨by decide +kernel, by decide +kernel⟩, mm_G_in (i := 771) (by decide +kernel) rfl, mm_G_in (i := 20) (by decide +kernel) rfl, mm_G_in (i := 74) (by decide +kernel) rfl, mm_G_in (i := 772) (by decide +kernel) rfl⟩
def vX2_standingWhole : mm_L := [(105, 3, some 0, sX0_standsWhole)]
def zX2_standingWhole : mm_L := []
def sX2_standingWhole : mm_F := mm_S (mm_gf gLX2) (mm_pf pLX2) (mm_mv vX2_standingWhole) (mm_mv zX2_standingWhole) (mm_kc kLX2) mm_gs0 mm_rf0 (some .int) 4 (mm_ins iX2_standingWhole)
set_option maxRecDepth 20000 in
theorem tX2_standingWhole (l : Launch) : mm_Ct l yX2_standingWhole cX2_standingWhole 4 (some .int) 2 sX2_standingWhole := mm_meth (by decide +kernel) (mm_gf_ok gLX2_ok) (mm_pf_ok pLX2_ok) (mm_mv_ok (L := vX2_standingWhole) (List.forall_mem_cons.mpr ⟨mm_LV.mk (i := 740) wX0_standsWhole (tX0_standsWhole l) (by decide) (by decide +kernel) (by decide +kernel), fun _ h => absurd h List.not_mem_nil⟩)) (mm_ms_ok (L := zX2_standingWhole) (fun _ h => absurd h List.not_mem_nil)) (mm_kc_ok kLX2_ok) mm_gs0_ok mm_rf0_ok (mm_dec_ok iX2_standingWhole_ok)
abbrev cX2_letGo : ByteArray := prog_4_method_9_code
def yX2_letGo : MethodName := ⟨RX2, "letGo", "(II)I"⟩
def iX2_letGo : List (List (Nat × Instr)) := [[(0, .aload_n 0), (1, .getfield 9), (4, .getfield 47), (7, .astore_n 3), (8, .aload_n 3), (9, .dup), (10, .getfield 114), (13, .iconst 1), (14, .iload_n 1), (15, .ishl)], [(16, .ior), (17, .putfield 114), (20, .iload_n 2), (21, .ifCond .ne 5), (24, .iconst 0), (25, .ireturn), (26, .aload_n 0), (27, .aload_n 0), (28, .getfield 9), (31, .getfield 15)], [(34, .getfield 38), (37, .iload_n 1), (38, .iaload), (39, .invokevirtual 117), (42, .istore 4), (44, .iload 4), (46, .invokestatic 92)], [(49, .istore 5), (51, .iload_n 2), (52, .iconst 2), (53, .if_icmp .ne 17), (56, .aload_n 3), (57, .dup), (58, .getfield 114), (61, .iload 4), (63, .ior)], [(64, .putfield 114), (67, .iload 5), (69, .ireturn), (70, .aload_n 3), (71, .getfield 120), (74, .iload_n 1), (75, .iaload), (76, .iload 5), (78, .iconst 1), (79, .iadd)], [(80, .idiv), (81, .istore 6), (83, .iconst 0), (84, .istore 7), (86, .iload 7), (88, .bipush 16), (90, .if_icmp .ge 40), (93, .iload 4), (95, .iload 7)], [(97, .invokestatic 97), (100, .ifCond .eq 24), (103, .aload_n 3), (104, .getfield 120), (107, .iload 7), (109, .iconst 0), (110, .aload_n 3), (111, .getfield 120)], [(114, .iload 7), (116, .iaload), (117, .iload 6), (119, .isub), (120, .invokestatic 123), (123, .iastore), (124, .iinc 7 1), (127, .goto (-41))], [(130, .iload 5), (132, .ireturn)]]
set_option maxRecDepth 20000 in
theorem iX2_letGo_ok : mm_dec cX2_letGo iX2_letGo = true := by decide +kernel
set_option maxRecDepth 20000 in
theorem wX2_letGo : mm_MV yX2_letGo cX2_letGo 8 (some .int) 2 := ⟨by decide, Or.inr ⟨_, rfl, rfl⟩, ⟨by decide +kernel, by decide +kernel⟩, mm_G_in (i := 766) (by decide +kernel) rfl, mm_G_in (i := 767) (by decide +kernel) rfl, mm_G_in (i := 74) (by decide +kernel) rfl, mm_G_in (i := 768) (by decide +kernel) rfl⟩
def vX2_letGo : mm_L := [(117, 2, some 2, sX2_standingWhole)]
def zX2_letGo : mm_L := [(92, 1, none, sJ6_bitCount_0f7a4), (97, 2, none, sX11_isIn), (123, 2, none, sJ9_max_7cf53)]
def sX2_letGo : mm_F := mm_S (mm_gf gLX2) (mm_pf pLX2) (mm_mv vX2_letGo) (mm_mv zX2_letGo) (mm_kc kLX2) mm_gs0 mm_rf0 (some .int) 8 (mm_ins iX2_letGo)
set_option maxRecDepth 20000 in
theorem tX2_letGo (l : Launch) : mm_Ct l yX2_letGo cX2_letGo 8 (some .int) 3 sX2_letGo := mm_meth (by decide +kernel) (mm_gf_ok gLX2_ok) (mm_pf_ok pLX2_ok) (mm_mv_ok (L := vX2_letGo) (List.forall_mem_cons.mpr ⟨mm_LV.mk (i := 769) wX2_standingWhole (tX2_standingWhole l) (by decide) (by decide +kernel) (by decide +kernel), fun _ h => absurd h List.not_mem_nil⟩)) (mm_ms_ok (L := zX2_letGo) (List.forall_mem_cons.mpr ⟨⟨rfl, Or.inl (mm_LS.mk (i := 744) wJ6_bitCount_0f7a4 (tJ6_bitCount_0f7a4 l) (by decide) (by decide +kernel) (by decide +kernel))⟩, List.forall_mem_cons.mpr ⟨⟨rfl, Or.inl (mm_LS.nest wX11_isIn (tX11_isIn l) (by decide) (by decide +kernel) rfl (by decide +kernel))⟩, List.forall_mem_cons.mpr ⟨⟨rfl, Or.inl (mm_LS.mk (i := 773) wJ9_max_7cf53 (tJ9_max_7cf53 l) (by decide) (by decide +kernel) (by decide +kernel))⟩, fun _ h => absurd h List.not_mem_nil⟩⟩⟩)) (mm_kc_ok kLX2_ok) mm_gs0_ok mm_rf0_ok (mm_dec_ok iX2_letGo_ok)
abbrev cX3_oneAhead : ByteArray := prog_5_method_3_code
def yX3_oneAhead : MethodName := ⟨RX3, "oneAhead", "(I)I"⟩
def iX3_oneAhead : List (List (Nat × Instr)) := [[(0, .aload_n 0), (1, .getfield 9), (4, .getfield 15), (7, .astore_n 2), (8, .aload_n 2), (9, .getfield 55), (12, .iload_n 1), (13, .iaload), (14, .iconst 3), (15, .if_icmp .ne 31)], [(18, .aload_n 0), (19, .getfield 9), (22, .aload_n 2), (23, .getfield 58), (26, .iload_n 1), (27, .iaload), (28, .invokevirtual 61), (31, .ifCond .eq 15)], [(34, .aload_n 2), (35, .getfield 38), (38, .aload_n 2), (39, .getfield 58), (42, .iload_n 1), (43, .iaload), (44, .iaload), (45, .ireturn), (46, .aload_n 2), (47, .getfield 27)], [(50, .aload_n 2), (51, .getfield 64), (54, .iload_n 1), (55, .iaload), (56, .iaload), (57, .ireturn)]]
set_option maxRecDepth 20000 in
theorem iX3_oneAhead_ok : mm_dec cX3_oneAhead iX3_oneAhead = true := by decide +kernel
set_option maxRecDepth 20000 in
theorem wX3_oneAhead : mm_MV yX3_oneAhead cX3_oneAhead 3 (some .int) 3 := ⟨by decide, Or.inr ⟨_, rfl, rfl⟩, ⟨by decide +kernel, by decide +kernel⟩, mm_G_in (i := 791) (by decide +kernel) rfl, mm_G_in (i := 21) (by decide +kernel) rfl, mm_G_in (i := 75) (by decide +kernel) rfl, mm_G_in (i := 792) (by decide +kernel) rfl⟩
def vX3_oneAhead : mm_L := [(61, 2, some 0, sX0_isStanding)]
def zX3_oneAhead : mm_L := []
def sX3_oneAhead : mm_F := mm_S (mm_gf gLX3) (mm_pf pLX3) (mm_mv vX3_oneAhead) (mm_mv zX3_oneAhead) (mm_kc kLX3) mm_gs0 mm_rf0 (some .int) 3 (mm_ins iX3_oneAhead)
set_option maxRecDepth 20000 in
theorem tX3_oneAhead (l : Launch) : mm_Ct l yX3_oneAhead cX3_oneAhead 3 (some .int) 1 sX3_oneAhead := mm_meth (by decide +kernel) (mm_gf_ok gLX3_ok) (mm_pf_ok pLX3_ok) (mm_mv_ok (L := vX3_oneAhead) (List.forall_mem_cons.mpr ⟨mm_LV.mk (i := 793) wX0_isStanding (tX0_isStanding l) (by decide) (by decide +kernel) (by decide +kernel), fun _ h => absurd h List.not_mem_nil⟩)) (mm_ms_ok (L := zX3_oneAhead) (fun _ h => absurd h List.not_mem_nil)) (mm_kc_ok kLX3_ok) mm_gs0_ok mm_rf0_ok (mm_dec_ok iX3_oneAhead_ok)
abbrev cX3_burdenOf : ByteArray := prog_5_method_2_code
def yX3_burdenOf : MethodName := ⟨RX3, "burdenOf", "(II)I"⟩
def iX3_burdenOf : List (List (Nat × Instr)) := [[(0, .aload_n 0), (1, .getfield 9), (4, .getfield 15), (7, .astore_n 3), (8, .iconst 0), (9, .istore 4), (11, .iconst 0), (12, .istore 5), (14, .iload 5)], [(16, .aload_n 3), (17, .getfield 21), (20, .if_icmp .ge 34), (23, .aload_n 3), (24, .getfield 27), (27, .iload 5), (29, .iaload), (30, .iload_n 1), (31, .if_icmp .ne 17)], [(34, .iload 4), (36, .aload_n 0), (37, .getfield 9), (40, .iload 5), (42, .invokevirtual 31), (45, .iadd), (46, .istore 4)], [(48, .iinc 5 1), (51, .goto (-37)), (54, .iconst 0), (55, .istore 5), (57, .iload 5), (59, .aload_n 3), (60, .getfield 35), (63, .if_icmp .ge 59)], [(66, .aload_n 3), (67, .getfield 38), (70, .iload 5), (72, .iaload), (73, .iload_n 1), (74, .if_icmp .ne 42), (77, .aload_n 0), (78, .getfield 9)], [(81, .iload 5), (83, .invokevirtual 41), (86, .ifCond .ne 30), (89, .iload_n 2), (90, .aload_n 0), (91, .iload 5), (93, .invokevirtual 45)], [(96, .invokestatic 48), (99, .ifCond .eq 17), (102, .iload 4), (104, .aload_n 0), (105, .getfield 9), (108, .iload 5), (110, .invokevirtual 52)], [(113, .iadd), (114, .istore 4), (116, .iinc 5 1), (119, .goto (-62)), (122, .iload 4), (124, .ireturn)]]
set_option maxRecDepth 20000 in
theorem iX3_burdenOf_ok : mm_dec cX3_burdenOf iX3_burdenOf = true := by decide +kernel
set_option maxRecDepth 20000 in
theorem wX3_burdenOf : mm_MV yX3_burdenOf cX3_burdenOf 6 (some .int) 3 := ⟨by decide, Or.inr ⟨_, rfl, rfl⟩, ⟨by decide +kernel, by decide +kernel⟩, mm_G_in (i := 784) (by decide +kernel) rfl, mm_G_in (i := 785) (by decide +kernel) rfl, mm_G_in (i := 75) (by decide +kernel) rfl, mm_G_in (i := 786) (by decide +kernel) rfl⟩
def vX3_burdenOf : mm_L := [(31, 2, some 0, sX0_restOf), (41, 2, some 0, sX0_isReleased), (45, 2, some 3, sX3_oneAhead), (52, 2, some 0, sX0_lesserOfLeftAndRest)]
def zX3_burdenOf : mm_L := [(48, 2, none, sX11_isIn)]
def sX3_burdenOf : mm_F := mm_S (mm_gf gLX3) (mm_pf pLX3) (mm_mv vX3_burdenOf) (mm_mv zX3_burdenOf) (mm_kc kLX3) mm_gs0 mm_rf0 (some .int) 6 (mm_ins iX3_burdenOf)
set_option maxRecDepth 20000 in
theorem tX3_burdenOf (l : Launch) : mm_Ct l yX3_burdenOf cX3_burdenOf 6 (some .int) 3 sX3_burdenOf := mm_meth (by decide +kernel) (mm_gf_ok gLX3_ok) (mm_pf_ok pLX3_ok) (mm_mv_ok (L := vX3_burdenOf) (List.forall_mem_cons.mpr ⟨mm_LV.mk (i := 787) wX0_restOf (tX0_restOf l) (by decide) (by decide +kernel) (by decide +kernel), List.forall_mem_cons.mpr ⟨mm_LV.mk (i := 788) wX0_isReleased (tX0_isReleased l) (by decide) (by decide +kernel) (by decide +kernel), List.forall_mem_cons.mpr ⟨mm_LV.mk (i := 789) wX3_oneAhead (tX3_oneAhead l) (by decide) (by decide +kernel) (by decide +kernel), List.forall_mem_cons.mpr ⟨mm_LV.mk (i := 795) wX0_lesserOfLeftAndRest (tX0_lesserOfLeftAndRest l) (by decide) (by decide +kernel) (by decide +kernel), fun _ h => absurd h List.not_mem_nil⟩⟩⟩⟩)) (mm_ms_ok (L := zX3_burdenOf) (List.forall_mem_cons.mpr ⟨⟨rfl, Or.inl (mm_LS.nest wX11_isIn (tX11_isIn l) (by decide) (by decide +kernel) rfl (by decide +kernel))⟩, fun _ h => absurd h List.not_mem_nil⟩)) (mm_kc_ok kLX3_ok) mm_gs0_ok mm_rf0_ok (mm_dec_ok iX3_burdenOf_ok)
