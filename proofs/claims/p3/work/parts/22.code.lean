abbrev cX12_coins : ByteArray := prog_14_method_62_code
def yX12_coins : MethodName := ⟨RX12, "coins", "()I"⟩
def iX12_coins : List (List (Nat × Instr)) := [[(0, .iconst 0), (1, .istore_n 1), (2, .iconst 0), (3, .istore_n 2), (4, .iload_n 2), (5, .bipush 8), (7, .if_icmp .ge 21), (10, .iload_n 1), (11, .aload_n 0), (12, .getfield 7), (15, .bipush 122)], [(17, .iload_n 2), (18, .iadd), (19, .iaload), (20, .iadd), (21, .istore_n 1), (22, .iinc 2 1), (25, .goto (-21)), (28, .iload_n 1), (29, .ireturn)]]
set_option maxRecDepth 20000 in
theorem iX12_coins_ok : mm_dec cX12_coins iX12_coins = true := by decide +kernel
set_option maxRecDepth 20000 in
theorem wX12_coins : mm_MV yX12_coins cX12_coins 3 (some .int) 12 := ⟨by decide, Or.inr ⟨_, rfl, rfl⟩, ⟨by decide +kernel, by decide +kernel⟩, mm_G_in (i := 1328) (by decide +kernel) rfl, mm_G_in (i := 66) (by decide +kernel) rfl, mm_G_in (i := 80) (by decide +kernel) rfl, mm_G_in (i := 1329) (by decide +kernel) rfl⟩
def vX12_coins : mm_L := []
def zX12_coins : mm_L := []
def sX12_coins : mm_F := mm_S (mm_gf gLX12) (mm_pf pLX12) (mm_mv vX12_coins) (mm_mv zX12_coins) (mm_kc kLX12) mm_gs0 mm_rf0 (some .int) 3 (mm_ins iX12_coins)
set_option maxRecDepth 20000 in
theorem tX12_coins (l : Launch) : mm_Ct l yX12_coins cX12_coins 3 (some .int) 0 sX12_coins := mm_meth (by decide +kernel) (mm_gf_ok gLX12_ok) (mm_pf_ok pLX12_ok) (mm_mv_ok (L := vX12_coins) (fun _ h => absurd h List.not_mem_nil)) (mm_ms_ok (L := zX12_coins) (fun _ h => absurd h List.not_mem_nil)) (mm_kc_ok kLX12_ok) mm_gs0_ok mm_rf0_ok (mm_dec_ok iX12_coins_ok)
abbrev cX12_keep : ByteArray := prog_14_method_63_code
def yX12_keep : MethodName := ⟨RX12, "keep", "(I)I"⟩
def iX12_keep : List (List (Nat × Instr)) := [[(0, .aload_n 0), (1, .iconst 0), (2, .putfield 41), (5, .iload_n 1), (6, .iconst 0), (7, .iconst 1), (8, .invokestatic 45), (11, .ifCond .ne 5), (14, .iconst (-1)), (15, .ireturn)], [(16, .iconst 0), (17, .istore_n 2), (18, .iload_n 2), (19, .sipush 131), (22, .if_icmp .ge 27), (25, .aload_n 0), (26, .getfield 13), (29, .sipush 131)], [(32, .iload_n 1), (33, .imul), (34, .iload_n 2), (35, .iadd), (36, .aload_n 0), (37, .getfield 7), (40, .iload_n 2), (41, .iaload), (42, .iastore), (43, .iinc 2 1), (46, .goto (-28))], [(49, .aload_n 0), (50, .getfield 16), (53, .iload_n 1), (54, .iconst 1), (55, .bastore), (56, .aload_n 0), (57, .invokevirtual 229), (60, .ireturn)]]
set_option maxRecDepth 20000 in
theorem iX12_keep_ok : mm_dec cX12_keep iX12_keep = true := by decide +kernel
set_option maxRecDepth 20000 in
theorem wX12_keep : mm_MV yX12_keep cX12_keep 3 (some .int) 12 := ⟨by decide, Or.inr ⟨_, rfl, rfl⟩, ⟨by decide +kernel, by decide +kernel⟩, mm_G_in (i := 1323) (by decide +kernel) rfl, mm_G_in (i := 1324) (by decide +kernel) rfl, mm_G_in (i := 80) (by decide +kernel) rfl, mm_G_in (i := 1325) (by decide +kernel) rfl⟩
def vX12_keep : mm_L := [(229, 1, some 12, sX12_coins)]
def zX12_keep : mm_L := [(45, 3, none, sX12_in)]
def sX12_keep : mm_F := mm_S (mm_gf gLX12) (mm_pf pLX12) (mm_mv vX12_keep) (mm_mv zX12_keep) (mm_kc kLX12) mm_gs0 mm_rf0 (some .int) 3 (mm_ins iX12_keep)
set_option maxRecDepth 20000 in
theorem tX12_keep (l : Launch) : mm_Ct l yX12_keep cX12_keep 3 (some .int) 1 sX12_keep := mm_meth (by decide +kernel) (mm_gf_ok gLX12_ok) (mm_pf_ok pLX12_ok) (mm_mv_ok (L := vX12_keep) (List.forall_mem_cons.mpr ⟨mm_LV.mk (i := 1326) wX12_coins (tX12_coins l) (by decide) (by decide +kernel) (by decide +kernel), fun _ h => absurd h List.not_mem_nil⟩)) (mm_ms_ok (L := zX12_keep) (List.forall_mem_cons.mpr ⟨⟨rfl, Or.inl (mm_LS.mk (i := 1088) wX12_in (tX12_in l) (by decide) (by decide +kernel) (by decide +kernel))⟩, fun _ h => absurd h List.not_mem_nil⟩)) (mm_kc_ok kLX12_ok) mm_gs0_ok mm_rf0_ok (mm_dec_ok iX12_keep_ok)
abbrev cX12_restore : ByteArray := prog_14_method_64_code
def yX12_restore : MethodName := ⟨RX12, "restore", "(I)I"⟩
def iX12_restore : List (List (Nat × Instr)) := [[(0, .aload_n 0), (1, .iconst 0), (2, .putfield 41), (5, .iload_n 1), (6, .iconst 0), (7, .iconst 1), (8, .invokestatic 45), (11, .ifCond .ne 5), (14, .iconst (-1)), (15, .ireturn)], [(16, .aload_n 0), (17, .getfield 16), (20, .iload_n 1), (21, .baload), (22, .ifCond .ne 6), (25, .bipush (-2)), (27, .ireturn), (28, .iconst 0), (29, .istore_n 2), (30, .iload_n 2), (31, .sipush 131)], [(34, .if_icmp .ge 27), (37, .aload_n 0), (38, .getfield 7), (41, .iload_n 2), (42, .aload_n 0), (43, .getfield 13), (46, .sipush 131)], [(49, .iload_n 1), (50, .imul), (51, .iload_n 2), (52, .iadd), (53, .iaload), (54, .iastore), (55, .iinc 2 1), (58, .goto (-28)), (61, .aload_n 0), (62, .invokevirtual 229)], [(65, .ireturn)]]
set_option maxRecDepth 20000 in
theorem iX12_restore_ok : mm_dec cX12_restore iX12_restore = true := by decide +kernel
set_option maxRecDepth 20000 in
theorem wX12_restore : mm_MV yX12_restore cX12_restore 3 (some .int) 12 := ⟨by decide, Or.inr ⟨_, rfl, rfl⟩, ⟨by decide +kernel, by decide +kernel⟩, mm_G_in (i := 1331) (by decide +kernel) rfl, mm_G_in (i := 1332) (by decide +kernel) rfl, mm_G_in (i := 80) (by decide +kernel) rfl, mm_G_in (i := 1333) (by decide +kernel) rfl⟩
def vX12_restore : mm_L := [(229, 1, some 12, sX12_coins)]
def zX12_restore : mm_L := [(45, 3, none, sX12_in)]
def sX12_restore : mm_F := mm_S (mm_gf gLX12) (mm_pf pLX12) (mm_mv vX12_restore) (mm_mv zX12_restore) (mm_kc kLX12) mm_gs0 mm_rf0 (some .int) 3 (mm_ins iX12_restore)
set_option maxRecDepth 20000 in
theorem tX12_restore (l : Launch) : mm_Ct l yX12_restore cX12_restore 3 (some .int) 1 sX12_restore := mm_meth (by decide +kernel) (mm_gf_ok gLX12_ok) (mm_pf_ok pLX12_ok) (mm_mv_ok (L := vX12_restore) (List.forall_mem_cons.mpr ⟨mm_LV.mk (i := 1326) wX12_coins (tX12_coins l) (by decide) (by decide +kernel) (by decide +kernel), fun _ h => absurd h List.not_mem_nil⟩)) (mm_ms_ok (L := zX12_restore) (List.forall_mem_cons.mpr ⟨⟨rfl, Or.inl (mm_LS.mk (i := 1088) wX12_in (tX12_in l) (by decide) (by decide +kernel) (by decide +kernel))⟩, fun _ h => absurd h List.not_mem_nil⟩)) (mm_kc_ok kLX12_ok) mm_gs0_ok mm_rf0_ok (mm_dec_ok iX12_restore_ok)
abbrev cX12_count : ByteArray := prog_14_method_65_code
def yX12_count : MethodName := ⟨RX12, "count", "(I)I"⟩
def iX12_count : List (List (Nat × Instr)) := [[(0, .aload_n 0), (1, .iconst 0), (2, .putfield 41), (5, .iconst 0), (6, .istore_n 2), (7, .iconst 0), (8, .istore_n 3), (9, .iconst 0), (10, .istore 4), (12, .iload 4), (14, .aload_n 0), (15, .getfield 52)], [(18, .if_icmp .ge 22), (21, .iload_n 2), (22, .aload_n 0), (23, .getfield 7), (26, .bipush 42), (28, .iload 4), (30, .iadd), (31, .iaload)], [(32, .iadd), (33, .istore_n 2), (34, .iinc 4 1), (37, .goto (-25)), (40, .iconst 0), (41, .istore 4), (43, .iload 4), (45, .aload_n 0), (46, .getfield 49)], [(49, .if_icmp .ge 18), (52, .iload_n 3), (53, .aload_n 0), (54, .iload 4), (56, .invokevirtual 130), (59, .iadd), (60, .istore_n 3), (61, .iinc 4 1)], [(64, .goto (-21)), (67, .iload_n 1), (68, .ifCond .ne 10), (71, .aload_n 0), (72, .getfield 49), (75, .goto 65), (78, .iload_n 1), (79, .iconst 1)], [(80, .if_icmp .ne 10), (83, .aload_n 0), (84, .getfield 52), (87, .goto 53), (90, .iload_n 1), (91, .iconst 2), (92, .if_icmp .ne 7), (95, .iload_n 2)], [(96, .goto 44), (99, .iload_n 1), (100, .iconst 3), (101, .if_icmp .ne 17), (104, .aload_n 0), (105, .getfield 7), (108, .sipush 130), (111, .iaload)], [(112, .invokestatic 175), (115, .goto 25), (118, .iload_n 1), (119, .iconst 4), (120, .if_icmp .ne 10), (123, .aload_n 0), (124, .getfield 55), (127, .goto 13)], [(130, .iload_n 1), (131, .iconst 5), (132, .if_icmp .ne 7), (135, .iload_n 3), (136, .goto 4), (139, .iconst (-1)), (140, .ireturn)]]
set_option maxRecDepth 20000 in
theorem iX12_count_ok : mm_dec cX12_count iX12_count = true := by decide +kernel
set_option maxRecDepth 20000 in
theorem wX12_count : mm_MV yX12_count cX12_count 5 (some .int) 12 := ⟨by decide, Or.inr ⟨_, rfl, rfl⟩, ⟨by decide +kernel, by decide +kernel⟩, mm_G_in (i := 1335) (by decide +kernel) rfl, mm_G_in (i := 1336) (by decide +kernel) rfl, mm_G_in (i := 80) (by decide +kernel) rfl, mm_G_in (i := 1337) (by decide +kernel) rfl⟩
def vX12_count : mm_L := [(130, 2, some 12, sX12_rest)]
def zX12_count : mm_L := [(175, 1, none, sX12_ones)]
def sX12_count : mm_F := mm_S (mm_gf gLX12) (mm_pf pLX12) (mm_mv vX12_count) (mm_mv zX12_count) (mm_kc kLX12) mm_gs0 mm_rf0 (some .int) 5 (mm_ins iX12_count)
set_option maxRecDepth 20000 in
theorem tX12_count (l : Launch) : mm_Ct l yX12_count cX12_count 5 (some .int) 1 sX12_count := mm_meth (by decide +kernel) (mm_gf_ok gLX12_ok) (mm_pf_ok pLX12_ok) (mm_mv_ok (L := vX12_count) (List.forall_mem_cons.mpr ⟨mm_LV.mk (i := 1153) wX12_rest (tX12_rest l) (by decide) (by decide +kernel) (by decide +kernel), fun _ h => absurd h List.not_mem_nil⟩)) (mm_ms_ok (L := zX12_count) (List.forall_mem_cons.mpr ⟨⟨rfl, Or.inl (mm_LS.mk (i := 1248) wX12_ones (tX12_ones l) (by decide) (by decide +kernel) (by decide +kernel))⟩, fun _ h => absurd h List.not_mem_nil⟩)) (mm_kc_ok kLX12_ok) mm_gs0_ok mm_rf0_ok (mm_dec_ok iX12_count_ok)
abbrev cX12_trace : ByteArray := prog_14_method_66_code
def yX12_trace : MethodName := ⟨RX12, "trace", "()J"⟩
def iX12_trace : List (List (Nat × Instr)) := [[(0, .aload_n 0), (1, .iconst 0), (2, .putfield 41), (5, .aload_n 0), (6, .getfield 213), (9, .lreturn)]]
set_option maxRecDepth 20000 in
theorem iX12_trace_ok : mm_dec cX12_trace iX12_trace = true := by decide +kernel
set_option maxRecDepth 20000 in
theorem wX12_trace : mm_MV yX12_trace cX12_trace 1 (some .long) 12 := ⟨by decide, Or.inr ⟨_, rfl, rfl⟩, ⟨by decide +kernel, by decide +kernel⟩, mm_G_in (i := 1339) (by decide +kernel) rfl, mm_G_in (i := 1340) (by decide +kernel) rfl, mm_G_in (i := 80) (by decide +kernel) rfl, mm_G_in (i := 1341) (by decide +kernel) rfl⟩
def vX12_trace : mm_L := []
def zX12_trace : mm_L := []
def sX12_trace : mm_F := mm_S (mm_gf gLX12) (mm_pf pLX12) (mm_mv vX12_trace) (mm_mv zX12_trace) (mm_kc kLX12) mm_gs0 mm_rf0 (some .long) 1 (mm_ins iX12_trace)
set_option maxRecDepth 20000 in
theorem tX12_trace (l : Launch) : mm_Ct l yX12_trace cX12_trace 1 (some .long) 0 sX12_trace := mm_meth (by decide +kernel) (mm_gf_ok gLX12_ok) (mm_pf_ok pLX12_ok) (mm_mv_ok (L := vX12_trace) (fun _ h => absurd h List.not_mem_nil)) (mm_ms_ok (L := zX12_trace) (fun _ h => absurd h List.not_mem_nil)) (mm_kc_ok kLX12_ok) mm_gs0_ok mm_rf0_ok (mm_dec_ok iX12_trace_ok)
abbrev cJ3_checkIndex_8e157 : ByteArray := prog_22_method_11_code
def yJ3_checkIndex_8e157 : MethodName := ⟨RJ3, "checkIndex", "(IILjava/util/function/BiFunction;)I"⟩
def iJ3_checkIndex_8e157 : List (List (Nat × Instr)) := [[(0, .iload_n 0), (1, .ifCond .lt 8), (4, .iload_n 0), (5, .iload_n 1), (6, .if_icmp .lt 10), (9, .aload_n 2), (10, .iload_n 0), (11, .iload_n 1), (12, .invokestatic 95), (15, .athrow)], [(16, .iload_n 0), (17, .ireturn)]]
set_option maxRecDepth 20000 in
theorem iJ3_checkIndex_8e157_ok : mm_dec cJ3_checkIndex_8e157 iJ3_checkIndex_8e157 = true := by decide +kernel
set_option maxRecDepth 20000 in
theorem wJ3_checkIndex_8e157 : mm_MS yJ3_checkIndex_8e157 cJ3_checkIndex_8e157 3 (some .int) := ⟨by decide, ⟨by decide +kernel, by decide +kernel⟩, mm_G_in (i := 523) (by decide +kernel) rfl, mm_G_in (i := 83) (by decide +kernel) rfl, mm_G_in (i := 524) (by decide +kernel) rfl⟩
def vJ3_checkIndex_8e157 : mm_L := []
def zJ3_checkIndex_8e157 : mm_L := []
def sJ3_checkIndex_8e157 : mm_F := mm_S (mm_gf gLJ3) (mm_pf pLJ3) (mm_mv vJ3_checkIndex_8e157) (mm_mv zJ3_checkIndex_8e157) (mm_kc kLJ3) mm_gs0 mm_rf0 (some .int) 3 (mm_ins iJ3_checkIndex_8e157)
set_option maxRecDepth 20000 in
theorem tJ3_checkIndex_8e157 (l : Launch) : mm_Ct l yJ3_checkIndex_8e157 cJ3_checkIndex_8e157 3 (some .int) 0 sJ3_checkIndex_8e157 := mm_meth (by decide +kernel) (mm_gf_ok gLJ3_ok) (mm_pf_ok pLJ3_ok) (mm_mv_ok (L := vJ3_checkIndex_8e157) (fun _ h => absurd h List.not_mem_nil)) (mm_ms_ok (L := zJ3_checkIndex_8e157) (fun _ h => absurd h List.not_mem_nil)) (mm_kc_ok kLJ3_ok) mm_gs0_ok mm_rf0_ok (mm_dec_ok iJ3_checkIndex_8e157_ok)
