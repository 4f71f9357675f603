abbrev cX9_findMeans : ByteArray := prog_11_method_6_code
def yX9_findMeans : MethodName := ⟨RX9, "findMeans", "(I)V"⟩
def iX9_findMeans : List (List (Nat × Instr)) := [[(0, .aload_n 0), (1, .getfield 24), (4, .getfield 67), (7, .astore_n 2), (8, .aload_n 0), (9, .getfield 24), (12, .getfield 112), (15, .getfield 116)], [(18, .iconst 0), (19, .aload_n 0), (20, .getfield 21), (23, .iconst 0), (24, .bipush 8), (26, .invokestatic 121), (29, .iconst 0), (30, .istore_n 3), (31, .iload_n 3)], [(32, .aload_n 2), (33, .getfield 77), (36, .if_icmp .ge 31), (39, .aload_n 0), (40, .getfield 21), (43, .aload_n 2), (44, .getfield 127), (47, .iload_n 3)], [(48, .iaload), (49, .dup2), (50, .iaload), (51, .aload_n 0), (52, .getfield 11), (55, .iload_n 1), (56, .iload_n 3), (57, .iadd), (58, .iaload), (59, .iadd), (60, .iastore), (61, .iinc 3 1)], [(64, .goto (-33)), (67, .iconst 0), (68, .istore_n 3), (69, .iload_n 3), (70, .aload_n 2), (71, .getfield 85), (74, .if_icmp .ge 39), (77, .aload_n 0), (78, .getfield 21)], [(81, .aload_n 2), (82, .getfield 127), (85, .aload_n 2), (86, .getfield 94), (89, .iload_n 3), (90, .iaload), (91, .iaload), (92, .dup2), (93, .iaload), (94, .aload_n 0), (95, .getfield 11)], [(98, .iload_n 1), (99, .bipush 10), (101, .iadd), (102, .iload_n 3), (103, .iadd), (104, .iaload), (105, .iadd), (106, .iastore), (107, .iinc 3 1), (110, .goto (-41))], [(113, .return_)]]
set_option maxRecDepth 20000 in
theorem iX9_findMeans_ok : mm_dec cX9_findMeans iX9_findMeans = true := by decide +kernel
set_option maxRecDepth 20000 in
theorem wX9_findMeans : mm_MV yX9_findMeans cX9_findMeans 4 none 9 := ⟨by decide, Or.inr ⟨_, rfl, rfl⟩, ⟨by decide +kernel, by decide +kernel⟩, mm_G_in (i := 859) (by decide +kernel) rfl, mm_G_in (i := 25) (by decide +kernel) rfl, mm_G_in (i := 76) (by decide +kernel) rfl, mm_G_in (i := 860) (by decide +kernel) rfl⟩
def vX9_findMeans : mm_L := []
def zX9_findMeans : mm_L := [(121, 5, none, mm_acp)]
def sX9_findMeans : mm_F := mm_S (mm_gf gLX9) (mm_pf pLX9) (mm_mv vX9_findMeans) (mm_mv zX9_findMeans) (mm_kc kLX9) mm_gs0 mm_rf0 none 4 (mm_ins iX9_findMeans)
set_option maxRecDepth 20000 in
theorem tX9_findMeans (l : Launch) : mm_Ct l yX9_findMeans cX9_findMeans 4 none 1 sX9_findMeans := mm_meth (by decide +kernel) (mm_gf_ok gLX9_ok) (mm_pf_ok pLX9_ok) (mm_mv_ok (L := vX9_findMeans) (fun _ h => absurd h List.not_mem_nil)) (mm_ms_ok (L := zX9_findMeans) (List.forall_mem_cons.mpr ⟨⟨rfl, Or.inr (mm_LA.mk (i := 861) (by decide) (by decide +kernel))⟩, fun _ h => absurd h List.not_mem_nil⟩)) (mm_kc_ok kLX9_ok) mm_gs0_ok mm_rf0_ok (mm_dec_ok iX9_findMeans_ok)
abbrev cX9_paymentOf : ByteArray := prog_11_method_7_code
def yX9_paymentOf : MethodName := ⟨RX9, "paymentOf", "(I)I"⟩
def iX9_paymentOf : List (List (Nat × Instr)) := [[(0, .iload_n 1), (1, .bipush 10), (3, .if_icmp .ge 18), (6, .aload_n 0), (7, .getfield 24), (10, .getfield 67), (13, .getfield 82)], [(16, .iload_n 1), (17, .iaload), (18, .goto 18), (21, .aload_n 0), (22, .getfield 24), (25, .getfield 67), (28, .getfield 109), (31, .iload_n 1)], [(32, .bipush 10), (34, .isub), (35, .iaload), (36, .istore_n 2), (37, .aload_n 0), (38, .getfield 21), (41, .iload_n 2), (42, .iaload), (43, .aload_n 0), (44, .getfield 18), (47, .iload_n 2)], [(48, .iaload), (49, .if_icmp .ge 12), (52, .aload_n 0), (53, .getfield 18), (56, .iload_n 2), (57, .iaload), (58, .ifCond .gt 10), (61, .aload_n 0), (62, .getfield 15)], [(65, .iload_n 1), (66, .iaload), (67, .ireturn), (68, .aload_n 0), (69, .getfield 15), (72, .iload_n 1), (73, .iaload), (74, .aload_n 0), (75, .getfield 21), (78, .iload_n 2), (79, .iaload)], [(80, .imul), (81, .aload_n 0), (82, .getfield 18), (85, .iload_n 2), (86, .iaload), (87, .idiv), (88, .ireturn)]]
set_option maxRecDepth 20000 in
theorem iX9_paymentOf_ok : mm_dec cX9_paymentOf iX9_paymentOf = true := by decide +kernel
set_option maxRecDepth 20000 in
theorem wX9_paymentOf : mm_MV yX9_paymentOf cX9_paymentOf 3 (some .int) 9 := ⟨by decide, Or.inr ⟨_, rfl, rfl⟩, ⟨by decide +kernel, by decide +kernel⟩, mm_G_in (i := 864) (by decide +kernel) rfl, mm_G_in (i := 26) (by decide +kernel) rfl, mm_G_in (i := 76) (by decide +kernel) rfl, mm_G_in (i := 865) (by decide +kernel) rfl⟩
def vX9_paymentOf : mm_L := []
def zX9_paymentOf : mm_L := []
def sX9_paymentOf : mm_F := mm_S (mm_gf gLX9) (mm_pf pLX9) (mm_mv vX9_paymentOf) (mm_mv zX9_paymentOf) (mm_kc kLX9) mm_gs0 mm_rf0 (some .int) 3 (mm_ins iX9_paymentOf)
set_option maxRecDepth 20000 in
theorem tX9_paymentOf (l : Launch) : mm_Ct l yX9_paymentOf cX9_paymentOf 3 (some .int) 0 sX9_paymentOf := mm_meth (by decide +kernel) (mm_gf_ok gLX9_ok) (mm_pf_ok pLX9_ok) (mm_mv_ok (L := vX9_paymentOf) (fun _ h => absurd h List.not_mem_nil)) (mm_ms_ok (L := zX9_paymentOf) (fun _ h => absurd h List.not_mem_nil)) (mm_kc_ok kLX9_ok) mm_gs0_ok mm_rf0_ok (mm_dec_ok iX9_paymentOf_ok)
abbrev cX9_payRound : ByteArray := prog_11_method_4_code
def yX9_payRound : MethodName := ⟨RX9, "payRound", "(I)V"⟩
def iX9_payRound : List (List (Nat × Instr)) := [[(0, .iload_n 1), (1, .iconst 1), (2, .isub), (3, .bipush 26), (5, .imul), (6, .istore_n 2), (7, .iload_n 1), (8, .bipush 26), (10, .imul), (11, .istore_n 3), (12, .aload_n 0), (13, .iload_n 2), (14, .invokevirtual 58)], [(17, .aload_n 0), (18, .iload_n 2), (19, .invokevirtual 61), (22, .iconst 0), (23, .istore 4), (25, .iload 4), (27, .bipush 26), (29, .if_icmp .ge 38)], [(32, .aload_n 0), (33, .getfield 11), (36, .iload_n 3), (37, .iload 4), (39, .iadd), (40, .aload_n 0), (41, .getfield 15), (44, .iload 4), (46, .iaload), (47, .ifCond .ne 7)], [(50, .iconst 0), (51, .goto 9), (54, .aload_n 0), (55, .iload 4), (57, .invokevirtual 64), (60, .iastore), (61, .iinc 4 1)], [(64, .goto (-39)), (67, .return_)]]
set_option maxRecDepth 20000 in
theorem iX9_payRound_ok : mm_dec cX9_payRound iX9_payRound = true := by decide +kernel
set_option maxRecDepth 20000 in
theorem wX9_payRound : mm_MV yX9_payRound cX9_payRound 5 none 9 := ⟨by decide, Or.inr ⟨_, rfl, rfl⟩, ⟨by decide +kernel, by decide +kernel⟩, mm_G_in (i := 846) (by decide +kernel) rfl, mm_G_in (i := 23) (by decide +kernel) rfl, mm_G_in (i := 76) (by decide +kernel) rfl, mm_G_in (i := 847) (by decide +kernel) rfl⟩
def vX9_payRound : mm_L := [(58, 2, some 9, sX9_findDues), (61, 2, some 9, sX9_findMeans), (64, 2, some 9, sX9_paymentOf)]
def zX9_payRound : mm_L := []
def sX9_payRound : mm_F := mm_S (mm_gf gLX9) (mm_pf pLX9) (mm_mv vX9_payRound) (mm_mv zX9_payRound) (mm_kc kLX9) mm_gs0 mm_rf0 none 5 (mm_ins iX9_payRound)
set_option maxRecDepth 20000 in
theorem tX9_payRound (l : Launch) : mm_Ct l yX9_payRound cX9_payRound 5 none 3 sX9_payRound := mm_meth (by decide +kernel) (mm_gf_ok gLX9_ok) (mm_pf_ok pLX9_ok) (mm_mv_ok (L := vX9_payRound) (List.forall_mem_cons.mpr ⟨mm_LV.mk (i := 848) wX9_findDues (tX9_findDues l) (by decide) (by decide +kernel) (by decide +kernel), List.forall_mem_cons.mpr ⟨mm_LV.mk (i := 857) wX9_findMeans (tX9_findMeans l) (by decide) (by decide +kernel) (by decide +kernel), List.forall_mem_cons.mpr ⟨mm_LV.mk (i := 862) wX9_paymentOf (tX9_paymentOf l) (by decide) (by decide +kernel) (by decide +kernel), fun _ h => absurd h List.not_mem_nil⟩⟩⟩)) (mm_ms_ok (L := zX9_payRound) (fun _ h => absurd h List.not_mem_nil)) (mm_kc_ok kLX9_ok) mm_gs0_ok mm_rf0_ok (mm_dec_ok iX9_payRound_ok)
abbrev cX9_paysSame : ByteArray := prog_11_method_9_code
def yX9_paysSame : MethodName := ⟨RX9, "paysSame", "(II)Z"⟩
def iX9_paysSame : List (List (Nat × Instr)) := [[(0, .iconst 0), (1, .istore_n 3), (2, .iload_n 3), (3, .bipush 26), (5, .if_icmp .ge 30), (8, .aload_n 0), (9, .getfield 11), (12, .iload_n 1), (13, .iload_n 3), (14, .iadd), (15, .iaload)], [(16, .aload_n 0), (17, .getfield 11), (20, .iload_n 2), (21, .iload_n 3), (22, .iadd), (23, .iaload), (24, .if_icmp .eq 5), (27, .iconst 0), (28, .ireturn), (29, .iinc 3 1)], [(32, .goto (-30)), (35, .iconst 1), (36, .ireturn)]]
set_option maxRecDepth 20000 in
theorem iX9_paysSame_ok : mm_dec cX9_paysSame iX9_paysSame = true := by decide +kernel
set_option maxRecDepth 20000 in
theorem wX9_paysSame : mm_MV yX9_paysSame cX9_paysSame 4 (some .boolean) 9 := ⟨by decide, Or.inr ⟨_, rfl, rfl⟩, ⟨by decide +kernel, by decide +kernel⟩, mm_G_in (i := 872) (by decide +kernel) rfl, mm_G_in (i := 28) (by decide +kernel) rfl, mm_G_in (i := 76) (by decide +kernel) rfl, mm_G_in (i := 873) (by decide +kernel) rfl⟩
def vX9_paysSame : mm_L := []
def zX9_paysSame : mm_L := []
def sX9_paysSame : mm_F := mm_S (mm_gf gLX9) (mm_pf pLX9) (mm_mv vX9_paysSame) (mm_mv zX9_paysSame) (mm_kc kLX9) mm_gs0 mm_rf0 (some .boolean) 4 (mm_ins iX9_paysSame)
set_option maxRecDepth 20000 in
theorem tX9_paysSame (l : Launch) : mm_Ct l yX9_paysSame cX9_paysSame 4 (some .boolean) 0 sX9_paysSame := mm_meth (by decide +kernel) (mm_gf_ok gLX9_ok) (mm_pf_ok pLX9_ok) (mm_mv_ok (L := vX9_paysSame) (fun _ h => absurd h List.not_mem_nil)) (mm_ms_ok (L := zX9_paysSame) (fun _ h => absurd h List.not_mem_nil)) (mm_kc_ok kLX9_ok) mm_gs0_ok mm_rf0_ok (mm_dec_ok iX9_paysSame_ok)
abbrev cX9_roundLike : ByteArray := prog_11_method_8_code
def yX9_roundLike : MethodName := ⟨RX9, "roundLike", "(I)I"⟩
def iX9_roundLike : List (List (Nat × Instr)) := [[(0, .iload_n 1), (1, .iconst 1), (2, .isub), (3, .istore_n 2), (4, .iload_n 2), (5, .ifCond .lt 26), (8, .aload_n 0), (9, .iload_n 2), (10, .bipush 26), (12, .imul), (13, .iload_n 1), (14, .bipush 26)], [(16, .imul), (17, .invokevirtual 130), (20, .ifCond .eq 5), (23, .iload_n 2), (24, .ireturn), (25, .iinc 2 (-1)), (28, .goto (-24)), (31, .iconst (-1))], [(32, .ireturn)]]
set_option maxRecDepth 20000 in
theorem iX9_roundLike_ok : mm_dec cX9_roundLike iX9_roundLike = true := by decide +kernel
set_option maxRecDepth 20000 in
theorem wX9_roundLike : mm_MV yX9_roundLike cX9_roundLike 3 (some .int) 9 := ⟨by decide, Or.inr ⟨_, rfl, rfl⟩, ⟨by decide +kernel, by decide +kernel⟩, mm_G_in (i := 868) (by decide +kernel) rfl, mm_G_in (i := 27) (by decide +kernel) rfl, mm_G_in (i := 76) (by decide +kernel) rfl, mm_G_in (i := 869) (by decide +kernel) rfl⟩
def vX9_roundLike : mm_L := [(130, 3, some 9, sX9_paysSame)]
def zX9_roundLike : mm_L := []
def sX9_roundLike : mm_F := mm_S (mm_gf gLX9) (mm_pf pLX9) (mm_mv vX9_roundLike) (mm_mv zX9_roundLike) (mm_kc kLX9) mm_gs0 mm_rf0 (some .int) 3 (mm_ins iX9_roundLike)
set_option maxRecDepth 20000 in
theorem tX9_roundLike (l : Launch) : mm_Ct l yX9_roundLike cX9_roundLike 3 (some .int) 1 sX9_roundLike := mm_meth (by decide +kernel) (mm_gf_ok gLX9_ok) (mm_pf_ok pLX9_ok) (mm_mv_ok (L := vX9_roundLike) (List.forall_mem_cons.mpr ⟨mm_LV.mk (i := 870) wX9_paysSame (tX9_paysSame l) (by decide) (by decide +kernel) (by decide +kernel), fun _ h => absurd h List.not_mem_nil⟩)) (mm_ms_ok (L := zX9_roundLike) (fun _ h => absurd h List.not_mem_nil)) (mm_kc_ok kLX9_ok) mm_gs0_ok mm_rf0_ok (mm_dec_ok iX9_roundLike_ok)
abbrev cX9_run : ByteArray := prog_11_method_2_code
def yX9_run : MethodName := ⟨RX9, "run", "()V"⟩
def iX9_run : List (List (Nat × Instr)) := [[(0, .aload_n 0), (1, .bipush (-9)), (3, .putfield 28), (6, .aload_n 0), (7, .bipush (-9)), (9, .putfield 32), (12, .aload_n 0), (13, .iconst 0), (14, .putfield 35)], [(17, .aload_n 0), (18, .invokevirtual 38), (21, .iconst 1), (22, .istore_n 1), (23, .iload_n 1), (24, .sipush 200), (27, .if_icmp .gt 55), (30, .aload_n 0), (31, .iload_n 1)], [(32, .invokevirtual 41), (35, .aload_n 0), (36, .iload_n 1), (37, .putfield 35), (40, .aload_n 0), (41, .iload_n 1), (42, .invokevirtual 45), (45, .istore_n 2), (46, .iload_n 2), (47, .iload_n 1)], [(48, .iconst 1), (49, .isub), (50, .if_icmp .ne 14), (53, .aload_n 0), (54, .iload_n 1), (55, .putfield 28), (58, .aload_n 0), (59, .iconst 0), (60, .putfield 32), (63, .return_)], [(64, .iload_n 2), (65, .ifCond .lt 11), (68, .aload_n 0), (69, .iload_n 1), (70, .iload_n 2), (71, .isub), (72, .putfield 32), (75, .return_), (76, .iinc 1 1), (79, .goto (-56))], [(82, .return_)]]
set_option maxRecDepth 20000 in
theorem iX9_run_ok : mm_dec cX9_run iX9_run = true := by decide +kernel
set_option maxRecDepth 20000 in
theorem wX9_run : mm_MV yX9_run cX9_run 3 none 9 := ⟨by decide, Or.inr ⟨_, rfl, rfl⟩, ⟨by decide +kernel, by decide +kernel⟩, mm_G_in (i := 835) (by decide +kernel) rfl, mm_G_in (i := 836) (by decide +kernel) rfl, mm_G_in (i := 76) (by decide +kernel) rfl, mm_G_in (i := 837) (by decide +kernel) rfl⟩
def vX9_run : mm_L := [(38, 1, some 9, sX9_payInFull), (41, 2, some 9, sX9_payRound), (45, 2, some 9, sX9_roundLike)]
def zX9_run : mm_L := []
def sX9_run : mm_F := mm_S (mm_gf gLX9) (mm_pf pLX9) (mm_mv vX9_run) (mm_mv zX9_run) (mm_kc kLX9) mm_gs0 mm_rf0 none 3 (mm_ins iX9_run)
set_option maxRecDepth 20000 in
theorem tX9_run (l : Launch) : mm_Ct l yX9_run cX9_run 3 none 4 sX9_run := mm_meth (by decide +kernel) (mm_gf_ok gLX9_ok) (mm_pf_ok pLX9_ok) (mm_mv_ok (L := vX9_run) (List.forall_mem_cons.mpr ⟨mm_LV.mk (i := 838) wX9_payInFull (tX9_payInFull l) (by decide) (by decide +kernel) (by decide +kernel), List.forall_mem_cons.mpr ⟨mm_LV.mk (i := 844) wX9_payRound (tX9_payRound l) (by decide) (by decide +kernel) (by decide +kernel), List.forall_mem_cons.mpr ⟨mm_LV.mk (i := 866) wX9_roundLike (tX9_roundLike l) (by decide) (by decide +kernel) (by decide +kernel), fun _ h => absurd h List.not_mem_nil⟩⟩⟩)) (mm_ms_ok (L := zX9_run) (fun _ h => absurd h List.not_mem_nil)) (mm_kc_ok kLX9_ok) mm_gs0_ok mm_rf0_ok (mm_dec_ok iX9_run_ok)
abbrev cX9_lastByDebtor : ByteArray := prog_11_method_10_code
def yX9_lastByDebtor : MethodName := ⟨RX9, "lastByDebtor", "(I)I"⟩
def iX9_lastByDebtor : List (List (Nat × Instr)) := [[(0, .aload_n 0), (1, .getfield 11), (4, .aload_n 0), (5, .getfield 35), (8, .bipush 26), (10, .imul), (11, .iload_n 1), (12, .iadd), (13, .iaload), (14, .ireturn)]]
set_option maxRecDepth 20000 in
theorem iX9_lastByDebtor_ok : mm_dec cX9_lastByDebtor iX9_lastByDebtor = true := by decide +kernel
set_option maxRecDepth 20000 in
theorem wX9_lastByDebtor : mm_MV yX9_lastByDebtor cX9_lastByDebtor 2 (some .int) 9 := ⟨by decide, Or.inr ⟨_, rfl, rfl⟩, ⟨by decide +kernel, by decide +kernel⟩, mm_G_in (i := 887) (by decide +kernel) rfl, mm_G_in (i := 888) (by decide +kernel) rfl, mm_G_in (i := 76) (by decide +kernel) rfl, mm_G_in (i := 889) (by decide +kernel) rfl⟩
def vX9_lastByDebtor : mm_L := []
def zX9_lastByDebtor : mm_L := []
def sX9_lastByDebtor : mm_F := mm_S (mm_gf gLX9) (mm_pf pLX9) (mm_mv vX9_lastByDebtor) (mm_mv zX9_lastByDebtor) (mm_kc kLX9) mm_gs0 mm_rf0 (some .int) 2 (mm_ins iX9_lastByDebtor)
set_option maxRecDepth 20000 in
theorem tX9_lastByDebtor (l : Launch) : mm_Ct l yX9_lastByDebtor cX9_lastByDebtor 2 (some .int) 0 sX9_lastByDebtor := mm_meth (by decide +kernel) (mm_gf_ok gLX9_ok) (mm_pf_ok pLX9_ok) (mm_mv_ok (L := vX9_lastByDebtor) (fun _ h => absurd h List.not_mem_nil)) (mm_ms_ok (L := zX9_lastByDebtor) (fun _ h => absurd h List.not_mem_nil)) (mm_kc_ok kLX9_ok) mm_gs0_ok mm_rf0_ok (mm_dec_ok iX9_lastByDebtor_ok)
abbrev cX9_lastByStanding : ByteArray := prog_11_method_11_code
def yX9_lastByStanding : MethodName := ⟨RX9, "lastByStanding", "(I)I"⟩
def iX9_lastByStanding : List (List (Nat × Instr)) := [[(0, .aload_n 0), (1, .getfield 11), (4, .aload_n 0), (5, .getfield 35), (8, .bipush 26), (10, .imul), (11, .bipush 10), (13, .iadd), (14, .iload_n 1), (15, .iadd)], [(16, .iaload), (17, .ireturn)]]
set_option maxRecDepth 20000 in
theorem iX9_lastByStanding_ok : mm_dec cX9_lastByStanding iX9_lastByStanding = true := by decide +kernel
set_option maxRecDepth 20000 in
theorem wX9_lastByStanding : mm_MV yX9_lastByStanding cX9_lastByStanding 2 (some .int) 9 := ⟨by decide, Or.inr ⟨_, rfl, rfl⟩, ⟨by decide +kernel, by decide +kernel⟩, mm_G_in (i := 891) (by decide +kernel) rfl, mm_G_in (i := 892) (by decide +kernel) rfl, mm_G_in (i := 76) (by decide +kernel) rfl, mm_G_in (i := 893) (by decide +kernel) rfl⟩
def vX9_lastByStanding : mm_L := []
def zX9_lastByStanding : mm_L := []
def sX9_lastByStanding : mm_F := mm_S (mm_gf gLX9) (mm_pf pLX9) (mm_mv vX9_lastByStanding) (mm_mv zX9_lastByStanding) (mm_kc kLX9) mm_gs0 mm_rf0 (some .int) 2 (mm_ins iX9_lastByStanding)
set_option maxRecDepth 20000 in
theorem tX9_lastByStanding (l : Launch) : mm_Ct l yX9_lastByStanding cX9_lastByStanding 2 (some .int) 0 sX9_lastByStanding := mm_meth (by decide +kernel) (mm_gf_ok gLX9_ok) (mm_pf_ok pLX9_ok) (mm_mv_ok (L := vX9_lastByStanding) (fun _ h => absurd h List.not_mem_nil)) (mm_ms_ok (L := zX9_lastByStanding) (fun _ h => absurd h List.not_mem_nil)) (mm_kc_ok kLX9_ok) mm_gs0_ok mm_rf0_ok (mm_dec_ok iX9_lastByStanding_ok)
abbrev cX9_signFor : ByteArray := prog_11_method_13_code
def yX9_signFor : MethodName := ⟨RX9, "signFor", "(III)I"⟩
def iX9_signFor : List (List (Nat × Instr)) := [[(0, .iload_n 0), (1, .iload_n 1), (2, .if_icmp .ne 7), (5, .iconst 1), (6, .goto 4), (9, .iconst 0), (10, .iload_n 0), (11, .iload_n 2), (12, .if_icmp .ne 7), (15, .iconst 1)], [(16, .goto 4), (19, .iconst 0), (20, .isub), (21, .ireturn)]]
set_option maxRecDepth 20000 in
theorem iX9_signFor_ok : mm_dec cX9_signFor iX9_signFor = true := by decide +kernel
set_option maxRecDepth 20000 in
theorem wX9_signFor : mm_MS yX9_signFor cX9_signFor 3 (some .int) := ⟨by decide, ⟨by decide +kernel, by decide +kernel⟩, mm_G_in (i := 884) (by decide +kernel) rfl, mm_G_in (i := 76) (by decide +kernel) rfl, mm_G_in (i := 885) (by decide +kernel) rfl⟩
def vX9_signFor : mm_L := []
def zX9_signFor : mm_L := []
def sX9_signFor : mm_F := mm_S (mm_gf gLX9) (mm_pf pLX9) (mm_mv vX9_signFor) (mm_mv zX9_signFor) (mm_kc kLX9) mm_gs0 mm_rf0 (some .int) 3 (mm_ins iX9_signFor)
set_option maxRecDepth 20000 in
theorem tX9_signFor (l : Launch) : mm_Ct l yX9_signFor cX9_signFor 3 (some .int) 0 sX9_signFor := mm_meth (by decide +kernel) (mm_gf_ok gLX9_ok) (mm_pf_ok pLX9_ok) (mm_mv_ok (L := vX9_signFor) (fun _ h => absurd h List.not_mem_nil)) (mm_ms_ok (L := zX9_signFor) (fun _ h => absurd h List.not_mem_nil)) (mm_kc_ok kLX9_ok) mm_gs0_ok mm_rf0_ok (mm_dec_ok iX9_signFor_ok)
abbrev cX9_endOf : ByteArray := prog_11_method_12_code
def yX9_endOf : MethodName := ⟨RX9, "endOf", "(I)I"⟩
def iX9_endOf : List (List (Nat × Instr)) := [[(0, .aload_n 0), (1, .getfield 24), (4, .getfield 67), (7, .astore_n 2), (8, .aload_n 0), (9, .getfield 24), (12, .getfield 112), (15, .getfield 116)], [(18, .iload_n 1), (19, .iaload), (20, .istore_n 3), (21, .iconst 0), (22, .istore 4), (24, .iload 4), (26, .aload_n 2), (27, .getfield 77), (30, .if_icmp .ge 37)], [(33, .iload_n 3), (34, .iload_n 1), (35, .aload_n 2), (36, .getfield 127), (39, .iload 4), (41, .iaload), (42, .aload_n 2), (43, .getfield 82), (46, .iload 4)], [(48, .iaload), (49, .invokestatic 134), (52, .aload_n 0), (53, .iload 4), (55, .invokevirtual 138), (58, .imul), (59, .iadd), (60, .istore_n 3), (61, .iinc 4 1)], [(64, .goto (-40)), (67, .iconst 0), (68, .istore 4), (70, .iload 4), (72, .aload_n 2), (73, .getfield 85), (76, .if_icmp .ge 42), (79, .iload_n 3)], [(80, .iload_n 1), (81, .aload_n 2), (82, .getfield 127), (85, .aload_n 2), (86, .getfield 94), (89, .iload 4), (91, .iaload), (92, .iaload), (93, .aload_n 2), (94, .getfield 109)], [(97, .iload 4), (99, .iaload), (100, .invokestatic 134), (103, .aload_n 0), (104, .iload 4), (106, .invokevirtual 141), (109, .imul), (110, .iadd), (111, .istore_n 3)], [(112, .iinc 4 1), (115, .goto (-45)), (118, .iload_n 3), (119, .ireturn)]]
set_option maxRecDepth 20000 in
theorem iX9_endOf_ok : mm_dec cX9_endOf iX9_endOf = true := by decide +kernel
set_option maxRecDepth 20000 in
theorem wX9_endOf : mm_MV yX9_endOf cX9_endOf 5 (some .int) 9 := ⟨by decide, Or.inr ⟨_, rfl, rfl⟩, ⟨by decide +kernel, by decide +kernel⟩, mm_G_in (i := 880) (by decide +kernel) rfl, mm_G_in (i := 881) (by decide +kernel) rfl, mm_G_in (i := 76) (by decide +kernel) rfl, mm_G_in (i := 882) (by decide +kernel) rfl⟩
def vX9_endOf : mm_L := [(138, 2, some 9, sX9_lastByDebtor), (141, 2, some 9, sX9_lastByStanding)]
def zX9_endOf : mm_L := [(134, 3, none, sX9_signFor)]
def sX9_endOf : mm_F := mm_S (mm_gf gLX9) (mm_pf pLX9) (mm_mv vX9_endOf) (mm_mv zX9_endOf) (mm_kc kLX9) mm_gs0 mm_rf0 (some .int) 5 (mm_ins iX9_endOf)
set_option maxRecDepth 20000 in
theorem tX9_endOf (l : Launch) : mm_Ct l yX9_endOf cX9_endOf 5 (some .int) 1 sX9_endOf := mm_meth (by decide +kernel) (mm_gf_ok gLX9_ok) (mm_pf_ok pLX9_ok) (mm_mv_ok (L := vX9_endOf) (List.forall_mem_cons.mpr ⟨mm_LV.mk (i := 886) wX9_lastByDebtor (tX9_lastByDebtor l) (by decide) (by decide +kernel) (by decide +kernel), List.forall_mem_cons.mpr ⟨mm_LV.mk (i := 890) wX9_lastByStanding (tX9_lastByStanding l) (by decide) (by decide +kernel) (by decide +kernel), fun _ h => absurd h List.not_mem_nil⟩⟩)) (mm_ms_ok (L := zX9_endOf) (List.forall_mem_cons.mpr ⟨⟨rfl, Or.inl (mm_LS.mk (i := 883) wX9_signFor (tX9_signFor l) (by decide) (by decide +kernel) (by decide +kernel))⟩, fun _ h => absurd h List.not_mem_nil⟩)) (mm_kc_ok kLX9_ok) mm_gs0_ok mm_rf0_ok (mm_dec_ok iX9_endOf_ok)
abbrev cX10_append : ByteArray := prog_12_method_2_code
def yX10_append : MethodName := ⟨RX10, "append", "(JI)V"⟩
def iX10_append : List (List (Nat × Instr)) := [[(0, .iload_n 3), (1, .iconst 1), (2, .isub), (3, .istore 4), (5, .iload 4), (7, .ifCond .lt 47), (10, .aload_n 0), (11, .getfield 15), (14, .sipush 400)], [(17, .if_icmp .ge 37), (20, .aload_n 0), (21, .getfield 9), (24, .aload_n 0), (25, .getfield 15), (28, .lload_n 1), (29, .bipush 8), (31, .iload 4)], [(33, .imul), (34, .lshr), (35, .l2i), (36, .i2b), (37, .bastore), (38, .aload_n 0), (39, .dup), (40, .getfield 15), (43, .iconst 1), (44, .iadd), (45, .putfield 15)], [(48, .iinc 4 (-1)), (51, .goto (-46)), (54, .return_)]]
set_option maxRecDepth 20000 in
theorem iX10_append_ok : mm_dec cX10_append iX10_append = true := by decide +kernel
set_option maxRecDepth 20000 in
theorem wX10_append : mm_MV yX10_append cX10_append 5 none 10 := ⟨by decide, Or.inr ⟨_, rfl, rfl⟩, ⟨by decide +kernel, by decide +kernel⟩, mm_G_in (i := 461) (by decide +kernel) rfl, mm_G_in (i := 462) (by decide +kernel) rfl, mm_G_in (i := 69) (by decide +kernel) rfl, mm_G_in (i := 463) (by decide +kernel) rfl⟩
def vX10_append : mm_L := []
def zX10_append : mm_L := []
def sX10_append : mm_F := mm_S (mm_gf gLX10) (mm_pf pLX10) (mm_mv vX10_append) (mm_mv zX10_append) (mm_kc kLX10) mm_gs0 mm_rf0 none 5 (mm_ins iX10_append)
set_option maxRecDepth 20000 in
theorem tX10_append (l : Launch) : mm_Ct l yX10_append cX10_append 5 none 0 sX10_append := mm_meth (by decide +kernel) (mm_gf_ok gLX10_ok) (mm_pf_ok pLX10_ok) (mm_mv_ok (L := vX10_append) (fun _ h => absurd h List.not_mem_nil)) (mm_ms_ok (L := zX10_append) (fun _ h => absurd h List.not_mem_nil)) (mm_kc_ok kLX10_ok) mm_gs0_ok mm_rf0_ok (mm_dec_ok iX10_append_ok)
abbrev cX11_type : ByteArray := prog_1_method_2_code
def yX11_type : MethodName := ⟨RX11, "type", "(JI)I"⟩
def iX11_type : List (List (Nat × Instr)) := [[(0, .iload_n 3), (1, .iconst 1), (2, .if_icmp .lt 9), (5, .iload_n 3), (6, .bipush 8), (8, .if_icmp .le 5), (11, .iconst (-1)), (12, .ireturn), (13, .aload_n 0), (14, .getfield 10)], [(17, .getfield 83), (20, .iload_n 3), (21, .iadd), (22, .sipush 400), (25, .if_icmp .le 6), (28, .bipush (-3)), (30, .ireturn), (31, .aload_n 0)], [(32, .getfield 10), (35, .lload_n 1), (36, .iload_n 3), (37, .invokevirtual 87), (40, .aload_n 0), (41, .getfield 10), (44, .getfield 83), (47, .ireturn)]]
set_option maxRecDepth 20000 in
theorem iX11_type_ok : mm_dec cX11_type iX11_type = true := by decide +kernel
set_option maxRecDepth 20000 in
theorem wX11_type : mm_MV yX11_type cX11_type 4 (some .int) 11 := ⟨by decide, Or.inr ⟨_, rfl, rfl⟩, ⟨by decide +kernel, by decide +kernel⟩, mm_G_in (i := 457) (by decide +kernel) rfl, mm_G_in (i := 458) (by decide +kernel) rfl, mm_G_in (i := 68) (by decide +kernel) rfl, mm_G_in (i := 459) (by decide +kernel) rfl⟩
def vX11_type : mm_L := [(87, 3, some 10, sX10_append)]
def zX11_type : mm_L := []
def sX11_type : mm_F := mm_S (mm_gf gLX11) (mm_pf pLX11) (mm_mv vX11_type) (mm_mv zX11_type) (mm_kc kLX11) mm_gs0 mm_rf0 (some .int) 4 (mm_ins iX11_type)
set_option maxRecDepth 20000 in
theorem tX11_type (l : Launch) : mm_Ct l yX11_type cX11_type 4 (some .int) 1 sX11_type := mm_meth (by decide +kernel) (mm_gf_ok gLX11_ok) (mm_pf_ok pLX11_ok) (mm_mv_ok (L := vX11_type) (List.forall_mem_cons.mpr ⟨mm_LV.mk (i := 460) wX10_append (tX10_append l) (by decide) (by decide +kernel) (by decide +kernel), fun _ h => absurd h List.not_mem_nil⟩)) (mm_ms_ok (L := zX11_type) (fun _ h => absurd h List.not_mem_nil)) (mm_kc_ok kLX11_ok) mm_gs0_ok mm_rf0_ok (mm_dec_ok iX11_type_ok)
abbrev cX11_clear : ByteArray := prog_1_method_3_code
def yX11_clear : MethodName := ⟨RX11, "clear", "()I"⟩
def iX11_clear : List (List (Nat × Instr)) := [[(0, .aload_n 0), (1, .getfield 10), (4, .getfield 83), (7, .istore_n 1), (8, .aload_n 0), (9, .getfield 10), (12, .iconst 0), (13, .putfield 83)], [(16, .iload_n 1), (17, .ireturn)]]
set_option maxRecDepth 20000 in
theorem iX11_clear_ok : mm_dec cX11_clear iX11_clear = true := by decide +kernel
set_option maxRecDepth 20000 in
theorem wX11_clear : mm_MV yX11_clear cX11_clear 2 (some .int) 11 := ⟨by decide, Or.inr ⟨_, rfl, rfl⟩, ⟨by decide +kernel, by decide +kernel⟩, mm_G_in (i := 465) (by decide +kernel) rfl, mm_G_in (i := 466) (by decide +kernel) rfl, mm_G_in (i := 68) (by decide +kernel) rfl, mm_G_in (i := 467) (by decide +kernel) rfl⟩
def vX11_clear : mm_L := []
def zX11_clear : mm_L := []
def sX11_clear : mm_F := mm_S (mm_gf gLX11) (mm_pf pLX11) (mm_mv vX11_clear) (mm_mv zX11_clear) (mm_kc kLX11) mm_gs0 mm_rf0 (some .int) 2 (mm_ins iX11_clear)
set_option maxRecDepth 20000 in
theorem tX11_clear (l : Launch) : mm_Ct l yX11_clear cX11_clear 2 (some .int) 0 sX11_clear := mm_meth (by decide +kernel) (mm_gf_ok gLX11_ok) (mm_pf_ok pLX11_ok) (mm_mv_ok (L := vX11_clear) (fun _ h => absurd h List.not_mem_nil)) (mm_ms_ok (L := zX11_clear) (fun _ h => absurd h List.not_mem_nil)) (mm_kc_ok kLX11_ok) mm_gs0_ok mm_rf0_ok (mm_dec_ok iX11_clear_ok)
abbrev cX11_papers : ByteArray := prog_1_method_4_code
def yX11_papers : MethodName := ⟨RX11, "papers", "()I"⟩
def iX11_papers : List (List (Nat × Instr)) := [[(0, .aload_n 0), (1, .getfield 21), (4, .aload_n 0), (5, .getfield 28), (8, .getfield 91), (11, .invokevirtual 95), (14, .ifCond .ne 14)], [(17, .bipush (-10)), (19, .aload_n 0), (20, .getfield 21), (23, .invokevirtual 99), (26, .isub), (27, .ireturn), (28, .aload_n 0), (29, .getfield 28)], [(32, .invokevirtual 103), (35, .aload_n 0), (36, .getfield 10), (39, .iconst 0), (40, .putfield 83), (43, .aload_n 0), (44, .iconst 0), (45, .putfield 106)], [(48, .aload_n 0), (49, .getfield 28), (52, .getfield 109), (55, .getfield 112), (58, .ireturn)]]
set_option maxRecDepth 20000 in
theorem iX11_papers_ok : mm_dec cX11_papers iX11_papers = true := by decide +kernel
set_option maxRecDepth 20000 in
theorem wX11_papers : mm_MV yX11_papers cX11_papers 1 (some .int) 11 := ⟨by decide, Or.inr ⟨_, rfl, rfl⟩, ⟨by decide +kernel, by decide +kernel⟩, mm_G_in (i := 469) (by decide +kernel) rfl, mm_G_in (i := 470) (by decide +kernel) rfl, mm_G_in (i := 68) (by decide +kernel) rfl, mm_G_in (i := 471) (by decide +kernel) rfl⟩
def vX11_papers : mm_L := [(95, 2, some 7, sX7_read), (99, 1, some 7, sX7_tokenPlace), (103, 1, some 0, sX0_takeDraft)]
def zX11_papers : mm_L := []
def sX11_papers : mm_F := mm_S (mm_gf gLX11) (mm_pf pLX11) (mm_mv vX11_papers) (mm_mv zX11_papers) (mm_kc kLX11) mm_gs0 mm_rf0 (some .int) 1 (mm_ins iX11_papers)
set_option maxRecDepth 20000 in
theorem tX11_papers (l : Launch) : mm_Ct l yX11_papers cX11_papers 1 (some .int) 10 sX11_papers := mm_meth (by decide +kernel) (mm_gf_ok gLX11_ok) (mm_pf_ok pLX11_ok) (mm_mv_ok (L := vX11_papers) (List.forall_mem_cons.mpr ⟨mm_LV.mk (i := 472) wX7_read (tX7_read l) (by decide) (by decide +kernel) (by decide +kernel), List.forall_mem_cons.mpr ⟨mm_LV.mk (i := 600) wX7_tokenPlace (tX7_tokenPlace l) (by decide) (by decide +kernel) (by decide +kernel), List.forall_mem_cons.mpr ⟨mm_LV.mk (i := 604) wX0_takeDraft (tX0_takeDraft l) (by decide) (by decide +kernel) (by decide +kernel), fun _ h => absurd h List.not_mem_nil⟩⟩⟩)) (mm_ms_ok (L := zX11_papers) (fun _ h => absurd h List.not_mem_nil)) (mm_kc_ok kLX11_ok) mm_gs0_ok mm_rf0_ok (mm_dec_ok iX11_papers_ok)
abbrev cX11_debt : ByteArray := prog_1_method_5_code
def yX11_debt : MethodName := ⟨RX11, "debt", "(II)I"⟩
def iX11_debt : List (List (Nat × Instr)) := [[(0, .aload_n 0), (1, .getfield 28), (4, .iload_n 1), (5, .invokevirtual 117), (8, .ifCond .ne 5), (11, .iconst (-1)), (12, .ireturn), (13, .iload_n 2), (14, .tableswitch 78 0 3 #[30, 43, 56, 69])], [], [(44, .aload_n 0), (45, .getfield 28)], [(48, .getfield 109), (51, .getfield 121), (54, .iload_n 1), (55, .iaload), (56, .ireturn), (57, .aload_n 0), (58, .getfield 28), (61, .getfield 109)], [(64, .getfield 125), (67, .iload_n 1), (68, .iaload), (69, .ireturn), (70, .aload_n 0), (71, .getfield 28), (74, .getfield 109), (77, .getfield 128)], [(80, .iload_n 1), (81, .iaload), (82, .ireturn), (83, .aload_n 0), (84, .getfield 28), (87, .iload_n 1), (88, .invokevirtual 131), (91, .ireturn), (92, .iconst (-1)), (93, .ireturn)]]
set_option maxRecDepth 20000 in
theorem iX11_debt_ok : mm_dec cX11_debt iX11_debt = true := by decide +kernel
set_option maxRecDepth 20000 in
theorem wX11_debt : mm_MV yX11_debt cX11_debt 3 (some .int) 11 := ⟨by decide, Or.inr ⟨_, rfl, rfl⟩, ⟨by decide +kernel, by decide +kernel⟩, mm_G_in (i := 619) (by decide +kernel) rfl, mm_G_in (i := 620) (by decide +kernel) rfl, mm_G_in (i := 68) (by decide +kernel) rfl, mm_G_in (i := 621) (by decide +kernel) rfl⟩
def vX11_debt : mm_L := [(117, 2, some 0, sX0_isDebt), (131, 2, some 0, sX0_restOf)]
def zX11_debt : mm_L := []
def sX11_debt : mm_F := mm_S (mm_gf gLX11) (mm_pf pLX11) (mm_mv vX11_debt) (mm_mv zX11_debt) (mm_kc kLX11) mm_gs0 mm_rf0 (some .int) 3 (mm_ins iX11_debt)
set_option maxRecDepth 20000 in
theorem tX11_debt (l : Launch) : mm_Ct l yX11_debt cX11_debt 3 (some .int) 1 sX11_debt := mm_meth (by decide +kernel) (mm_gf_ok gLX11_ok) (mm_pf_ok pLX11_ok) (mm_mv_ok (L := vX11_debt) (List.forall_mem_cons.mpr ⟨mm_LV.mk (i := 622) wX0_isDebt (tX0_isDebt l) (by decide) (by decide +kernel) (by decide +kernel), List.forall_mem_cons.mpr ⟨mm_LV.mk (i := 626) wX0_restOf (tX0_restOf l) (by decide) (by decide +kernel) (by decide +kernel), fun _ h => absurd h List.not_mem_nil⟩⟩)) (mm_ms_ok (L := zX11_debt) (fun _ h => absurd h List.not_mem_nil)) (mm_kc_ok kLX11_ok) mm_gs0_ok mm_rf0_ok (mm_dec_ok iX11_debt_ok)
abbrev cX11_standing : ByteArray := prog_1_method_6_code
def yX11_standing : MethodName := ⟨RX11, "standing", "(II)I"⟩
def iX11_standing : List (List (Nat × Instr)) := [[(0, .aload_n 0), (1, .getfield 28), (4, .iload_n 1), (5, .invokevirtual 135), (8, .ifCond .ne 5), (11, .iconst (-1)), (12, .ireturn), (13, .iload_n 2), (14, .tableswitch 137 0 5 #[38, 51, 64, 77, 111, 120])], [], [], [(52, .aload_n 0), (53, .getfield 28), (56, .getfield 109), (59, .getfield 138), (62, .iload_n 1), (63, .iaload)], [(64, .ireturn), (65, .aload_n 0), (66, .getfield 28), (69, .getfield 109), (72, .getfield 141), (75, .iload_n 1), (76, .iaload), (77, .ireturn), (78, .aload_n 0), (79, .getfield 28)], [(82, .getfield 109), (85, .getfield 144), (88, .iload_n 1), (89, .iaload), (90, .ireturn), (91, .aload_n 0), (92, .getfield 28), (95, .getfield 109)], [(98, .getfield 144), (101, .iload_n 1), (102, .iaload), (103, .iconst 3), (104, .if_icmp .ne 18), (107, .aload_n 0), (108, .getfield 28), (111, .getfield 109)], [(114, .getfield 147), (117, .iload_n 1), (118, .iaload), (119, .goto 5), (122, .bipush (-9)), (124, .ireturn), (125, .aload_n 0), (126, .getfield 28)], [(129, .iload_n 1), (130, .invokevirtual 150), (133, .ireturn), (134, .aload_n 0), (135, .getfield 28), (138, .iload_n 1), (139, .invokevirtual 153), (142, .ifCond .eq 7)], [(145, .iconst 1), (146, .goto 4), (149, .iconst 0), (150, .ireturn), (151, .iconst (-1)), (152, .ireturn)]]
set_option maxRecDepth 20000 in
theorem iX11_standing_ok : mm_dec cX11_standing iX11_standing = true := by decide +kernel
set_option maxRecDepth 20000 in
theorem wX11_standing : mm_MV yX11_standing cX11_standing 3 (some .int) 11 := ⟨by decide, Or.inr ⟨_, rfl, rfl⟩, ⟨by decide +kernel, by decide +kernel⟩, mm_G_in (i := 631) (by decide +kernel) rfl, mm_G_in (i := 632) (by decide +kernel) rfl, mm_G_in (i := 68) (by decide +kernel) rfl, mm_G_in (i := 633) (by decide +kernel) rfl⟩
def vX11_standing : mm_L := [(135, 2, some 0, sX0_isStanding), (150, 2, some 0, sX0_leftOf), (153, 2, some 0, sX0_isReleased)]
def zX11_standing : mm_L := []
def sX11_standing : mm_F := mm_S (mm_gf gLX11) (mm_pf pLX11) (mm_mv vX11_standing) (mm_mv zX11_standing) (mm_kc kLX11) mm_gs0 mm_rf0 (some .int) 3 (mm_ins iX11_standing)
set_option maxRecDepth 20000 in
theorem tX11_standing (l : Launch) : mm_Ct l yX11_standing cX11_standing 3 (some .int) 2 sX11_standing := mm_meth (by decide +kernel) (mm_gf_ok gLX11_ok) (mm_pf_ok pLX11_ok) (mm_mv_ok (L := vX11_standing) (List.forall_mem_cons.mpr ⟨mm_LV.mk (i := 634) wX0_isStanding (tX0_isStanding l) (by decide) (by decide +kernel) (by decide +kernel), List.forall_mem_cons.mpr ⟨mm_LV.mk (i := 638) wX0_leftOf (tX0_leftOf l) (by decide) (by decide +kernel) (by decide +kernel), List.forall_mem_cons.mpr ⟨mm_LV.mk (i := 645) wX0_isReleased (tX0_isReleased l) (by decide) (by decide +kernel) (by decide +kernel), fun _ h => absurd h List.not_mem_nil⟩⟩⟩)) (mm_ms_ok (L := zX11_standing) (fun _ h => absurd h List.not_mem_nil)) (mm_kc_ok kLX11_ok) mm_gs0_ok mm_rf0_ok (mm_dec_ok iX11_standing_ok)
