abbrev cX6_balanceOf : ByteArray := prog_8_method_2_code
def yX6_balanceOf : MethodName := ⟨RX6, "balanceOf", "(I)I"⟩
def iX6_balanceOf : List (List (Nat × Instr)) := [[(0, .aload_n 0), (1, .getfield 18), (4, .getfield 22), (7, .astore_n 2), (8, .iconst 0), (9, .istore_n 3), (10, .iconst 0), (11, .istore 4), (13, .iload 4), (15, .aload_n 2)], [(16, .getfield 28), (19, .if_icmp .ge 55), (22, .aload_n 2), (23, .getfield 34), (26, .iload 4), (28, .iaload), (29, .iload_n 1), (30, .if_icmp .ne 15)], [(33, .iload_n 3), (34, .aload_n 0), (35, .getfield 18), (38, .iload 4), (40, .invokevirtual 37), (43, .iadd), (44, .istore_n 3), (45, .aload_n 2), (46, .getfield 41)], [(49, .iload 4), (51, .iaload), (52, .iload_n 1), (53, .if_icmp .ne 15), (56, .iload_n 3), (57, .aload_n 0), (58, .getfield 18), (61, .iload 4), (63, .invokevirtual 37)], [(66, .isub), (67, .istore_n 3), (68, .iinc 4 1), (71, .goto (-58)), (74, .iload_n 3), (75, .ireturn)]]
set_option maxRecDepth 20000 in
theorem iX6_balanceOf_ok : mm_dec cX6_balanceOf iX6_balanceOf = true := by decide +kernel
set_option maxRecDepth 20000 in
theorem wX6_balanceOf : mm_MV yX6_balanceOf cX6_balanceOf 5 (some .int) 6 := ⟨by decide, Or.inr ⟨_, rfl, rfl⟩, ⟨by decide +kernel, by decide +kernel⟩, mm_G_in (i := 938) (by decide +kernel) rfl, mm_G_in (i := 939) (by decide +kernel) rfl, mm_G_in (i := 78) (by decide +kernel) rfl, mm_G_in (i := 940) (by decide +kernel) rfl⟩
def vX6_balanceOf : mm_L := [(37, 2, some 0, sX0_restOf)]
def zX6_balanceOf : mm_L := []
def sX6_balanceOf : mm_F := mm_S (mm_gf gLX6) (mm_pf pLX6) (mm_mv vX6_balanceOf) (mm_mv zX6_balanceOf) (mm_kc kLX6) mm_gs0 mm_rf0 (some .int) 5 (mm_ins iX6_balanceOf)
set_option maxRecDepth 20000 in
theorem tX6_balanceOf (l : Launch) : mm_Ct l yX6_balanceOf cX6_balanceOf 5 (some .int) 1 sX6_balanceOf := mm_meth (by decide +kernel) (mm_gf_ok gLX6_ok) (mm_pf_ok pLX6_ok) (mm_mv_ok (L := vX6_balanceOf) (List.forall_mem_cons.mpr ⟨mm_LV.mk (i := 941) wX0_restOf (tX0_restOf l) (by decide) (by decide +kernel) (by decide +kernel), fun _ h => absurd h List.not_mem_nil⟩)) (mm_ms_ok (L := zX6_balanceOf) (fun _ h => absurd h List.not_mem_nil)) (mm_kc_ok kLX6_ok) mm_gs0_ok mm_rf0_ok (mm_dec_ok iX6_balanceOf_ok)
abbrev cX6_findSums : ByteArray := prog_8_method_4_code
def yX6_findSums : MethodName := ⟨RX6, "findSums", "()V"⟩
def iX6_findSums : List (List (Nat × Instr)) := [[(0, .aload_n 0), (1, .getfield 9), (4, .iconst 0), (5, .iconst 0), (6, .iastore), (7, .iconst 0), (8, .istore_n 1), (9, .iload_n 1), (10, .bipush 8), (12, .if_icmp .ge 48), (15, .aload_n 0)], [(16, .iload_n 1), (17, .invokevirtual 50), (20, .istore_n 2), (21, .iconst 0), (22, .istore_n 3), (23, .iload_n 3), (24, .iconst 1), (25, .iload_n 1), (26, .ishl), (27, .if_icmp .ge 27), (30, .aload_n 0), (31, .getfield 9)], [(34, .iload_n 3), (35, .iconst 1), (36, .iload_n 1), (37, .ishl), (38, .ior), (39, .aload_n 0), (40, .getfield 9), (43, .iload_n 3), (44, .iaload), (45, .iload_n 2), (46, .iadd), (47, .iastore)], [(48, .iinc 3 1), (51, .goto (-28)), (54, .iinc 1 1), (57, .goto (-48)), (60, .return_)]]
set_option maxRecDepth 20000 in
theorem iX6_findSums_ok : mm_dec cX6_findSums iX6_findSums = true := by decide +kernel
set_option maxRecDepth 20000 in
theorem wX6_findSums : mm_MV yX6_findSums cX6_findSums 4 none 6 := ⟨by decide, Or.inr ⟨_, rfl, rfl⟩, ⟨by decide +kernel, by decide +kernel⟩, mm_G_in (i := 935) (by decide +kernel) rfl, mm_G_in (i := 32) (by decide +kernel) rfl, mm_G_in (i := 78) (by decide +kernel) rfl, mm_G_in (i := 936) (by decide +kernel) rfl⟩
def vX6_findSums : mm_L := [(50, 2, some 6, sX6_balanceOf)]
def zX6_findSums : mm_L := []
def sX6_findSums : mm_F := mm_S (mm_gf gLX6) (mm_pf pLX6) (mm_mv vX6_findSums) (mm_mv zX6_findSums) (mm_kc kLX6) mm_gs0 mm_rf0 none 4 (mm_ins iX6_findSums)
set_option maxRecDepth 20000 in
theorem tX6_findSums (l : Launch) : mm_Ct l yX6_findSums cX6_findSums 4 none 2 sX6_findSums := mm_meth (by decide +kernel) (mm_gf_ok gLX6_ok) (mm_pf_ok pLX6_ok) (mm_mv_ok (L := vX6_findSums) (List.forall_mem_cons.mpr ⟨mm_LV.mk (i := 937) wX6_balanceOf (tX6_balanceOf l) (by decide) (by decide +kernel) (by decide +kernel), fun _ h => absurd h List.not_mem_nil⟩)) (mm_ms_ok (L := zX6_findSums) (fun _ h => absurd h List.not_mem_nil)) (mm_kc_ok kLX6_ok) mm_gs0_ok mm_rf0_ok (mm_dec_ok iX6_findSums_ok)
abbrev cX6_mostGroupsIn : ByteArray := prog_8_method_5_code
def yX6_mostGroupsIn : MethodName := ⟨RX6, "mostGroupsIn", "(I)I"⟩
def iX6_mostGroupsIn : List (List (Nat × Instr)) := [[(0, .iconst 0), (1, .istore_n 2), (2, .iconst 0), (3, .istore_n 3), (4, .iload_n 3), (5, .bipush 8), (7, .if_icmp .ge 34), (10, .iload_n 1), (11, .iload_n 3), (12, .invokestatic 53), (15, .ifCond .eq 20)], [(18, .iload_n 2), (19, .aload_n 0), (20, .getfield 15), (23, .iload_n 1), (24, .iconst 1), (25, .iload_n 3), (26, .ishl), (27, .iconst (-1)), (28, .ixor), (29, .iand), (30, .iaload), (31, .invokestatic 57)], [(34, .istore_n 2), (35, .iinc 3 1), (38, .goto (-34)), (41, .aload_n 0), (42, .getfield 9), (45, .iload_n 1), (46, .iaload), (47, .ifCond .ne 9)], [(50, .iload_n 2), (51, .iconst 1), (52, .iadd), (53, .goto 4), (56, .iload_n 2), (57, .ireturn)]]
set_option maxRecDepth 20000 in
theorem iX6_mostGroupsIn_ok : mm_dec cX6_mostGroupsIn iX6_mostGroupsIn = true := by decide +kernel
set_option maxRecDepth 20000 in
theorem wX6_mostGroupsIn : mm_MV yX6_mostGroupsIn cX6_mostGroupsIn 4 (some .int) 6 := ⟨by decide, Or.inr ⟨_, rfl, rfl⟩, ⟨by decide +kernel, by decide +kernel⟩, mm_G_in (i := 944) (by decide +kernel) rfl, mm_G_in (i := 33) (by decide +kernel) rfl, mm_G_in (i := 78) (by decide +kernel) rfl, mm_G_in (i := 945) (by decide +kernel) rfl⟩
def vX6_mostGroupsIn : mm_L := []
def zX6_mostGroupsIn : mm_L := [(53, 2, none, sX11_isIn), (57, 2, none, sJ9_max_7cf53)]
def sX6_mostGroupsIn : mm_F := mm_S (mm_gf gLX6) (mm_pf pLX6) (mm_mv vX6_mostGroupsIn) (mm_mv zX6_mostGroupsIn) (mm_kc kLX6) mm_gs0 mm_rf0 (some .int) 4 (mm_ins iX6_mostGroupsIn)
set_option maxRecDepth 20000 in
theorem tX6_mostGroupsIn (l : Launch) : mm_Ct l yX6_mostGroupsIn cX6_mostGroupsIn 4 (some .int) 1 sX6_mostGroupsIn := mm_meth (by decide +kernel) (mm_gf_ok gLX6_ok) (mm_pf_ok pLX6_ok) (mm_mv_ok (L := vX6_mostGroupsIn) (fun _ h => absurd h List.not_mem_nil)) (mm_ms_ok (L := zX6_mostGroupsIn) (List.forall_mem_cons.mpr ⟨⟨rfl, Or.inl (mm_LS.nest wX11_isIn (tX11_isIn l) (by decide) (by decide +kernel) rfl (by decide +kernel))⟩, List.forall_mem_cons.mpr ⟨⟨rfl, Or.inl (mm_LS.mk (i := 947) wJ9_max_7cf53 (tJ9_max_7cf53 l) (by decide) (by decide +kernel) (by decide +kernel))⟩, fun _ h => absurd h List.not_mem_nil⟩⟩)) (mm_kc_ok kLX6_ok) mm_gs0_ok mm_rf0_ok (mm_dec_ok iX6_mostGroupsIn_ok)
abbrev cX6_fewestPapers : ByteArray := prog_8_method_3_code
def yX6_fewestPapers : MethodName := ⟨RX6, "fewestPapers", "()I"⟩
def iX6_fewestPapers : List (List (Nat × Instr)) := [[(0, .aload_n 0), (1, .invokevirtual 44), (4, .aload_n 0), (5, .getfield 15), (8, .iconst 0), (9, .iconst 0), (10, .iastore), (11, .iconst 1), (12, .istore_n 1), (13, .iload_n 1), (14, .sipush 255)], [(17, .if_icmp .gt 20), (20, .aload_n 0), (21, .getfield 15), (24, .iload_n 1), (25, .aload_n 0), (26, .iload_n 1), (27, .invokevirtual 47), (30, .iastore), (31, .iinc 1 1)], [(34, .goto (-21)), (37, .bipush 8), (39, .aload_n 0), (40, .getfield 15), (43, .sipush 255), (46, .iaload), (47, .isub)], [(48, .ireturn)]]
set_option maxRecDepth 20000 in
theorem iX6_fewestPapers_ok : mm_dec cX6_fewestPapers iX6_fewestPapers = true := by decide +kernel
set_option maxRecDepth 20000 in
theorem wX6_fewestPapers : mm_MV yX6_fewestPapers cX6_fewestPapers 2 (some .int) 6 := ⟨by decide, Or.inr ⟨_, rfl, rfl⟩, ⟨by decide +kernel, by decide +kernel⟩, mm_G_in (i := 930) (by decide +kernel) rfl, mm_G_in (i := 931) (by decide +kernel) rfl, mm_G_in (i := 78) (by decide +kernel) rfl, mm_G_in (i := 932) (by decide +kernel) rfl⟩
def vX6_fewestPapers : mm_L := [(44, 1, some 6, sX6_findSums), (47, 2, some 6, sX6_mostGroupsIn)]
def zX6_fewestPapers : mm_L := []
def sX6_fewestPapers : mm_F := mm_S (mm_gf gLX6) (mm_pf pLX6) (mm_mv vX6_fewestPapers) (mm_mv zX6_fewestPapers) (mm_kc kLX6) mm_gs0 mm_rf0 (some .int) 2 (mm_ins iX6_fewestPapers)
set_option maxRecDepth 20000 in
theorem tX6_fewestPapers (l : Launch) : mm_Ct l yX6_fewestPapers cX6_fewestPapers 2 (some .int) 3 sX6_fewestPapers := mm_meth (by decide +kernel) (mm_gf_ok gLX6_ok) (mm_pf_ok pLX6_ok) (mm_mv_ok (L := vX6_fewestPapers) (List.forall_mem_cons.mpr ⟨mm_LV.mk (i := 933) wX6_findSums (tX6_findSums l) (by decide) (by decide +kernel) (by decide +kernel), List.forall_mem_cons.mpr ⟨mm_LV.mk (i := 942) wX6_mostGroupsIn (tX6_mostGroupsIn l) (by decide) (by decide +kernel) (by decide +kernel), fun _ h => absurd h List.not_mem_nil⟩⟩)) (mm_ms_ok (L := zX6_fewestPapers) (fun _ h => absurd h List.not_mem_nil)) (mm_kc_ok kLX6_ok) mm_gs0_ok mm_rf0_ok (mm_dec_ok iX6_fewestPapers_ok)
abbrev cX7_tokenPlace : ByteArray := prog_9_method_2_code
def yX7_tokenPlace : MethodName := ⟨RX7, "tokenPlace", "()I"⟩
def iX7_tokenPlace : List (List (Nat × Instr)) := [[(0, .aload_n 0), (1, .getfield 15), (4, .ireturn)]]
set_option maxRecDepth 20000 in
theorem iX7_tokenPlace_ok : mm_dec cX7_tokenPlace iX7_tokenPlace = true := by decide +kernel
set_option maxRecDepth 20000 in
theorem wX7_tokenPlace : mm_MV yX7_tokenPlace cX7_tokenPlace 1 (some .int) 7 := ⟨by decide, Or.inr ⟨_, rfl, rfl⟩, ⟨by decide +kernel, by decide +kernel⟩, mm_G_in (i := 601) (by decide +kernel) rfl, mm_G_in (i := 602) (by decide +kernel) rfl, mm_G_in (i := 70) (by decide +kernel) rfl, mm_G_in (i := 603) (by decide +kernel) rfl⟩
def vX7_tokenPlace : mm_L := []
def zX7_tokenPlace : mm_L := []
def sX7_tokenPlace : mm_F := mm_S (mm_gf gLX7) (mm_pf pLX7) (mm_mv vX7_tokenPlace) (mm_mv zX7_tokenPlace) (mm_kc kLX7) mm_gs0 mm_rf0 (some .int) 1 (mm_ins iX7_tokenPlace)
set_option maxRecDepth 20000 in
theorem tX7_tokenPlace (l : Launch) : mm_Ct l yX7_tokenPlace cX7_tokenPlace 1 (some .int) 0 sX7_tokenPlace := mm_meth (by decide +kernel) (mm_gf_ok gLX7_ok) (mm_pf_ok pLX7_ok) (mm_mv_ok (L := vX7_tokenPlace) (fun _ h => absurd h List.not_mem_nil)) (mm_ms_ok (L := zX7_tokenPlace) (fun _ h => absurd h List.not_mem_nil)) (mm_kc_ok kLX7_ok) mm_gs0_ok mm_rf0_ok (mm_dec_ok iX7_tokenPlace_ok)
abbrev cX8_empty : ByteArray := prog_10_method_2_code
def yX8_empty : MethodName := ⟨RX8, "empty", "()V"⟩
def iX8_empty : List (List (Nat × Instr)) := [[(0, .aload_n 0), (1, .iconst 0), (2, .putfield 36), (5, .aload_n 0), (6, .iconst 0), (7, .putfield 40), (10, .aload_n 0), (11, .iconst 0), (12, .putfield 43), (15, .return_)]]
set_option maxRecDepth 20000 in
theorem iX8_empty_ok : mm_dec cX8_empty iX8_empty = true := by decide +kernel
set_option maxRecDepth 20000 in
theorem wX8_empty : mm_MV yX8_empty cX8_empty 1 none 8 := ⟨by decide, Or.inr ⟨_, rfl, rfl⟩, ⟨by decide +kernel, by decide +kernel⟩, mm_G_in (i := 477) (by decide +kernel) rfl, mm_G_in (i := 478) (by decide +kernel) rfl, mm_G_in (i := 72) (by decide +kernel) rfl, mm_G_in (i := 479) (by decide +kernel) rfl⟩
def vX8_empty : mm_L := []
def zX8_empty : mm_L := []
def sX8_empty : mm_F := mm_S (mm_gf gLX8) (mm_pf pLX8) (mm_mv vX8_empty) (mm_mv zX8_empty) (mm_kc kLX8) mm_gs0 mm_rf0 none 1 (mm_ins iX8_empty)
set_option maxRecDepth 20000 in
theorem tX8_empty (l : Launch) : mm_Ct l yX8_empty cX8_empty 1 none 0 sX8_empty := mm_meth (by decide +kernel) (mm_gf_ok gLX8_ok) (mm_pf_ok pLX8_ok) (mm_mv_ok (L := vX8_empty) (fun _ h => absurd h List.not_mem_nil)) (mm_ms_ok (L := zX8_empty) (fun _ h => absurd h List.not_mem_nil)) (mm_kc_ok kLX8_ok) mm_gs0_ok mm_rf0_ok (mm_dec_ok iX8_empty_ok)
abbrev cX7_isSmallLetter : ByteArray := prog_9_method_15_code
def yX7_isSmallLetter : MethodName := ⟨RX7, "isSmallLetter", "(I)Z"⟩
def iX7_isSmallLetter : List (List (Nat × Instr)) := [[(0, .iload_n 0), (1, .bipush 97), (3, .if_icmp .lt 13), (6, .iload_n 0), (7, .bipush 122), (9, .if_icmp .gt 7), (12, .iconst 1), (13, .goto 4)], [(16, .iconst 0), (17, .ireturn)]]
set_option maxRecDepth 20000 in
theorem iX7_isSmallLetter_ok : mm_dec cX7_isSmallLetter iX7_isSmallLetter = true := by decide +kernel
set_option maxRecDepth 20000 in
theorem wX7_isSmallLetter : mm_MS yX7_isSmallLetter cX7_isSmallLetter 1 (some .boolean) := ⟨by decide, ⟨by decide +kernel, by decide +kernel⟩, mm_G_in (i := 485) (by decide +kernel) rfl, mm_G_in (i := 70) (by decide +kernel) rfl, mm_G_in (i := 486) (by decide +kernel) rfl⟩
def vX7_isSmallLetter : mm_L := []
def zX7_isSmallLetter : mm_L := []
def sX7_isSmallLetter : mm_F := mm_S (mm_gf gLX7) (mm_pf pLX7) (mm_mv vX7_isSmallLetter) (mm_mv zX7_isSmallLetter) (mm_kc kLX7) mm_gs0 mm_rf0 (some .boolean) 1 (mm_ins iX7_isSmallLetter)
set_option maxRecDepth 20000 in
theorem tX7_isSmallLetter (l : Launch) : mm_Ct l yX7_isSmallLetter cX7_isSmallLetter 1 (some .boolean) 0 sX7_isSmallLetter := mm_meth (by decide +kernel) (mm_gf_ok gLX7_ok) (mm_pf_ok pLX7_ok) (mm_mv_ok (L := vX7_isSmallLetter) (fun _ h => absurd h List.not_mem_nil)) (mm_ms_ok (L := zX7_isSmallLetter) (fun _ h => absurd h List.not_mem_nil)) (mm_kc_ok kLX7_ok) mm_gs0_ok mm_rf0_ok (mm_dec_ok iX7_isSmallLetter_ok)
abbrev cJ0_coder_7d493 : ByteArray := prog_17_method_152_code
def yJ0_coder_7d493 : MethodName := ⟨RJ0, "coder", "()B"⟩
def iJ0_coder_7d493 : List (List (Nat × Instr)) := [[(0, .getstatic 38), (3, .ifCond .eq 10), (6, .aload_n 0), (7, .getfield 15), (10, .goto 4), (13, .iconst 1), (14, .ireturn)]]
set_option maxRecDepth 20000 in
theorem iJ0_coder_7d493_ok : mm_dec cJ0_coder_7d493 iJ0_coder_7d493 = true := by decide +kernel
set_option maxRecDepth 20000 in
theorem wJ0_coder_7d493 : mm_MV yJ0_coder_7d493 cJ0_coder_7d493 1 (some .byte) 99 := ⟨by decide, Or.inl ⟨rfl, rfl⟩, ⟨by decide +kernel, by decide +kernel⟩, mm_G_in (i := 501) (by decide +kernel) rfl, mm_G_in (i := 502) (by decide +kernel) rfl, mm_G_in (i := 81) (by decide +kernel) rfl, mm_G_in (i := 503) (by decide +kernel) rfl⟩
def vJ0_coder_7d493 : mm_L := []
def zJ0_coder_7d493 : mm_L := []
def sJ0_coder_7d493 : mm_F := mm_S (mm_gf gLJ0) (mm_pf pLJ0) (mm_mv vJ0_coder_7d493) (mm_mv zJ0_coder_7d493) (mm_kc kLJ0) gsJ0 rfJ0 (some .byte) 1 (mm_ins iJ0_coder_7d493)
set_option maxRecDepth 20000 in
theorem tJ0_coder_7d493 (l : Launch) : mm_Ct l yJ0_coder_7d493 cJ0_coder_7d493 1 (some .byte) 0 sJ0_coder_7d493 := mm_meth (by decide +kernel) (mm_gf_ok gLJ0_ok) (mm_pf_ok pLJ0_ok) (mm_mv_ok (L := vJ0_coder_7d493) (fun _ h => absurd h List.not_mem_nil)) (mm_ms_ok (L := zJ0_coder_7d493) (fun _ h => absurd h List.not_mem_nil)) (mm_kc_ok kLJ0_ok) gsJ0_ok rfJ0_ok (mm_dec_ok iJ0_coder_7d493_ok)
abbrev cJ0_length_8abf5 : ByteArray := prog_17_method_54_code
def yJ0_length_8abf5 : MethodName := ⟨RJ0, "length", "()I"⟩
def iJ0_length_8abf5 : List (List (Nat × Instr)) := [[(0, .aload_n 0), (1, .getfield 9), (4, .arraylength), (5, .aload_n 0), (6, .invokevirtual 335), (9, .ishr), (10, .ireturn)]]
set_option maxRecDepth 20000 in
theorem iJ0_length_8abf5_ok : mm_dec cJ0_length_8abf5 iJ0_length_8abf5 = true := by decide +kernel
set_option maxRecDepth 20000 in
theorem wJ0_length_8abf5 : mm_MV yJ0_length_8abf5 cJ0_length_8abf5 1 (some .int) 99 := ⟨by decide, Or.inl ⟨rfl, rfl⟩, ⟨by decide +kernel, by decide +kernel⟩, mm_G_in (i := 497) (by decide +kernel) rfl, mm_G_in (i := 498) (by decide +kernel) rfl, mm_G_in (i := 81) (by decide +kernel) rfl, mm_G_in (i := 499) (by decide +kernel) rfl⟩
def vJ0_length_8abf5 : mm_L := [(335, 1, some 99, sJ0_coder_7d493)]
def zJ0_length_8abf5 : mm_L := []
def sJ0_length_8abf5 : mm_F := mm_S (mm_gf gLJ0) (mm_pf pLJ0) (mm_mv vJ0_length_8abf5) (mm_mv zJ0_length_8abf5) (mm_kc kLJ0) gsJ0 rfJ0 (some .int) 1 (mm_ins iJ0_length_8abf5)
set_option maxRecDepth 20000 in
theorem tJ0_length_8abf5 (l : Launch) : mm_Ct l yJ0_length_8abf5 cJ0_length_8abf5 1 (some .int) 1 sJ0_length_8abf5 := mm_meth (by decide +kernel) (mm_gf_ok gLJ0_ok) (mm_pf_ok pLJ0_ok) (mm_mv_ok (L := vJ0_length_8abf5) (List.forall_mem_cons.mpr ⟨mm_LV.mk (i := 500) wJ0_coder_7d493 (tJ0_coder_7d493 l) (by decide) (by decide +kernel) (by decide +kernel), fun _ h => absurd h List.not_mem_nil⟩)) (mm_ms_ok (L := zJ0_length_8abf5) (fun _ h => absurd h List.not_mem_nil)) (mm_kc_ok kLJ0_ok) gsJ0_ok rfJ0_ok (mm_dec_ok iJ0_length_8abf5_ok)
abbrev cJ0_isLatin1_aae02 : ByteArray := prog_17_method_154_code
def yJ0_isLatin1_aae02 : MethodName := ⟨RJ0, "isLatin1", "()Z"⟩
def iJ0_isLatin1_aae02 : List (List (Nat × Instr)) := [[(0, .getstatic 38), (3, .ifCond .eq 14), (6, .aload_n 0), (7, .getfield 15), (10, .ifCond .ne 7), (13, .iconst 1), (14, .goto 4)], [(17, .iconst 0), (18, .ireturn)]]
set_option maxRecDepth 20000 in
theorem iJ0_isLatin1_aae02_ok : mm_dec cJ0_isLatin1_aae02 iJ0_isLatin1_aae02 = true := by decide +kernel
set_option maxRecDepth 20000 in
theorem wJ0_isLatin1_aae02 : mm_MV yJ0_isLatin1_aae02 cJ0_isLatin1_aae02 1 (some .boolean) 99 := ⟨by decide, Or.inl ⟨rfl, rfl⟩, ⟨by decide +kernel, by decide +kernel⟩, mm_G_in (i := 511) (by decide +kernel) rfl, mm_G_in (i := 512) (by decide +kernel) rfl, mm_G_in (i := 81) (by decide +kernel) rfl, mm_G_in (i := 513) (by decide +kernel) rfl⟩
def vJ0_isLatin1_aae02 : mm_L := []
def zJ0_isLatin1_aae02 : mm_L := []
def sJ0_isLatin1_aae02 : mm_F := mm_S (mm_gf gLJ0) (mm_pf pLJ0) (mm_mv vJ0_isLatin1_aae02) (mm_mv zJ0_isLatin1_aae02) (mm_kc kLJ0) gsJ0 rfJ0 (some .boolean) 1 (mm_ins iJ0_isLatin1_aae02)
set_option maxRecDepth 20000 in
theorem tJ0_isLatin1_aae02 (l : Launch) : mm_Ct l yJ0_isLatin1_aae02 cJ0_isLatin1_aae02 1 (some .boolean) 0 sJ0_isLatin1_aae02 := mm_meth (by decide +kernel) (mm_gf_ok gLJ0_ok) (mm_pf_ok pLJ0_ok) (mm_mv_ok (L := vJ0_isLatin1_aae02) (fun _ h => absurd h List.not_mem_nil)) (mm_ms_ok (L := zJ0_isLatin1_aae02) (fun _ h => absurd h List.not_mem_nil)) (mm_kc_ok kLJ0_ok) gsJ0_ok rfJ0_ok (mm_dec_ok iJ0_isLatin1_aae02_ok)
abbrev cJ3_checkIndex_8e157 : ByteArray := prog_22_method_11_code
def yJ3_checkIndex_8e157 : MethodName := ⟨RJ3, "checkIndex", "(IILjava/util/function/BiFunction;)I"⟩
def iJ3_checkIndex_8e157 : List (List (Nat × Instr)) := [[(0, .iload_n 0), (1, .ifCond .lt 8), (4, .iload_n 0), (5, .iload_n 1), (6, .if_icmp .lt 10), (9, .aload_n 2), (10, .iload_n 0), (11, .iload_n 1), (12, .invokestatic 95), (15, .athrow)], [(16, .iload_n 0), (17, .ireturn)]]
set_option maxRecDepth 20000 in
theorem iJ3_checkIndex_8e157_ok : mm_dec cJ3_checkIndex_8e157 iJ3_checkIndex_8e157 = true := by decide +kernel
set_option maxRecDepth 20000 in
theorem wJ3_checkIndex_8e157 : mm_MS yJ3_checkIndex_8e157 cJ3_checkIndex_8e157 3 (some .int) := ⟨by decide, ⟨by decide +kernel, by decide +kernel⟩, mm_G_in (i := 523) (by decide +kernel) rfl, mm_G_in (i := 83) (by decide +kernel) rfl, mm_G_in (i := 524) (by decide +kernel) rfl⟩
def vJ3_checkIndex_8e157 : mm_L := []
def zJ3_checkIndex_8e157 : mm_L := []
def sJ3_checkIndex_8e157 : mm_F := mm_S (mm_gf gLJ3) (mm_pf pLJ3) (mm_mv vJ3_checkIndex_8e157) (mm_mv zJ3_checkIndex_8e157) (mm_kc kLJ3) mm_gs0 mm_rf0 (some .int) 3 (mm_ins iJ3_checkIndex_8e157)
set_option maxRecDepth 20000 in
theorem tJ3_checkIndex_8e157 (l : Launch) : mm_Ct l yJ3_checkIndex_8e157 cJ3_checkIndex_8e157 3 (some .int) 0 sJ3_checkIndex_8e157 := mm_meth (by decide +kernel) (mm_gf_ok gLJ3_ok) (mm_pf_ok pLJ3_ok) (mm_mv_ok (L := vJ3_checkIndex_8e157) (fun _ h => absurd h List.not_mem_nil)) (mm_ms_ok (L := zJ3_checkIndex_8e157) (fun _ h => absurd h List.not_mem_nil)) (mm_kc_ok kLJ3_ok) mm_gs0_ok mm_rf0_ok (mm_dec_ok iJ3_checkIndex_8e157_ok)
abbrev cJ0_checkIndex_df160 : ByteArray := prog_17_method_155_code
def yJ0_checkIndex_df160 : MethodName := ⟨RJ0, "checkIndex", "(II)V"⟩
def iJ0_checkIndex_df160 : List (List (Nat × Instr)) := [[(0, .iload_n 0), (1, .iload_n 1), (2, .getstatic 1053), (5, .invokestatic 1059), (8, .pop), (9, .return_)]]
set_option maxRecDepth 20000 in
theorem iJ0_checkIndex_df160_ok : mm_dec cJ0_checkIndex_df160 iJ0_checkIndex_df160 = true := by decide +kernel
set_option maxRecDepth 20000 in
theorem wJ0_checkIndex_df160 : mm_MS yJ0_checkIndex_df160 cJ0_checkIndex_df160 2 none := ⟨by decide, ⟨by decide +kernel, by decide +kernel⟩, mm_G_in (i := 518) (by decide +kernel) rfl, mm_G_in (i := 81) (by decide +kernel) rfl, mm_G_in (i := 519) (by decide +kernel) rfl⟩
def vJ0_checkIndex_df160 : mm_L := []
def zJ0_checkIndex_df160 : mm_L := [(1059, 3, none, sJ3_checkIndex_8e157)]
def gsCI (u : Bool) (n : Nat) : Option Value := bif Nat.beq n 1053 then some (bif u then .null else .ref 2002) else none
set_option maxRecDepth 20000 in
theorem gsCI_ok (u : Bool) : mm_GS2 RJ0 u (gsCI u) := by
  intro n v h
  unfold gsCI at h
  by_cases h1 : n = 1053
  · subst h1
    have h : some (bif u then Value.null else .ref 2002) = some v := h
    exact Or.inr ⟨mm_G_in (i := 520) (by decide +kernel) rfl, (Option.some.inj h).symm⟩
  · rw [mm_beqF h1] at h
    cases h
def sJ0_checkIndex_df160 : mm_F := fun vs mw => match vs with
  | [.int i, .int n] => bif decide (0 ≤ i.toInt) && decide (i.toInt < n.toInt) then some (none, mw) else none
  | _ => none
theorem ck3n {a b : Int} {mw : List va_E} (h0 : 0 ≤ a) (h1 : a < b) (h2 : b ≤ 2147483647) : sJ3_checkIndex_8e157 [iv a, iv b, .null] mw = some (some (iv a), mw) := by
  obtain ⟨r, h3, h4⟩ := rn_S (vs := [iv a, iv b, .null]) (mw := mw) (Q := fun r => r = (some (iv a), mw)) (gf := mm_gf gLJ3) (pf := mm_pf pLJ3) (mv := mm_mv vJ3_checkIndex_8e157) (ms := mm_mv zJ3_checkIndex_8e157) (kc := mm_kc kLJ3) (gs := mm_gs0) (rf := mm_rf0) (rt := some .int) (nL := 3) (ins := mm_ins iJ3_checkIndex_8e157) rfl (rn_up (N := 50) (M := mm_fuel) (by decide) (by
    refine r_il rfl rfl ?_
    refine r_zlt rfl rfl (by omega) (fun h => ?_) (fun h => ?_)
    · omega
    · refine r_il rfl rfl ?_
      refine r_il rfl rfl ?_
      refine r_clt rfl rfl (by omega) (by omega) (fun h => ?_) (fun h => ?_)
      · refine r_il rfl rfl ?_
        exact r_ret rfl rfl rfl
      · omega))
  have h3 : sJ3_checkIndex_8e157 [iv a, iv b, .null] mw = some r := h3
  rw [h3, h4]
theorem ck3r {a b : Int} {mw : List va_E} (h0 : 0 ≤ a) (h1 : a < b) (h2 : b ≤ 2147483647) : sJ3_checkIndex_8e157 [iv a, iv b, .ref 2002] mw = some (some (iv a), mw) := by
  obtain ⟨r, h3, h4⟩ := rn_S (vs := [iv a, iv b, .ref 2002]) (mw := mw) (Q := fun r => r = (some (iv a), mw)) (gf := mm_gf gLJ3) (pf := mm_pf pLJ3) (mv := mm_mv vJ3_checkIndex_8e157) (ms := mm_mv zJ3_checkIndex_8e157) (kc := mm_kc kLJ3) (gs := mm_gs0) (rf := mm_rf0) (rt := some .int) (nL := 3) (ins := mm_ins iJ3_checkIndex_8e157) rfl (rn_up (N := 50) (M := mm_fuel) (by decide) (by
    refine r_il rfl rfl ?_
    refine r_zlt rfl rfl (by omega) (fun h => ?_) (fun h => ?_)
    · omega
    · refine r_il rfl rfl ?_
      refine r_il rfl rfl ?_
      refine r_clt rfl rfl (by omega) (by omega) (fun h => ?_) (fun h => ?_)
      · refine r_il rfl rfl ?_
        exact r_ret rfl rfl rfl
      · omega))
  have h3 : sJ3_checkIndex_8e157 [iv a, iv b, .ref 2002] mw = some r := h3
  rw [h3, h4]
theorem ck_run : ∀ (u : Bool) (vs : List Value) (mw : List va_E) (r : mm_R), sJ0_checkIndex_df160 vs mw = some r → mm_S (mm_gf gLJ0) (mm_pf pLJ0) (mm_mv vJ0_checkIndex_df160) (mm_mv zJ0_checkIndex_df160) (mm_kc kLJ0) (gsCI u) rfJ0 none 2 (mm_ins iJ0_checkIndex_df160) vs mw = some r := by
  intro u vs mw r h
  unfold sJ0_checkIndex_df160 at h
  split at h
  · rename_i i n
    obtain ⟨h1, h2⟩ := mm_bif h
    subst h2
    simp only [Bool.and_eq_true, decide_eq_true_eq] at h1
    have hn : n.toInt ≤ 2147483647 := by have := Int32.toInt_lt n; omega
    rw [iv_of i, iv_of n]
    obtain ⟨r, h3, h4⟩ := rn_S (vs := [iv i.toInt, iv n.toInt]) (mw := mw) (Q := fun r => r = (none, mw)) (gf := mm_gf gLJ0) (pf := mm_pf pLJ0) (mv := mm_mv vJ0_checkIndex_df160) (ms := mm_mv zJ0_checkIndex_df160) (kc := mm_kc kLJ0) (gs := gsCI u) (rf := rfJ0) (rt := none) (nL := 2) (ins := mm_ins iJ0_checkIndex_df160) rfl (rn_up (N := 50) (M := mm_fuel) (by decide) (by
      refine r_il rfl rfl ?_
      refine r_il rfl rfl ?_
      refine r_gs rfl rfl ?_
      cases u with
      | true =>
        refine r_s3s rfl rfl rfl (ck3n h1.1 h1.2 hn) ?_
        refine r_pop rfl rfl ?_
        exact r_retv rfl rfl rfl
      | false =>
        refine r_s3s rfl rfl rfl (ck3r h1.1 h1.2 hn) ?_
        refine r_pop rfl rfl ?_
        exact r_retv rfl rfl rfl))
    rw [h3, h4]
  · cases h
set_option maxRecDepth 20000 in
theorem tJ0_checkIndex_df160 (l : Launch) : mm_Ct l yJ0_checkIndex_df160 cJ0_checkIndex_df160 2 none 1 sJ0_checkIndex_df160 := mm_methG (gs := gsCI) (by decide +kernel) (mm_gf_ok gLJ0_ok) (mm_pf_ok pLJ0_ok) (mm_mv_ok (L := vJ0_checkIndex_df160) (fun _ h => absurd h List.not_mem_nil)) (mm_ms_ok (L := zJ0_checkIndex_df160) (List.forall_mem_cons.mpr ⟨⟨rfl, Or.inl (mm_LS.mk (i := 522) wJ3_checkIndex_8e157 (tJ3_checkIndex_8e157 l) (by decide) (by decide +kernel) (by decide +kernel))⟩, fun _ h => absurd h List.not_mem_nil⟩)) (mm_kc_ok kLJ0_ok) gsCI_ok rfJ0_ok (mm_dec_ok iJ0_checkIndex_df160_ok) ck_run
abbrev cJ1_charAt_3b067 : ByteArray := prog_18_method_2_code
def yJ1_charAt_3b067 : MethodName := ⟨RJ1, "charAt", "([BI)C"⟩
def iJ1_charAt_3b067 : List (List (Nat × Instr)) := [[(0, .iload_n 1), (1, .aload_n 0), (2, .arraylength), (3, .invokestatic 9), (6, .aload_n 0), (7, .iload_n 1), (8, .baload), (9, .sipush 255), (12, .iand), (13, .i2c), (14, .ireturn)]]
set_option maxRecDepth 20000 in
theorem iJ1_charAt_3b067_ok : mm_dec cJ1_charAt_3b067 iJ1_charAt_3b067 = true := by decide +kernel
set_option maxRecDepth 20000 in
theorem wJ1_charAt_3b067 : mm_MS yJ1_charAt_3b067 cJ1_charAt_3b067 2 (some .char) := ⟨by decide, ⟨by decide +kernel, by decide +kernel⟩, mm_G_in (i := 515) (by decide +kernel) rfl, mm_G_in (i := 82) (by decide +kernel) rfl, mm_G_in (i := 516) (by decide +kernel) rfl⟩
def vJ1_charAt_3b067 : mm_L := []
def zJ1_charAt_3b067 : mm_L := [(9, 2, none, sJ0_checkIndex_df160)]
def sJ1_charAt_3b067 : mm_F := mm_S (mm_gf gLJ1) (mm_pf pLJ1) (mm_mv vJ1_charAt_3b067) (mm_mv zJ1_charAt_3b067) (mm_kc kLJ1) mm_gs0 mm_rf0 (some .char) 2 (mm_ins iJ1_charAt_3b067)
set_option maxRecDepth 20000 in
theorem tJ1_charAt_3b067 (l : Launch) : mm_Ct l yJ1_charAt_3b067 cJ1_charAt_3b067 2 (some .char) 2 sJ1_charAt_3b067 := mm_meth (by decide +kernel) (mm_gf_ok gLJ1_ok) (mm_pf_ok pLJ1_ok) (mm_mv_ok (L := vJ1_charAt_3b067) (fun _ h => absurd h List.not_mem_nil)) (mm_ms_ok (L := zJ1_charAt_3b067) (List.forall_mem_cons.mpr ⟨⟨rfl, Or.inl (mm_LS.mk (i := 517) wJ0_checkIndex_df160 (tJ0_checkIndex_df160 l) (by decide) (by decide +kernel) (by decide +kernel))⟩, fun _ h => absurd h List.not_mem_nil⟩)) (mm_kc_ok kLJ1_ok) mm_gs0_ok mm_rf0_ok (mm_dec_ok iJ1_charAt_3b067_ok)
abbrev cJ0_charAt_5068e : ByteArray := prog_17_method_56_code
def yJ0_charAt_5068e : MethodName := ⟨RJ0, "charAt", "(I)C"⟩
def iJ0_charAt_5068e : List (List (Nat × Instr)) := [[(0, .aload_n 0), (1, .invokevirtual 492), (4, .ifCond .eq 12), (7, .aload_n 0), (8, .getfield 9), (11, .iload_n 1), (12, .invokestatic 495), (15, .ireturn)], [(16, .aload_n 0), (17, .getfield 9), (20, .iload_n 1), (21, .invokestatic 498), (24, .ireturn)]]
set_option maxRecDepth 20000 in
theorem iJ0_charAt_5068e_ok : mm_dec cJ0_charAt_5068e iJ0_charAt_5068e = true := by decide +kernel
set_option maxRecDepth 20000 in
theorem wJ0_charAt_5068e : mm_MV yJ0_charAt_5068e cJ0_charAt_5068e 2 (some .char) 99 := ⟨by decide, Or.inl ⟨rfl, rfl⟩, ⟨by decide +kernel, by decide +kernel⟩, mm_G_in (i := 507) (by decide +kernel) rfl, mm_G_in (i := 508) (by decide +kernel) rfl, mm_G_in (i := 81) (by decide +kernel) rfl, mm_G_in (i := 509) (by decide +kernel) rfl⟩
def vJ0_charAt_5068e : mm_L := [(492, 1, some 99, sJ0_isLatin1_aae02)]
def zJ0_charAt_5068e : mm_L := [(495, 2, none, sJ1_charAt_3b067)]
def sJ0_charAt_5068e : mm_F := mm_S (mm_gf gLJ0) (mm_pf pLJ0) (mm_mv vJ0_charAt_5068e) (mm_mv zJ0_charAt_5068e) (mm_kc kLJ0) gsJ0 rfJ0 (some .char) 2 (mm_ins iJ0_charAt_5068e)
set_option maxRecDepth 20000 in
theorem tJ0_charAt_5068e (l : Launch) : mm_Ct l yJ0_charAt_5068e cJ0_charAt_5068e 2 (some .char) 3 sJ0_charAt_5068e := mm_meth (by decide +kernel) (mm_gf_ok gLJ0_ok) (mm_pf_ok pLJ0_ok) (mm_mv_ok (L := vJ0_charAt_5068e) (List.forall_mem_cons.mpr ⟨mm_LV.mk (i := 510) wJ0_isLatin1_aae02 (tJ0_isLatin1_aae02 l) (by decide) (by decide +kernel) (by decide +kernel), fun _ h => absurd h List.not_mem_nil⟩)) (mm_ms_ok (L := zJ0_charAt_5068e) (List.forall_mem_cons.mpr ⟨⟨rfl, Or.inl (mm_LS.mk (i := 514) wJ1_charAt_3b067 (tJ1_charAt_3b067 l) (by decide) (by decide +kernel) (by decide +kernel))⟩, fun _ h => absurd h List.not_mem_nil⟩)) (mm_kc_ok kLJ0_ok) gsJ0_ok rfJ0_ok (mm_dec_ok iJ0_charAt_5068e_ok)
abbrev cX7_spells : ByteArray := prog_9_method_14_code
def yX7_spells : MethodName := ⟨RX7, "spells", "(Ljava/lang/String;)Z"⟩
def iX7_spells : List (List (Nat × Instr)) := [[(0, .aload_n 0), (1, .getfield 28), (4, .aload_n 0), (5, .getfield 15), (8, .isub), (9, .aload_n 1), (10, .invokevirtual 142), (13, .if_icmp .eq 5)], [(16, .iconst 0), (17, .ireturn), (18, .iconst 0), (19, .istore_n 2), (20, .iload_n 2), (21, .aload_n 1), (22, .invokevirtual 142), (25, .if_icmp .ge 33), (28, .aload_n 0), (29, .getfield 9)], [(32, .getfield 106), (35, .aload_n 0), (36, .getfield 15), (39, .iload_n 2), (40, .iadd), (41, .baload), (42, .aload_n 1), (43, .iload_n 2), (44, .invokevirtual 146), (47, .if_icmp .eq 5)], [(50, .iconst 0), (51, .ireturn), (52, .iinc 2 1), (55, .goto (-35)), (58, .iconst 1), (59, .ireturn)]]
set_option maxRecDepth 20000 in
theorem iX7_spells_ok : mm_dec cX7_spells iX7_spells = true := by decide +kernel
set_option maxRecDepth 20000 in
theorem wX7_spells : mm_MV yX7_spells cX7_spells 3 (some .boolean) 7 := ⟨by decide, Or.inr ⟨_, rfl, rfl⟩, ⟨by decide +kernel, by decide +kernel⟩, mm_G_in (i := 494) (by decide +kernel) rfl, mm_G_in (i := 2) (by decide +kernel) rfl, mm_G_in (i := 70) (by decide +kernel) rfl, mm_G_in (i := 495) (by decide +kernel) rfl⟩
def vX7_spells : mm_L := [(142, 1, some 99, sJ0_length_8abf5), (146, 2, some 99, sJ0_charAt_5068e)]
def zX7_spells : mm_L := []
def sX7_spells : mm_F := mm_S (mm_gf gLX7) (mm_pf pLX7) (mm_mv vX7_spells) (mm_mv zX7_spells) (mm_kc kLX7) mm_gs0 mm_rf0 (some .boolean) 3 (mm_ins iX7_spells)
set_option maxRecDepth 20000 in
theorem tX7_spells (l : Launch) : mm_Ct l yX7_spells cX7_spells 3 (some .boolean) 4 sX7_spells := mm_meth (by decide +kernel) (mm_gf_ok gLX7_ok) (mm_pf_ok pLX7_ok) (mm_mv_ok (L := vX7_spells) (List.forall_mem_cons.mpr ⟨mm_LV.mk (i := 496) wJ0_length_8abf5 (tJ0_length_8abf5 l) (by decide) (by decide +kernel) (by decide +kernel), List.forall_mem_cons.mpr ⟨mm_LV.mk (i := 506) wJ0_charAt_5068e (tJ0_charAt_5068e l) (by decide) (by decide +kernel) (by decide +kernel), fun _ h => absurd h List.not_mem_nil⟩⟩)) (mm_ms_ok (L := zX7_spells) (fun _ h => absurd h List.not_mem_nil)) (mm_kc_ok kLX7_ok) mm_gs0_ok mm_rf0_ok (mm_dec_ok iX7_spells_ok)
abbrev cX7_readWord : ByteArray := prog_9_method_13_code
def yX7_readWord : MethodName := ⟨RX7, "readWord", "()V"⟩
def iX7_readWord : List (List (Nat × Instr)) := [[(0, .aload_n 0), (1, .getfield 28), (4, .aload_n 0), (5, .getfield 9), (8, .getfield 101), (11, .if_icmp .ge 34), (14, .aload_n 0), (15, .getfield 9)], [(18, .getfield 106), (21, .aload_n 0), (22, .getfield 28), (25, .baload), (26, .invokestatic 110), (29, .ifCond .eq 16)], [(32, .aload_n 0), (33, .dup), (34, .getfield 28), (37, .iconst 1), (38, .iadd), (39, .putfield 28), (42, .goto (-42)), (45, .aload_n 0), (46, .ldc 126)], [(48, .invokevirtual 128), (51, .ifCond .eq 12), (54, .aload_n 0), (55, .bipush 6), (57, .putfield 34), (60, .goto 94), (63, .aload_n 0)], [(64, .ldc 132), (66, .invokevirtual 128), (69, .ifCond .eq 12), (72, .aload_n 0), (73, .bipush 7), (75, .putfield 34), (78, .goto 76)], [(81, .aload_n 0), (82, .ldc 134), (84, .invokevirtual 128), (87, .ifCond .eq 12), (90, .aload_n 0), (91, .bipush 8), (93, .putfield 34)], [(96, .goto 58), (99, .aload_n 0), (100, .ldc 136), (102, .invokevirtual 128), (105, .ifCond .eq 12), (108, .aload_n 0), (109, .bipush 9), (111, .putfield 34)], [(114, .goto 40), (117, .aload_n 0), (118, .ldc 138), (120, .invokevirtual 128), (123, .ifCond .eq 12), (126, .aload_n 0), (127, .bipush 10)], [(129, .putfield 34), (132, .goto 22), (135, .aload_n 0), (136, .aload_n 0), (137, .ldc 140), (139, .invokevirtual 128), (142, .ifCond .eq 8)], [(145, .bipush 11), (147, .goto 4), (150, .iconst 1), (151, .putfield 34), (154, .return_)]]
set_option maxRecDepth 20000 in
theorem iX7_readWord_ok : mm_dec cX7_readWord iX7_readWord = true := by decide +kernel
set_option maxRecDepth 20000 in
theorem wX7_readWord : mm_MV yX7_readWord cX7_readWord 1 none 7 := ⟨by decide, Or.inr ⟨_, rfl, rfl⟩, ⟨by decide +kernel, by decide +kernel⟩, mm_G_in (i := 489) (by decide +kernel) rfl, mm_G_in (i := 1) (by decide +kernel) rfl, mm_G_in (i := 70) (by decide +kernel) rfl, mm_G_in (i := 490) (by decide +kernel) rfl⟩
def vX7_readWord : mm_L := [(128, 2, some 7, sX7_spells)]
def zX7_readWord : mm_L := [(110, 1, none, sX7_isSmallLetter)]
def sX7_readWord : mm_F := mm_S (mm_gf gLX7) (mm_pf pLX7) (mm_mv vX7_readWord) (mm_mv zX7_readWord) (mm_kc kLX7) mm_gs0 mm_rf0 none 1 (mm_ins iX7_readWord)
set_option maxRecDepth 20000 in
theorem tX7_readWord (l : Launch) : mm_Ct l yX7_readWord cX7_readWord 1 none 5 sX7_readWord := mm_meth (by decide +kernel) (mm_gf_ok gLX7_ok) (mm_pf_ok pLX7_ok) (mm_mv_ok (L := vX7_readWord) (List.forall_mem_cons.mpr ⟨mm_LV.mk (i := 492) wX7_spells (tX7_spells l) (by decide) (by decide +kernel) (by decide +kernel), fun _ h => absurd h List.not_mem_nil⟩)) (mm_ms_ok (L := zX7_readWord) (List.forall_mem_cons.mpr ⟨⟨rfl, Or.inl (mm_LS.mk (i := 484) wX7_isSmallLetter (tX7_isSmallLetter l) (by decide) (by decide +kernel) (by decide +kernel))⟩, fun _ h => absurd h List.not_mem_nil⟩)) (mm_kc_ok kLX7_ok) mm_gs0_ok mm_rf0_ok (mm_dec_ok iX7_readWord_ok)
abbrev cX7_isDigit : ByteArray := prog_9_method_16_code
def yX7_isDigit : MethodName := ⟨RX7, "isDigit", "(I)Z"⟩
def iX7_isDigit : List (List (Nat × Instr)) := [[(0, .iload_n 0), (1, .bipush 48), (3, .if_icmp .lt 13), (6, .iload_n 0), (7, .bipush 57), (9, .if_icmp .gt 7), (12, .iconst 1), (13, .goto 4)], [(16, .iconst 0), (17, .ireturn)]]
set_option maxRecDepth 20000 in
theorem iX7_isDigit_ok : mm_dec cX7_isDigit iX7_isDigit = true := by decide +kernel
set_option maxRecDepth 20000 in
theorem wX7_isDigit : mm_MS yX7_isDigit cX7_isDigit 1 (some .boolean) := ⟨by decide, ⟨by decide +kernel, by decide +kernel⟩, mm_G_in (i := 550) (by decide +kernel) rfl, mm_G_in (i := 70) (by decide +kernel) rfl, mm_G_in (i := 551) (by decide +kernel) rfl⟩
def vX7_isDigit : mm_L := []
def zX7_isDigit : mm_L := []
def sX7_isDigit : mm_F := mm_S (mm_gf gLX7) (mm_pf pLX7) (mm_mv vX7_isDigit) (mm_mv zX7_isDigit) (mm_kc kLX7) mm_gs0 mm_rf0 (some .boolean) 1 (mm_ins iX7_isDigit)
set_option maxRecDepth 20000 in
theorem tX7_isDigit (l : Launch) : mm_Ct l yX7_isDigit cX7_isDigit 1 (some .boolean) 0 sX7_isDigit := mm_meth (by decide +kernel) (mm_gf_ok gLX7_ok) (mm_pf_ok pLX7_ok) (mm_mv_ok (L := vX7_isDigit) (fun _ h => absurd h List.not_mem_nil)) (mm_ms_ok (L := zX7_isDigit) (fun _ h => absurd h List.not_mem_nil)) (mm_kc_ok kLX7_ok) mm_gs0_ok mm_rf0_ok (mm_dec_ok iX7_isDigit_ok)
abbrev cX7_readNumber : ByteArray := prog_9_method_12_code
def yX7_readNumber : MethodName := ⟨RX7, "readNumber", "()V"⟩
def iX7_readNumber : List (List (Nat × Instr)) := [[(0, .aload_n 0), (1, .getfield 28), (4, .aload_n 0), (5, .getfield 9), (8, .getfield 101), (11, .if_icmp .ge 34), (14, .aload_n 0), (15, .getfield 9)], [(18, .getfield 106), (21, .aload_n 0), (22, .getfield 28), (25, .baload), (26, .invokestatic 116), (29, .ifCond .eq 16)], [(32, .aload_n 0), (33, .dup), (34, .getfield 28), (37, .iconst 1), (38, .iadd), (39, .putfield 28), (42, .goto (-42)), (45, .aload_n 0), (46, .getfield 15)], [(49, .istore_n 1), (50, .iload_n 1), (51, .aload_n 0), (52, .getfield 28), (55, .if_icmp .ge 43), (58, .aload_n 0), (59, .getfield 57), (62, .sipush 999)], [(65, .if_icmp .gt 33), (68, .aload_n 0), (69, .aload_n 0), (70, .getfield 57), (73, .bipush 10), (75, .imul), (76, .aload_n 0), (77, .getfield 9)], [(80, .getfield 106), (83, .iload_n 1), (84, .baload), (85, .iadd), (86, .bipush 48), (88, .isub), (89, .putfield 57), (92, .iinc 1 1), (95, .goto (-45))], [(98, .aload_n 0), (99, .getfield 9), (102, .getfield 106), (105, .aload_n 0), (106, .getfield 15), (109, .baload), (110, .bipush 48)], [(112, .if_icmp .ne 20), (115, .aload_n 0), (116, .getfield 28), (119, .aload_n 0), (120, .getfield 15), (123, .isub), (124, .iconst 1), (125, .if_icmp .le 7)], [(128, .iconst 1), (129, .goto 4), (132, .iconst 0), (133, .istore_n 1), (134, .aload_n 0), (135, .iload_n 1), (136, .ifCond .ne 13), (139, .aload_n 0), (140, .getfield 57), (143, .sipush 999)], [(146, .if_icmp .le 7), (149, .iconst 1), (150, .goto 4), (153, .iconst 2), (154, .putfield 34), (157, .return_)]]
set_option maxRecDepth 20000 in
theorem iX7_readNumber_ok : mm_dec cX7_readNumber iX7_readNumber = true := by decide +kernel
set_option maxRecDepth 20000 in
theorem wX7_readNumber : mm_MV yX7_readNumber cX7_readNumber 2 none 7 := ⟨by decide, Or.inr ⟨_, rfl, rfl⟩, ⟨by decide +kernel, by decide +kernel⟩, mm_G_in (i := 554) (by decide +kernel) rfl, mm_G_in (i := 3) (by decide +kernel) rfl, mm_G_in (i := 70) (by decide +kernel) rfl, mm_G_in (i := 555) (by decide +kernel) rfl⟩
def vX7_readNumber : mm_L := []
def zX7_readNumber : mm_L := [(116, 1, none, sX7_isDigit)]
def sX7_readNumber : mm_F := mm_S (mm_gf gLX7) (mm_pf pLX7) (mm_mv vX7_readNumber) (mm_mv zX7_readNumber) (mm_kc kLX7) mm_gs0 mm_rf0 none 2 (mm_ins iX7_readNumber)
set_option maxRecDepth 20000 in
theorem tX7_readNumber (l : Launch) : mm_Ct l yX7_readNumber cX7_readNumber 2 none 1 sX7_readNumber := mm_meth (by decide +kernel) (mm_gf_ok gLX7_ok) (mm_pf_ok pLX7_ok) (mm_mv_ok (L := vX7_readNumber) (fun _ h => absurd h List.not_mem_nil)) (mm_ms_ok (L := zX7_readNumber) (List.forall_mem_cons.mpr ⟨⟨rfl, Or.inl (mm_LS.mk (i := 549) wX7_isDigit (tX7_isDigit l) (by decide) (by decide +kernel) (by decide +kernel))⟩, fun _ h => absurd h List.not_mem_nil⟩)) (mm_kc_ok kLX7_ok) mm_gs0_ok mm_rf0_ok (mm_dec_ok iX7_readNumber_ok)
abbrev cX7_tokenOfOneByte : ByteArray := prog_9_method_11_code
def yX7_tokenOfOneByte : MethodName := ⟨RX7, "tokenOfOneByte", "(I)I"⟩
def iX7_tokenOfOneByte : List (List (Nat × Instr)) := [[(0, .iload_n 1), (1, .bipush 65), (3, .if_icmp .lt 19), (6, .iload_n 1), (7, .bipush 72), (9, .if_icmp .gt 13), (12, .aload_n 0), (13, .iload_n 1), (14, .bipush 65)], [(16, .isub), (17, .putfield 57), (20, .iconst 3), (21, .ireturn), (22, .iload_n 1), (23, .bipush 47), (25, .if_icmp .ne 5), (28, .iconst 4), (29, .ireturn), (30, .iload_n 1), (31, .bipush 59)], [(33, .if_icmp .ne 7), (36, .iconst 5), (37, .goto 4), (40, .iconst 1), (41, .ireturn)]]
set_option maxRecDepth 20000 in
theorem iX7_tokenOfOneByte_ok : mm_dec cX7_tokenOfOneByte iX7_tokenOfOneByte = true := by decide +kernel
set_option maxRecDepth 20000 in
theorem wX7_tokenOfOneByte : mm_MV yX7_tokenOfOneByte cX7_tokenOfOneByte 2 (some .int) 7 := ⟨by decide, Or.inr ⟨_, rfl, rfl⟩, ⟨by decide +kernel, by decide +kernel⟩, mm_G_in (i := 558) (by decide +kernel) rfl, mm_G_in (i := 4) (by decide +kernel) rfl, mm_G_in (i := 70) (by decide +kernel) rfl, mm_G_in (i := 559) (by decide +kernel) rfl⟩
def vX7_tokenOfOneByte : mm_L := []
def zX7_tokenOfOneByte : mm_L := []
def sX7_tokenOfOneByte : mm_F := mm_S (mm_gf gLX7) (mm_pf pLX7) (mm_mv vX7_tokenOfOneByte) (mm_mv zX7_tokenOfOneByte) (mm_kc kLX7) mm_gs0 mm_rf0 (some .int) 2 (mm_ins iX7_tokenOfOneByte)
set_option maxRecDepth 20000 in
theorem tX7_tokenOfOneByte (l : Launch) : mm_Ct l yX7_tokenOfOneByte cX7_tokenOfOneByte 2 (some .int) 0 sX7_tokenOfOneByte := mm_meth (by decide +kernel) (mm_gf_ok gLX7_ok) (mm_pf_ok pLX7_ok) (mm_mv_ok (L := vX7_tokenOfOneByte) (fun _ h => absurd h List.not_mem_nil)) (mm_ms_ok (L := zX7_tokenOfOneByte) (fun _ h => absurd h List.not_mem_nil)) (mm_kc_ok kLX7_ok) mm_gs0_ok mm_rf0_ok (mm_dec_ok iX7_tokenOfOneByte_ok)
