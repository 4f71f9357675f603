abbrev cX11_isPerson : ByteArray := prog_1_method_30_code
def yX11_isPerson : MethodName := ⟨RX11, "isPerson", "(I)Z"⟩
def iX11_isPerson : List (List (Nat × Instr)) := [[(0, .iload_n 0), (1, .ifCond .lt 13), (4, .iload_n 0), (5, .bipush 8), (7, .if_icmp .ge 7), (10, .iconst 1), (11, .goto 4), (14, .iconst 0), (15, .ireturn)]]
set_option maxRecDepth 20000 in
theorem iX11_isPerson_ok : mm_dec cX11_isPerson iX11_isPerson = true := by decide +kernel
set_option maxRecDepth 20000 in
theorem wX11_isPerson : mm_MS yX11_isPerson cX11_isPerson 1 (some .boolean) := ⟨by decide, ⟨by decide +kernel, by decide +kernel⟩, mm_G_in (i := 658) (by decide +kernel) rfl, mm_G_in (i := 68) (by decide +kernel) rfl, mm_G_in (i := 659) (by decide +kernel) rfl⟩
def vX11_isPerson : mm_L := []
def zX11_isPerson : mm_L := []
def sX11_isPerson : mm_F := mm_S (mm_gf gLX11) (mm_pf pLX11) (mm_mv vX11_isPerson) (mm_mv zX11_isPerson) (mm_kc kLX11) mm_gs0 mm_rf0 (some .boolean) 1 (mm_ins iX11_isPerson)
set_option maxRecDepth 20000 in
theorem tX11_isPerson (l : Launch) : mm_Ct l yX11_isPerson cX11_isPerson 1 (some .boolean) 0 sX11_isPerson := mm_meth (by decide +kernel) (mm_gf_ok gLX11_ok) (mm_pf_ok pLX11_ok) (mm_mv_ok (L := vX11_isPerson) (fun _ h => absurd h List.not_mem_nil)) (mm_ms_ok (L := zX11_isPerson) (fun _ h => absurd h List.not_mem_nil)) (mm_kc_ok kLX11_ok) mm_gs0_ok mm_rf0_ok (mm_dec_ok iX11_isPerson_ok)
abbrev cX11_valueOf : ByteArray := prog_1_method_9_code
def yX11_valueOf : MethodName := ⟨RX11, "valueOf", "(II)I"⟩
def iX11_valueOf : List (List (Nat × Instr)) := [[(0, .iload_n 1), (1, .invokestatic 177), (4, .ifCond .ne 5), (7, .iconst (-1)), (8, .ireturn), (9, .iload_n 2), (10, .tableswitch 72 0 2 #[26, 39, 49])], [], [(36, .aload_n 0), (37, .getfield 28), (40, .getfield 163), (43, .getfield 167), (46, .iload_n 1), (47, .iaload)], [(48, .ireturn), (49, .aload_n 0), (50, .getfield 58), (53, .getfield 170), (56, .iload_n 1), (57, .iaload), (58, .ireturn), (59, .aload_n 0), (60, .getfield 28), (63, .getfield 163)], [(66, .getfield 180), (69, .iload_n 1), (70, .invokestatic 183), (73, .ifCond .eq 7), (76, .iconst 1), (77, .goto 4)], [(80, .iconst 0), (81, .ireturn), (82, .iconst (-1)), (83, .ireturn)]]
set_option maxRecDepth 20000 in
theorem iX11_valueOf_ok : mm_dec cX11_valueOf iX11_valueOf = true := by decide +kernel
set_option maxRecDepth 20000 in
theorem wX11_valueOf : mm_MV yX11_valueOf cX11_valueOf 3 (some .int) 11 := ⟨by decide, Or.inr ⟨_, rfl, rfl⟩, ⟨by decide +kernel, by decide +kernel⟩, mm_G_in (i := 655) (by decide +kernel) rfl, mm_G_in (i := 11) (by decide +kernel) rfl, mm_G_in (i := 68) (by decide +kernel) rfl, mm_G_in (i := 656) (by decide +kernel) rfl⟩
def vX11_valueOf : mm_L := []
def zX11_valueOf : mm_L := [(177, 1, none, sX11_isPerson), (183, 2, none, sX11_isIn)]
def sX11_valueOf : mm_F := mm_S (mm_gf gLX11) (mm_pf pLX11) (mm_mv vX11_valueOf) (mm_mv zX11_valueOf) (mm_kc kLX11) mm_gs0 mm_rf0 (some .int) 3 (mm_ins iX11_valueOf)
set_option maxRecDepth 20000 in
theorem tX11_valueOf (l : Launch) : mm_Ct l yX11_valueOf cX11_valueOf 3 (some .int) 1 sX11_valueOf := mm_meth (by decide +kernel) (mm_gf_ok gLX11_ok) (mm_pf_ok pLX11_ok) (mm_mv_ok (L := vX11_valueOf) (fun _ h => absurd h List.not_mem_nil)) (mm_ms_ok (L := zX11_valueOf) (List.forall_mem_cons.mpr ⟨⟨rfl, Or.inl (mm_LS.mk (i := 657) wX11_isPerson (tX11_isPerson l) (by decide) (by decide +kernel) (by decide +kernel))⟩, List.forall_mem_cons.mpr ⟨⟨rfl, Or.inl (mm_LS.mk (i := 660) wX11_isIn (tX11_isIn l) (by decide) (by decide +kernel) (by decide +kernel))⟩, fun _ h => absurd h List.not_mem_nil⟩⟩)) (mm_kc_ok kLX11_ok) mm_gs0_ok mm_rf0_ok (mm_dec_ok iX11_valueOf_ok)
abbrev cX11_mostOf : ByteArray := prog_1_method_10_code
def yX11_mostOf : MethodName := ⟨RX11, "mostOf", "(I)I"⟩
def iX11_mostOf : List (List (Nat × Instr)) := [[(0, .iload_n 0), (1, .lookupswitch 34 #[(0, 27), (1, 31)])], [(28, .sipush 9999), (31, .ireturn)], [(32, .bipush 10), (34, .ireturn), (35, .iconst 1), (36, .ireturn)]]
set_option maxRecDepth 20000 in
theorem iX11_mostOf_ok : mm_dec cX11_mostOf iX11_mostOf = true := by decide +kernel
set_option maxRecDepth 20000 in
theorem wX11_mostOf : mm_MS yX11_mostOf cX11_mostOf 1 (some .int) := ⟨by decide, ⟨by decide +kernel, by decide +kernel⟩, mm_G_in (i := 662) (by decide +kernel) rfl, mm_G_in (i := 68) (by decide +kernel) rfl, mm_G_in (i := 663) (by decide +kernel) rfl⟩
def vX11_mostOf : mm_L := []
def zX11_mostOf : mm_L := []
def sX11_mostOf : mm_F := mm_S (mm_gf gLX11) (mm_pf pLX11) (mm_mv vX11_mostOf) (mm_mv zX11_mostOf) (mm_kc kLX11) mm_gs0 mm_rf0 (some .int) 1 (mm_ins iX11_mostOf)
set_option maxRecDepth 20000 in
theorem tX11_mostOf (l : Launch) : mm_Ct l yX11_mostOf cX11_mostOf 1 (some .int) 0 sX11_mostOf := mm_meth (by decide +kernel) (mm_gf_ok gLX11_ok) (mm_pf_ok pLX11_ok) (mm_mv_ok (L := vX11_mostOf) (fun _ h => absurd h List.not_mem_nil)) (mm_ms_ok (L := zX11_mostOf) (fun _ h => absurd h List.not_mem_nil)) (mm_kc_ok kLX11_ok) mm_gs0_ok mm_rf0_ok (mm_dec_ok iX11_mostOf_ok)
abbrev cX11_person : ByteArray := prog_1_method_7_code
def yX11_person : MethodName := ⟨RX11, "person", "(III)I"⟩
def iX11_person : List (List (Nat × Instr)) := [[(0, .aload_n 0), (1, .iload_n 1), (2, .iload_n 2), (3, .invokevirtual 156), (6, .istore 4), (8, .iload 4), (10, .iconst (-1)), (11, .if_icmp .eq 15), (14, .iload_n 3), (15, .ifCond .lt 11)], [(18, .iload_n 3), (19, .iload_n 2), (20, .invokestatic 160), (23, .if_icmp .le 5), (26, .iconst (-1)), (27, .ireturn), (28, .iload_n 2), (29, .lookupswitch 56 #[(0, 27), (1, 43)])], [], [(56, .aload_n 0), (57, .getfield 28), (60, .getfield 163), (63, .getfield 167)], [(66, .iload_n 1), (67, .iload_n 3), (68, .iastore), (69, .goto 34), (72, .aload_n 0), (73, .getfield 58), (76, .getfield 170), (79, .iload_n 1)], [(80, .iload_n 3), (81, .iastore), (82, .goto 21), (85, .aload_n 0), (86, .getfield 28), (89, .iload_n 1), (90, .iload_n 3), (91, .iconst 1), (92, .if_icmp .ne 7), (95, .iconst 1)], [(96, .goto 4), (99, .iconst 0), (100, .invokevirtual 173), (103, .iload 4), (105, .ireturn)]]
set_option maxRecDepth 20000 in
theorem iX11_person_ok : mm_dec cX11_person iX11_person = true := by decide +kernel
set_option maxRecDepth 20000 in
theorem wX11_person : mm_MV yX11_person cX11_person 5 (some .int) 11 := ⟨by decide, Or.inr ⟨_, rfl, rfl⟩, ⟨by decide +kernel, by decide +kernel⟩, mm_G_in (i := 650) (by decide +kernel) rfl, mm_G_in (i := 651) (by decide +kernel) rfl, mm_G_in (i := 68) (by decide +kernel) rfl, mm_G_in (i := 652) (by decide +kernel) rfl⟩
def vX11_person : mm_L := [(156, 3, some 11, sX11_valueOf), (173, 3, some 0, sX0_sayFallen)]
def zX11_person : mm_L := [(160, 1, none, sX11_mostOf)]
def sX11_person : mm_F := mm_S (mm_gf gLX11) (mm_pf pLX11) (mm_mv vX11_person) (mm_mv zX11_person) (mm_kc kLX11) mm_gs0 mm_rf0 (some .int) 5 (mm_ins iX11_person)
set_option maxRecDepth 20000 in
theorem tX11_person (l : Launch) : mm_Ct l yX11_person cX11_person 5 (some .int) 2 sX11_person := mm_meth (by decide +kernel) (mm_gf_ok gLX11_ok) (mm_pf_ok pLX11_ok) (mm_mv_ok (L := vX11_person) (List.forall_mem_cons.mpr ⟨mm_LV.mk (i := 653) wX11_valueOf (tX11_valueOf l) (by decide) (by decide +kernel) (by decide +kernel), List.forall_mem_cons.mpr ⟨mm_LV.mk (i := 664) wX0_sayFallen (tX0_sayFallen l) (by decide) (by decide +kernel) (by decide +kernel), fun _ h => absurd h List.not_mem_nil⟩⟩)) (mm_ms_ok (L := zX11_person) (List.forall_mem_cons.mpr ⟨⟨rfl, Or.inl (mm_LS.mk (i := 661) wX11_mostOf (tX11_mostOf l) (by decide) (by decide +kernel) (by decide +kernel))⟩, fun _ h => absurd h List.not_mem_nil⟩)) (mm_kc_ok kLX11_ok) mm_gs0_ok mm_rf0_ok (mm_dec_ok iX11_person_ok)
abbrev cX11_has : ByteArray := prog_1_method_8_code
def yX11_has : MethodName := ⟨RX11, "has", "(II)I"⟩
def iX11_has : List (List (Nat × Instr)) := [[(0, .aload_n 0), (1, .iload_n 1), (2, .iload_n 2), (3, .invokevirtual 156), (6, .ireturn)]]
set_option maxRecDepth 20000 in
theorem iX11_has_ok : mm_dec cX11_has iX11_has = true := by decide +kernel
set_option maxRecDepth 20000 in
theorem wX11_has : mm_MV yX11_has cX11_has 3 (some .int) 11 := ⟨by decide, Or.inr ⟨_, rfl, rfl⟩, ⟨by decide +kernel, by decide +kernel⟩, mm_G_in (i := 669) (by decide +kernel) rfl, mm_G_in (i := 670) (by decide +kernel) rfl, mm_G_in (i := 68) (by decide +kernel) rfl, mm_G_in (i := 671) (by decide +kernel) rfl⟩
def vX11_has : mm_L := [(156, 3, some 11, sX11_valueOf)]
def zX11_has : mm_L := []
def sX11_has : mm_F := mm_S (mm_gf gLX11) (mm_pf pLX11) (mm_mv vX11_has) (mm_mv zX11_has) (mm_kc kLX11) mm_gs0 mm_rf0 (some .int) 3 (mm_ins iX11_has)
set_option maxRecDepth 20000 in
theorem tX11_has (l : Launch) : mm_Ct l yX11_has cX11_has 3 (some .int) 2 sX11_has := mm_meth (by decide +kernel) (mm_gf_ok gLX11_ok) (mm_pf_ok pLX11_ok) (mm_mv_ok (L := vX11_has) (List.forall_mem_cons.mpr ⟨mm_LV.mk (i := 653) wX11_valueOf (tX11_valueOf l) (by decide) (by decide +kernel) (by decide +kernel), fun _ h => absurd h List.not_mem_nil⟩)) (mm_ms_ok (L := zX11_has) (fun _ h => absurd h List.not_mem_nil)) (mm_kc_ok kLX11_ok) mm_gs0_ok mm_rf0_ok (mm_dec_ok iX11_has_ok)
abbrev cX11_isPayable : ByteArray := prog_1_method_15_code
def yX11_isPayable : MethodName := ⟨RX11, "isPayable", "(II)Z"⟩
def iX11_isPayable : List (List (Nat × Instr)) := [[(0, .iload_n 1), (1, .iconst 1), (2, .if_icmp .ne 14), (5, .aload_n 0), (6, .getfield 28), (9, .iload_n 2), (10, .invokevirtual 135), (13, .goto 23)], [(16, .iload_n 1), (17, .ifCond .ne 18), (20, .aload_n 0), (21, .getfield 28), (24, .iload_n 2), (25, .invokevirtual 117), (28, .ifCond .eq 7), (31, .iconst 1)], [(32, .goto 4), (35, .iconst 0), (36, .ireturn)]]
set_option maxRecDepth 20000 in
theorem iX11_isPayable_ok : mm_dec cX11_isPayable iX11_isPayable = true := by decide +kernel
set_option maxRecDepth 20000 in
theorem wX11_isPayable : mm_MV yX11_isPayable cX11_isPayable 3 (some .boolean) 11 := ⟨by decide, Or.inr ⟨_, rfl, rfl⟩, ⟨by decide +kernel, by decide +kernel⟩, mm_G_in (i := 678) (by decide +kernel) rfl, mm_G_in (i := 12) (by decide +kernel) rfl, mm_G_in (i := 68) (by decide +kernel) rfl, mm_G_in (i := 679) (by decide +kernel) rfl⟩
def vX11_isPayable : mm_L := [(135, 2, some 0, sX0_isStanding), (117, 2, some 0, sX0_isDebt)]
def zX11_isPayable : mm_L := []
def sX11_isPayable : mm_F := mm_S (mm_gf gLX11) (mm_pf pLX11) (mm_mv vX11_isPayable) (mm_mv zX11_isPayable) (mm_kc kLX11) mm_gs0 mm_rf0 (some .boolean) 3 (mm_ins iX11_isPayable)
set_option maxRecDepth 20000 in
theorem tX11_isPayable (l : Launch) : mm_Ct l yX11_isPayable cX11_isPayable 3 (some .boolean) 1 sX11_isPayable := mm_meth (by decide +kernel) (mm_gf_ok gLX11_ok) (mm_pf_ok pLX11_ok) (mm_mv_ok (L := vX11_isPayable) (List.forall_mem_cons.mpr ⟨mm_LV.mk (i := 634) wX0_isStanding (tX0_isStanding l) (by decide) (by decide +kernel) (by decide +kernel), List.forall_mem_cons.mpr ⟨mm_LV.mk (i := 622) wX0_isDebt (tX0_isDebt l) (by decide) (by decide +kernel) (by decide +kernel), fun _ h => absurd h List.not_mem_nil⟩⟩)) (mm_ms_ok (L := zX11_isPayable) (fun _ h => absurd h List.not_mem_nil)) (mm_kc_ok kLX11_ok) mm_gs0_ok mm_rf0_ok (mm_dec_ok iX11_isPayable_ok)
abbrev cX11_ask : ByteArray := prog_1_method_11_code
def yX11_ask : MethodName := ⟨RX11, "ask", "(II)I"⟩
def iX11_ask : List (List (Nat × Instr)) := [[(0, .aload_n 0), (1, .iload_n 1), (2, .iload_n 2), (3, .invokevirtual 187), (6, .ifCond .ne 5), (9, .iconst (-1)), (10, .ireturn), (11, .iload_n 1), (12, .iconst 1), (13, .if_icmp .ne 14)], [(16, .aload_n 0), (17, .getfield 28), (20, .iload_n 2), (21, .invokevirtual 190), (24, .goto 11), (27, .aload_n 0), (28, .getfield 28), (31, .iload_n 2)], [(32, .invokevirtual 193), (35, .ireturn)]]
set_option maxRecDepth 20000 in
theorem iX11_ask_ok : mm_dec cX11_ask iX11_ask = true := by decide +kernel
set_option maxRecDepth 20000 in
theorem wX11_ask : mm_MV yX11_ask cX11_ask 3 (some .int) 11 := ⟨by decide, Or.inr ⟨_, rfl, rfl⟩, ⟨by decide +kernel, by decide +kernel⟩, mm_G_in (i := 673) (by decide +kernel) rfl, mm_G_in (i := 674) (by decide +kernel) rfl, mm_G_in (i := 68) (by decide +kernel) rfl, mm_G_in (i := 675) (by decide +kernel) rfl⟩
def vX11_ask : mm_L := [(187, 3, some 11, sX11_isPayable), (190, 2, some 0, sX0_askOfStanding), (193, 2, some 0, sX0_askOfDebtor)]
def zX11_ask : mm_L := []
def sX11_ask : mm_F := mm_S (mm_gf gLX11) (mm_pf pLX11) (mm_mv vX11_ask) (mm_mv zX11_ask) (mm_kc kLX11) mm_gs0 mm_rf0 (some .int) 3 (mm_ins iX11_ask)
set_option maxRecDepth 20000 in
theorem tX11_ask (l : Launch) : mm_Ct l yX11_ask cX11_ask 3 (some .int) 5 sX11_ask := mm_meth (by decide +kernel) (mm_gf_ok gLX11_ok) (mm_pf_ok pLX11_ok) (mm_mv_ok (L := vX11_ask) (List.forall_mem_cons.mpr ⟨mm_LV.mk (i := 676) wX11_isPayable (tX11_isPayable l) (by decide) (by decide +kernel) (by decide +kernel), List.forall_mem_cons.mpr ⟨mm_LV.mk (i := 680) wX0_askOfStanding (tX0_askOfStanding l) (by decide) (by decide +kernel) (by decide +kernel), List.forall_mem_cons.mpr ⟨mm_LV.mk (i := 705) wX0_askOfDebtor (tX0_askOfDebtor l) (by decide) (by decide +kernel) (by decide +kernel), fun _ h => absurd h List.not_mem_nil⟩⟩⟩)) (mm_ms_ok (L := zX11_ask) (fun _ h => absurd h List.not_mem_nil)) (mm_kc_ok kLX11_ok) mm_gs0_ok mm_rf0_ok (mm_dec_ok iX11_ask_ok)
abbrev cX11_pay : ByteArray := prog_1_method_12_code
def yX11_pay : MethodName := ⟨RX11, "pay", "(III)I"⟩
def iX11_pay : List (List (Nat × Instr)) := [[(0, .aload_n 0), (1, .iload_n 1), (2, .iload_n 2), (3, .invokevirtual 187), (6, .ifCond .eq 15), (9, .iload_n 3), (10, .iconst 1), (11, .if_icmp .lt 10), (14, .iload_n 3), (15, .sipush 999)], [(18, .if_icmp .le 5), (21, .iconst (-1)), (22, .ireturn), (23, .iload_n 1), (24, .iconst 1), (25, .if_icmp .ne 15), (28, .aload_n 0), (29, .getfield 37)], [(32, .iload_n 2), (33, .iload_n 3), (34, .invokevirtual 196), (37, .goto 12), (40, .aload_n 0), (41, .getfield 37), (44, .iload_n 2), (45, .iload_n 3), (46, .invokevirtual 199)], [(49, .ireturn)]]
set_option maxRecDepth 20000 in
theorem iX11_pay_ok : mm_dec cX11_pay iX11_pay = true := by decide +kernel
set_option maxRecDepth 20000 in
theorem wX11_pay : mm_MV yX11_pay cX11_pay 4 (some .int) 11 := ⟨by decide, Or.inr ⟨_, rfl, rfl⟩, ⟨by decide +kernel, by decide +kernel⟩, mm_G_in (i := 710) (by decide +kernel) rfl, mm_G_in (i := 711) (by decide +kernel) rfl, mm_G_in (i := 68) (by decide +kernel) rfl, mm_G_in (i := 712) (by decide +kernel) rfl⟩
def vX11_pay : mm_L := [(187, 3, some 11, sX11_isPayable), (196, 3, some 2, sX2_payByStanding), (199, 3, some 2, sX2_payByDebtor)]
def zX11_pay : mm_L := []
def sX11_pay : mm_F := mm_S (mm_gf gLX11) (mm_pf pLX11) (mm_mv vX11_pay) (mm_mv zX11_pay) (mm_kc kLX11) mm_gs0 mm_rf0 (some .int) 4 (mm_ins iX11_pay)
set_option maxRecDepth 20000 in
theorem tX11_pay (l : Launch) : mm_Ct l yX11_pay cX11_pay 4 (some .int) 6 sX11_pay := mm_meth (by decide +kernel) (mm_gf_ok gLX11_ok) (mm_pf_ok pLX11_ok) (mm_mv_ok (L := vX11_pay) (List.forall_mem_cons.mpr ⟨mm_LV.mk (i := 676) wX11_isPayable (tX11_isPayable l) (by decide) (by decide +kernel) (by decide +kernel), List.forall_mem_cons.mpr ⟨mm_LV.mk (i := 713) wX2_payByStanding (tX2_payByStanding l) (by decide) (by decide +kernel) (by decide +kernel), List.forall_mem_cons.mpr ⟨mm_LV.mk (i := 752) wX2_payByDebtor (tX2_payByDebtor l) (by decide) (by decide +kernel) (by decide +kernel), fun _ h => absurd h List.not_mem_nil⟩⟩⟩)) (mm_ms_ok (L := zX11_pay) (fun _ h => absurd h List.not_mem_nil)) (mm_kc_ok kLX11_ok) mm_gs0_ok mm_rf0_ok (mm_dec_ok iX11_pay_ok)
abbrev cX11_back : ByteArray := prog_1_method_13_code
def yX11_back : MethodName := ⟨RX11, "back", "(II)I"⟩
def iX11_back : List (List (Nat × Instr)) := [[(0, .iload_n 1), (1, .invokestatic 177), (4, .ifCond .eq 15), (7, .iload_n 2), (8, .invokestatic 177), (11, .ifCond .eq 8), (14, .iload_n 1), (15, .iload_n 2)], [(16, .if_icmp .ne 5), (19, .iconst (-1)), (20, .ireturn), (21, .aload_n 0), (22, .getfield 28), (25, .getfield 163), (28, .getfield 202), (31, .iload_n 1)], [(32, .bipush 8), (34, .imul), (35, .iload_n 2), (36, .iadd), (37, .iaload), (38, .ireturn)]]
set_option maxRecDepth 20000 in
theorem iX11_back_ok : mm_dec cX11_back iX11_back = true := by decide +kernel
set_option maxRecDepth 20000 in
theorem wX11_back : mm_MV yX11_back cX11_back 3 (some .int) 11 := ⟨by decide, Or.inr ⟨_, rfl, rfl⟩, ⟨by decide +kernel, by decide +kernel⟩, mm_G_in (i := 758) (by decide +kernel) rfl, mm_G_in (i := 759) (by decide +kernel) rfl, mm_G_in (i := 68) (by decide +kernel) rfl, mm_G_in (i := 760) (by decide +kernel) rfl⟩
def vX11_back : mm_L := []
def zX11_back : mm_L := [(177, 1, none, sX11_isPerson)]
def sX11_back : mm_F := mm_S (mm_gf gLX11) (mm_pf pLX11) (mm_mv vX11_back) (mm_mv zX11_back) (mm_kc kLX11) mm_gs0 mm_rf0 (some .int) 3 (mm_ins iX11_back)
set_option maxRecDepth 20000 in
theorem tX11_back (l : Launch) : mm_Ct l yX11_back cX11_back 3 (some .int) 1 sX11_back := mm_meth (by decide +kernel) (mm_gf_ok gLX11_ok) (mm_pf_ok pLX11_ok) (mm_mv_ok (L := vX11_back) (fun _ h => absurd h List.not_mem_nil)) (mm_ms_ok (L := zX11_back) (List.forall_mem_cons.mpr ⟨⟨rfl, Or.inl (mm_LS.mk (i := 657) wX11_isPerson (tX11_isPerson l) (by decide) (by decide +kernel) (by decide +kernel))⟩, fun _ h => absurd h List.not_mem_nil⟩)) (mm_kc_ok kLX11_ok) mm_gs0_ok mm_rf0_ok (mm_dec_ok iX11_back_ok)
abbrev cX11_release : ByteArray := prog_1_method_14_code
def yX11_release : MethodName := ⟨RX11, "release", "(II)I"⟩
def iX11_release : List (List (Nat × Instr)) := [[(0, .aload_n 0), (1, .getfield 28), (4, .iload_n 1), (5, .invokevirtual 135), (8, .ifCond .eq 12), (11, .iload_n 2), (12, .ifCond .lt 8), (15, .iload_n 2)], [(16, .iconst 2), (17, .if_icmp .le 5), (20, .iconst (-1)), (21, .ireturn), (22, .aload_n 0), (23, .getfield 28), (26, .iload_n 1), (27, .invokevirtual 153), (30, .ifCond .eq 6)], [(33, .bipush (-2)), (35, .ireturn), (36, .aload_n 0), (37, .getfield 37), (40, .iload_n 1), (41, .iload_n 2), (42, .invokevirtual 205), (45, .ireturn)]]
set_option maxRecDepth 20000 in
theorem iX11_release_ok : mm_dec cX11_release iX11_release = true := by decide +kernel
set_option maxRecDepth 20000 in
theorem wX11_release : mm_MV yX11_release cX11_release 3 (some .int) 11 := ⟨by decide, Or.inr ⟨_, rfl, rfl⟩, ⟨by decide +kernel, by decide +kernel⟩, mm_G_in (i := 762) (by decide +kernel) rfl, mm_G_in (i := 763) (by decide +kernel) rfl, mm_G_in (i := 68) (by decide +kernel) rfl, mm_G_in (i := 764) (by decide +kernel) rfl⟩
def vX11_release : mm_L := [(135, 2, some 0, sX0_isStanding), (153, 2, some 0, sX0_isReleased), (205, 3, some 2, sX2_letGo)]
def zX11_release : mm_L := []
def sX11_release : mm_F := mm_S (mm_gf gLX11) (mm_pf pLX11) (mm_mv vX11_release) (mm_mv zX11_release) (mm_kc kLX11) mm_gs0 mm_rf0 (some .int) 3 (mm_ins iX11_release)
set_option maxRecDepth 20000 in
theorem tX11_release (l : Launch) : mm_Ct l yX11_release cX11_release 3 (some .int) 4 sX11_release := mm_meth (by decide +kernel) (mm_gf_ok gLX11_ok) (mm_pf_ok pLX11_ok) (mm_mv_ok (L := vX11_release) (List.forall_mem_cons.mpr ⟨mm_LV.mk (i := 634) wX0_isStanding (tX0_isStanding l) (by decide) (by decide +kernel) (by decide +kernel), List.forall_mem_cons.mpr ⟨mm_LV.mk (i := 645) wX0_isReleased (tX0_isReleased l) (by decide) (by decide +kernel) (by decide +kernel), List.forall_mem_cons.mpr ⟨mm_LV.mk (i := 765) wX2_letGo (tX2_letGo l) (by decide) (by decide +kernel) (by decide +kernel), fun _ h => absurd h List.not_mem_nil⟩⟩⟩)) (mm_ms_ok (L := zX11_release) (fun _ h => absurd h List.not_mem_nil)) (mm_kc_ok kLX11_ok) mm_gs0_ok mm_rf0_ok (mm_dec_ok iX11_release_ok)
abbrev cX11_isSet : ByteArray := prog_1_method_31_code
def yX11_isSet : MethodName := ⟨RX11, "isSet", "(I)Z"⟩
def iX11_isSet : List (List (Nat × Instr)) := [[(0, .iload_n 0), (1, .ifCond .lt 14), (4, .iload_n 0), (5, .sipush 255), (8, .if_icmp .gt 7), (11, .iconst 1), (12, .goto 4), (15, .iconst 0)], [(16, .ireturn)]]
set_option maxRecDepth 20000 in
theorem iX11_isSet_ok : mm_dec cX11_isSet iX11_isSet = true := by decide +kernel
set_option maxRecDepth 20000 in
theorem wX11_isSet : mm_MS yX11_isSet cX11_isSet 1 (some .boolean) := ⟨by decide, ⟨by decide +kernel, by decide +kernel⟩, mm_G_in (i := 781) (by decide +kernel) rfl, mm_G_in (i := 68) (by decide +kernel) rfl, mm_G_in (i := 782) (by decide +kernel) rfl⟩
def vX11_isSet : mm_L := []
def zX11_isSet : mm_L := []
def sX11_isSet : mm_F := mm_S (mm_gf gLX11) (mm_pf pLX11) (mm_mv vX11_isSet) (mm_mv zX11_isSet) (mm_kc kLX11) mm_gs0 mm_rf0 (some .boolean) 1 (mm_ins iX11_isSet)
set_option maxRecDepth 20000 in
theorem tX11_isSet (l : Launch) : mm_Ct l yX11_isSet cX11_isSet 1 (some .boolean) 0 sX11_isSet := mm_meth (by decide +kernel) (mm_gf_ok gLX11_ok) (mm_pf_ok pLX11_ok) (mm_mv_ok (L := vX11_isSet) (fun _ h => absurd h List.not_mem_nil)) (mm_ms_ok (L := zX11_isSet) (fun _ h => absurd h List.not_mem_nil)) (mm_kc_ok kLX11_ok) mm_gs0_ok mm_rf0_ok (mm_dec_ok iX11_isSet_ok)
abbrev cX11_burden : ByteArray := prog_1_method_16_code
def yX11_burden : MethodName := ⟨RX11, "burden", "(III)I"⟩
def iX11_burden : List (List (Nat × Instr)) := [[(0, .iload_n 1), (1, .invokestatic 177), (4, .ifCond .eq 19), (7, .iload_n 2), (8, .invokestatic 208), (11, .ifCond .eq 12), (14, .iload_n 3), (15, .ifCond .lt 8)], [(18, .iload_n 3), (19, .iconst 1), (20, .if_icmp .le 5), (23, .iconst (-1)), (24, .ireturn), (25, .iload_n 2), (26, .aload_n 0), (27, .getfield 28), (30, .getfield 163)], [(33, .getfield 180), (36, .ior), (37, .istore 4), (39, .iload_n 3), (40, .ifCond .ne 16), (43, .aload_n 0), (44, .getfield 44), (47, .iload_n 1)], [(48, .iload 4), (50, .invokevirtual 211), (53, .goto 13), (56, .aload_n 0), (57, .getfield 44), (60, .iload_n 1), (61, .iload 4), (63, .invokevirtual 214)], [(66, .ireturn)]]
set_option maxRecDepth 20000 in
theorem iX11_burden_ok : mm_dec cX11_burden iX11_burden = true := by decide +kernel
set_option maxRecDepth 20000 in
theorem wX11_burden : mm_MV yX11_burden cX11_burden 5 (some .int) 11 := ⟨by decide, Or.inr ⟨_, rfl, rfl⟩, ⟨by decide +kernel, by decide +kernel⟩, mm_G_in (i := 777) (by decide +kernel) rfl, mm_G_in (i := 778) (by decide +kernel) rfl, mm_G_in (i := 68) (by decide +kernel) rfl, mm_G_in (i := 779) (by decide +kernel) rfl⟩
def vX11_burden : mm_L := [(211, 3, some 3, sX3_burdenOf), (214, 3, some 3, sX3_meansOf)]
def zX11_burden : mm_L := [(177, 1, none, sX11_isPerson), (208, 1, none, sX11_isSet)]
def sX11_burden : mm_F := mm_S (mm_gf gLX11) (mm_pf pLX11) (mm_mv vX11_burden) (mm_mv zX11_burden) (mm_kc kLX11) mm_gs0 mm_rf0 (some .int) 5 (mm_ins iX11_burden)
set_option maxRecDepth 20000 in
theorem tX11_burden (l : Launch) : mm_Ct l yX11_burden cX11_burden 5 (some .int) 4 sX11_burden := mm_meth (by decide +kernel) (mm_gf_ok gLX11_ok) (mm_pf_ok pLX11_ok) (mm_mv_ok (L := vX11_burden) (List.forall_mem_cons.mpr ⟨mm_LV.mk (i := 783) wX3_burdenOf (tX3_burdenOf l) (by decide) (by decide +kernel) (by decide +kernel), List.forall_mem_cons.mpr ⟨mm_LV.mk (i := 796) wX3_meansOf (tX3_meansOf l) (by decide) (by decide +kernel) (by decide +kernel), fun _ h => absurd h List.not_mem_nil⟩⟩)) (mm_ms_ok (L := zX11_burden) (List.forall_mem_cons.mpr ⟨⟨rfl, Or.inl (mm_LS.mk (i := 657) wX11_isPerson (tX11_isPerson l) (by decide) (by decide +kernel) (by decide +kernel))⟩, List.forall_mem_cons.mpr ⟨⟨rfl, Or.inl (mm_LS.mk (i := 780) wX11_isSet (tX11_isSet l) (by decide) (by decide +kernel) (by decide +kernel))⟩, fun _ h => absurd h List.not_mem_nil⟩⟩)) (mm_kc_ok kLX11_ok) mm_gs0_ok mm_rf0_ok (mm_dec_ok iX11_burden_ok)
abbrev cX11_chain : ByteArray := prog_1_method_17_code
def yX11_chain : MethodName := ⟨RX11, "chain", "(II)I"⟩
def iX11_chain : List (List (Nat × Instr)) := [[(0, .iload_n 1), (1, .invokestatic 208), (4, .ifCond .eq 12), (7, .iload_n 2), (8, .ifCond .lt 8), (11, .iload_n 2), (12, .iconst 1), (13, .if_icmp .le 5)], [(16, .iconst (-1)), (17, .ireturn), (18, .aload_n 0), (19, .getfield 44), (22, .iload_n 1), (23, .invokevirtual 217), (26, .istore_n 3), (27, .iload_n 2), (28, .ifCond .ne 7), (31, .iload_n 3)], [(32, .goto 10), (35, .aload_n 0), (36, .getfield 44), (39, .getfield 220), (42, .ireturn)]]
set_option maxRecDepth 20000 in
theorem iX11_chain_ok : mm_dec cX11_chain iX11_chain = true := by decide +kernel
set_option maxRecDepth 20000 in
theorem wX11_chain : mm_MV yX11_chain cX11_chain 4 (some .int) 11 := ⟨by decide, Or.inr ⟨_, rfl, rfl⟩, ⟨by decide +kernel, by decide +kernel⟩, mm_G_in (i := 801) (by decide +kernel) rfl, mm_G_in (i := 802) (by decide +kernel) rfl, mm_G_in (i := 68) (by decide +kernel) rfl, mm_G_in (i := 803) (by decide +kernel) rfl⟩
def vX11_chain : mm_L := [(217, 2, some 3, sX3_chainFrom)]
def zX11_chain : mm_L := [(208, 1, none, sX11_isSet)]
def sX11_chain : mm_F := mm_S (mm_gf gLX11) (mm_pf pLX11) (mm_mv vX11_chain) (mm_mv zX11_chain) (mm_kc kLX11) mm_gs0 mm_rf0 (some .int) 4 (mm_ins iX11_chain)
set_option maxRecDepth 20000 in
theorem tX11_chain (l : Launch) : mm_Ct l yX11_chain cX11_chain 4 (some .int) 5 sX11_chain := mm_meth (by decide +kernel) (mm_gf_ok gLX11_ok) (mm_pf_ok pLX11_ok) (mm_mv_ok (L := vX11_chain) (List.forall_mem_cons.mpr ⟨mm_LV.mk (i := 804) wX3_chainFrom (tX3_chainFrom l) (by decide) (by decide +kernel) (by decide +kernel), fun _ h => absurd h List.not_mem_nil⟩)) (mm_ms_ok (L := zX11_chain) (List.forall_mem_cons.mpr ⟨⟨rfl, Or.inl (mm_LS.mk (i := 780) wX11_isSet (tX11_isSet l) (by decide) (by decide +kernel) (by decide +kernel))⟩, fun _ h => absurd h List.not_mem_nil⟩)) (mm_kc_ok kLX11_ok) mm_gs0_ok mm_rf0_ok (mm_dec_ok iX11_chain_ok)
abbrev cX11_worst : ByteArray := prog_1_method_18_code
def yX11_worst : MethodName := ⟨RX11, "worst", "()I"⟩
def iX11_worst : List (List (Nat × Instr)) := [[(0, .aload_n 0), (1, .getfield 44), (4, .invokevirtual 223), (7, .ireturn)]]
set_option maxRecDepth 20000 in
theorem iX11_worst_ok : mm_dec cX11_worst iX11_worst = true := by decide +kernel
set_option maxRecDepth 20000 in
theorem wX11_worst : mm_MV yX11_worst cX11_worst 1 (some .int) 11 := ⟨by decide, Or.inr ⟨_, rfl, rfl⟩, ⟨by decide +kernel, by decide +kernel⟩, mm_G_in (i := 811) (by decide +kernel) rfl, mm_G_in (i := 812) (by decide +kernel) rfl, mm_G_in (i := 68) (by decide +kernel) rfl, mm_G_in (i := 813) (by decide +kernel) rfl⟩
def vX11_worst : mm_L := [(223, 1, some 3, sX3_worstOne)]
def zX11_worst : mm_L := []
def sX11_worst : mm_F := mm_S (mm_gf gLX11) (mm_pf pLX11) (mm_mv vX11_worst) (mm_mv zX11_worst) (mm_kc kLX11) mm_gs0 mm_rf0 (some .int) 1 (mm_ins iX11_worst)
set_option maxRecDepth 20000 in
theorem tX11_worst (l : Launch) : mm_Ct l yX11_worst cX11_worst 1 (some .int) 6 sX11_worst := mm_meth (by decide +kernel) (mm_gf_ok gLX11_ok) (mm_pf_ok pLX11_ok) (mm_mv_ok (L := vX11_worst) (List.forall_mem_cons.mpr ⟨mm_LV.mk (i := 814) wX3_worstOne (tX3_worstOne l) (by decide) (by decide +kernel) (by decide +kernel), fun _ h => absurd h List.not_mem_nil⟩)) (mm_ms_ok (L := zX11_worst) (fun _ h => absurd h List.not_mem_nil)) (mm_kc_ok kLX11_ok) mm_gs0_ok mm_rf0_ok (mm_dec_ok iX11_worst_ok)
abbrev cX11_lose : ByteArray := prog_1_method_19_code
def yX11_lose : MethodName := ⟨RX11, "lose", "(I)I"⟩
def iX11_lose : List (List (Nat × Instr)) := [[(0, .iload_n 1), (1, .invokestatic 177), (4, .ifCond .eq 14), (7, .aload_n 0), (8, .getfield 44), (11, .iload_n 1), (12, .invokevirtual 226), (15, .goto 4)], [(18, .iconst (-1)), (19, .ireturn)]]
set_option maxRecDepth 20000 in
theorem iX11_lose_ok : mm_dec cX11_lose iX11_lose = true := by decide +kernel
set_option maxRecDepth 20000 in
theorem wX11_lose : mm_MV yX11_lose cX11_lose 2 (some .int) 11 := ⟨by decide, Or.inr ⟨_, rfl, rfl⟩, ⟨by decide +kernel, by decide +kernel⟩, mm_G_in (i := 822) (by decide +kernel) rfl, mm_G_in (i := 823) (by decide +kernel) rfl, mm_G_in (i := 68) (by decide +kernel) rfl, mm_G_in (i := 824) (by decide +kernel) rfl⟩
def vX11_lose : mm_L := [(226, 2, some 3, sX3_mayLose)]
def zX11_lose : mm_L := [(177, 1, none, sX11_isPerson)]
def sX11_lose : mm_F := mm_S (mm_gf gLX11) (mm_pf pLX11) (mm_mv vX11_lose) (mm_mv zX11_lose) (mm_kc kLX11) mm_gs0 mm_rf0 (some .int) 2 (mm_ins iX11_lose)
set_option maxRecDepth 20000 in
theorem tX11_lose (l : Launch) : mm_Ct l yX11_lose cX11_lose 2 (some .int) 5 sX11_lose := mm_meth (by decide +kernel) (mm_gf_ok gLX11_ok) (mm_pf_ok pLX11_ok) (mm_mv_ok (L := vX11_lose) (List.forall_mem_cons.mpr ⟨mm_LV.mk (i := 825) wX3_mayLose (tX3_mayLose l) (by decide) (by decide +kernel) (by decide +kernel), fun _ h => absurd h List.not_mem_nil⟩)) (mm_ms_ok (L := zX11_lose) (List.forall_mem_cons.mpr ⟨⟨rfl, Or.inl (mm_LS.mk (i := 657) wX11_isPerson (tX11_isPerson l) (by decide) (by decide +kernel) (by decide +kernel))⟩, fun _ h => absurd h List.not_mem_nil⟩)) (mm_kc_ok kLX11_ok) mm_gs0_ok mm_rf0_ok (mm_dec_ok iX11_lose_ok)
abbrev cX11_rounds : ByteArray := prog_1_method_20_code
def yX11_rounds : MethodName := ⟨RX11, "rounds", "(I)I"⟩
def iX11_rounds : List (List (Nat × Instr)) := [[(0, .iload_n 1), (1, .ifCond .lt 8), (4, .iload_n 1), (5, .iconst 1), (6, .if_icmp .le 5), (9, .iconst (-1)), (10, .ireturn), (11, .aload_n 0), (12, .getfield 51), (15, .invokevirtual 229)], [(18, .iload_n 1), (19, .ifCond .ne 13), (22, .aload_n 0), (23, .getfield 51), (26, .getfield 232), (29, .goto 10)], [(32, .aload_n 0), (33, .getfield 51), (36, .getfield 235), (39, .ireturn)]]
set_option maxRecDepth 20000 in
theorem iX11_rounds_ok : mm_dec cX11_rounds iX11_rounds = true := by decide +kernel
set_option maxRecDepth 20000 in
theorem wX11_rounds : mm_MV yX11_rounds cX11_rounds 2 (some .int) 11 := ⟨by decide, Or.inr ⟨_, rfl, rfl⟩, ⟨by decide +kernel, by decide +kernel⟩, mm_G_in (i := 831) (by decide +kernel) rfl, mm_G_in (i := 832) (by decide +kernel) rfl, mm_G_in (i := 68) (by decide +kernel) rfl, mm_G_in (i := 833) (by decide +kernel) rfl⟩
def vX11_rounds : mm_L := [(229, 1, some 9, sX9_run)]
def zX11_rounds : mm_L := []
def sX11_rounds : mm_F := mm_S (mm_gf gLX11) (mm_pf pLX11) (mm_mv vX11_rounds) (mm_mv zX11_rounds) (mm_kc kLX11) mm_gs0 mm_rf0 (some .int) 2 (mm_ins iX11_rounds)
set_option maxRecDepth 20000 in
theorem tX11_rounds (l : Launch) : mm_Ct l yX11_rounds cX11_rounds 2 (some .int) 5 sX11_rounds := mm_meth (by decide +kernel) (mm_gf_ok gLX11_ok) (mm_pf_ok pLX11_ok) (mm_mv_ok (L := vX11_rounds) (List.forall_mem_cons.mpr ⟨mm_LV.mk (i := 834) wX9_run (tX9_run l) (by decide) (by decide +kernel) (by decide +kernel), fun _ h => absurd h List.not_mem_nil⟩)) (mm_ms_ok (L := zX11_rounds) (fun _ h => absurd h List.not_mem_nil)) (mm_kc_ok kLX11_ok) mm_gs0_ok mm_rf0_ok (mm_dec_ok iX11_rounds_ok)
abbrev cX11_end : ByteArray := prog_1_method_21_code
def yX11_end : MethodName := ⟨RX11, "end", "(I)I"⟩
def iX11_end : List (List (Nat × Instr)) := [[(0, .iload_n 1), (1, .invokestatic 177), (4, .ifCond .ne 6), (7, .ldc 238), (9, .ireturn), (10, .aload_n 0), (11, .getfield 51), (14, .invokevirtual 229)], [(17, .aload_n 0), (18, .getfield 51), (21, .iload_n 1), (22, .invokevirtual 239), (25, .ireturn)]]
set_option maxRecDepth 20000 in
theorem iX11_end_ok : mm_dec cX11_end iX11_end = true := by decide +kernel
set_option maxRecDepth 20000 in
theorem wX11_end : mm_MV yX11_end cX11_end 2 (some .int) 11 := ⟨by decide, Or.inr ⟨_, rfl, rfl⟩, ⟨by decide +kernel, by decide +kernel⟩, mm_G_in (i := 875) (by decide +kernel) rfl, mm_G_in (i := 876) (by decide +kernel) rfl, mm_G_in (i := 68) (by decide +kernel) rfl, mm_G_in (i := 877) (by decide +kernel) rfl⟩
def vX11_end : mm_L := [(229, 1, some 9, sX9_run), (239, 2, some 9, sX9_endOf)]
def zX11_end : mm_L := [(177, 1, none, sX11_isPerson)]
def sX11_end : mm_F := mm_S (mm_gf gLX11) (mm_pf pLX11) (mm_mv vX11_end) (mm_mv zX11_end) (mm_kc kLX11) mm_gs0 mm_rf0 (some .int) 2 (mm_ins iX11_end)
set_option maxRecDepth 20000 in
theorem tX11_end (l : Launch) : mm_Ct l yX11_end cX11_end 2 (some .int) 5 sX11_end := mm_meth (by decide +kernel) (mm_gf_ok gLX11_ok) (mm_pf_ok pLX11_ok) (mm_mv_ok (L := vX11_end) (List.forall_mem_cons.mpr ⟨mm_LV.mk (i := 834) wX9_run (tX9_run l) (by decide) (by decide +kernel) (by decide +kernel), List.forall_mem_cons.mpr ⟨mm_LV.mk (i := 879) wX9_endOf (tX9_endOf l) (by decide) (by decide +kernel) (by decide +kernel), fun _ h => absurd h List.not_mem_nil⟩⟩)) (mm_ms_ok (L := zX11_end) (List.forall_mem_cons.mpr ⟨⟨rfl, Or.inl (mm_LS.mk (i := 657) wX11_isPerson (tX11_isPerson l) (by decide) (by decide +kernel) (by decide +kernel))⟩, fun _ h => absurd h List.not_mem_nil⟩)) (mm_kc_ok kLX11_ok) mm_gs0_ok mm_rf0_ok (mm_dec_ok iX11_end_ok)
abbrev cX11_bears : ByteArray := prog_1_method_22_code
def yX11_bears : MethodName := ⟨RX11, "bears", "(II)I"⟩
def iX11_bears : List (List (Nat × Instr)) := [[(0, .aload_n 0), (1, .iload_n 1), (2, .iload_n 2), (3, .invokevirtual 187), (6, .ifCond .ne 5), (9, .iconst (-1)), (10, .ireturn), (11, .aload_n 0), (12, .getfield 51), (15, .invokevirtual 229)], [(18, .iload_n 1), (19, .iconst 1), (20, .if_icmp .ne 14), (23, .aload_n 0), (24, .getfield 51), (27, .iload_n 2), (28, .invokevirtual 242), (31, .goto 11)], [(34, .aload_n 0), (35, .getfield 51), (38, .iload_n 2), (39, .invokevirtual 245), (42, .ireturn)]]
set_option maxRecDepth 20000 in
theorem iX11_bears_ok : mm_dec cX11_bears iX11_bears = true := by decide +kernel
set_option maxRecDepth 20000 in
theorem wX11_bears : mm_MV yX11_bears cX11_bears 3 (some .int) 11 := ⟨by decide, Or.inr ⟨_, rfl, rfl⟩, ⟨by decide +kernel, by decide +kernel⟩, mm_G_in (i := 895) (by decide +kernel) rfl, mm_G_in (i := 896) (by decide +kernel) rfl, mm_G_in (i := 68) (by decide +kernel) rfl, mm_G_in (i := 897) (by decide +kernel) rfl⟩
def vX11_bears : mm_L := [(187, 3, some 11, sX11_isPayable), (229, 1, some 9, sX9_run), (242, 2, some 9, sX9_lastByStanding), (245, 2, some 9, sX9_lastByDebtor)]
def zX11_bears : mm_L := []
def sX11_bears : mm_F := mm_S (mm_gf gLX11) (mm_pf pLX11) (mm_mv vX11_bears) (mm_mv zX11_bears) (mm_kc kLX11) mm_gs0 mm_rf0 (some .int) 3 (mm_ins iX11_bears)
set_option maxRecDepth 20000 in
theorem tX11_bears (l : Launch) : mm_Ct l yX11_bears cX11_bears 3 (some .int) 5 sX11_bears := mm_meth (by decide +kernel) (mm_gf_ok gLX11_ok) (mm_pf_ok pLX11_ok) (mm_mv_ok (L := vX11_bears) (List.forall_mem_cons.mpr ⟨mm_LV.mk (i := 676) wX11_isPayable (tX11_isPayable l) (by decide) (by decide +kernel) (by decide +kernel), List.forall_mem_cons.mpr ⟨mm_LV.mk (i := 834) wX9_run (tX9_run l) (by decide) (by decide +kernel) (by decide +kernel), List.forall_mem_cons.mpr ⟨mm_LV.mk (i := 898) wX9_lastByStanding (tX9_lastByStanding l) (by decide) (by decide +kernel) (by decide +kernel), List.forall_mem_cons.mpr ⟨mm_LV.mk (i := 899) wX9_lastByDebtor (tX9_lastByDebtor l) (by decide) (by decide +kernel) (by decide +kernel), fun _ h => absurd h List.not_mem_nil⟩⟩⟩⟩)) (mm_ms_ok (L := zX11_bears) (fun _ h => absurd h List.not_mem_nil)) (mm_kc_ok kLX11_ok) mm_gs0_ok mm_rf0_ok (mm_dec_ok iX11_bears_ok)
abbrev cX11_worth : ByteArray := prog_1_method_23_code
def yX11_worth : MethodName := ⟨RX11, "worth", "(I)I"⟩
def iX11_worth : List (List (Nat × Instr)) := [[(0, .aload_n 0), (1, .getfield 28), (4, .iload_n 1), (5, .invokevirtual 117), (8, .ifCond .eq 14), (11, .aload_n 0), (12, .getfield 58), (15, .iload_n 1)], [(16, .invokevirtual 248), (19, .goto 4), (22, .iconst (-1)), (23, .ireturn)]]
set_option maxRecDepth 20000 in
theorem iX11_worth_ok : mm_dec cX11_worth iX11_worth = true := by decide +kernel
set_option maxRecDepth 20000 in
theorem wX11_worth : mm_MV yX11_worth cX11_worth 2 (some .int) 11 := ⟨by decide, Or.inr ⟨_, rfl, rfl⟩, ⟨by decide +kernel, by decide +kernel⟩, mm_G_in (i := 901) (by decide +kernel) rfl, mm_G_in (i := 902) (by decide +kernel) rfl, mm_G_in (i := 68) (by decide +kernel) rfl, mm_G_in (i := 903) (by decide +kernel) rfl⟩
def vX11_worth : mm_L := [(117, 2, some 0, sX0_isDebt), (248, 2, some 1, sX1_shareOf)]
def zX11_worth : mm_L := []
def sX11_worth : mm_F := mm_S (mm_gf gLX11) (mm_pf pLX11) (mm_mv vX11_worth) (mm_mv zX11_worth) (mm_kc kLX11) mm_gs0 mm_rf0 (some .int) 2 (mm_ins iX11_worth)
set_option maxRecDepth 20000 in
theorem tX11_worth (l : Launch) : mm_Ct l yX11_worth cX11_worth 2 (some .int) 5 sX11_worth := mm_meth (by decide +kernel) (mm_gf_ok gLX11_ok) (mm_pf_ok pLX11_ok) (mm_mv_ok (L := vX11_worth) (List.forall_mem_cons.mpr ⟨mm_LV.mk (i := 622) wX0_isDebt (tX0_isDebt l) (by decide) (by decide +kernel) (by decide +kernel), List.forall_mem_cons.mpr ⟨mm_LV.mk (i := 904) wX1_shareOf (tX1_shareOf l) (by decide) (by decide +kernel) (by decide +kernel), fun _ h => absurd h List.not_mem_nil⟩⟩)) (mm_ms_ok (L := zX11_worth) (fun _ h => absurd h List.not_mem_nil)) (mm_kc_ok kLX11_ok) mm_gs0_ok mm_rf0_ok (mm_dec_ok iX11_worth_ok)
abbrev cX11_balance : ByteArray := prog_1_method_24_code
def yX11_balance : MethodName := ⟨RX11, "balance", "(I)I"⟩
def iX11_balance : List (List (Nat × Instr)) := [[(0, .iload_n 1), (1, .iconst (-1)), (2, .if_icmp .ne 11), (5, .aload_n 0), (6, .getfield 65), (9, .invokevirtual 251), (12, .ireturn), (13, .iload_n 1), (14, .invokestatic 177)], [(17, .ifCond .eq 14), (20, .aload_n 0), (21, .getfield 65), (24, .iload_n 1), (25, .invokevirtual 254), (28, .goto 5), (31, .ldc 238)], [(33, .ireturn)]]
set_option maxRecDepth 20000 in
theorem iX11_balance_ok : mm_dec cX11_balance iX11_balance = true := by decide +kernel
set_option maxRecDepth 20000 in
theorem wX11_balance : mm_MV yX11_balance cX11_balance 2 (some .int) 11 := ⟨by decide, Or.inr ⟨_, rfl, rfl⟩, ⟨by decide +kernel, by decide +kernel⟩, mm_G_in (i := 926) (by decide +kernel) rfl, mm_G_in (i := 927) (by decide +kernel) rfl, mm_G_in (i := 68) (by decide +kernel) rfl, mm_G_in (i := 928) (by decide +kernel) rfl⟩
def vX11_balance : mm_L := [(251, 1, some 6, sX6_fewestPapers), (254, 2, some 6, sX6_balanceOf)]
def zX11_balance : mm_L := [(177, 1, none, sX11_isPerson)]
def sX11_balance : mm_F := mm_S (mm_gf gLX11) (mm_pf pLX11) (mm_mv vX11_balance) (mm_mv zX11_balance) (mm_kc kLX11) mm_gs0 mm_rf0 (some .int) 2 (mm_ins iX11_balance)
set_option maxRecDepth 20000 in
theorem tX11_balance (l : Launch) : mm_Ct l yX11_balance cX11_balance 2 (some .int) 4 sX11_balance := mm_meth (by decide +kernel) (mm_gf_ok gLX11_ok) (mm_pf_ok pLX11_ok) (mm_mv_ok (L := vX11_balance) (List.forall_mem_cons.mpr ⟨mm_LV.mk (i := 929) wX6_fewestPapers (tX6_fewestPapers l) (by decide) (by decide +kernel) (by decide +kernel), List.forall_mem_cons.mpr ⟨mm_LV.mk (i := 948) wX6_balanceOf (tX6_balanceOf l) (by decide) (by decide +kernel) (by decide +kernel), fun _ h => absurd h List.not_mem_nil⟩⟩)) (mm_ms_ok (L := zX11_balance) (List.forall_mem_cons.mpr ⟨⟨rfl, Or.inl (mm_LS.mk (i := 657) wX11_isPerson (tX11_isPerson l) (by decide) (by decide +kernel) (by decide +kernel))⟩, fun _ h => absurd h List.not_mem_nil⟩)) (mm_kc_ok kLX11_ok) mm_gs0_ok mm_rf0_ok (mm_dec_ok iX11_balance_ok)
abbrev cX11_price : ByteArray := prog_1_method_25_code
def yX11_price : MethodName := ⟨RX11, "price", "(II)I"⟩
def iX11_price : List (List (Nat × Instr)) := [[(0, .iload_n 1), (1, .invokestatic 257), (4, .ifCond .eq 14), (7, .aload_n 0), (8, .getfield 28), (11, .iload_n 2), (12, .invokevirtual 135), (15, .ifCond .ne 5)], [(18, .iconst (-1)), (19, .ireturn), (20, .aload_n 0), (21, .getfield 72), (24, .iload_n 1), (25, .iload_n 2), (26, .invokevirtual 260), (29, .ireturn)]]
set_option maxRecDepth 20000 in
theorem iX11_price_ok : mm_dec cX11_price iX11_price = true := by decide +kernel
set_option maxRecDepth 20000 in
theorem wX11_price : mm_MV yX11_price cX11_price 3 (some .int) 11 := ⟨by decide, Or.inr ⟨_, rfl, rfl⟩, ⟨by decide +kernel, by decide +kernel⟩, mm_G_in (i := 950) (by decide +kernel) rfl, mm_G_in (i := 951) (by decide +kernel) rfl, mm_G_in (i := 68) (by decide +kernel) rfl, mm_G_in (i := 952) (by decide +kernel) rfl⟩
def vX11_price : mm_L := [(135, 2, some 0, sX0_isStanding), (260, 3, some 4, sX4_valueAs)]
def zX11_price : mm_L := [(257, 1, none, sX4_isKind)]
def sX11_price : mm_F := mm_S (mm_gf gLX11) (mm_pf pLX11) (mm_mv vX11_price) (mm_mv zX11_price) (mm_kc kLX11) mm_gs0 mm_rf0 (some .int) 3 (mm_ins iX11_price)
set_option maxRecDepth 20000 in
theorem tX11_price (l : Launch) : mm_Ct l yX11_price cX11_price 3 (some .int) 7 sX11_price := mm_meth (by decide +kernel) (mm_gf_ok gLX11_ok) (mm_pf_ok pLX11_ok) (mm_mv_ok (L := vX11_price) (List.forall_mem_cons.mpr ⟨mm_LV.mk (i := 634) wX0_isStanding (tX0_isStanding l) (by decide) (by decide +kernel) (by decide +kernel), List.forall_mem_cons.mpr ⟨mm_LV.mk (i := 956) wX4_valueAs (tX4_valueAs l) (by decide) (by decide +kernel) (by decide +kernel), fun _ h => absurd h List.not_mem_nil⟩⟩)) (mm_ms_ok (L := zX11_price) (List.forall_mem_cons.mpr ⟨⟨rfl, Or.inl (mm_LS.mk (i := 953) wX4_isKind (tX4_isKind l) (by decide) (by decide +kernel) (by decide +kernel))⟩, fun _ h => absurd h List.not_mem_nil⟩)) (mm_kc_ok kLX11_ok) mm_gs0_ok mm_rf0_ok (mm_dec_ok iX11_price_ok)
