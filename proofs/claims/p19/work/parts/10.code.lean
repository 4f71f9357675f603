abbrev cJ7_fill_53178 : ByteArray := prog_21_method_103_code
def yJ7_fill_53178 : MethodName := ⟨RJ7, "fill", "([II)V"⟩
def iJ7_fill_53178 : List (List (Nat × Instr)) := [[(0, .iconst 0), (1, .istore_n 2), (2, .aload_n 0), (3, .arraylength), (4, .istore_n 3), (5, .iload_n 2), (6, .iload_n 3), (7, .if_icmp .ge 13), (10, .aload_n 0), (11, .iload_n 2), (12, .iload_n 1), (13, .iastore), (14, .iinc 2 1)], [(17, .goto (-12)), (20, .return_)]]
set_option maxRecDepth 20000 in
theorem iJ7_fill_53178_ok : mm_dec cJ7_fill_53178 iJ7_fill_53178 = true := by decide +kernel
set_option maxRecDepth 20000 in
theorem wJ7_fill_53178 : mm_MS yJ7_fill_53178 cJ7_fill_53178 4 none := ⟨by decide, ⟨by decide +kernel, by decide +kernel⟩, mm_G_in (i := 613) (by decide +kernel) rfl, mm_G_in (i := 86) (by decide +kernel) rfl, mm_G_in (i := 614) (by decide +kernel) rfl⟩
def vJ7_fill_53178 : mm_L := []
def zJ7_fill_53178 : mm_L := []
def sJ7_fill_53178 : mm_F := mm_S (mm_gf gLJ7) (mm_pf pLJ7) (mm_mv vJ7_fill_53178) (mm_mv zJ7_fill_53178) (mm_kc kLJ7) mm_gs0 mm_rf0 none 4 (mm_ins iJ7_fill_53178)
set_option maxRecDepth 20000 in
theorem tJ7_fill_53178 (l : Launch) : mm_Ct l yJ7_fill_53178 cJ7_fill_53178 4 none 0 sJ7_fill_53178 := mm_meth (by decide +kernel) (mm_gf_ok gLJ7_ok) (mm_pf_ok pLJ7_ok) (mm_mv_ok (L := vJ7_fill_53178) (fun _ h => absurd h List.not_mem_nil)) (mm_ms_ok (L := zJ7_fill_53178) (fun _ h => absurd h List.not_mem_nil)) (mm_kc_ok kLJ7_ok) mm_gs0_ok mm_rf0_ok (mm_dec_ok iJ7_fill_53178_ok)
abbrev cX5_startOn : ByteArray := prog_7_method_2_code
def yX5_startOn : MethodName := ⟨RX5, "startOn", "(LSuretyRoll$Roll;)V"⟩
def iX5_startOn : List (List (Nat × Instr)) := [[(0, .aload_n 0), (1, .getfield 9), (4, .iconst 0), (5, .invokestatic 27), (8, .aload_n 0), (9, .getfield 15), (12, .iconst 0), (13, .invokestatic 27)], [(16, .aload_n 0), (17, .getfield 21), (20, .iconst 0), (21, .invokestatic 27), (24, .aload_n 1), (25, .getfield 33), (28, .iconst 0), (29, .aload_n 0), (30, .getfield 18)], [(33, .iconst 0), (34, .bipush 16), (36, .invokestatic 38), (39, .aload_n 0), (40, .iconst 0), (41, .putfield 44), (44, .aload_n 0), (45, .iconst 0), (46, .putfield 48)], [(49, .return_)]]
set_option maxRecDepth 20000 in
theorem iX5_startOn_ok : mm_dec cX5_startOn iX5_startOn = true := by decide +kernel
set_option maxRecDepth 20000 in
theorem wX5_startOn : mm_MV yX5_startOn cX5_startOn 2 none 5 := ⟨by decide, Or.inr ⟨_, rfl, rfl⟩, ⟨by decide +kernel, by decide +kernel⟩, mm_G_in (i := 609) (by decide +kernel) rfl, mm_G_in (i := 610) (by decide +kernel) rfl, mm_G_in (i := 73) (by decide +kernel) rfl, mm_G_in (i := 611) (by decide +kernel) rfl⟩
def vX5_startOn : mm_L := []
def zX5_startOn : mm_L := [(27, 2, none, sJ7_fill_53178), (38, 5, none, mm_acp)]
def sX5_startOn : mm_F := mm_S (mm_gf gLX5) (mm_pf pLX5) (mm_mv vX5_startOn) (mm_mv zX5_startOn) (mm_kc kLX5) mm_gs0 mm_rf0 none 2 (mm_ins iX5_startOn)
set_option maxRecDepth 20000 in
theorem tX5_startOn (l : Launch) : mm_Ct l yX5_startOn cX5_startOn 2 none 1 sX5_startOn := mm_meth (by decide +kernel) (mm_gf_ok gLX5_ok) (mm_pf_ok pLX5_ok) (mm_mv_ok (L := vX5_startOn) (fun _ h => absurd h List.not_mem_nil)) (mm_ms_ok (L := zX5_startOn) (List.forall_mem_cons.mpr ⟨⟨rfl, Or.inl (mm_LS.mk (i := 612) wJ7_fill_53178 (tJ7_fill_53178 l) (by decide) (by decide +kernel) (by decide +kernel))⟩, List.forall_mem_cons.mpr ⟨⟨rfl, Or.inr (mm_LA.mk (i := 615) (by decide) (by decide +kernel))⟩, fun _ h => absurd h List.not_mem_nil⟩⟩)) (mm_kc_ok kLX5_ok) mm_gs0_ok mm_rf0_ok (mm_dec_ok iX5_startOn_ok)
abbrev cX0_takeDraft : ByteArray := prog_2_method_2_code
def yX0_takeDraft : MethodName := ⟨RX0, "takeDraft", "()V"⟩
def iX0_takeDraft : List (List (Nat × Instr)) := [[(0, .aload_n 0), (1, .getfield 12), (4, .astore_n 1), (5, .aload_n 0), (6, .aload_n 0), (7, .getfield 18), (10, .putfield 12), (13, .aload_n 0), (14, .aload_n 1), (15, .putfield 18)], [(18, .aload_n 0), (19, .getfield 24), (22, .aload_n 0), (23, .getfield 12), (26, .invokevirtual 28), (29, .return_)]]
set_option maxRecDepth 20000 in
theorem iX0_takeDraft_ok : mm_dec cX0_takeDraft iX0_takeDraft = true := by decide +kernel
set_option maxRecDepth 20000 in
theorem wX0_takeDraft : mm_MV yX0_takeDraft cX0_takeDraft 2 none 0 := ⟨by decide, Or.inr ⟨_, rfl, rfl⟩, ⟨by decide +kernel, by decide +kernel⟩, mm_G_in (i := 605) (by decide +kernel) rfl, mm_G_in (i := 606) (by decide +kernel) rfl, mm_G_in (i := 71) (by decide +kernel) rfl, mm_G_in (i := 607) (by decide +kernel) rfl⟩
def vX0_takeDraft : mm_L := [(28, 2, some 5, sX5_startOn)]
def zX0_takeDraft : mm_L := []
def sX0_takeDraft : mm_F := mm_S (mm_gf gLX0) (mm_pf pLX0) (mm_mv vX0_takeDraft) (mm_mv zX0_takeDraft) (mm_kc kLX0) mm_gs0 mm_rf0 none 2 (mm_ins iX0_takeDraft)
set_option maxRecDepth 20000 in
theorem tX0_takeDraft (l : Launch) : mm_Ct l yX0_takeDraft cX0_takeDraft 2 none 2 sX0_takeDraft := mm_meth (by decide +kernel) (mm_gf_ok gLX0_ok) (mm_pf_ok pLX0_ok) (mm_mv_ok (L := vX0_takeDraft) (List.forall_mem_cons.mpr ⟨mm_LV.mk (i := 608) wX5_startOn (tX5_startOn l) (by decide) (by decide +kernel) (by decide +kernel), fun _ h => absurd h List.not_mem_nil⟩)) (mm_ms_ok (L := zX0_takeDraft) (fun _ h => absurd h List.not_mem_nil)) (mm_kc_ok kLX0_ok) mm_gs0_ok mm_rf0_ok (mm_dec_ok iX0_takeDraft_ok)
abbrev cX0_isDebt : ByteArray := prog_2_method_3_code
def yX0_isDebt : MethodName := ⟨RX0, "isDebt", "(I)Z"⟩
def iX0_isDebt : List (List (Nat × Instr)) := [[(0, .iload_n 1), (1, .ifCond .lt 18), (4, .iload_n 1), (5, .aload_n 0), (6, .getfield 12), (9, .getfield 32), (12, .if_icmp .ge 7), (15, .iconst 1)], [(16, .goto 4), (19, .iconst 0), (20, .ireturn)]]
set_option maxRecDepth 20000 in
theorem iX0_isDebt_ok : mm_dec cX0_isDebt iX0_isDebt = true := by decide +kernel
set_option maxRecDepth 20000 in
theorem wX0_isDebt : mm_MV yX0_isDebt cX0_isDebt 2 (some .boolean) 0 := ⟨by decide, Or.inr ⟨_, rfl, rfl⟩, ⟨by decide +kernel, by decide +kernel⟩, mm_G_in (i := 623) (by decide +kernel) rfl, mm_G_in (i := 624) (by decide +kernel) rfl, mm_G_in (i := 71) (by decide +kernel) rfl, mm_G_in (i := 625) (by decide +kernel) rfl⟩
def vX0_isDebt : mm_L := []
def zX0_isDebt : mm_L := []
def sX0_isDebt : mm_F := mm_S (mm_gf gLX0) (mm_pf pLX0) (mm_mv vX0_isDebt) (mm_mv zX0_isDebt) (mm_kc kLX0) mm_gs0 mm_rf0 (some .boolean) 2 (mm_ins iX0_isDebt)
set_option maxRecDepth 20000 in
theorem tX0_isDebt (l : Launch) : mm_Ct l yX0_isDebt cX0_isDebt 2 (some .boolean) 0 sX0_isDebt := mm_meth (by decide +kernel) (mm_gf_ok gLX0_ok) (mm_pf_ok pLX0_ok) (mm_mv_ok (L := vX0_isDebt) (fun _ h => absurd h List.not_mem_nil)) (mm_ms_ok (L := zX0_isDebt) (fun _ h => absurd h List.not_mem_nil)) (mm_kc_ok kLX0_ok) mm_gs0_ok mm_rf0_ok (mm_dec_ok iX0_isDebt_ok)
abbrev cX0_isStanding : ByteArray := prog_2_method_4_code
def yX0_isStanding : MethodName := ⟨RX0, "isStanding", "(I)Z"⟩
def iX0_isStanding : List (List (Nat × Instr)) := [[(0, .iload_n 1), (1, .ifCond .lt 18), (4, .iload_n 1), (5, .aload_n 0), (6, .getfield 12), (9, .getfield 36), (12, .if_icmp .ge 7), (15, .iconst 1)], [(16, .goto 4), (19, .iconst 0), (20, .ireturn)]]
set_option maxRecDepth 20000 in
theorem iX0_isStanding_ok : mm_dec cX0_isStanding iX0_isStanding = true := by decide +kernel
set_option maxRecDepth 20000 in
theorem wX0_isStanding : mm_MV yX0_isStanding cX0_isStanding 2 (some .boolean) 0 := ⟨by decide, Or.inr ⟨_, rfl, rfl⟩, ⟨by decide +kernel, by decide +kernel⟩, mm_G_in (i := 635) (by decide +kernel) rfl, mm_G_in (i := 636) (by decide +kernel) rfl, mm_G_in (i := 71) (by decide +kernel) rfl, mm_G_in (i := 637) (by decide +kernel) rfl⟩
def vX0_isStanding : mm_L := []
def zX0_isStanding : mm_L := []
def sX0_isStanding : mm_F := mm_S (mm_gf gLX0) (mm_pf pLX0) (mm_mv vX0_isStanding) (mm_mv zX0_isStanding) (mm_kc kLX0) mm_gs0 mm_rf0 (some .boolean) 2 (mm_ins iX0_isStanding)
set_option maxRecDepth 20000 in
theorem tX0_isStanding (l : Launch) : mm_Ct l yX0_isStanding cX0_isStanding 2 (some .boolean) 0 sX0_isStanding := mm_meth (by decide +kernel) (mm_gf_ok gLX0_ok) (mm_pf_ok pLX0_ok) (mm_mv_ok (L := vX0_isStanding) (fun _ h => absurd h List.not_mem_nil)) (mm_ms_ok (L := zX0_isStanding) (fun _ h => absurd h List.not_mem_nil)) (mm_kc_ok kLX0_ok) mm_gs0_ok mm_rf0_ok (mm_dec_ok iX0_isStanding_ok)
abbrev cX11_isIn : ByteArray := prog_1_method_32_code
def yX11_isIn : MethodName := ⟨RX11, "isIn", "(II)Z"⟩
def iX11_isIn : List (List (Nat × Instr)) := [[(0, .iload_n 0), (1, .iload_n 1), (2, .ishr), (3, .iconst 1), (4, .iand), (5, .iconst 1), (6, .if_icmp .ne 7), (9, .iconst 1), (10, .goto 4), (13, .iconst 0), (14, .ireturn)]]
set_option maxRecDepth 20000 in
theorem iX11_isIn_ok : mm_dec cX11_isIn iX11_isIn = true := by decide +kernel
set_option maxRecDepth 20000 in
theorem wX11_isIn : mm_MS yX11_isIn cX11_isIn 2 (some .boolean) := ⟨by decide, ⟨by decide +kernel, by decide +kernel⟩, mm_G_in (i := 643) (by decide +kernel) rfl, mm_G_in (i := 68) (by decide +kernel) rfl, mm_G_in (i := 644) (by decide +kernel) rfl⟩
def vX11_isIn : mm_L := []
def zX11_isIn : mm_L := []
def sX11_isIn : mm_F := mm_S (mm_gf gLX11) (mm_pf pLX11) (mm_mv vX11_isIn) (mm_mv zX11_isIn) (mm_kc kLX11) mm_gs0 mm_rf0 (some .boolean) 2 (mm_ins iX11_isIn)
set_option maxRecDepth 20000 in
theorem tX11_isIn (l : Launch) : mm_Ct l yX11_isIn cX11_isIn 2 (some .boolean) 0 sX11_isIn := mm_meth (by decide +kernel) (mm_gf_ok gLX11_ok) (mm_pf_ok pLX11_ok) (mm_mv_ok (L := vX11_isIn) (fun _ h => absurd h List.not_mem_nil)) (mm_ms_ok (L := zX11_isIn) (fun _ h => absurd h List.not_mem_nil)) (mm_kc_ok kLX11_ok) mm_gs0_ok mm_rf0_ok (mm_dec_ok iX11_isIn_ok)
abbrev cX0_isReleased : ByteArray := prog_2_method_5_code
def yX0_isReleased : MethodName := ⟨RX0, "isReleased", "(I)Z"⟩
def iX0_isReleased : List (List (Nat × Instr)) := [[(0, .aload_n 0), (1, .getfield 24), (4, .getfield 39), (7, .iload_n 1), (8, .invokestatic 42), (11, .ireturn)]]
set_option maxRecDepth 20000 in
theorem iX0_isReleased_ok : mm_dec cX0_isReleased iX0_isReleased = true := by decide +kernel
set_option maxRecDepth 20000 in
theorem wX0_isReleased : mm_MV yX0_isReleased cX0_isReleased 2 (some .boolean) 0 := ⟨by decide, Or.inr ⟨_, rfl, rfl⟩, ⟨by decide +kernel, by decide +kernel⟩, mm_G_in (i := 646) (by decide +kernel) rfl, mm_G_in (i := 647) (by decide +kernel) rfl, mm_G_in (i := 71) (by decide +kernel) rfl, mm_G_in (i := 648) (by decide +kernel) rfl⟩
def vX0_isReleased : mm_L := []
def zX0_isReleased : mm_L := [(42, 2, none, sX11_isIn)]
def sX0_isReleased : mm_F := mm_S (mm_gf gLX0) (mm_pf pLX0) (mm_mv vX0_isReleased) (mm_mv zX0_isReleased) (mm_kc kLX0) mm_gs0 mm_rf0 (some .boolean) 2 (mm_ins iX0_isReleased)
set_option maxRecDepth 20000 in
theorem tX0_isReleased (l : Launch) : mm_Ct l yX0_isReleased cX0_isReleased 2 (some .boolean) 1 sX0_isReleased := mm_meth (by decide +kernel) (mm_gf_ok gLX0_ok) (mm_pf_ok pLX0_ok) (mm_mv_ok (L := vX0_isReleased) (fun _ h => absurd h List.not_mem_nil)) (mm_ms_ok (L := zX0_isReleased) (List.forall_mem_cons.mpr ⟨⟨rfl, Or.inl (mm_LS.nest wX11_isIn (tX11_isIn l) (by decide) (by decide +kernel) rfl (by decide +kernel))⟩, fun _ h => absurd h List.not_mem_nil⟩)) (mm_kc_ok kLX0_ok) mm_gs0_ok mm_rf0_ok (mm_dec_ok iX0_isReleased_ok)
abbrev cX0_isFallen : ByteArray := prog_2_method_6_code
def yX0_isFallen : MethodName := ⟨RX0, "isFallen", "(I)Z"⟩
def iX0_isFallen : List (List (Nat × Instr)) := [[(0, .aload_n 0), (1, .getfield 24), (4, .getfield 46), (7, .iload_n 1), (8, .invokestatic 42), (11, .ireturn)]]
set_option maxRecDepth 20000 in
theorem iX0_isFallen_ok : mm_dec cX0_isFallen iX0_isFallen = true := by decide +kernel
set_option maxRecDepth 20000 in
theorem wX0_isFallen : mm_MV yX0_isFallen cX0_isFallen 2 (some .boolean) 0 := ⟨by decide, Or.inr ⟨_, rfl, rfl⟩, ⟨by decide +kernel, by decide +kernel⟩, mm_G_in (i := 685) (by decide +kernel) rfl, mm_G_in (i := 686) (by decide +kernel) rfl, mm_G_in (i := 71) (by decide +kernel) rfl, mm_G_in (i := 687) (by decide +kernel) rfl⟩
def vX0_isFallen : mm_L := []
def zX0_isFallen : mm_L := [(42, 2, none, sX11_isIn)]
def sX0_isFallen : mm_F := mm_S (mm_gf gLX0) (mm_pf pLX0) (mm_mv vX0_isFallen) (mm_mv zX0_isFallen) (mm_kc kLX0) mm_gs0 mm_rf0 (some .boolean) 2 (mm_ins iX0_isFallen)
set_option maxRecDepth 20000 in
theorem tX0_isFallen (l : Launch) : mm_Ct l yX0_isFallen cX0_isFallen 2 (some .boolean) 1 sX0_isFallen := mm_meth (by decide +kernel) (mm_gf_ok gLX0_ok) (mm_pf_ok pLX0_ok) (mm_mv_ok (L := vX0_isFallen) (fun _ h => absurd h List.not_mem_nil)) (mm_ms_ok (L := zX0_isFallen) (List.forall_mem_cons.mpr ⟨⟨rfl, Or.inl (mm_LS.nest wX11_isIn (tX11_isIn l) (by decide) (by decide +kernel) rfl (by decide +kernel))⟩, fun _ h => absurd h List.not_mem_nil⟩)) (mm_kc_ok kLX0_ok) mm_gs0_ok mm_rf0_ok (mm_dec_ok iX0_isFallen_ok)
abbrev cX0_sayFallen : ByteArray := prog_2_method_7_code
def yX0_sayFallen : MethodName := ⟨RX0, "sayFallen", "(IZ)V"⟩
def iX0_sayFallen : List (List (Nat × Instr)) := [[(0, .aload_n 0), (1, .getfield 24), (4, .iload_n 2), (5, .ifCond .eq 17), (8, .aload_n 0), (9, .getfield 24), (12, .getfield 46), (15, .iconst 1)], [(16, .iload_n 1), (17, .ishl), (18, .ior), (19, .goto 16), (22, .aload_n 0), (23, .getfield 24), (26, .getfield 46), (29, .iconst 1), (30, .iload_n 1), (31, .ishl)], [(32, .iconst (-1)), (33, .ixor), (34, .iand), (35, .putfield 46), (38, .return_)]]
set_option maxRecDepth 20000 in
theorem iX0_sayFallen_ok : mm_dec cX0_sayFallen iX0_sayFallen = true := by decide +kernel
set_option maxRecDepth 20000 in
theorem wX0_sayFallen : mm_MV yX0_sayFallen cX0_sayFallen 3 none 0 := ⟨by decide, Or.inr ⟨_, rfl, rfl⟩, ⟨by decide +kernel, by decide +kernel⟩, mm_G_in (i := 665) (by decide +kernel) rfl, mm_G_in (i := 666) (by decide +kernel) rfl, mm_G_in (i := 71) (by decide +kernel) rfl, mm_G_in (i := 667) (by decide +kernel) rfl⟩
def vX0_sayFallen : mm_L := []
def zX0_sayFallen : mm_L := []
def sX0_sayFallen : mm_F := mm_S (mm_gf gLX0) (mm_pf pLX0) (mm_mv vX0_sayFallen) (mm_mv zX0_sayFallen) (mm_kc kLX0) mm_gs0 mm_rf0 none 3 (mm_ins iX0_sayFallen)
set_option maxRecDepth 20000 in
theorem tX0_sayFallen (l : Launch) : mm_Ct l yX0_sayFallen cX0_sayFallen 3 none 0 sX0_sayFallen := mm_meth (by decide +kernel) (mm_gf_ok gLX0_ok) (mm_pf_ok pLX0_ok) (mm_mv_ok (L := vX0_sayFallen) (fun _ h => absurd h List.not_mem_nil)) (mm_ms_ok (L := zX0_sayFallen) (fun _ h => absurd h List.not_mem_nil)) (mm_kc_ok kLX0_ok) mm_gs0_ok mm_rf0_ok (mm_dec_ok iX0_sayFallen_ok)
abbrev cX0_restOf : ByteArray := prog_2_method_8_code
def yX0_restOf : MethodName := ⟨RX0, "restOf", "(I)I"⟩
def iX0_restOf : List (List (Nat × Instr)) := [[(0, .aload_n 0), (1, .getfield 12), (4, .getfield 49), (7, .iload_n 1), (8, .iaload), (9, .aload_n 0), (10, .getfield 24), (13, .getfield 53)], [(16, .iload_n 1), (17, .iaload), (18, .isub), (19, .ireturn)]]
set_option maxRecDepth 20000 in
theorem iX0_restOf_ok : mm_dec cX0_restOf iX0_restOf = true := by decide +kernel
set_option maxRecDepth 20000 in
theorem wX0_restOf : mm_MV yX0_restOf cX0_restOf 2 (some .int) 0 := ⟨by decide, Or.inr ⟨_, rfl, rfl⟩, ⟨by decide +kernel, by decide +kernel⟩, mm_G_in (i := 627) (by decide +kernel) rfl, mm_G_in (i := 628) (by decide +kernel) rfl, mm_G_in (i := 71) (by decide +kernel) rfl, mm_G_in (i := 629) (by decide +kernel) rfl⟩
def vX0_restOf : mm_L := []
def zX0_restOf : mm_L := []
def sX0_restOf : mm_F := mm_S (mm_gf gLX0) (mm_pf pLX0) (mm_mv vX0_restOf) (mm_mv zX0_restOf) (mm_kc kLX0) mm_gs0 mm_rf0 (some .int) 2 (mm_ins iX0_restOf)
set_option maxRecDepth 20000 in
theorem tX0_restOf (l : Launch) : mm_Ct l yX0_restOf cX0_restOf 2 (some .int) 0 sX0_restOf := mm_meth (by decide +kernel) (mm_gf_ok gLX0_ok) (mm_pf_ok pLX0_ok) (mm_mv_ok (L := vX0_restOf) (fun _ h => absurd h List.not_mem_nil)) (mm_ms_ok (L := zX0_restOf) (fun _ h => absurd h List.not_mem_nil)) (mm_kc_ok kLX0_ok) mm_gs0_ok mm_rf0_ok (mm_dec_ok iX0_restOf_ok)
abbrev cX0_restOfAll : ByteArray := prog_2_method_9_code
def yX0_restOfAll : MethodName := ⟨RX0, "restOfAll", "()I"⟩
def iX0_restOfAll : List (List (Nat × Instr)) := [[(0, .iconst 0), (1, .istore_n 1), (2, .iconst 0), (3, .istore_n 2), (4, .iload_n 2), (5, .aload_n 0), (6, .getfield 12), (9, .getfield 32), (12, .if_icmp .ge 17), (15, .iload_n 1)], [(16, .aload_n 0), (17, .iload_n 2), (18, .invokevirtual 56), (21, .iadd), (22, .istore_n 1), (23, .iinc 2 1), (26, .goto (-22)), (29, .iload_n 1), (30, .ireturn)]]
set_option maxRecDepth 20000 in
theorem iX0_restOfAll_ok : mm_dec cX0_restOfAll iX0_restOfAll = true := by decide +kernel
set_option maxRecDepth 20000 in
theorem wX0_restOfAll : mm_MV yX0_restOfAll cX0_restOfAll 3 (some .int) 0 := ⟨by decide, Or.inr ⟨_, rfl, rfl⟩, ⟨by decide +kernel, by decide +kernel⟩, mm_G_in (i := 997) (by decide +kernel) rfl, mm_G_in (i := 998) (by decide +kernel) rfl, mm_G_in (i := 71) (by decide +kernel) rfl, mm_G_in (i := 999) (by decide +kernel) rfl⟩
def vX0_restOfAll : mm_L := [(56, 2, some 0, sX0_restOf)]
def zX0_restOfAll : mm_L := []
def sX0_restOfAll : mm_F := mm_S (mm_gf gLX0) (mm_pf pLX0) (mm_mv vX0_restOfAll) (mm_mv zX0_restOfAll) (mm_kc kLX0) mm_gs0 mm_rf0 (some .int) 3 (mm_ins iX0_restOfAll)
set_option maxRecDepth 20000 in
theorem tX0_restOfAll (l : Launch) : mm_Ct l yX0_restOfAll cX0_restOfAll 3 (some .int) 1 sX0_restOfAll := mm_meth (by decide +kernel) (mm_gf_ok gLX0_ok) (mm_pf_ok pLX0_ok) (mm_mv_ok (L := vX0_restOfAll) (List.forall_mem_cons.mpr ⟨mm_LV.mk (i := 698) wX0_restOf (tX0_restOf l) (by decide) (by decide +kernel) (by decide +kernel), fun _ h => absurd h List.not_mem_nil⟩)) (mm_ms_ok (L := zX0_restOfAll) (fun _ h => absurd h List.not_mem_nil)) (mm_kc_ok kLX0_ok) mm_gs0_ok mm_rf0_ok (mm_dec_ok iX0_restOfAll_ok)
abbrev cX0_leftOf : ByteArray := prog_2_method_10_code
def yX0_leftOf : MethodName := ⟨RX0, "leftOf", "(I)I"⟩
def iX0_leftOf : List (List (Nat × Instr)) := [[(0, .aload_n 0), (1, .getfield 24), (4, .getfield 39), (7, .iload_n 1), (8, .invokestatic 42), (11, .ifCond .eq 7), (14, .iconst 0), (15, .goto 22)], [(18, .aload_n 0), (19, .getfield 24), (22, .getfield 60), (25, .iload_n 1), (26, .iaload), (27, .aload_n 0), (28, .getfield 24), (31, .getfield 63)], [(34, .iload_n 1), (35, .iaload), (36, .isub), (37, .ireturn)]]
set_option maxRecDepth 20000 in
theorem iX0_leftOf_ok : mm_dec cX0_leftOf iX0_leftOf = true := by decide +kernel
set_option maxRecDepth 20000 in
theorem wX0_leftOf : mm_MV yX0_leftOf cX0_leftOf 2 (some .int) 0 := ⟨by decide, Or.inr ⟨_, rfl, rfl⟩, ⟨by decide +kernel, by decide +kernel⟩, mm_G_in (i := 639) (by decide +kernel) rfl, mm_G_in (i := 640) (by decide +kernel) rfl, mm_G_in (i := 71) (by decide +kernel) rfl, mm_G_in (i := 641) (by decide +kernel) rfl⟩
def vX0_leftOf : mm_L := []
def zX0_leftOf : mm_L := [(42, 2, none, sX11_isIn)]
def sX0_leftOf : mm_F := mm_S (mm_gf gLX0) (mm_pf pLX0) (mm_mv vX0_leftOf) (mm_mv zX0_leftOf) (mm_kc kLX0) mm_gs0 mm_rf0 (some .int) 2 (mm_ins iX0_leftOf)
set_option maxRecDepth 20000 in
theorem tX0_leftOf (l : Launch) : mm_Ct l yX0_leftOf cX0_leftOf 2 (some .int) 1 sX0_leftOf := mm_meth (by decide +kernel) (mm_gf_ok gLX0_ok) (mm_pf_ok pLX0_ok) (mm_mv_ok (L := vX0_leftOf) (fun _ h => absurd h List.not_mem_nil)) (mm_ms_ok (L := zX0_leftOf) (List.forall_mem_cons.mpr ⟨⟨rfl, Or.inl (mm_LS.nest wX11_isIn (tX11_isIn l) (by decide) (by decide +kernel) rfl (by decide +kernel))⟩, fun _ h => absurd h List.not_mem_nil⟩)) (mm_kc_ok kLX0_ok) mm_gs0_ok mm_rf0_ok (mm_dec_ok iX0_leftOf_ok)
abbrev cJ9_min_7cf53 : ByteArray := prog_16_method_69_code
def yJ9_min_7cf53 : MethodName := ⟨RJ9, "min", "(II)I"⟩
def iJ9_min_7cf53 : List (List (Nat × Instr)) := [[(0, .iload_n 0), (1, .iload_n 1), (2, .if_icmp .gt 7), (5, .iload_n 0), (6, .goto 4), (9, .iload_n 1), (10, .ireturn)]]
set_option maxRecDepth 20000 in
theorem iJ9_min_7cf53_ok : mm_dec cJ9_min_7cf53 iJ9_min_7cf53 = true := by decide +kernel
set_option maxRecDepth 20000 in
theorem wJ9_min_7cf53 : mm_MS yJ9_min_7cf53 cJ9_min_7cf53 2 (some .int) := ⟨by decide, ⟨by decide +kernel, by decide +kernel⟩, mm_G_in (i := 585) (by decide +kernel) rfl, mm_G_in (i := 85) (by decide +kernel) rfl, mm_G_in (i := 586) (by decide +kernel) rfl⟩
def vJ9_min_7cf53 : mm_L := []
def zJ9_min_7cf53 : mm_L := []
def sJ9_min_7cf53 : mm_F := mm_S (mm_gf gLJ9) (mm_pf pLJ9) (mm_mv vJ9_min_7cf53) (mm_mv zJ9_min_7cf53) (mm_kc kLJ9) mm_gs0 mm_rf0 (some .int) 2 (mm_ins iJ9_min_7cf53)
set_option maxRecDepth 20000 in
theorem tJ9_min_7cf53 (l : Launch) : mm_Ct l yJ9_min_7cf53 cJ9_min_7cf53 2 (some .int) 0 sJ9_min_7cf53 := mm_meth (by decide +kernel) (mm_gf_ok gLJ9_ok) (mm_pf_ok pLJ9_ok) (mm_mv_ok (L := vJ9_min_7cf53) (fun _ h => absurd h List.not_mem_nil)) (mm_ms_ok (L := zJ9_min_7cf53) (fun _ h => absurd h List.not_mem_nil)) (mm_kc_ok kLJ9_ok) mm_gs0_ok mm_rf0_ok (mm_dec_ok iJ9_min_7cf53_ok)
abbrev cX0_lesserOfLeftAndRest : ByteArray := prog_2_method_11_code
def yX0_lesserOfLeftAndRest : MethodName := ⟨RX0, "lesserOfLeftAndRest", "(I)I"⟩
def iX0_lesserOfLeftAndRest : List (List (Nat × Instr)) := [[(0, .aload_n 0), (1, .iload_n 1), (2, .invokevirtual 66), (5, .aload_n 0), (6, .aload_n 0), (7, .getfield 12), (10, .getfield 69), (13, .iload_n 1), (14, .iaload), (15, .invokevirtual 56)], [(18, .invokestatic 72), (21, .ireturn)]]
set_option maxRecDepth 20000 in
theorem iX0_lesserOfLeftAndRest_ok : mm_dec cX0_lesserOfLeftAndRest iX0_lesserOfLeftAndRest = true := by decide +kernel
set_option maxRecDepth 20000 in
theorem wX0_lesserOfLeftAndRest : mm_MV yX0_lesserOfLeftAndRest cX0_lesserOfLeftAndRest 2 (some .int) 0 := ⟨by decide, Or.inr ⟨_, rfl, rfl⟩, ⟨by decide +kernel, by decide +kernel⟩, mm_G_in (i := 694) (by decide +kernel) rfl, mm_G_in (i := 695) (by decide +kernel) rfl, mm_G_in (i := 71) (by decide +kernel) rfl, mm_G_in (i := 696) (by decide +kernel) rfl⟩
def vX0_lesserOfLeftAndRest : mm_L := [(66, 2, some 0, sX0_leftOf), (56, 2, some 0, sX0_restOf)]
def zX0_lesserOfLeftAndRest : mm_L := [(72, 2, none, sJ9_min_7cf53)]
def sX0_lesserOfLeftAndRest : mm_F := mm_S (mm_gf gLX0) (mm_pf pLX0) (mm_mv vX0_lesserOfLeftAndRest) (mm_mv zX0_lesserOfLeftAndRest) (mm_kc kLX0) mm_gs0 mm_rf0 (some .int) 2 (mm_ins iX0_lesserOfLeftAndRest)
set_option maxRecDepth 20000 in
theorem tX0_lesserOfLeftAndRest (l : Launch) : mm_Ct l yX0_lesserOfLeftAndRest cX0_lesserOfLeftAndRest 2 (some .int) 2 sX0_lesserOfLeftAndRest := mm_meth (by decide +kernel) (mm_gf_ok gLX0_ok) (mm_pf_ok pLX0_ok) (mm_mv_ok (L := vX0_lesserOfLeftAndRest) (List.forall_mem_cons.mpr ⟨mm_LV.mk (i := 697) wX0_leftOf (tX0_leftOf l) (by decide) (by decide +kernel) (by decide +kernel), List.forall_mem_cons.mpr ⟨mm_LV.mk (i := 698) wX0_restOf (tX0_restOf l) (by decide) (by decide +kernel) (by decide +kernel), fun _ h => absurd h List.not_mem_nil⟩⟩)) (mm_ms_ok (L := zX0_lesserOfLeftAndRest) (List.forall_mem_cons.mpr ⟨⟨rfl, Or.inl (mm_LS.mk (i := 699) wJ9_min_7cf53 (tJ9_min_7cf53 l) (by decide) (by decide +kernel) (by decide +kernel))⟩, fun _ h => absurd h List.not_mem_nil⟩)) (mm_kc_ok kLX0_ok) mm_gs0_ok mm_rf0_ok (mm_dec_ok iX0_lesserOfLeftAndRest_ok)
abbrev cX0_askOfDebtor : ByteArray := prog_2_method_12_code
def yX0_askOfDebtor : MethodName := ⟨RX0, "askOfDebtor", "(I)I"⟩
def iX0_askOfDebtor : List (List (Nat × Instr)) := [[(0, .aload_n 0), (1, .aload_n 0), (2, .getfield 12), (5, .getfield 78), (8, .iload_n 1), (9, .iaload), (10, .invokevirtual 81), (13, .ifCond .eq 7)], [(16, .iconst 0), (17, .goto 8), (20, .aload_n 0), (21, .iload_n 1), (22, .invokevirtual 56), (25, .ireturn)]]
set_option maxRecDepth 20000 in
theorem iX0_askOfDebtor_ok : mm_dec cX0_askOfDebtor iX0_askOfDebtor = true := by decide +kernel
set_option maxRecDepth 20000 in
theorem wX0_askOfDebtor : mm_MV yX0_askOfDebtor cX0_askOfDebtor 2 (some .int) 0 := ⟨by decide, Or.inr ⟨_, rfl, rfl⟩, ⟨by decide +kernel, by decide +kernel⟩, mm_G_in (i := 706) (by decide +kernel) rfl, mm_G_in (i := 707) (by decide +kernel) rfl, mm_G_in (i := 71) (by decide +kernel) rfl, mm_G_in (i := 708) (by decide +kernel) rfl⟩
def vX0_askOfDebtor : mm_L := [(81, 2, some 0, sX0_isFallen), (56, 2, some 0, sX0_restOf)]
def zX0_askOfDebtor : mm_L := []
def sX0_askOfDebtor : mm_F := mm_S (mm_gf gLX0) (mm_pf pLX0) (mm_mv vX0_askOfDebtor) (mm_mv zX0_askOfDebtor) (mm_kc kLX0) mm_gs0 mm_rf0 (some .int) 2 (mm_ins iX0_askOfDebtor)
set_option maxRecDepth 20000 in
theorem tX0_askOfDebtor (l : Launch) : mm_Ct l yX0_askOfDebtor cX0_askOfDebtor 2 (some .int) 2 sX0_askOfDebtor := mm_meth (by decide +kernel) (mm_gf_ok gLX0_ok) (mm_pf_ok pLX0_ok) (mm_mv_ok (L := vX0_askOfDebtor) (List.forall_mem_cons.mpr ⟨mm_LV.mk (i := 684) wX0_isFallen (tX0_isFallen l) (by decide) (by decide +kernel) (by decide +kernel), List.forall_mem_cons.mpr ⟨mm_LV.mk (i := 698) wX0_restOf (tX0_restOf l) (by decide) (by decide +kernel) (by decide +kernel), fun _ h => absurd h List.not_mem_nil⟩⟩)) (mm_ms_ok (L := zX0_askOfDebtor) (fun _ h => absurd h List.not_mem_nil)) (mm_kc_ok kLX0_ok) mm_gs0_ok mm_rf0_ok (mm_dec_ok iX0_askOfDebtor_ok)
abbrev cX0_askOfOver : ByteArray := prog_2_method_14_code
def yX0_askOfOver : MethodName := ⟨RX0, "askOfOver", "(II)I"⟩
def iX0_askOfOver : List (List (Nat × Instr)) := [[(0, .aload_n 0), (1, .iload_n 2), (2, .invokevirtual 103), (5, .ifCond .eq 19), (8, .aload_n 0), (9, .aload_n 0), (10, .getfield 12), (13, .getfield 85)], [(16, .iload_n 2), (17, .iaload), (18, .invokevirtual 81), (21, .ifCond .ne 5), (24, .iconst 0), (25, .ireturn), (26, .aload_n 0), (27, .iload_n 1), (28, .invokevirtual 100), (31, .aload_n 0)], [(32, .iload_n 2), (33, .invokevirtual 66), (36, .invokestatic 72), (39, .ireturn)]]
set_option maxRecDepth 20000 in
theorem iX0_askOfOver_ok : mm_dec cX0_askOfOver iX0_askOfOver = true := by decide +kernel
set_option maxRecDepth 20000 in
theorem wX0_askOfOver : mm_MV yX0_askOfOver cX0_askOfOver 3 (some .int) 0 := ⟨by decide, Or.inr ⟨_, rfl, rfl⟩, ⟨by decide +kernel, by decide +kernel⟩, mm_G_in (i := 690) (by decide +kernel) rfl, mm_G_in (i := 13) (by decide +kernel) rfl, mm_G_in (i := 71) (by decide +kernel) rfl, mm_G_in (i := 691) (by decide +kernel) rfl⟩
def vX0_askOfOver : mm_L := [(103, 2, some 0, sX0_isStanding), (81, 2, some 0, sX0_isFallen), (100, 2, some 0, sX0_lesserOfLeftAndRest), (66, 2, some 0, sX0_leftOf)]
def zX0_askOfOver : mm_L := [(72, 2, none, sJ9_min_7cf53)]
def sX0_askOfOver : mm_F := mm_S (mm_gf gLX0) (mm_pf pLX0) (mm_mv vX0_askOfOver) (mm_mv zX0_askOfOver) (mm_kc kLX0) mm_gs0 mm_rf0 (some .int) 3 (mm_ins iX0_askOfOver)
set_option maxRecDepth 20000 in
theorem tX0_askOfOver (l : Launch) : mm_Ct l yX0_askOfOver cX0_askOfOver 3 (some .int) 3 sX0_askOfOver := mm_meth (by decide +kernel) (mm_gf_ok gLX0_ok) (mm_pf_ok pLX0_ok) (mm_mv_ok (L := vX0_askOfOver) (List.forall_mem_cons.mpr ⟨mm_LV.mk (i := 692) wX0_isStanding (tX0_isStanding l) (by decide) (by decide +kernel) (by decide +kernel), List.forall_mem_cons.mpr ⟨mm_LV.mk (i := 684) wX0_isFallen (tX0_isFallen l) (by decide) (by decide +kernel) (by decide +kernel), List.forall_mem_cons.mpr ⟨mm_LV.mk (i := 693) wX0_lesserOfLeftAndRest (tX0_lesserOfLeftAndRest l) (by decide) (by decide +kernel) (by decide +kernel), List.forall_mem_cons.mpr ⟨mm_LV.mk (i := 697) wX0_leftOf (tX0_leftOf l) (by decide) (by decide +kernel) (by decide +kernel), fun _ h => absurd h List.not_mem_nil⟩⟩⟩⟩)) (mm_ms_ok (L := zX0_askOfOver) (List.forall_mem_cons.mpr ⟨⟨rfl, Or.inl (mm_LS.mk (i := 699) wJ9_min_7cf53 (tJ9_min_7cf53 l) (by decide) (by decide +kernel) (by decide +kernel))⟩, fun _ h => absurd h List.not_mem_nil⟩)) (mm_kc_ok kLX0_ok) mm_gs0_ok mm_rf0_ok (mm_dec_ok iX0_askOfOver_ok)
abbrev cX0_allAheadFell : ByteArray := prog_2_method_15_code
def yX0_allAheadFell : MethodName := ⟨RX0, "allAheadFell", "(I)Z"⟩
def iX0_allAheadFell : List (List (Nat × Instr)) := [[(0, .aload_n 0), (1, .aload_n 0), (2, .getfield 12), (5, .getfield 78), (8, .iload_n 1), (9, .iaload), (10, .invokevirtual 81), (13, .ifCond .ne 5)], [(16, .iconst 0), (17, .ireturn), (18, .iconst 0), (19, .istore_n 2), (20, .iload_n 2), (21, .aload_n 0), (22, .getfield 12), (25, .getfield 36), (28, .if_icmp .ge 83), (31, .aload_n 0)], [(32, .getfield 12), (35, .getfield 88), (38, .iload_n 2), (39, .iaload), (40, .ifCond .eq 16), (43, .aload_n 0), (44, .getfield 12), (47, .getfield 88)], [(50, .iload_n 2), (51, .iaload), (52, .iconst 1), (53, .if_icmp .ne 7), (56, .iconst 1), (57, .goto 4), (60, .iconst 0), (61, .istore_n 3), (62, .iload_n 3), (63, .ifCond .eq 42)], [(66, .aload_n 0), (67, .getfield 12), (70, .getfield 69), (73, .iload_n 2), (74, .iaload), (75, .iload_n 1), (76, .if_icmp .ne 29), (79, .aload_n 0)], [(80, .iload_n 2), (81, .invokevirtual 106), (84, .ifCond .ne 21), (87, .aload_n 0), (88, .aload_n 0), (89, .getfield 12), (92, .getfield 85), (95, .iload_n 2)], [(96, .iaload), (97, .invokevirtual 81), (100, .ifCond .ne 5), (103, .iconst 0), (104, .ireturn), (105, .iinc 2 1), (108, .goto (-88)), (111, .iconst 1)], [(112, .ireturn)]]
set_option maxRecDepth 20000 in
theorem iX0_allAheadFell_ok : mm_dec cX0_allAheadFell iX0_allAheadFell = true := by decide +kernel
set_option maxRecDepth 20000 in
theorem wX0_allAheadFell : mm_MV yX0_allAheadFell cX0_allAheadFell 4 (some .boolean) 0 := ⟨by decide, Or.inr ⟨_, rfl, rfl⟩, ⟨by decide +kernel, by decide +kernel⟩, mm_G_in (i := 702) (by decide +kernel) rfl, mm_G_in (i := 14) (by decide +kernel) rfl, mm_G_in (i := 71) (by decide +kernel) rfl, mm_G_in (i := 703) (by decide +kernel) rfl⟩
def vX0_allAheadFell : mm_L := [(81, 2, some 0, sX0_isFallen), (106, 2, some 0, sX0_isReleased)]
def zX0_allAheadFell : mm_L := []
def sX0_allAheadFell : mm_F := mm_S (mm_gf gLX0) (mm_pf pLX0) (mm_mv vX0_allAheadFell) (mm_mv zX0_allAheadFell) (mm_kc kLX0) mm_gs0 mm_rf0 (some .boolean) 4 (mm_ins iX0_allAheadFell)
set_option maxRecDepth 20000 in
theorem tX0_allAheadFell (l : Launch) : mm_Ct l yX0_allAheadFell cX0_allAheadFell 4 (some .boolean) 2 sX0_allAheadFell := mm_meth (by decide +kernel) (mm_gf_ok gLX0_ok) (mm_pf_ok pLX0_ok) (mm_mv_ok (L := vX0_allAheadFell) (List.forall_mem_cons.mpr ⟨mm_LV.mk (i := 684) wX0_isFallen (tX0_isFallen l) (by decide) (by decide +kernel) (by decide +kernel), List.forall_mem_cons.mpr ⟨mm_LV.mk (i := 704) wX0_isReleased (tX0_isReleased l) (by decide) (by decide +kernel) (by decide +kernel), fun _ h => absurd h List.not_mem_nil⟩⟩)) (mm_ms_ok (L := zX0_allAheadFell) (fun _ h => absurd h List.not_mem_nil)) (mm_kc_ok kLX0_ok) mm_gs0_ok mm_rf0_ok (mm_dec_ok iX0_allAheadFell_ok)
abbrev cX0_askOfStanding : ByteArray := prog_2_method_13_code
def yX0_askOfStanding : MethodName := ⟨RX0, "askOfStanding", "(I)I"⟩
def iX0_askOfStanding : List (List (Nat × Instr)) := [[(0, .aload_n 0), (1, .aload_n 0), (2, .getfield 12), (5, .getfield 85), (8, .iload_n 1), (9, .iaload), (10, .invokevirtual 81), (13, .ifCond .eq 5)], [(16, .iconst 0), (17, .ireturn), (18, .aload_n 0), (19, .getfield 12), (22, .getfield 88), (25, .iload_n 1), (26, .iaload), (27, .iconst 3), (28, .if_icmp .ne 18), (31, .aload_n 0)], [(32, .iload_n 1), (33, .aload_n 0), (34, .getfield 12), (37, .getfield 91), (40, .iload_n 1), (41, .iaload), (42, .invokevirtual 94), (45, .ireturn), (46, .aload_n 0), (47, .getfield 12)], [(50, .getfield 88), (53, .iload_n 1), (54, .iaload), (55, .iconst 2), (56, .if_icmp .ne 21), (59, .aload_n 0), (60, .aload_n 0), (61, .getfield 12)], [(64, .getfield 69), (67, .iload_n 1), (68, .iaload), (69, .invokevirtual 97), (72, .ifCond .ne 5), (75, .iconst 0), (76, .ireturn), (77, .aload_n 0), (78, .iload_n 1), (79, .invokevirtual 100)], [(82, .ireturn)]]
set_option maxRecDepth 20000 in
theorem iX0_askOfStanding_ok : mm_dec cX0_askOfStanding iX0_askOfStanding = true := by decide +kernel
set_option maxRecDepth 20000 in
theorem wX0_askOfStanding : mm_MV yX0_askOfStanding cX0_askOfStanding 2 (some .int) 0 := ⟨by decide, Or.inr ⟨_, rfl, rfl⟩, ⟨by decide +kernel, by decide +kernel⟩, mm_G_in (i := 681) (by decide +kernel) rfl, mm_G_in (i := 682) (by decide +kernel) rfl, mm_G_in (i := 71) (by decide +kernel) rfl, mm_G_in (i := 683) (by decide +kernel) rfl⟩
def vX0_askOfStanding : mm_L := [(81, 2, some 0, sX0_isFallen), (94, 3, some 0, sX0_askOfOver), (97, 2, some 0, sX0_allAheadFell), (100, 2, some 0, sX0_lesserOfLeftAndRest)]
def zX0_askOfStanding : mm_L := []
def sX0_askOfStanding : mm_F := mm_S (mm_gf gLX0) (mm_pf pLX0) (mm_mv vX0_askOfStanding) (mm_mv zX0_askOfStanding) (mm_kc kLX0) mm_gs0 mm_rf0 (some .int) 2 (mm_ins iX0_askOfStanding)
set_option maxRecDepth 20000 in
theorem tX0_askOfStanding (l : Launch) : mm_Ct l yX0_askOfStanding cX0_askOfStanding 2 (some .int) 4 sX0_askOfStanding := mm_meth (by decide +kernel) (mm_gf_ok gLX0_ok) (mm_pf_ok pLX0_ok) (mm_mv_ok (L := vX0_askOfStanding) (List.forall_mem_cons.mpr ⟨mm_LV.mk (i := 684) wX0_isFallen (tX0_isFallen l) (by decide) (by decide +kernel) (by decide +kernel), List.forall_mem_cons.mpr ⟨mm_LV.mk (i := 688) wX0_askOfOver (tX0_askOfOver l) (by decide) (by decide +kernel) (by decide +kernel), List.forall_mem_cons.mpr ⟨mm_LV.mk (i := 700) wX0_allAheadFell (tX0_allAheadFell l) (by decide) (by decide +kernel) (by decide +kernel), List.forall_mem_cons.mpr ⟨mm_LV.mk (i := 693) wX0_lesserOfLeftAndRest (tX0_lesserOfLeftAndRest l) (by decide) (by decide +kernel) (by decide +kernel), fun _ h => absurd h List.not_mem_nil⟩⟩⟩⟩)) (mm_ms_ok (L := zX0_askOfStanding) (fun _ h => absurd h List.not_mem_nil)) (mm_kc_ok kLX0_ok) mm_gs0_ok mm_rf0_ok (mm_dec_ok iX0_askOfStanding_ok)
abbrev cX0_standsWhole : ByteArray := prog_2_method_16_code
def yX0_standsWhole : MethodName := ⟨RX0, "standsWhole", "(II)Z"⟩
def iX0_standsWhole : List (List (Nat × Instr)) := [[(0, .aload_n 0), (1, .getfield 12), (4, .getfield 88), (7, .iload_n 1), (8, .iaload), (9, .ifCond .ne 34), (12, .aload_n 0), (13, .getfield 12)], [(16, .getfield 69), (19, .iload_n 1), (20, .iaload), (21, .iload_n 2), (22, .if_icmp .ne 21), (25, .aload_n 0), (26, .getfield 24), (29, .getfield 39)], [(32, .iload_n 1), (33, .invokestatic 42), (36, .ifCond .ne 7), (39, .iconst 1), (40, .goto 4), (43, .iconst 0), (44, .ireturn)]]
set_option maxRecDepth 20000 in
theorem iX0_standsWhole_ok : mm_dec cX0_standsWhole iX0_standsWhole = true := by decide +kernel
set_option maxRecDepth 20000 in
theorem wX0_standsWhole : mm_MV yX0_standsWhole cX0_standsWhole 3 (some .boolean) 0 := ⟨by decide, Or.inr ⟨_, rfl, rfl⟩, ⟨by decide +kernel, by decide +kernel⟩, mm_G_in (i := 741) (by decide +kernel) rfl, mm_G_in (i := 742) (by decide +kernel) rfl, mm_G_in (i := 71) (by decide +kernel) rfl, mm_G_in (i := 743) (by decide +kernel) rfl⟩
def vX0_standsWhole : mm_L := []
def zX0_standsWhole : mm_L := [(42, 2, none, sX11_isIn)]
def sX0_standsWhole : mm_F := mm_S (mm_gf gLX0) (mm_pf pLX0) (mm_mv vX0_standsWhole) (mm_mv zX0_standsWhole) (mm_kc kLX0) mm_gs0 mm_rf0 (some .boolean) 3 (mm_ins iX0_standsWhole)
set_option maxRecDepth 20000 in
theorem tX0_standsWhole (l : Launch) : mm_Ct l yX0_standsWhole cX0_standsWhole 3 (some .boolean) 1 sX0_standsWhole := mm_meth (by decide +kernel) (mm_gf_ok gLX0_ok) (mm_pf_ok pLX0_ok) (mm_mv_ok (L := vX0_standsWhole) (fun _ h => absurd h List.not_mem_nil)) (mm_ms_ok (L := zX0_standsWhole) (List.forall_mem_cons.mpr ⟨⟨rfl, Or.inl (mm_LS.nest wX11_isIn (tX11_isIn l) (by decide) (by decide +kernel) rfl (by decide +kernel))⟩, fun _ h => absurd h List.not_mem_nil⟩)) (mm_kc_ok kLX0_ok) mm_gs0_ok mm_rf0_ok (mm_dec_ok iX0_standsWhole_ok)
abbrev cJ9_max_7cf53 : ByteArray := prog_16_method_65_code
def yJ9_max_7cf53 : MethodName := ⟨RJ9, "max", "(II)I"⟩
def iJ9_max_7cf53 : List (List (Nat × Instr)) := [[(0, .iload_n 0), (1, .iload_n 1), (2, .if_icmp .lt 7), (5, .iload_n 0), (6, .goto 4), (9, .iload_n 1), (10, .ireturn)]]
set_option maxRecDepth 20000 in
theorem iJ9_max_7cf53_ok : mm_dec cJ9_max_7cf53 iJ9_max_7cf53 = true := by decide +kernel
set_option maxRecDepth 20000 in
theorem wJ9_max_7cf53 : mm_MS yJ9_max_7cf53 cJ9_max_7cf53 2 (some .int) := ⟨by decide, ⟨by decide +kernel, by decide +kernel⟩, mm_G_in (i := 774) (by decide +kernel) rfl, mm_G_in (i := 85) (by decide +kernel) rfl, mm_G_in (i := 775) (by decide +kernel) rfl⟩
def vJ9_max_7cf53 : mm_L := []
def zJ9_max_7cf53 : mm_L := []
def sJ9_max_7cf53 : mm_F := mm_S (mm_gf gLJ9) (mm_pf pLJ9) (mm_mv vJ9_max_7cf53) (mm_mv zJ9_max_7cf53) (mm_kc kLJ9) mm_gs0 mm_rf0 (some .int) 2 (mm_ins iJ9_max_7cf53)
set_option maxRecDepth 20000 in
theorem tJ9_max_7cf53 (l : Launch) : mm_Ct l yJ9_max_7cf53 cJ9_max_7cf53 2 (some .int) 0 sJ9_max_7cf53 := mm_meth (by decide +kernel) (mm_gf_ok gLJ9_ok) (mm_pf_ok pLJ9_ok) (mm_mv_ok (L := vJ9_max_7cf53) (fun _ h => absurd h List.not_mem_nil)) (mm_ms_ok (L := zJ9_max_7cf53) (fun _ h => absurd h List.not_mem_nil)) (mm_kc_ok kLJ9_ok) mm_gs0_ok mm_rf0_ok (mm_dec_ok iJ9_max_7cf53_ok)
abbrev cX1_findGreatest : ByteArray := prog_3_method_3_code
def yX1_findGreatest : MethodName := ⟨RX1, "findGreatest", "(I)V"⟩
def iX1_findGreatest : List (List (Nat × Instr)) := [[(0, .aload_n 0), (1, .getfield 18), (4, .getfield 34), (7, .astore_n 2), (8, .aload_n 0), (9, .getfield 15), (12, .iconst 0), (13, .invokestatic 40)], [(16, .iconst 0), (17, .istore_n 3), (18, .iload_n 3), (19, .aload_n 2), (20, .getfield 46), (23, .if_icmp .ge 62), (26, .aload_n 2), (27, .getfield 52), (30, .iload_n 3), (31, .iaload)], [(32, .iload_n 1), (33, .if_icmp .ne 46), (36, .aload_n 2), (37, .getfield 55), (40, .iload_n 3), (41, .iaload), (42, .iconst 3), (43, .if_icmp .eq 36), (46, .aload_n 2), (47, .getfield 58)], [(50, .iload_n 3), (51, .iaload), (52, .istore 4), (54, .aload_n 0), (55, .getfield 15), (58, .iload 4), (60, .aload_n 0), (61, .getfield 15)], [(64, .iload 4), (66, .iaload), (67, .aload_n 0), (68, .getfield 18), (71, .iload_n 3), (72, .invokevirtual 61), (75, .invokestatic 64), (78, .iastore), (79, .iinc 3 1)], [(82, .goto (-64)), (85, .return_)]]
set_option maxRecDepth 20000 in
theorem iX1_findGreatest_ok : mm_dec cX1_findGreatest iX1_findGreatest = true := by decide +kernel
set_option maxRecDepth 20000 in
theorem wX1_findGreatest : mm_MV yX1_findGreatest cX1_findGreatest 5 none 1 := ⟨by decide, Or.inr ⟨_, rfl, rfl⟩, ⟨by decide +kernel, by decide +kernel⟩, mm_G_in (i := 910) (by decide +kernel) rfl, mm_G_in (i := 29) (by decide +kernel) rfl, mm_G_in (i := 77) (by decide +kernel) rfl, mm_G_in (i := 911) (by decide +kernel) rfl⟩
def vX1_findGreatest : mm_L := [(61, 2, some 0, sX0_lesserOfLeftAndRest)]
def zX1_findGreatest : mm_L := [(40, 2, none, sJ7_fill_53178), (64, 2, none, sJ9_max_7cf53)]
def sX1_findGreatest : mm_F := mm_S (mm_gf gLX1) (mm_pf pLX1) (mm_mv vX1_findGreatest) (mm_mv zX1_findGreatest) (mm_kc kLX1) mm_gs0 mm_rf0 none 5 (mm_ins iX1_findGreatest)
set_option maxRecDepth 20000 in
theorem tX1_findGreatest (l : Launch) : mm_Ct l yX1_findGreatest cX1_findGreatest 5 none 3 sX1_findGreatest := mm_meth (by decide +kernel) (mm_gf_ok gLX1_ok) (mm_pf_ok pLX1_ok) (mm_mv_ok (L := vX1_findGreatest) (List.forall_mem_cons.mpr ⟨mm_LV.mk (i := 913) wX0_lesserOfLeftAndRest (tX0_lesserOfLeftAndRest l) (by decide) (by decide +kernel) (by decide +kernel), fun _ h => absurd h List.not_mem_nil⟩)) (mm_ms_ok (L := zX1_findGreatest) (List.forall_mem_cons.mpr ⟨⟨rfl, Or.inl (mm_LS.mk (i := 912) wJ7_fill_53178 (tJ7_fill_53178 l) (by decide) (by decide +kernel) (by decide +kernel))⟩, List.forall_mem_cons.mpr ⟨⟨rfl, Or.inl (mm_LS.mk (i := 914) wJ9_max_7cf53 (tJ9_max_7cf53 l) (by decide) (by decide +kernel) (by decide +kernel))⟩, fun _ h => absurd h List.not_mem_nil⟩⟩)) (mm_kc_ok kLX1_ok) mm_gs0_ok mm_rf0_ok (mm_dec_ok iX1_findGreatest_ok)
