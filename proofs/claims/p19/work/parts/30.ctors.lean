abbrev cX10_init : ByteArray := prog_12_method_1_code
def yX10_init : MethodName := ⟨RX10, "<init>", "()V"⟩
def iX10_init : List (List (Nat × Instr)) := [[(0, .aload_n 0), (1, .invokespecial 3), (4, .aload_n 0), (5, .sipush 400), (8, .newarray .byte), (10, .putfield 9), (13, .return_)]]
set_option maxRecDepth 20000 in
theorem iX10_init_ok : mm_dec cX10_init iX10_init = true := by decide +kernel
set_option maxRecDepth 20000 in
theorem wX10_init : mc_MI yX10_init cX10_init 1 := ⟨by decide, rfl, ⟨by decide +kernel, by decide +kernel⟩, mm_G_in (i := 100) (by decide +kernel) rfl, mm_G_in (i := 69) (by decide +kernel) rfl, mm_G_in (i := 101) (by decide +kernel) rfl⟩
def gCX10 : List (Nat × Nat × Nat × Nat) := []
def pCX10 : List (Nat × Nat × Nat × Nat) := []
def fCX10 : List (Nat × Nat × Nat × Nat) := [(103, 9, 10, 0)]
def nCX10 : List (Nat × Nat × Nat × Nat × Nat) := []
set_option maxRecDepth 20000 in
theorem gCX10_ok : mm_gfb RX10 gCX10 = true := by decide +kernel
set_option maxRecDepth 20000 in
theorem pCX10_ok : mm_pfb RX10 pCX10 = true := by decide +kernel
set_option maxRecDepth 20000 in
theorem fCX10_ok : mc_pFb RX10 fCX10 = true := by decide +kernel
set_option maxRecDepth 20000 in
theorem nCX10_ok : mc_nwb RX10 nCX10 = true := by decide +kernel
def qCX10 (n : Nat) : Bool := false
theorem qCX10_ok : ∀ n, qCX10 n = true → Cond.classLink RX10 n "SuretyRoll$Ledger" ∈ mm_G := fun _ h => by cases h
def sCX10 : mc_L := [(3, 1, none)]
set_option maxRecDepth 20000 in
theorem sCX10_ok (l : Launch) : ∀ q ∈ sCX10, mc_spo l RX10 1 q := List.forall_mem_cons.mpr ⟨mc_LO.mk (i := 102) (by decide +kernel), fun _ h => absurd h List.not_mem_nil⟩
def sX10_init : mc_F := mc_S (mm_gf gCX10) (mm_pf pCX10) (mm_pf fCX10) (mc_nw nCX10) qCX10 (mc_sp sCX10) 1 1 400 (mm_ins iX10_init)
theorem tX10_init (l : Launch) : mc_Ct l yX10_init cX10_init 1 1 1 400 sX10_init := mc_meth (by decide +kernel) rfl (mm_gf_ok gCX10_ok) (mm_pf_ok pCX10_ok) (mc_pF_ok fCX10_ok) (mc_nw_ok nCX10_ok) qCX10_ok (mc_sp0 (sCX10_ok l)) (mc_sp1 (sCX10_ok l)) mc_wa (by decide) (mc_hins (mm_dec_ok iX10_init_ok))
abbrev cX7_init : ByteArray := prog_9_method_1_code
def yX7_init : MethodName := ⟨RX7, "<init>", "(LSuretyRoll$Text;)V"⟩
def iX7_init : List (List (Nat × Instr)) := [[(0, .aload_n 0), (1, .invokespecial 3), (4, .aload_n 0), (5, .aload_n 1), (6, .putfield 9), (9, .return_)]]
set_option maxRecDepth 20000 in
theorem iX7_init_ok : mm_dec cX7_init iX7_init = true := by decide +kernel
set_option maxRecDepth 20000 in
theorem wX7_init : mc_MI yX7_init cX7_init 2 := ⟨by decide, rfl, ⟨by decide +kernel, by decide +kernel⟩, mm_G_in (i := 117) (by decide +kernel) rfl, mm_G_in (i := 70) (by decide +kernel) rfl, mm_G_in (i := 118) (by decide +kernel) rfl⟩
def gCX7 : List (Nat × Nat × Nat × Nat) := []
def pCX7 : List (Nat × Nat × Nat × Nat) := []
def fCX7 : List (Nat × Nat × Nat × Nat) := [(120, 9, 7, 0)]
def nCX7 : List (Nat × Nat × Nat × Nat × Nat) := []
set_option maxRecDepth 20000 in
theorem gCX7_ok : mm_gfb RX7 gCX7 = true := by decide +kernel
set_option maxRecDepth 20000 in
theorem pCX7_ok : mm_pfb RX7 pCX7 = true := by decide +kernel
set_option maxRecDepth 20000 in
theorem fCX7_ok : mc_pFb RX7 fCX7 = true := by decide +kernel
set_option maxRecDepth 20000 in
theorem nCX7_ok : mc_nwb RX7 nCX7 = true := by decide +kernel
def qCX7 (n : Nat) : Bool := false
theorem qCX7_ok : ∀ n, qCX7 n = true → Cond.classLink RX7 n "SuretyRoll$Ledger" ∈ mm_G := fun _ h => by cases h
def sCX7 : mc_L := [(3, 1, none)]
set_option maxRecDepth 20000 in
theorem sCX7_ok (l : Launch) : ∀ q ∈ sCX7, mc_spo l RX7 1 q := List.forall_mem_cons.mpr ⟨mc_LO.mk (i := 119) (by decide +kernel), fun _ h => absurd h List.not_mem_nil⟩
def sX7_init : mc_F := mc_S (mm_gf gCX7) (mm_pf pCX7) (mm_pf fCX7) (mc_nw nCX7) qCX7 (mc_sp sCX7) 2 0 0 (mm_ins iX7_init)
theorem tX7_init (l : Launch) : mc_Ct l yX7_init cX7_init 2 1 0 0 sX7_init := mc_meth (by decide +kernel) rfl (mm_gf_ok gCX7_ok) (mm_pf_ok pCX7_ok) (mc_pF_ok fCX7_ok) (mc_nw_ok nCX7_ok) qCX7_ok (mc_sp0 (sCX7_ok l)) (mc_sp1 (sCX7_ok l)) mc_wa (by decide) (mc_hins (mm_dec_ok iX7_init_ok))
abbrev cX8_init : ByteArray := prog_10_method_1_code
def yX8_init : MethodName := ⟨RX8, "<init>", "()V"⟩
def iX8_init : List (List (Nat × Instr)) := [[(0, .aload_n 0), (1, .invokespecial 3), (4, .aload_n 0), (5, .bipush 10), (7, .newarray .int), (9, .putfield 9), (12, .aload_n 0), (13, .bipush 10), (15, .newarray .int)], [(17, .putfield 15), (20, .aload_n 0), (21, .bipush 10), (23, .newarray .int), (25, .putfield 18), (28, .aload_n 0), (29, .bipush 16), (31, .newarray .int)], [(33, .putfield 21), (36, .aload_n 0), (37, .bipush 16), (39, .newarray .int), (41, .putfield 24), (44, .aload_n 0), (45, .bipush 16), (47, .newarray .int)], [(49, .putfield 27), (52, .aload_n 0), (53, .bipush 16), (55, .newarray .int), (57, .putfield 30), (60, .aload_n 0), (61, .bipush 16), (63, .newarray .int)], [(65, .putfield 33), (68, .return_)]]
set_option maxRecDepth 20000 in
theorem iX8_init_ok : mm_dec cX8_init iX8_init = true := by decide +kernel
set_option maxRecDepth 20000 in
theorem wX8_init : mc_MI yX8_init cX8_init 1 := ⟨by decide, rfl, ⟨by decide +kernel, by decide +kernel⟩, mm_G_in (i := 148) (by decide +kernel) rfl, mm_G_in (i := 72) (by decide +kernel) rfl, mm_G_in (i := 149) (by decide +kernel) rfl⟩
def gCX8 : List (Nat × Nat × Nat × Nat) := []
def pCX8 : List (Nat × Nat × Nat × Nat) := []
def fCX8 : List (Nat × Nat × Nat × Nat) := [(169, 9, 8, 3), (178, 15, 8, 4), (184, 18, 8, 5), (188, 21, 8, 6), (197, 24, 8, 7), (205, 27, 8, 8), (213, 30, 8, 9), (218, 33, 8, 10)]
def nCX8 : List (Nat × Nat × Nat × Nat × Nat) := []
set_option maxRecDepth 20000 in
theorem gCX8_ok : mm_gfb RX8 gCX8 = true := by decide +kernel
set_option maxRecDepth 20000 in
theorem pCX8_ok : mm_pfb RX8 pCX8 = true := by decide +kernel
set_option maxRecDepth 20000 in
theorem fCX8_ok : mc_pFb RX8 fCX8 = true := by decide +kernel
set_option maxRecDepth 20000 in
theorem nCX8_ok : mc_nwb RX8 nCX8 = true := by decide +kernel
def qCX8 (n : Nat) : Bool := false
theorem qCX8_ok : ∀ n, qCX8 n = true → Cond.classLink RX8 n "SuretyRoll$Ledger" ∈ mm_G := fun _ h => by cases h
def sCX8 : mc_L := [(3, 1, none)]
set_option maxRecDepth 20000 in
theorem sCX8_ok (l : Launch) : ∀ q ∈ sCX8, mc_spo l RX8 1 q := List.forall_mem_cons.mpr ⟨mc_LO.mk (i := 150) (by decide +kernel), fun _ h => absurd h List.not_mem_nil⟩
def sX8_init : mc_F := mc_S (mm_gf gCX8) (mm_pf pCX8) (mm_pf fCX8) (mc_nw nCX8) qCX8 (mc_sp sCX8) 1 8 110 (mm_ins iX8_init)
theorem tX8_init (l : Launch) : mc_Ct l yX8_init cX8_init 1 1 8 110 sX8_init := mc_meth (by decide +kernel) rfl (mm_gf_ok gCX8_ok) (mm_pf_ok pCX8_ok) (mc_pF_ok fCX8_ok) (mc_nw_ok nCX8_ok) qCX8_ok (mc_sp0 (sCX8_ok l)) (mc_sp1 (sCX8_ok l)) mc_wa (by decide) (mc_hins (mm_dec_ok iX8_init_ok))
abbrev cX5_init : ByteArray := prog_7_method_1_code
def yX5_init : MethodName := ⟨RX5, "<init>", "()V"⟩
def iX5_init : List (List (Nat × Instr)) := [[(0, .aload_n 0), (1, .invokespecial 3), (4, .aload_n 0), (5, .bipush 10), (7, .newarray .int), (9, .putfield 9), (12, .aload_n 0), (13, .bipush 16), (15, .newarray .int)], [(17, .putfield 15), (20, .aload_n 0), (21, .bipush 16), (23, .newarray .int), (25, .putfield 18), (28, .aload_n 0), (29, .bipush 64), (31, .newarray .int)], [(33, .putfield 21), (36, .aload_n 0), (37, .bipush 8), (39, .newarray .int), (41, .putfield 24), (44, .return_)]]
set_option maxRecDepth 20000 in
theorem iX5_init_ok : mm_dec cX5_init iX5_init = true := by decide +kernel
set_option maxRecDepth 20000 in
theorem wX5_init : mc_MI yX5_init cX5_init 1 := ⟨by decide, rfl, ⟨by decide +kernel, by decide +kernel⟩, mm_G_in (i := 247) (by decide +kernel) rfl, mm_G_in (i := 73) (by decide +kernel) rfl, mm_G_in (i := 248) (by decide +kernel) rfl⟩
def gCX5 : List (Nat × Nat × Nat × Nat) := []
def pCX5 : List (Nat × Nat × Nat × Nat) := []
def fCX5 : List (Nat × Nat × Nat × Nat) := [(250, 9, 5, 0), (253, 15, 5, 1), (256, 18, 5, 2), (259, 21, 5, 3), (262, 24, 5, 4)]
def nCX5 : List (Nat × Nat × Nat × Nat × Nat) := []
set_option maxRecDepth 20000 in
theorem gCX5_ok : mm_gfb RX5 gCX5 = true := by decide +kernel
set_option maxRecDepth 20000 in
theorem pCX5_ok : mm_pfb RX5 pCX5 = true := by decide +kernel
set_option maxRecDepth 20000 in
theorem fCX5_ok : mc_pFb RX5 fCX5 = true := by decide +kernel
set_option maxRecDepth 20000 in
theorem nCX5_ok : mc_nwb RX5 nCX5 = true := by decide +kernel
def qCX5 (n : Nat) : Bool := false
theorem qCX5_ok : ∀ n, qCX5 n = true → Cond.classLink RX5 n "SuretyRoll$Ledger" ∈ mm_G := fun _ h => by cases h
def sCX5 : mc_L := [(3, 1, none)]
set_option maxRecDepth 20000 in
theorem sCX5_ok (l : Launch) : ∀ q ∈ sCX5, mc_spo l RX5 1 q := List.forall_mem_cons.mpr ⟨mc_LO.mk (i := 249) (by decide +kernel), fun _ h => absurd h List.not_mem_nil⟩
def sX5_init : mc_F := mc_S (mm_gf gCX5) (mm_pf pCX5) (mm_pf fCX5) (mc_nw nCX5) qCX5 (mc_sp sCX5) 1 5 114 (mm_ins iX5_init)
theorem tX5_init (l : Launch) : mc_Ct l yX5_init cX5_init 1 1 5 114 sX5_init := mc_meth (by decide +kernel) rfl (mm_gf_ok gCX5_ok) (mm_pf_ok pCX5_ok) (mc_pF_ok fCX5_ok) (mc_nw_ok nCX5_ok) qCX5_ok (mc_sp0 (sCX5_ok l)) (mc_sp1 (sCX5_ok l)) mc_wa (by decide) (mc_hins (mm_dec_ok iX5_init_ok))
abbrev cX0_init : ByteArray := prog_2_method_1_code
def yX0_init : MethodName := ⟨RX0, "<init>", "()V"⟩
def iX0_init : List (List (Nat × Instr)) := [[(0, .aload_n 0), (1, .invokespecial 3), (4, .aload_n 0), (5, .new 9), (8, .dup), (9, .invokespecial 11), (12, .putfield 12), (15, .aload_n 0)], [(16, .new 9), (19, .dup), (20, .invokespecial 11), (23, .putfield 18), (26, .aload_n 0), (27, .new 21), (30, .dup), (31, .invokespecial 23)], [(34, .putfield 24), (37, .return_)]]
set_option maxRecDepth 20000 in
theorem iX0_init_ok : mm_dec cX0_init iX0_init = true := by decide +kernel
set_option maxRecDepth 20000 in
theorem wX0_init : mc_MI yX0_init cX0_init 1 := ⟨by decide, rfl, ⟨by decide +kernel, by decide +kernel⟩, mm_G_in (i := 142) (by decide +kernel) rfl, mm_G_in (i := 71) (by decide +kernel) rfl, mm_G_in (i := 143) (by decide +kernel) rfl⟩
def gCX0 : List (Nat × Nat × Nat × Nat) := []
def pCX0 : List (Nat × Nat × Nat × Nat) := [(292, 12, 0, 0), (300, 18, 0, 1)]
def fCX0 : List (Nat × Nat × Nat × Nat) := [(302, 24, 0, 2)]
def nCX0 : List (Nat × Nat × Nat × Nat × Nat) := [(145, 9, 8, 146, 72), (244, 21, 5, 245, 73)]
set_option maxRecDepth 20000 in
theorem gCX0_ok : mm_gfb RX0 gCX0 = true := by decide +kernel
set_option maxRecDepth 20000 in
theorem pCX0_ok : mm_pfb RX0 pCX0 = true := by decide +kernel
set_option maxRecDepth 20000 in
theorem fCX0_ok : mc_pFb RX0 fCX0 = true := by decide +kernel
set_option maxRecDepth 20000 in
theorem nCX0_ok : mc_nwb RX0 nCX0 = true := by decide +kernel
def qCX0 (n : Nat) : Bool := false
theorem qCX0_ok : ∀ n, qCX0 n = true → Cond.classLink RX0 n "SuretyRoll$Ledger" ∈ mm_G := fun _ h => by cases h
def sCX0 : mc_L := [(3, 1, none), (11, 1, some (8, 110, sX8_init)), (23, 1, some (5, 114, sX5_init))]
set_option maxRecDepth 20000 in
theorem sCX0_ok (l : Launch) : ∀ q ∈ sCX0, mc_spo l RX0 2 q := List.forall_mem_cons.mpr ⟨mc_LO.mk (i := 144) (by decide +kernel), List.forall_mem_cons.mpr ⟨mc_LI.nest wX8_init (tX8_init l) (by decide) (by decide +kernel) (by decide +kernel), List.forall_mem_cons.mpr ⟨mc_LI.nest wX5_init (tX5_init l) (by decide) (by decide +kernel) (by decide +kernel), fun _ h => absurd h List.not_mem_nil⟩⟩⟩
def sX0_init : mc_F := mc_S (mm_gf gCX0) (mm_pf pCX0) (mm_pf fCX0) (mc_nw nCX0) qCX0 (mc_sp sCX0) 1 24 363 (mm_ins iX0_init)
theorem tX0_init (l : Launch) : mc_Ct l yX0_init cX0_init 1 2 24 363 sX0_init := mc_meth (by decide +kernel) rfl (mm_gf_ok gCX0_ok) (mm_pf_ok pCX0_ok) (mc_pF_ok fCX0_ok) (mc_nw_ok nCX0_ok) qCX0_ok (mc_sp0 (sCX0_ok l)) (mc_sp1 (sCX0_ok l)) mc_wa (by decide) (mc_hins (mm_dec_ok iX0_init_ok))
abbrev cX2_init : ByteArray := prog_4_method_1_code
def yX2_init : MethodName := ⟨RX2, "<init>", "(LSuretyRoll$Book;)V"⟩
def iX2_init : List (List (Nat × Instr)) := [[(0, .aload_n 0), (1, .invokespecial 3), (4, .aload_n 0), (5, .aload_n 1), (6, .putfield 9), (9, .return_)]]
set_option maxRecDepth 20000 in
theorem iX2_init_ok : mm_dec cX2_init iX2_init = true := by decide +kernel
set_option maxRecDepth 20000 in
theorem wX2_init : mc_MI yX2_init cX2_init 2 := ⟨by decide, rfl, ⟨by decide +kernel, by decide +kernel⟩, mm_G_in (i := 318) (by decide +kernel) rfl, mm_G_in (i := 74) (by decide +kernel) rfl, mm_G_in (i := 319) (by decide +kernel) rfl⟩
def gCX2 : List (Nat × Nat × Nat × Nat) := []
def pCX2 : List (Nat × Nat × Nat × Nat) := []
def fCX2 : List (Nat × Nat × Nat × Nat) := [(321, 9, 2, 0)]
def nCX2 : List (Nat × Nat × Nat × Nat × Nat) := []
set_option maxRecDepth 20000 in
theorem gCX2_ok : mm_gfb RX2 gCX2 = true := by decide +kernel
set_option maxRecDepth 20000 in
theorem pCX2_ok : mm_pfb RX2 pCX2 = true := by decide +kernel
set_option maxRecDepth 20000 in
theorem fCX2_ok : mc_pFb RX2 fCX2 = true := by decide +kernel
set_option maxRecDepth 20000 in
theorem nCX2_ok : mc_nwb RX2 nCX2 = true := by decide +kernel
def qCX2 (n : Nat) : Bool := false
theorem qCX2_ok : ∀ n, qCX2 n = true → Cond.classLink RX2 n "SuretyRoll$Ledger" ∈ mm_G := fun _ h => by cases h
def sCX2 : mc_L := [(3, 1, none)]
set_option maxRecDepth 20000 in
theorem sCX2_ok (l : Launch) : ∀ q ∈ sCX2, mc_spo l RX2 1 q := List.forall_mem_cons.mpr ⟨mc_LO.mk (i := 320) (by decide +kernel), fun _ h => absurd h List.not_mem_nil⟩
def sX2_init : mc_F := mc_S (mm_gf gCX2) (mm_pf pCX2) (mm_pf fCX2) (mc_nw nCX2) qCX2 (mc_sp sCX2) 2 0 0 (mm_ins iX2_init)
theorem tX2_init (l : Launch) : mc_Ct l yX2_init cX2_init 2 1 0 0 sX2_init := mc_meth (by decide +kernel) rfl (mm_gf_ok gCX2_ok) (mm_pf_ok pCX2_ok) (mc_pF_ok fCX2_ok) (mc_nw_ok nCX2_ok) qCX2_ok (mc_sp0 (sCX2_ok l)) (mc_sp1 (sCX2_ok l)) mc_wa (by decide) (mc_hins (mm_dec_ok iX2_init_ok))
abbrev cX3_init : ByteArray := prog_5_method_1_code
def yX3_init : MethodName := ⟨RX3, "<init>", "(LSuretyRoll$Book;)V"⟩
def iX3_init : List (List (Nat × Instr)) := [[(0, .aload_n 0), (1, .invokespecial 3), (4, .aload_n 0), (5, .aload_n 1), (6, .putfield 9), (9, .return_)]]
set_option maxRecDepth 20000 in
theorem iX3_init_ok : mm_dec cX3_init iX3_init = true := by decide +kernel
set_option maxRecDepth 20000 in
theorem wX3_init : mc_MI yX3_init cX3_init 2 := ⟨by decide, rfl, ⟨by decide +kernel, by decide +kernel⟩, mm_G_in (i := 328) (by decide +kernel) rfl, mm_G_in (i := 75) (by decide +kernel) rfl, mm_G_in (i := 329) (by decide +kernel) rfl⟩
def gCX3 : List (Nat × Nat × Nat × Nat) := []
def pCX3 : List (Nat × Nat × Nat × Nat) := []
def fCX3 : List (Nat × Nat × Nat × Nat) := [(331, 9, 3, 0)]
def nCX3 : List (Nat × Nat × Nat × Nat × Nat) := []
set_option maxRecDepth 20000 in
theorem gCX3_ok : mm_gfb RX3 gCX3 = true := by decide +kernel
set_option maxRecDepth 20000 in
theorem pCX3_ok : mm_pfb RX3 pCX3 = true := by decide +kernel
set_option maxRecDepth 20000 in
theorem fCX3_ok : mc_pFb RX3 fCX3 = true := by decide +kernel
set_option maxRecDepth 20000 in
theorem nCX3_ok : mc_nwb RX3 nCX3 = true := by decide +kernel
def qCX3 (n : Nat) : Bool := false
theorem qCX3_ok : ∀ n, qCX3 n = true → Cond.classLink RX3 n "SuretyRoll$Ledger" ∈ mm_G := fun _ h => by cases h
def sCX3 : mc_L := [(3, 1, none)]
set_option maxRecDepth 20000 in
theorem sCX3_ok (l : Launch) : ∀ q ∈ sCX3, mc_spo l RX3 1 q := List.forall_mem_cons.mpr ⟨mc_LO.mk (i := 330) (by decide +kernel), fun _ h => absurd h List.not_mem_nil⟩
def sX3_init : mc_F := mc_S (mm_gf gCX3) (mm_pf pCX3) (mm_pf fCX3) (mc_nw nCX3) qCX3 (mc_sp sCX3) 2 0 0 (mm_ins iX3_init)
theorem tX3_init (l : Launch) : mc_Ct l yX3_init cX3_init 2 1 0 0 sX3_init := mc_meth (by decide +kernel) rfl (mm_gf_ok gCX3_ok) (mm_pf_ok pCX3_ok) (mc_pF_ok fCX3_ok) (mc_nw_ok nCX3_ok) qCX3_ok (mc_sp0 (sCX3_ok l)) (mc_sp1 (sCX3_ok l)) mc_wa (by decide) (mc_hins (mm_dec_ok iX3_init_ok))
abbrev cX9_init : ByteArray := prog_11_method_1_code
def yX9_init : MethodName := ⟨RX9, "<init>", "(LSuretyRoll$Book;)V"⟩
def iX9_init : List (List (Nat × Instr)) := [[(0, .aload_n 0), (1, .invokespecial 3), (4, .aload_n 0), (5, .sipush 5226), (8, .newarray .int), (10, .putfield 11), (13, .aload_n 0), (14, .bipush 26)], [(16, .newarray .int), (18, .putfield 15), (21, .aload_n 0), (22, .bipush 8), (24, .newarray .int), (26, .putfield 18), (29, .aload_n 0), (30, .bipush 8)], [(32, .newarray .int), (34, .putfield 21), (37, .aload_n 0), (38, .aload_n 1), (39, .putfield 24), (42, .return_)]]
set_option maxRecDepth 20000 in
theorem iX9_init_ok : mm_dec cX9_init iX9_init = true := by decide +kernel
set_option maxRecDepth 20000 in
theorem wX9_init : mc_MI yX9_init cX9_init 2 := ⟨by decide, rfl, ⟨by decide +kernel, by decide +kernel⟩, mm_G_in (i := 342) (by decide +kernel) rfl, mm_G_in (i := 76) (by decide +kernel) rfl, mm_G_in (i := 343) (by decide +kernel) rfl⟩
def gCX9 : List (Nat × Nat × Nat × Nat) := []
def pCX9 : List (Nat × Nat × Nat × Nat) := []
def fCX9 : List (Nat × Nat × Nat × Nat) := [(346, 11, 9, 1), (347, 15, 9, 2), (348, 18, 9, 3), (349, 21, 9, 4), (345, 24, 9, 0)]
def nCX9 : List (Nat × Nat × Nat × Nat × Nat) := []
set_option maxRecDepth 20000 in
theorem gCX9_ok : mm_gfb RX9 gCX9 = true := by decide +kernel
set_option maxRecDepth 20000 in
theorem pCX9_ok : mm_pfb RX9 pCX9 = true := by decide +kernel
set_option maxRecDepth 20000 in
theorem fCX9_ok : mc_pFb RX9 fCX9 = true := by decide +kernel
set_option maxRecDepth 20000 in
theorem nCX9_ok : mc_nwb RX9 nCX9 = true := by decide +kernel
def qCX9 (n : Nat) : Bool := false
theorem qCX9_ok : ∀ n, qCX9 n = true → Cond.classLink RX9 n "SuretyRoll$Ledger" ∈ mm_G := fun _ h => by cases h
def sCX9 : mc_L := [(3, 1, none)]
set_option maxRecDepth 20000 in
theorem sCX9_ok (l : Launch) : ∀ q ∈ sCX9, mc_spo l RX9 1 q := List.forall_mem_cons.mpr ⟨mc_LO.mk (i := 344) (by decide +kernel), fun _ h => absurd h List.not_mem_nil⟩
def sX9_init : mc_F := mc_S (mm_gf gCX9) (mm_pf pCX9) (mm_pf fCX9) (mc_nw nCX9) qCX9 (mc_sp sCX9) 2 4 5268 (mm_ins iX9_init)
theorem tX9_init (l : Launch) : mc_Ct l yX9_init cX9_init 2 1 4 5268 sX9_init := mc_meth (by decide +kernel) rfl (mm_gf_ok gCX9_ok) (mm_pf_ok pCX9_ok) (mc_pF_ok fCX9_ok) (mc_nw_ok nCX9_ok) qCX9_ok (mc_sp0 (sCX9_ok l)) (mc_sp1 (sCX9_ok l)) mc_wa (by decide) (mc_hins (mm_dec_ok iX9_init_ok))
abbrev cX1_init : ByteArray := prog_3_method_1_code
def yX1_init : MethodName := ⟨RX1, "<init>", "(LSuretyRoll$Book;)V"⟩
def iX1_init : List (List (Nat × Instr)) := [[(0, .aload_n 0), (1, .invokespecial 3), (4, .aload_n 0), (5, .bipush 8), (7, .newarray .int), (9, .putfield 9), (12, .aload_n 0), (13, .bipush 8), (15, .newarray .int)], [(17, .putfield 15), (20, .aload_n 0), (21, .aload_n 1), (22, .putfield 18), (25, .return_)]]
set_option maxRecDepth 20000 in
theorem iX1_init_ok : mm_dec cX1_init iX1_init = true := by decide +kernel
set_option maxRecDepth 20000 in
theorem wX1_init : mc_MI yX1_init cX1_init 2 := ⟨by decide, rfl, ⟨by decide +kernel, by decide +kernel⟩, mm_G_in (i := 375) (by decide +kernel) rfl, mm_G_in (i := 77) (by decide +kernel) rfl, mm_G_in (i := 376) (by decide +kernel) rfl⟩
def gCX1 : List (Nat × Nat × Nat × Nat) := []
def pCX1 : List (Nat × Nat × Nat × Nat) := []
def fCX1 : List (Nat × Nat × Nat × Nat) := [(379, 9, 1, 1), (381, 15, 1, 2), (378, 18, 1, 0)]
def nCX1 : List (Nat × Nat × Nat × Nat × Nat) := []
set_option maxRecDepth 20000 in
theorem gCX1_ok : mm_gfb RX1 gCX1 = true := by decide +kernel
set_option maxRecDepth 20000 in
theorem pCX1_ok : mm_pfb RX1 pCX1 = true := by decide +kernel
set_option maxRecDepth 20000 in
theorem fCX1_ok : mc_pFb RX1 fCX1 = true := by decide +kernel
set_option maxRecDepth 20000 in
theorem nCX1_ok : mc_nwb RX1 nCX1 = true := by decide +kernel
def qCX1 (n : Nat) : Bool := false
theorem qCX1_ok : ∀ n, qCX1 n = true → Cond.classLink RX1 n "SuretyRoll$Ledger" ∈ mm_G := fun _ h => by cases h
def sCX1 : mc_L := [(3, 1, none)]
set_option maxRecDepth 20000 in
theorem sCX1_ok (l : Launch) : ∀ q ∈ sCX1, mc_spo l RX1 1 q := List.forall_mem_cons.mpr ⟨mc_LO.mk (i := 377) (by decide +kernel), fun _ h => absurd h List.not_mem_nil⟩
def sX1_init : mc_F := mc_S (mm_gf gCX1) (mm_pf pCX1) (mm_pf fCX1) (mc_nw nCX1) qCX1 (mc_sp sCX1) 2 2 16 (mm_ins iX1_init)
theorem tX1_init (l : Launch) : mc_Ct l yX1_init cX1_init 2 1 2 16 sX1_init := mc_meth (by decide +kernel) rfl (mm_gf_ok gCX1_ok) (mm_pf_ok pCX1_ok) (mc_pF_ok fCX1_ok) (mc_nw_ok nCX1_ok) qCX1_ok (mc_sp0 (sCX1_ok l)) (mc_sp1 (sCX1_ok l)) mc_wa (by decide) (mc_hins (mm_dec_ok iX1_init_ok))
abbrev cX6_init : ByteArray := prog_8_method_1_code
def yX6_init : MethodName := ⟨RX6, "<init>", "(LSuretyRoll$Book;)V"⟩
def iX6_init : List (List (Nat × Instr)) := [[(0, .aload_n 0), (1, .invokespecial 3), (4, .aload_n 0), (5, .sipush 256), (8, .newarray .int), (10, .putfield 9), (13, .aload_n 0), (14, .sipush 256)], [(17, .newarray .int), (19, .putfield 15), (22, .aload_n 0), (23, .aload_n 1), (24, .putfield 18), (27, .return_)]]
set_option maxRecDepth 20000 in
theorem iX6_init_ok : mm_dec cX6_init iX6_init = true := by decide +kernel
set_option maxRecDepth 20000 in
theorem wX6_init : mc_MI yX6_init cX6_init 2 := ⟨by decide, rfl, ⟨by decide +kernel, by decide +kernel⟩, mm_G_in (i := 392) (by decide +kernel) rfl, mm_G_in (i := 78) (by decide +kernel) rfl, mm_G_in (i := 393) (by decide +kernel) rfl⟩
def gCX6 : List (Nat × Nat × Nat × Nat) := []
def pCX6 : List (Nat × Nat × Nat × Nat) := []
def fCX6 : List (Nat × Nat × Nat × Nat) := [(396, 9, 6, 1), (397, 15, 6, 2), (395, 18, 6, 0)]
def nCX6 : List (Nat × Nat × Nat × Nat × Nat) := []
set_option maxRecDepth 20000 in
theorem gCX6_ok : mm_gfb RX6 gCX6 = true := by decide +kernel
set_option maxRecDepth 20000 in
theorem pCX6_ok : mm_pfb RX6 pCX6 = true := by decide +kernel
set_option maxRecDepth 20000 in
theorem fCX6_ok : mc_pFb RX6 fCX6 = true := by decide +kernel
set_option maxRecDepth 20000 in
theorem nCX6_ok : mc_nwb RX6 nCX6 = true := by decide +kernel
def qCX6 (n : Nat) : Bool := false
theorem qCX6_ok : ∀ n, qCX6 n = true → Cond.classLink RX6 n "SuretyRoll$Ledger" ∈ mm_G := fun _ h => by cases h
def sCX6 : mc_L := [(3, 1, none)]
set_option maxRecDepth 20000 in
theorem sCX6_ok (l : Launch) : ∀ q ∈ sCX6, mc_spo l RX6 1 q := List.forall_mem_cons.mpr ⟨mc_LO.mk (i := 394) (by decide +kernel), fun _ h => absurd h List.not_mem_nil⟩
def sX6_init : mc_F := mc_S (mm_gf gCX6) (mm_pf pCX6) (mm_pf fCX6) (mc_nw nCX6) qCX6 (mc_sp sCX6) 2 2 512 (mm_ins iX6_init)
theorem tX6_init (l : Launch) : mc_Ct l yX6_init cX6_init 2 1 2 512 sX6_init := mc_meth (by decide +kernel) rfl (mm_gf_ok gCX6_ok) (mm_pf_ok pCX6_ok) (mc_pF_ok fCX6_ok) (mc_nw_ok nCX6_ok) qCX6_ok (mc_sp0 (sCX6_ok l)) (mc_sp1 (sCX6_ok l)) mc_wa (by decide) (mc_hins (mm_dec_ok iX6_init_ok))
abbrev cX4_init : ByteArray := prog_6_method_1_code
def yX4_init : MethodName := ⟨RX4, "<init>", "(LSuretyRoll$Book;)V"⟩
def iX4_init : List (List (Nat × Instr)) := [[(0, .aload_n 0), (1, .invokespecial 1), (4, .aload_n 0), (5, .aload_n 1), (6, .putfield 7), (9, .return_)]]
set_option maxRecDepth 20000 in
theorem iX4_init_ok : mm_dec cX4_init iX4_init = true := by decide +kernel
set_option maxRecDepth 20000 in
theorem wX4_init : mc_MI yX4_init cX4_init 2 := ⟨by decide, rfl, ⟨by decide +kernel, by decide +kernel⟩, mm_G_in (i := 408) (by decide +kernel) rfl, mm_G_in (i := 79) (by decide +kernel) rfl, mm_G_in (i := 409) (by decide +kernel) rfl⟩
def gCX4 : List (Nat × Nat × Nat × Nat) := []
def pCX4 : List (Nat × Nat × Nat × Nat) := []
def fCX4 : List (Nat × Nat × Nat × Nat) := [(411, 7, 4, 0)]
def nCX4 : List (Nat × Nat × Nat × Nat × Nat) := []
set_option maxRecDepth 20000 in
theorem gCX4_ok : mm_gfb RX4 gCX4 = true := by decide +kernel
set_option maxRecDepth 20000 in
theorem pCX4_ok : mm_pfb RX4 pCX4 = true := by decide +kernel
set_option maxRecDepth 20000 in
theorem fCX4_ok : mc_pFb RX4 fCX4 = true := by decide +kernel
set_option maxRecDepth 20000 in
theorem nCX4_ok : mc_nwb RX4 nCX4 = true := by decide +kernel
def qCX4 (n : Nat) : Bool := false
theorem qCX4_ok : ∀ n, qCX4 n = true → Cond.classLink RX4 n "SuretyRoll$Ledger" ∈ mm_G := fun _ h => by cases h
def sCX4 : mc_L := [(1, 1, none)]
set_option maxRecDepth 20000 in
theorem sCX4_ok (l : Launch) : ∀ q ∈ sCX4, mc_spo l RX4 1 q := List.forall_mem_cons.mpr ⟨mc_LO.mk (i := 410) (by decide +kernel), fun _ h => absurd h List.not_mem_nil⟩
def sX4_init : mc_F := mc_S (mm_gf gCX4) (mm_pf pCX4) (mm_pf fCX4) (mc_nw nCX4) qCX4 (mc_sp sCX4) 2 0 0 (mm_ins iX4_init)
theorem tX4_init (l : Launch) : mc_Ct l yX4_init cX4_init 2 1 0 0 sX4_init := mc_meth (by decide +kernel) rfl (mm_gf_ok gCX4_ok) (mm_pf_ok pCX4_ok) (mc_pF_ok fCX4_ok) (mc_nw_ok nCX4_ok) qCX4_ok (mc_sp0 (sCX4_ok l)) (mc_sp1 (sCX4_ok l)) mc_wa (by decide) (mc_hins (mm_dec_ok iX4_init_ok))
abbrev cX11_init : ByteArray := prog_1_method_1_code
def yX11_init : MethodName := ⟨RX11, "<init>", "()V"⟩
def iX11_init : List (List (Nat × Instr)) := [[(0, .aload_n 0), (1, .invokespecial 1), (4, .aload_n 0), (5, .new 7), (8, .dup), (9, .invokespecial 9), (12, .putfield 10), (15, .aload_n 0)], [(16, .new 16), (19, .dup), (20, .aload_n 0), (21, .getfield 10), (24, .invokespecial 18), (27, .putfield 21), (30, .aload_n 0), (31, .new 25)], [(34, .dup), (35, .invokespecial 27), (38, .putfield 28), (41, .aload_n 0), (42, .new 32), (45, .dup), (46, .aload_n 0), (47, .getfield 28)], [(50, .invokespecial 34), (53, .putfield 37), (56, .aload_n 0), (57, .new 41), (60, .dup), (61, .aload_n 0), (62, .getfield 28)], [(65, .invokespecial 43), (68, .putfield 44), (71, .aload_n 0), (72, .new 48), (75, .dup), (76, .aload_n 0), (77, .getfield 28)], [(80, .invokespecial 50), (83, .putfield 51), (86, .aload_n 0), (87, .new 55), (90, .dup), (91, .aload_n 0), (92, .getfield 28), (95, .invokespecial 57)], [(98, .putfield 58), (101, .aload_n 0), (102, .new 62), (105, .dup), (106, .aload_n 0), (107, .getfield 28), (110, .invokespecial 64)], [(113, .putfield 65), (116, .aload_n 0), (117, .new 69), (120, .dup), (121, .aload_n 0), (122, .getfield 28), (125, .invokespecial 71)], [(128, .putfield 72), (131, .aload_n 0), (132, .iconst 2), (133, .anewarray 76), (136, .putfield 78), (139, .iconst 0), (140, .istore_n 1), (141, .iload_n 1), (142, .iconst 2), (143, .if_icmp .ge 22)], [(146, .aload_n 0), (147, .getfield 78), (150, .iload_n 1), (151, .new 76), (154, .dup), (155, .invokespecial 82), (158, .aastore), (159, .iinc 1 1)], [(162, .goto (-21)), (165, .return_)]]
set_option maxRecDepth 20000 in
theorem iX11_init_ok : mm_dec cX11_init iX11_init = true := by decide +kernel
set_option maxRecDepth 20000 in
theorem wX11_init : mc_MI yX11_init cX11_init 2 := ⟨by decide, rfl, ⟨by decide +kernel, by decide +kernel⟩, mm_G_in (i := 92) (by decide +kernel) rfl, mm_G_in (i := 68) (by decide +kernel) rfl, mm_G_in (i := 93) (by decide +kernel) rfl⟩
def gCX11 : List (Nat × Nat × Nat × Nat) := [(422, 10, 11, 0), (424, 28, 11, 2), (431, 78, 11, 9)]
def pCX11 : List (Nat × Nat × Nat × Nat) := []
def fCX11 : List (Nat × Nat × Nat × Nat) := [(422, 10, 11, 0), (423, 21, 11, 1), (424, 28, 11, 2), (425, 37, 11, 3), (426, 44, 11, 4), (427, 51, 11, 5), (428, 58, 11, 6), (429, 65, 11, 7), (430, 72, 11, 8), (431, 78, 11, 9)]
def nCX11 : List (Nat × Nat × Nat × Nat × Nat) := [(97, 7, 10, 98, 69), (114, 16, 7, 115, 70), (139, 25, 0, 140, 71), (315, 32, 2, 316, 74), (325, 41, 3, 326, 75), (339, 48, 9, 340, 76), (372, 55, 1, 373, 77), (389, 62, 6, 390, 78), (405, 69, 4, 406, 79), (419, 76, 5, 245, 73)]
set_option maxRecDepth 20000 in
theorem gCX11_ok : mm_gfb RX11 gCX11 = true := by decide +kernel
set_option maxRecDepth 20000 in
theorem pCX11_ok : mm_pfb RX11 pCX11 = true := by decide +kernel
set_option maxRecDepth 20000 in
theorem fCX11_ok : mc_pFb RX11 fCX11 = true := by decide +kernel
set_option maxRecDepth 20000 in
theorem nCX11_ok : mc_nwb RX11 nCX11 = true := by decide +kernel
def qCX11 (n : Nat) : Bool := Nat.beq n 76
set_option maxRecDepth 20000 in
theorem qCX11_ok : ∀ n, qCX11 n = true → Cond.classLink RX11 n "SuretyRoll$Ledger" ∈ mm_G := by
  intro n h
  obtain rfl := Nat.eq_of_beq_eq_true h
  exact mm_G_in (i := 419) (by decide +kernel) rfl
def sCX11 : mc_L := [(1, 1, none), (9, 1, some (1, 400, sX10_init)), (18, 2, some (0, 0, sX7_init)), (27, 1, some (24, 363, sX0_init)), (34, 2, some (0, 0, sX2_init)), (43, 2, some (0, 0, sX3_init)), (50, 2, some (4, 5268, sX9_init)), (57, 2, some (2, 16, sX1_init)), (64, 2, some (2, 512, sX6_init)), (71, 2, some (0, 0, sX4_init)), (82, 1, some (5, 114, sX5_init))]
set_option maxRecDepth 20000 in
theorem sCX11_ok (l : Launch) : ∀ q ∈ sCX11, mc_spo l RX11 3 q := List.forall_mem_cons.mpr ⟨mc_LO.mk (i := 94) (by decide +kernel), List.forall_mem_cons.mpr ⟨mc_LI.nest wX10_init (tX10_init l) (by decide) (by decide +kernel) (by decide +kernel), List.forall_mem_cons.mpr ⟨mc_LI.mk (i := 116) wX7_init (tX7_init l) (by decide) (by decide +kernel) (by decide +kernel), List.forall_mem_cons.mpr ⟨mc_LI.nest wX0_init (tX0_init l) (by decide) (by decide +kernel) (by decide +kernel), List.forall_mem_cons.mpr ⟨mc_LI.mk (i := 317) wX2_init (tX2_init l) (by decide) (by decide +kernel) (by decide +kernel), List.forall_mem_cons.mpr ⟨mc_LI.mk (i := 327) wX3_init (tX3_init l) (by decide) (by decide +kernel) (by decide +kernel), List.forall_mem_cons.mpr ⟨mc_LI.mk (i := 341) wX9_init (tX9_init l) (by decide) (by decide +kernel) (by decide +kernel), List.forall_mem_cons.mpr ⟨mc_LI.mk (i := 374) wX1_init (tX1_init l) (by decide) (by decide +kernel) (by decide +kernel), List.forall_mem_cons.mpr ⟨mc_LI.mk (i := 391) wX6_init (tX6_init l) (by decide) (by decide +kernel) (by decide +kernel), List.forall_mem_cons.mpr ⟨mc_LI.mk (i := 407) wX4_init (tX4_init l) (by decide) (by decide +kernel) (by decide +kernel), List.forall_mem_cons.mpr ⟨mc_LI.nest wX5_init (tX5_init l) (by decide) (by decide +kernel) (by decide +kernel), fun _ h => absurd h List.not_mem_nil⟩⟩⟩⟩⟩⟩⟩⟩⟩⟩⟩
def sX11_init : mc_F := mc_S (mm_gf gCX11) (mm_pf pCX11) (mm_pf fCX11) (mc_nw nCX11) qCX11 (mc_sp sCX11) 2 55 6833 (mm_ins iX11_init)
theorem tX11_init (l : Launch) : mc_Ct l yX11_init cX11_init 2 3 55 6833 sX11_init := mc_meth (by decide +kernel) rfl (mm_gf_ok gCX11_ok) (mm_pf_ok pCX11_ok) (mc_pF_ok fCX11_ok) (mc_nw_ok nCX11_ok) qCX11_ok (mc_sp0 (sCX11_ok l)) (mc_sp1 (sCX11_ok l)) mc_wa (by decide) (mc_hins (mm_dec_ok iX11_init_ok))
abbrev cX12_init : ByteArray := prog_14_method_1_code
def yX12_init : MethodName := ⟨RX12, "<init>", "()V"⟩
def iX12_init : List (List (Nat × Instr)) := [[(0, .aload_n 0), (1, .invokespecial 1), (4, .aload_n 0), (5, .sipush 131), (8, .newarray .int), (10, .putfield 7), (13, .aload_n 0), (14, .sipush 262)], [(17, .newarray .int), (19, .putfield 13), (22, .aload_n 0), (23, .iconst 2), (24, .newarray .boolean), (26, .putfield 16), (29, .aload_n 0), (30, .bipush 8)], [(32, .newarray .int), (34, .putfield 20), (37, .aload_n 0), (38, .bipush 30), (40, .newarray .int), (42, .putfield 23), (45, .aload_n 0), (46, .bipush 80)], [(48, .newarray .int), (50, .putfield 26), (53, .aload_n 0), (54, .bipush 33), (56, .newarray .int), (58, .putfield 29), (61, .aload_n 0), (62, .bipush 85)], [(64, .newarray .int), (66, .putfield 32), (69, .aload_n 0), (70, .sipush 400), (73, .newarray .int), (75, .putfield 35), (78, .aload_n 0), (79, .sipush 5226)], [(82, .newarray .int), (84, .putfield 38), (87, .return_)]]
set_option maxRecDepth 20000 in
theorem iX12_init_ok : mm_dec cX12_init iX12_init = true := by decide +kernel
set_option maxRecDepth 20000 in
theorem wX12_init : mc_MI yX12_init cX12_init 1 := ⟨by decide, rfl, ⟨by decide +kernel, by decide +kernel⟩, mm_G_in (i := 1007) (by decide +kernel) rfl, mm_G_in (i := 80) (by decide +kernel) rfl, mm_G_in (i := 1008) (by decide +kernel) rfl⟩
def gCX12 : List (Nat × Nat × Nat × Nat) := []
def pCX12 : List (Nat × Nat × Nat × Nat) := []
def fCX12 : List (Nat × Nat × Nat × Nat) := [(1012, 7, 12, 2), (1013, 13, 12, 3), (1014, 16, 12, 4), (1015, 20, 12, 5), (1018, 23, 12, 8), (1019, 26, 12, 9), (1020, 29, 12, 10), (1021, 32, 12, 11), (1024, 35, 12, 14), (1031, 38, 12, 21)]
def nCX12 : List (Nat × Nat × Nat × Nat × Nat) := []
set_option maxRecDepth 20000 in
theorem gCX12_ok : mm_gfb RX12 gCX12 = true := by decide +kernel
set_option maxRecDepth 20000 in
theorem pCX12_ok : mm_pfb RX12 pCX12 = true := by decide +kernel
set_option maxRecDepth 20000 in
theorem fCX12_ok : mc_pFb RX12 fCX12 = true := by decide +kernel
set_option maxRecDepth 20000 in
theorem nCX12_ok : mc_nwb RX12 nCX12 = true := by decide +kernel
def qCX12 (n : Nat) : Bool := false
theorem qCX12_ok : ∀ n, qCX12 n = true → Cond.classLink RX12 n "SuretyRoll$Ledger" ∈ mm_G := fun _ h => by cases h
def sCX12 : mc_L := [(1, 1, none)]
set_option maxRecDepth 20000 in
theorem sCX12_ok (l : Launch) : ∀ q ∈ sCX12, mc_spo l RX12 1 q := List.forall_mem_cons.mpr ⟨mc_LO.mk (i := 1009) (by decide +kernel), fun _ h => absurd h List.not_mem_nil⟩
def sX12_init : mc_F := mc_S (mm_gf gCX12) (mm_pf pCX12) (mm_pf fCX12) (mc_nw nCX12) qCX12 (mc_sp sCX12) 1 10 6257 (mm_ins iX12_init)
theorem tX12_init (l : Launch) : mc_Ct l yX12_init cX12_init 1 1 10 6257 sX12_init := mc_meth (by decide +kernel) rfl (mm_gf_ok gCX12_ok) (mm_pf_ok pCX12_ok) (mc_pF_ok fCX12_ok) (mc_nw_ok nCX12_ok) qCX12_ok (mc_sp0 (sCX12_ok l)) (mc_sp1 (sCX12_ok l)) mc_wa (by decide) (mc_hins (mm_dec_ok iX12_init_ok))
