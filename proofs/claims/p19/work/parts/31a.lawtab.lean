def iL_0 : List (Nat × Instr) := [(0, .new 7), (3, .dup), (4, .invokespecial 9), (7, .astore_n 1), (8, .new 10), (11, .dup), (12, .invokespecial 12), (15, .astore_n 2)]
set_option maxRecDepth 20000 in
theorem iL_0_ok : iL_0.all (mm_dok code) = true := by decide +kernel
def iL_1 : List (Nat × Instr) := [(16, .iconst 0), (17, .istore_n 3), (18, .iload_n 3), (19, .aload_n 0), (20, .arraylength), (21, .iconst 4), (22, .isub), (23, .if_icmp .gt 856), (26, .aload_n 0), (27, .iload_n 3), (28, .iaload), (29, .bipush 31), (31, .iand)]
set_option maxRecDepth 20000 in
theorem iL_1_ok : iL_1.all (mm_dok code) = true := by decide +kernel
def iL_2 : List (Nat × Instr) := [(32, .tableswitch 841 0 24 #[116, 179, 192, 205, 238, 271, 314, 347, 380, 423, 456, 489, 532, 565, 578, 601, 624, 647, 680, 703, 726, 759, 782, 805, 828])]
set_option maxRecDepth 20000 in
theorem iL_2_ok : iL_2.all (mm_dok code) = true := by decide +kernel
def iL_3 : List (Nat × Instr) := []
set_option maxRecDepth 20000 in
theorem iL_3_ok : iL_3.all (mm_dok code) = true := by decide +kernel
def iL_4 : List (Nat × Instr) := []
set_option maxRecDepth 20000 in
theorem iL_4_ok : iL_4.all (mm_dok code) = true := by decide +kernel
def iL_5 : List (Nat × Instr) := []
set_option maxRecDepth 20000 in
theorem iL_5_ok : iL_5.all (mm_dok code) = true := by decide +kernel
def iL_6 : List (Nat × Instr) := []
set_option maxRecDepth 20000 in
theorem iL_6_ok : iL_6.all (mm_dok code) = true := by decide +kernel
