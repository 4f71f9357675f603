def iL_7 : List (Nat × Instr) := []
set_option maxRecDepth 20000 in
theorem iL_7_ok : iL_7.all (mm_dok code) = true := by decide +kernel
def iL_8 : List (Nat × Instr) := []
set_option maxRecDepth 20000 in
theorem iL_8_ok : iL_8.all (mm_dok code) = true := by decide +kernel
def iL_9 : List (Nat × Instr) := [(148, .aload_n 1), (149, .aload_n 0), (150, .iload_n 3), (151, .iconst 1), (152, .iadd), (153, .iaload), (154, .i2l), (155, .bipush 32), (157, .lshl), (158, .aload_n 0), (159, .iload_n 3)]
set_option maxRecDepth 20000 in
theorem iL_9_ok : iL_9.all (mm_dok code) = true := by decide +kernel
def iL_10 : List (Nat × Instr) := [(160, .iconst 2), (161, .iadd), (162, .iaload), (163, .i2l), (164, .ldc2_w 13), (167, .land), (168, .lor), (169, .aload_n 0), (170, .iload_n 3), (171, .iconst 3), (172, .iadd), (173, .iaload), (174, .invokevirtual 15)]
set_option maxRecDepth 20000 in
theorem iL_10_ok : iL_10.all (mm_dok code) = true := by decide +kernel
def iL_11 : List (Nat × Instr) := [(177, .pop), (178, .aload_n 2), (179, .aload_n 0), (180, .iload_n 3), (181, .iconst 1), (182, .iadd), (183, .iaload), (184, .i2l), (185, .bipush 32), (187, .lshl), (188, .aload_n 0), (189, .iload_n 3), (190, .iconst 2), (191, .iadd)]
set_option maxRecDepth 20000 in
theorem iL_11_ok : iL_11.all (mm_dok code) = true := by decide +kernel
def iL_12 : List (Nat × Instr) := [(192, .iaload), (193, .i2l), (194, .ldc2_w 13), (197, .land), (198, .lor), (199, .aload_n 0), (200, .iload_n 3), (201, .iconst 3), (202, .iadd), (203, .iaload), (204, .invokevirtual 19), (207, .pop)]
set_option maxRecDepth 20000 in
theorem iL_12_ok : iL_12.all (mm_dok code) = true := by decide +kernel
def iL_13 : List (Nat × Instr) := [(208, .goto 665), (211, .aload_n 1), (212, .invokevirtual 20), (215, .pop), (216, .aload_n 2), (217, .invokevirtual 24), (220, .pop), (221, .goto 652)]
set_option maxRecDepth 20000 in
theorem iL_13_ok : iL_13.all (mm_dok code) = true := by decide +kernel
