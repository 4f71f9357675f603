def iL_14 : List (Nat × Instr) := [(224, .aload_n 1), (225, .invokevirtual 25), (228, .pop), (229, .aload_n 2), (230, .invokevirtual 28), (233, .pop), (234, .goto 639), (237, .aload_n 1), (238, .aload_n 0), (239, .iload_n 3)]
set_option maxRecDepth 20000 in
theorem iL_14_ok : iL_14.all (mm_dok code) = true := by decide +kernel
def iL_15 : List (Nat × Instr) := [(240, .iconst 1), (241, .iadd), (242, .iaload), (243, .aload_n 0), (244, .iload_n 3), (245, .iconst 2), (246, .iadd), (247, .iaload), (248, .invokevirtual 29), (251, .pop), (252, .aload_n 2), (253, .aload_n 0), (254, .iload_n 3), (255, .iconst 1)]
set_option maxRecDepth 20000 in
theorem iL_15_ok : iL_15.all (mm_dok code) = true := by decide +kernel
def iL_16 : List (Nat × Instr) := [(256, .iadd), (257, .iaload), (258, .aload_n 0), (259, .iload_n 3), (260, .iconst 2), (261, .iadd), (262, .iaload), (263, .invokevirtual 33), (266, .pop), (267, .goto 606), (270, .aload_n 1), (271, .aload_n 0)]
set_option maxRecDepth 20000 in
theorem iL_16_ok : iL_16.all (mm_dok code) = true := by decide +kernel
def iL_17 : List (Nat × Instr) := [(272, .iload_n 3), (273, .iconst 1), (274, .iadd), (275, .iaload), (276, .aload_n 0), (277, .iload_n 3), (278, .iconst 2), (279, .iadd), (280, .iaload), (281, .invokevirtual 34), (284, .pop), (285, .aload_n 2), (286, .aload_n 0), (287, .iload_n 3)]
set_option maxRecDepth 20000 in
theorem iL_17_ok : iL_17.all (mm_dok code) = true := by decide +kernel
def iL_18 : List (Nat × Instr) := [(288, .iconst 1), (289, .iadd), (290, .iaload), (291, .aload_n 0), (292, .iload_n 3), (293, .iconst 2), (294, .iadd), (295, .iaload), (296, .invokevirtual 37), (299, .pop), (300, .goto 573), (303, .aload_n 1)]
set_option maxRecDepth 20000 in
theorem iL_18_ok : iL_18.all (mm_dok code) = true := by decide +kernel
def iL_19 : List (Nat × Instr) := [(304, .aload_n 0), (305, .iload_n 3), (306, .iconst 1), (307, .iadd), (308, .iaload), (309, .aload_n 0), (310, .iload_n 3), (311, .iconst 2), (312, .iadd), (313, .iaload), (314, .aload_n 0), (315, .iload_n 3), (316, .iconst 3), (317, .iadd), (318, .iaload), (319, .invokevirtual 38)]
set_option maxRecDepth 20000 in
theorem iL_19_ok : iL_19.all (mm_dok code) = true := by decide +kernel
def iL_20 : List (Nat × Instr) := [(322, .pop), (323, .aload_n 2), (324, .aload_n 0), (325, .iload_n 3), (326, .iconst 1), (327, .iadd), (328, .iaload), (329, .aload_n 0), (330, .iload_n 3), (331, .iconst 2), (332, .iadd), (333, .iaload), (334, .aload_n 0), (335, .iload_n 3)]
set_option maxRecDepth 20000 in
theorem iL_20_ok : iL_20.all (mm_dok code) = true := by decide +kernel
