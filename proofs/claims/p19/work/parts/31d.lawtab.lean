def iL_21 : List (Nat × Instr) := [(336, .iconst 3), (337, .iadd), (338, .iaload), (339, .invokevirtual 42), (342, .pop), (343, .goto 530), (346, .aload_n 1), (347, .aload_n 0), (348, .iload_n 3), (349, .iconst 1), (350, .iadd), (351, .iaload)]
set_option maxRecDepth 20000 in
theorem iL_21_ok : iL_21.all (mm_dok code) = true := by decide +kernel
def iL_22 : List (Nat × Instr) := [(352, .aload_n 0), (353, .iload_n 3), (354, .iconst 2), (355, .iadd), (356, .iaload), (357, .invokevirtual 43), (360, .pop), (361, .aload_n 2), (362, .aload_n 0), (363, .iload_n 3), (364, .iconst 1), (365, .iadd), (366, .iaload), (367, .aload_n 0)]
set_option maxRecDepth 20000 in
theorem iL_22_ok : iL_22.all (mm_dok code) = true := by decide +kernel
def iL_23 : List (Nat × Instr) := [(368, .iload_n 3), (369, .iconst 2), (370, .iadd), (371, .iaload), (372, .invokevirtual 46), (375, .pop), (376, .goto 497), (379, .aload_n 1), (380, .aload_n 0), (381, .iload_n 3), (382, .iconst 1), (383, .iadd)]
set_option maxRecDepth 20000 in
theorem iL_23_ok : iL_23.all (mm_dok code) = true := by decide +kernel
def iL_24 : List (Nat × Instr) := [(384, .iaload), (385, .aload_n 0), (386, .iload_n 3), (387, .iconst 2), (388, .iadd), (389, .iaload), (390, .invokevirtual 47), (393, .pop), (394, .aload_n 2), (395, .aload_n 0), (396, .iload_n 3), (397, .iconst 1), (398, .iadd), (399, .iaload)]
set_option maxRecDepth 20000 in
theorem iL_24_ok : iL_24.all (mm_dok code) = true := by decide +kernel
def iL_25 : List (Nat × Instr) := [(400, .aload_n 0), (401, .iload_n 3), (402, .iconst 2), (403, .iadd), (404, .iaload), (405, .invokevirtual 50), (408, .pop), (409, .goto 464), (412, .aload_n 1), (413, .aload_n 0), (414, .iload_n 3), (415, .iconst 1)]
set_option maxRecDepth 20000 in
theorem iL_25_ok : iL_25.all (mm_dok code) = true := by decide +kernel
def iL_26 : List (Nat × Instr) := [(416, .iadd), (417, .iaload), (418, .aload_n 0), (419, .iload_n 3), (420, .iconst 2), (421, .iadd), (422, .iaload), (423, .aload_n 0), (424, .iload_n 3), (425, .iconst 3), (426, .iadd), (427, .iaload), (428, .invokevirtual 51), (431, .pop)]
set_option maxRecDepth 20000 in
theorem iL_26_ok : iL_26.all (mm_dok code) = true := by decide +kernel
def iL_27 : List (Nat × Instr) := [(432, .aload_n 2), (433, .aload_n 0), (434, .iload_n 3), (435, .iconst 1), (436, .iadd), (437, .iaload), (438, .aload_n 0), (439, .iload_n 3), (440, .iconst 2), (441, .iadd), (442, .iaload), (443, .aload_n 0), (444, .iload_n 3), (445, .iconst 3), (446, .iadd), (447, .iaload)]
set_option maxRecDepth 20000 in
theorem iL_27_ok : iL_27.all (mm_dok code) = true := by decide +kernel
