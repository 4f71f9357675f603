def iL_28 : List (Nat × Instr) := [(448, .invokevirtual 54), (451, .pop), (452, .goto 421), (455, .aload_n 1), (456, .aload_n 0), (457, .iload_n 3), (458, .iconst 1), (459, .iadd), (460, .iaload), (461, .aload_n 0), (462, .iload_n 3), (463, .iconst 2)]
set_option maxRecDepth 20000 in
theorem iL_28_ok : iL_28.all (mm_dok code) = true := by decide +kernel
def iL_29 : List (Nat × Instr) := [(464, .iadd), (465, .iaload), (466, .invokevirtual 55), (469, .pop), (470, .aload_n 2), (471, .aload_n 0), (472, .iload_n 3), (473, .iconst 1), (474, .iadd), (475, .iaload), (476, .aload_n 0), (477, .iload_n 3), (478, .iconst 2), (479, .iadd)]
set_option maxRecDepth 20000 in
theorem iL_29_ok : iL_29.all (mm_dok code) = true := by decide +kernel
def iL_30 : List (Nat × Instr) := [(480, .iaload), (481, .invokevirtual 58), (484, .pop), (485, .goto 388), (488, .aload_n 1), (489, .aload_n 0), (490, .iload_n 3), (491, .iconst 1), (492, .iadd), (493, .iaload), (494, .aload_n 0), (495, .iload_n 3)]
set_option maxRecDepth 20000 in
theorem iL_30_ok : iL_30.all (mm_dok code) = true := by decide +kernel
def iL_31 : List (Nat × Instr) := [(496, .iconst 2), (497, .iadd), (498, .iaload), (499, .invokevirtual 59), (502, .pop), (503, .aload_n 2), (504, .aload_n 0), (505, .iload_n 3), (506, .iconst 1), (507, .iadd), (508, .iaload), (509, .aload_n 0), (510, .iload_n 3), (511, .iconst 2)]
set_option maxRecDepth 20000 in
theorem iL_31_ok : iL_31.all (mm_dok code) = true := by decide +kernel
def iL_32 : List (Nat × Instr) := [(512, .iadd), (513, .iaload), (514, .invokevirtual 62), (517, .pop), (518, .goto 355), (521, .aload_n 1), (522, .aload_n 0), (523, .iload_n 3), (524, .iconst 1), (525, .iadd), (526, .iaload), (527, .aload_n 0)]
set_option maxRecDepth 20000 in
theorem iL_32_ok : iL_32.all (mm_dok code) = true := by decide +kernel
def iL_33 : List (Nat × Instr) := [(528, .iload_n 3), (529, .iconst 2), (530, .iadd), (531, .iaload), (532, .aload_n 0), (533, .iload_n 3), (534, .iconst 3), (535, .iadd), (536, .iaload), (537, .invokevirtual 63), (540, .pop), (541, .aload_n 2), (542, .aload_n 0), (543, .iload_n 3)]
set_option maxRecDepth 20000 in
theorem iL_33_ok : iL_33.all (mm_dok code) = true := by decide +kernel
def iL_34 : List (Nat × Instr) := [(544, .iconst 1), (545, .iadd), (546, .iaload), (547, .aload_n 0), (548, .iload_n 3), (549, .iconst 2), (550, .iadd), (551, .iaload), (552, .aload_n 0), (553, .iload_n 3), (554, .iconst 3), (555, .iadd), (556, .iaload), (557, .invokevirtual 66)]
set_option maxRecDepth 20000 in
theorem iL_34_ok : iL_34.all (mm_dok code) = true := by decide +kernel
