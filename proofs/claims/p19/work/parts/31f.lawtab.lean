def iL_35 : List (Nat × Instr) := [(560, .pop), (561, .goto 312), (564, .aload_n 1), (565, .aload_n 0), (566, .iload_n 3), (567, .iconst 1), (568, .iadd), (569, .iaload), (570, .aload_n 0), (571, .iload_n 3), (572, .iconst 2), (573, .iadd), (574, .iaload), (575, .invokevirtual 67)]
set_option maxRecDepth 20000 in
theorem iL_35_ok : iL_35.all (mm_dok code) = true := by decide +kernel
def iL_36 : List (Nat × Instr) := [(578, .pop), (579, .aload_n 2), (580, .aload_n 0), (581, .iload_n 3), (582, .iconst 1), (583, .iadd), (584, .iaload), (585, .aload_n 0), (586, .iload_n 3), (587, .iconst 2), (588, .iadd), (589, .iaload), (590, .invokevirtual 70)]
set_option maxRecDepth 20000 in
theorem iL_36_ok : iL_36.all (mm_dok code) = true := by decide +kernel
def iL_37 : List (Nat × Instr) := [(593, .pop), (594, .goto 279), (597, .aload_n 1), (598, .invokevirtual 71), (601, .pop), (602, .aload_n 2), (603, .invokevirtual 74), (606, .pop), (607, .goto 266)]
set_option maxRecDepth 20000 in
theorem iL_37_ok : iL_37.all (mm_dok code) = true := by decide +kernel
def iL_38 : List (Nat × Instr) := [(610, .aload_n 1), (611, .aload_n 0), (612, .iload_n 3), (613, .iconst 1), (614, .iadd), (615, .iaload), (616, .invokevirtual 75), (619, .pop), (620, .aload_n 2), (621, .aload_n 0), (622, .iload_n 3), (623, .iconst 1)]
set_option maxRecDepth 20000 in
theorem iL_38_ok : iL_38.all (mm_dok code) = true := by decide +kernel
def iL_39 : List (Nat × Instr) := [(624, .iadd), (625, .iaload), (626, .invokevirtual 79), (629, .pop), (630, .goto 243), (633, .aload_n 1), (634, .aload_n 0), (635, .iload_n 3), (636, .iconst 1), (637, .iadd), (638, .iaload), (639, .invokevirtual 80)]
set_option maxRecDepth 20000 in
theorem iL_39_ok : iL_39.all (mm_dok code) = true := by decide +kernel
def iL_40 : List (Nat × Instr) := [(642, .pop), (643, .aload_n 2), (644, .aload_n 0), (645, .iload_n 3), (646, .iconst 1), (647, .iadd), (648, .iaload), (649, .invokevirtual 83), (652, .pop), (653, .goto 220)]
set_option maxRecDepth 20000 in
theorem iL_40_ok : iL_40.all (mm_dok code) = true := by decide +kernel
def iL_41 : List (Nat × Instr) := [(656, .aload_n 1), (657, .aload_n 0), (658, .iload_n 3), (659, .iconst 1), (660, .iadd), (661, .iaload), (662, .invokevirtual 84), (665, .pop), (666, .aload_n 2), (667, .aload_n 0), (668, .iload_n 3), (669, .iconst 1), (670, .iadd), (671, .iaload)]
set_option maxRecDepth 20000 in
theorem iL_41_ok : iL_41.all (mm_dok code) = true := by decide +kernel
