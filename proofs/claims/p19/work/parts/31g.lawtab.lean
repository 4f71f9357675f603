def iL_42 : List (Nat × Instr) := [(672, .invokevirtual 87), (675, .pop), (676, .goto 197), (679, .aload_n 1), (680, .aload_n 0), (681, .iload_n 3), (682, .iconst 1), (683, .iadd), (684, .iaload), (685, .aload_n 0), (686, .iload_n 3), (687, .iconst 2)]
set_option maxRecDepth 20000 in
theorem iL_42_ok : iL_42.all (mm_dok code) = true := by decide +kernel
def iL_43 : List (Nat × Instr) := [(688, .iadd), (689, .iaload), (690, .invokevirtual 88), (693, .aload_n 2), (694, .aload_n 0), (695, .iload_n 3), (696, .iconst 1), (697, .iadd), (698, .iaload), (699, .aload_n 0), (700, .iload_n 3), (701, .iconst 2), (702, .iadd), (703, .iaload)]
set_option maxRecDepth 20000 in
theorem iL_43_ok : iL_43.all (mm_dok code) = true := by decide +kernel
def iL_44 : List (Nat × Instr) := [(704, .invokevirtual 91), (707, .if_icmp .eq 166), (710, .iconst 0), (711, .ireturn), (712, .aload_n 1), (713, .aload_n 0), (714, .iload_n 3), (715, .iconst 1), (716, .iadd), (717, .iaload), (718, .invokevirtual 92)]
set_option maxRecDepth 20000 in
theorem iL_44_ok : iL_44.all (mm_dok code) = true := by decide +kernel
def iL_45 : List (Nat × Instr) := [(721, .pop), (722, .aload_n 2), (723, .aload_n 0), (724, .iload_n 3), (725, .iconst 1), (726, .iadd), (727, .iaload), (728, .invokevirtual 95), (731, .pop), (732, .goto 141), (735, .aload_n 1)]
set_option maxRecDepth 20000 in
theorem iL_45_ok : iL_45.all (mm_dok code) = true := by decide +kernel
def iL_46 : List (Nat × Instr) := [(736, .aload_n 0), (737, .iload_n 3), (738, .iconst 1), (739, .iadd), (740, .iaload), (741, .invokevirtual 96), (744, .pop), (745, .aload_n 2), (746, .aload_n 0), (747, .iload_n 3), (748, .iconst 1), (749, .iadd), (750, .iaload), (751, .invokevirtual 99)]
set_option maxRecDepth 20000 in
theorem iL_46_ok : iL_46.all (mm_dok code) = true := by decide +kernel
def iL_47 : List (Nat × Instr) := [(754, .pop), (755, .goto 118), (758, .aload_n 1), (759, .aload_n 0), (760, .iload_n 3), (761, .iconst 1), (762, .iadd), (763, .iaload), (764, .aload_n 0), (765, .iload_n 3), (766, .iconst 2), (767, .iadd)]
set_option maxRecDepth 20000 in
theorem iL_47_ok : iL_47.all (mm_dok code) = true := by decide +kernel
def iL_48 : List (Nat × Instr) := [(768, .iaload), (769, .invokevirtual 100), (772, .pop), (773, .aload_n 2), (774, .aload_n 0), (775, .iload_n 3), (776, .iconst 1), (777, .iadd), (778, .iaload), (779, .aload_n 0), (780, .iload_n 3), (781, .iconst 2), (782, .iadd), (783, .iaload)]
set_option maxRecDepth 20000 in
theorem iL_48_ok : iL_48.all (mm_dok code) = true := by decide +kernel
