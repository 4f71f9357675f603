def iL_49 : List (Nat × Instr) := [(784, .invokevirtual 103), (787, .pop), (788, .goto 85), (791, .aload_n 1), (792, .aload_n 0), (793, .iload_n 3), (794, .iconst 1), (795, .iadd), (796, .iaload), (797, .invokevirtual 104)]
set_option maxRecDepth 20000 in
theorem iL_49_ok : iL_49.all (mm_dok code) = true := by decide +kernel
def iL_50 : List (Nat × Instr) := [(800, .pop), (801, .aload_n 2), (802, .aload_n 0), (803, .iload_n 3), (804, .iconst 1), (805, .iadd), (806, .iaload), (807, .invokevirtual 107), (810, .pop), (811, .goto 62), (814, .aload_n 1), (815, .aload_n 0)]
set_option maxRecDepth 20000 in
theorem iL_50_ok : iL_50.all (mm_dok code) = true := by decide +kernel
def iL_51 : List (Nat × Instr) := [(816, .iload_n 3), (817, .iconst 1), (818, .iadd), (819, .iaload), (820, .invokevirtual 108), (823, .pop), (824, .aload_n 2), (825, .aload_n 0), (826, .iload_n 3), (827, .iconst 1), (828, .iadd), (829, .iaload), (830, .invokevirtual 111)]
set_option maxRecDepth 20000 in
theorem iL_51_ok : iL_51.all (mm_dok code) = true := by decide +kernel
def iL_52 : List (Nat × Instr) := [(833, .pop), (834, .goto 39), (837, .aload_n 1), (838, .aload_n 0), (839, .iload_n 3), (840, .iconst 1), (841, .iadd), (842, .iaload), (843, .invokevirtual 112), (846, .pop), (847, .aload_n 2)]
set_option maxRecDepth 20000 in
theorem iL_52_ok : iL_52.all (mm_dok code) = true := by decide +kernel
def iL_53 : List (Nat × Instr) := [(848, .aload_n 0), (849, .iload_n 3), (850, .iconst 1), (851, .iadd), (852, .iaload), (853, .invokevirtual 115), (856, .pop), (857, .goto 16), (860, .aload_n 1), (861, .invokevirtual 116)]
set_option maxRecDepth 20000 in
theorem iL_53_ok : iL_53.all (mm_dok code) = true := by decide +kernel
def iL_54 : List (Nat × Instr) := [(864, .pop2), (865, .aload_n 2), (866, .invokevirtual 120), (869, .pop2), (870, .goto 3), (873, .iinc 3 4), (876, .goto (-858)), (879, .iconst 1)]
set_option maxRecDepth 20000 in
theorem iL_54_ok : iL_54.all (mm_dok code) = true := by decide +kernel
def iL_55 : List (Nat × Instr) := [(880, .ireturn)]
set_option maxRecDepth 20000 in
theorem iL_55_ok : iL_55.all (mm_dok code) = true := by decide +kernel
