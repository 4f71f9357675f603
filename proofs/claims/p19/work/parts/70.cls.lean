/-! ===== the class in the world ===== -/
def cW (ki : Int) (ln : Int) (bt : Nat → Int32) (rl : Value) (cp : Int) (cs : Int) (ct : Int) (cv : Int) (rr : Nat) (dr : Nat) (ja : Int) (ea : Int) (ma : Int) (a1 : Nat → Int32) (a2 : Nat → Int32) (a3 : Nat → Int32) (a4 : Nat → Int32) (a5 : Nat → Int32) (a6 : Nat → Int32) (a7 : Nat → Int32) (a8 : Nat → Int32) (jb : Int) (eb : Int) (mb : Int) (b1 : Nat → Int32) (b2 : Nat → Int32) (b3 : Nat → Int32) (b4 : Nat → Int32) (b5 : Nat → Int32) (b6 : Nat → Int32) (b7 : Nat → Int32) (b8 : Nat → Int32) (re : Int) (fl : Int) (g1 : Nat → Int32) (g2 : Nat → Int32) (g3 : Nat → Int32) (g4 : Nat → Int32) (g5 : Nat → Int32) (D : List va_E) : List va_E := .inr (11, [.ref 1, .ref 3, .ref 4, .ref 29, .ref 30, .ref 31, .ref 36, .ref 39, .ref 42, .ref 43, iv ki]) :: .inr (10, [.ref 2, iv ln]) :: .inl (1, 400, .inl bt) :: .inr (7, [.ref 1, rl, iv cp, iv cs, iv ct, iv cv]) :: .inr (0, [.ref rr, .ref dr, .ref 23]) :: .inr (8, [iv ja, iv ea, iv ma, .ref 6, .ref 7, .ref 8, .ref 9, .ref 10, .ref 11, .ref 12, .ref 13]) :: .inl (0, 10, .inl a1) :: .inl (0, 10, .inl a2) :: .inl (0, 10, .inl a3) :: .inl (0, 16, .inl a4) :: .inl (0, 16, .inl a5) :: .inl (0, 16, .inl a6) :: .inl (0, 16, .inl a7) :: .inl (0, 16, .inl a8) :: .inr (8, [iv jb, iv eb, iv mb, .ref 15, .ref 16, .ref 17, .ref 18, .ref 19, .ref 20, .ref 21, .ref 22]) :: .inl (0, 10, .inl b1) :: .inl (0, 10, .inl b2) :: .inl (0, 10, .inl b3) :: .inl (0, 16, .inl b4) :: .inl (0, 16, .inl b5) :: .inl (0, 16, .inl b6) :: .inl (0, 16, .inl b7) :: .inl (0, 16, .inl b8) :: .inr (5, [.ref 24, .ref 25, .ref 26, .ref 27, .ref 28, iv re, iv fl]) :: .inl (0, 10, .inl g1) :: .inl (0, 16, .inl g2) :: .inl (0, 16, .inl g3) :: .inl (0, 64, .inl g4) :: .inl (0, 8, .inl g5) :: D
section CWL
variable {ki ln cp cs ct cv ja ea ma jb eb mb re fl : Int} {rr dr : Nat} {rl : Value} {bt a1 a2 a3 a4 a5 a6 a7 a8 b1 b2 b3 b4 b5 b6 b7 b8 g1 g2 g3 g4 g5 : Nat → Int32} {D : List va_E}
theorem cg_0 : (cW ki ln bt rl cp cs ct cv rr dr ja ea ma a1 a2 a3 a4 a5 a6 a7 a8 jb eb mb b1 b2 b3 b4 b5 b6 b7 b8 re fl g1 g2 g3 g4 g5 D)[0]? = some (.inr (11, [.ref 1, .ref 3, .ref 4, .ref 29, .ref 30, .ref 31, .ref 36, .ref 39, .ref 42, .ref 43, iv ki])) := rfl
theorem cg_1 : (cW ki ln bt rl cp cs ct cv rr dr ja ea ma a1 a2 a3 a4 a5 a6 a7 a8 jb eb mb b1 b2 b3 b4 b5 b6 b7 b8 re fl g1 g2 g3 g4 g5 D)[1]? = some (.inr (10, [.ref 2, iv ln])) := rfl
theorem cg_2 : (cW ki ln bt rl cp cs ct cv rr dr ja ea ma a1 a2 a3 a4 a5 a6 a7 a8 jb eb mb b1 b2 b3 b4 b5 b6 b7 b8 re fl g1 g2 g3 g4 g5 D)[2]? = some (.inl (1, 400, .inl bt)) := rfl
theorem cg_3 : (cW ki ln bt rl cp cs ct cv rr dr ja ea ma a1 a2 a3 a4 a5 a6 a7 a8 jb eb mb b1 b2 b3 b4 b5 b6 b7 b8 re fl g1 g2 g3 g4 g5 D)[3]? = some (.inr (7, [.ref 1, rl, iv cp, iv cs, iv ct, iv cv])) := rfl
theorem cg_4 : (cW ki ln bt rl cp cs ct cv rr dr ja ea ma a1 a2 a3 a4 a5 a6 a7 a8 jb eb mb b1 b2 b3 b4 b5 b6 b7 b8 re fl g1 g2 g3 g4 g5 D)[4]? = some (.inr (0, [.ref rr, .ref dr, .ref 23])) := rfl
theorem cg_5 : (cW ki ln bt rl cp cs ct cv rr dr ja ea ma a1 a2 a3 a4 a5 a6 a7 a8 jb eb mb b1 b2 b3 b4 b5 b6 b7 b8 re fl g1 g2 g3 g4 g5 D)[5]? = some (.inr (8, [iv ja, iv ea, iv ma, .ref 6, .ref 7, .ref 8, .ref 9, .ref 10, .ref 11, .ref 12, .ref 13])) := rfl
theorem cg_6 : (cW ki ln bt rl cp cs ct cv rr dr ja ea ma a1 a2 a3 a4 a5 a6 a7 a8 jb eb mb b1 b2 b3 b4 b5 b6 b7 b8 re fl g1 g2 g3 g4 g5 D)[6]? = some (.inl (0, 10, .inl a1)) := rfl
theorem cg_7 : (cW ki ln bt rl cp cs ct cv rr dr ja ea ma a1 a2 a3 a4 a5 a6 a7 a8 jb eb mb b1 b2 b3 b4 b5 b6 b7 b8 re fl g1 g2 g3 g4 g5 D)[7]? = some (.inl (0, 10, .inl a2)) := rfl
theorem cg_8 : (cW ki ln bt rl cp cs ct cv rr dr ja ea ma a1 a2 a3 a4 a5 a6 a7 a8 jb eb mb b1 b2 b3 b4 b5 b6 b7 b8 re fl g1 g2 g3 g4 g5 D)[8]? = some (.inl (0, 10, .inl a3)) := rfl
theorem cg_9 : (cW ki ln bt rl cp cs ct cv rr dr ja ea ma a1 a2 a3 a4 a5 a6 a7 a8 jb eb mb b1 b2 b3 b4 b5 b6 b7 b8 re fl g1 g2 g3 g4 g5 D)[9]? = some (.inl (0, 16, .inl a4)) := rfl
theorem cg_10 : (cW ki ln bt rl cp cs ct cv rr dr ja ea ma a1 a2 a3 a4 a5 a6 a7 a8 jb eb mb b1 b2 b3 b4 b5 b6 b7 b8 re fl g1 g2 g3 g4 g5 D)[10]? = some (.inl (0, 16, .inl a5)) := rfl
theorem cg_11 : (cW ki ln bt rl cp cs ct cv rr dr ja ea ma a1 a2 a3 a4 a5 a6 a7 a8 jb eb mb b1 b2 b3 b4 b5 b6 b7 b8 re fl g1 g2 g3 g4 g5 D)[11]? = some (.inl (0, 16, .inl a6)) := rfl
theorem cg_12 : (cW ki ln bt rl cp cs ct cv rr dr ja ea ma a1 a2 a3 a4 a5 a6 a7 a8 jb eb mb b1 b2 b3 b4 b5 b6 b7 b8 re fl g1 g2 g3 g4 g5 D)[12]? = some (.inl (0, 16, .inl a7)) := rfl
theorem cg_13 : (cW ki ln bt rl cp cs ct cv rr dr ja ea ma a1 a2 a3 a4 a5 a6 a7 a8 jb eb mb b1 b2 b3 b4 b5 b6 b7 b8 re fl g1 g2 g3 g4 g5 D)[13]? = some (.inl (0, 16, .inl a8)) := rfl
theorem cg_14 : (cW ki ln bt rl cp cs ct cv rr dr ja ea ma a1 a2 a3 a4 a5 a6 a7 a8 jb eb mb b1 b2 b3 b4 b5 b6 b7 b8 re fl g1 g2 g3 g4 g5 D)[14]? = some (.inr (8, [iv jb, iv eb, iv mb, .ref 15, .ref 16, .ref 17, .ref 18, .ref 19, .ref 20, .ref 21, .ref 22])) := rfl
theorem cg_15 : (cW ki ln bt rl cp cs ct cv rr dr ja ea ma a1 a2 a3 a4 a5 a6 a7 a8 jb eb mb b1 b2 b3 b4 b5 b6 b7 b8 re fl g1 g2 g3 g4 g5 D)[15]? = some (.inl (0, 10, .inl b1)) := rfl
theorem cg_16 : (cW ki ln bt rl cp cs ct cv rr dr ja ea ma a1 a2 a3 a4 a5 a6 a7 a8 jb eb mb b1 b2 b3 b4 b5 b6 b7 b8 re fl g1 g2 g3 g4 g5 D)[16]? = some (.inl (0, 10, .inl b2)) := rfl
theorem cg_17 : (cW ki ln bt rl cp cs ct cv rr dr ja ea ma a1 a2 a3 a4 a5 a6 a7 a8 jb eb mb b1 b2 b3 b4 b5 b6 b7 b8 re fl g1 g2 g3 g4 g5 D)[17]? = some (.inl (0, 10, .inl b3)) := rfl
theorem cg_18 : (cW ki ln bt rl cp cs ct cv rr dr ja ea ma a1 a2 a3 a4 a5 a6 a7 a8 jb eb mb b1 b2 b3 b4 b5 b6 b7 b8 re fl g1 g2 g3 g4 g5 D)[18]? = some (.inl (0, 16, .inl b4)) := rfl
theorem cg_19 : (cW ki ln bt rl cp cs ct cv rr dr ja ea ma a1 a2 a3 a4 a5 a6 a7 a8 jb eb mb b1 b2 b3 b4 b5 b6 b7 b8 re fl g1 g2 g3 g4 g5 D)[19]? = some (.inl (0, 16, .inl b5)) := rfl
theorem cg_20 : (cW ki ln bt rl cp cs ct cv rr dr ja ea ma a1 a2 a3 a4 a5 a6 a7 a8 jb eb mb b1 b2 b3 b4 b5 b6 b7 b8 re fl g1 g2 g3 g4 g5 D)[20]? = some (.inl (0, 16, .inl b6)) := rfl
theorem cg_21 : (cW ki ln bt rl cp cs ct cv rr dr ja ea ma a1 a2 a3 a4 a5 a6 a7 a8 jb eb mb b1 b2 b3 b4 b5 b6 b7 b8 re fl g1 g2 g3 g4 g5 D)[21]? = some (.inl (0, 16, .inl b7)) := rfl
theorem cg_22 : (cW ki ln bt rl cp cs ct cv rr dr ja ea ma a1 a2 a3 a4 a5 a6 a7 a8 jb eb mb b1 b2 b3 b4 b5 b6 b7 b8 re fl g1 g2 g3 g4 g5 D)[22]? = some (.inl (0, 16, .inl b8)) := rfl
theorem cg_23 : (cW ki ln bt rl cp cs ct cv rr dr ja ea ma a1 a2 a3 a4 a5 a6 a7 a8 jb eb mb b1 b2 b3 b4 b5 b6 b7 b8 re fl g1 g2 g3 g4 g5 D)[23]? = some (.inr (5, [.ref 24, .ref 25, .ref 26, .ref 27, .ref 28, iv re, iv fl])) := rfl
theorem cg_24 : (cW ki ln bt rl cp cs ct cv rr dr ja ea ma a1 a2 a3 a4 a5 a6 a7 a8 jb eb mb b1 b2 b3 b4 b5 b6 b7 b8 re fl g1 g2 g3 g4 g5 D)[24]? = some (.inl (0, 10, .inl g1)) := rfl
theorem cg_25 : (cW ki ln bt rl cp cs ct cv rr dr ja ea ma a1 a2 a3 a4 a5 a6 a7 a8 jb eb mb b1 b2 b3 b4 b5 b6 b7 b8 re fl g1 g2 g3 g4 g5 D)[25]? = some (.inl (0, 16, .inl g2)) := rfl
theorem cg_26 : (cW ki ln bt rl cp cs ct cv rr dr ja ea ma a1 a2 a3 a4 a5 a6 a7 a8 jb eb mb b1 b2 b3 b4 b5 b6 b7 b8 re fl g1 g2 g3 g4 g5 D)[26]? = some (.inl (0, 16, .inl g3)) := rfl
theorem cg_27 : (cW ki ln bt rl cp cs ct cv rr dr ja ea ma a1 a2 a3 a4 a5 a6 a7 a8 jb eb mb b1 b2 b3 b4 b5 b6 b7 b8 re fl g1 g2 g3 g4 g5 D)[27]? = some (.inl (0, 64, .inl g4)) := rfl
theorem cg_28 : (cW ki ln bt rl cp cs ct cv rr dr ja ea ma a1 a2 a3 a4 a5 a6 a7 a8 jb eb mb b1 b2 b3 b4 b5 b6 b7 b8 re fl g1 g2 g3 g4 g5 D)[28]? = some (.inl (0, 8, .inl g5)) := rfl
theorem cs_2 {f : Nat → Int32} : (cW ki ln bt rl cp cs ct cv rr dr ja ea ma a1 a2 a3 a4 a5 a6 a7 a8 jb eb mb b1 b2 b3 b4 b5 b6 b7 b8 re fl g1 g2 g3 g4 g5 D).set 2 (.inl (1, 400, .inl f)) = (cW ki ln f rl cp cs ct cv rr dr ja ea ma a1 a2 a3 a4 a5 a6 a7 a8 jb eb mb b1 b2 b3 b4 b5 b6 b7 b8 re fl g1 g2 g3 g4 g5 D) := rfl
theorem cs_6 {f : Nat → Int32} : (cW ki ln bt rl cp cs ct cv rr dr ja ea ma a1 a2 a3 a4 a5 a6 a7 a8 jb eb mb b1 b2 b3 b4 b5 b6 b7 b8 re fl g1 g2 g3 g4 g5 D).set 6 (.inl (0, 10, .inl f)) = (cW ki ln bt rl cp cs ct cv rr dr ja ea ma f a2 a3 a4 a5 a6 a7 a8 jb eb mb b1 b2 b3 b4 b5 b6 b7 b8 re fl g1 g2 g3 g4 g5 D) := rfl
theorem cs_7 {f : Nat → Int32} : (cW ki ln bt rl cp cs ct cv rr dr ja ea ma a1 a2 a3 a4 a5 a6 a7 a8 jb eb mb b1 b2 b3 b4 b5 b6 b7 b8 re fl g1 g2 g3 g4 g5 D).set 7 (.inl (0, 10, .inl f)) = (cW ki ln bt rl cp cs ct cv rr dr ja ea ma a1 f a3 a4 a5 a6 a7 a8 jb eb mb b1 b2 b3 b4 b5 b6 b7 b8 re fl g1 g2 g3 g4 g5 D) := rfl
theorem cs_8 {f : Nat → Int32} : (cW ki ln bt rl cp cs ct cv rr dr ja ea ma a1 a2 a3 a4 a5 a6 a7 a8 jb eb mb b1 b2 b3 b4 b5 b6 b7 b8 re fl g1 g2 g3 g4 g5 D).set 8 (.inl (0, 10, .inl f)) = (cW ki ln bt rl cp cs ct cv rr dr ja ea ma a1 a2 f a4 a5 a6 a7 a8 jb eb mb b1 b2 b3 b4 b5 b6 b7 b8 re fl g1 g2 g3 g4 g5 D) := rfl
theorem cs_9 {f : Nat → Int32} : (cW ki ln bt rl cp cs ct cv rr dr ja ea ma a1 a2 a3 a4 a5 a6 a7 a8 jb eb mb b1 b2 b3 b4 b5 b6 b7 b8 re fl g1 g2 g3 g4 g5 D).set 9 (.inl (0, 16, .inl f)) = (cW ki ln bt rl cp cs ct cv rr dr ja ea ma a1 a2 a3 f a5 a6 a7 a8 jb eb mb b1 b2 b3 b4 b5 b6 b7 b8 re fl g1 g2 g3 g4 g5 D) := rfl
theorem cs_10 {f : Nat → Int32} : (cW ki ln bt rl cp cs ct cv rr dr ja ea ma a1 a2 a3 a4 a5 a6 a7 a8 jb eb mb b1 b2 b3 b4 b5 b6 b7 b8 re fl g1 g2 g3 g4 g5 D).set 10 (.inl (0, 16, .inl f)) = (cW ki ln bt rl cp cs ct cv rr dr ja ea ma a1 a2 a3 a4 f a6 a7 a8 jb eb mb b1 b2 b3 b4 b5 b6 b7 b8 re fl g1 g2 g3 g4 g5 D) := rfl
theorem cs_11 {f : Nat → Int32} : (cW ki ln bt rl cp cs ct cv rr dr ja ea ma a1 a2 a3 a4 a5 a6 a7 a8 jb eb mb b1 b2 b3 b4 b5 b6 b7 b8 re fl g1 g2 g3 g4 g5 D).set 11 (.inl (0, 16, .inl f)) = (cW ki ln bt rl cp cs ct cv rr dr ja ea ma a1 a2 a3 a4 a5 f a7 a8 jb eb mb b1 b2 b3 b4 b5 b6 b7 b8 re fl g1 g2 g3 g4 g5 D) := rfl
theorem cs_12 {f : Nat → Int32} : (cW ki ln bt rl cp cs ct cv rr dr ja ea ma a1 a2 a3 a4 a5 a6 a7 a8 jb eb mb b1 b2 b3 b4 b5 b6 b7 b8 re fl g1 g2 g3 g4 g5 D).set 12 (.inl (0, 16, .inl f)) = (cW ki ln bt rl cp cs ct cv rr dr ja ea ma a1 a2 a3 a4 a5 a6 f a8 jb eb mb b1 b2 b3 b4 b5 b6 b7 b8 re fl g1 g2 g3 g4 g5 D) := rfl
theorem cs_13 {f : Nat → Int32} : (cW ki ln bt rl cp cs ct cv rr dr ja ea ma a1 a2 a3 a4 a5 a6 a7 a8 jb eb mb b1 b2 b3 b4 b5 b6 b7 b8 re fl g1 g2 g3 g4 g5 D).set 13 (.inl (0, 16, .inl f)) = (cW ki ln bt rl cp cs ct cv rr dr ja ea ma a1 a2 a3 a4 a5 a6 a7 f jb eb mb b1 b2 b3 b4 b5 b6 b7 b8 re fl g1 g2 g3 g4 g5 D) := rfl
theorem cs_15 {f : Nat → Int32} : (cW ki ln bt rl cp cs ct cv rr dr ja ea ma a1 a2 a3 a4 a5 a6 a7 a8 jb eb mb b1 b2 b3 b4 b5 b6 b7 b8 re fl g1 g2 g3 g4 g5 D).set 15 (.inl (0, 10, .inl f)) = (cW ki ln bt rl cp cs ct cv rr dr ja ea ma a1 a2 a3 a4 a5 a6 a7 a8 jb eb mb f b2 b3 b4 b5 b6 b7 b8 re fl g1 g2 g3 g4 g5 D) := rfl
theorem cs_16 {f : Nat → Int32} : (cW ki ln bt rl cp cs ct cv rr dr ja ea ma a1 a2 a3 a4 a5 a6 a7 a8 jb eb mb b1 b2 b3 b4 b5 b6 b7 b8 re fl g1 g2 g3 g4 g5 D).set 16 (.inl (0, 10, .inl f)) = (cW ki ln bt rl cp cs ct cv rr dr ja ea ma a1 a2 a3 a4 a5 a6 a7 a8 jb eb mb b1 f b3 b4 b5 b6 b7 b8 re fl g1 g2 g3 g4 g5 D) := rfl
theorem cs_17 {f : Nat → Int32} : (cW ki ln bt rl cp cs ct cv rr dr ja ea ma a1 a2 a3 a4 a5 a6 a7 a8 jb eb mb b1 b2 b3 b4 b5 b6 b7 b8 re fl g1 g2 g3 g4 g5 D).set 17 (.inl (0, 10, .inl f)) = (cW ki ln bt rl cp cs ct cv rr dr ja ea ma a1 a2 a3 a4 a5 a6 a7 a8 jb eb mb b1 b2 f b4 b5 b6 b7 b8 re fl g1 g2 g3 g4 g5 D) := rfl
theorem cs_18 {f : Nat → Int32} : (cW ki ln bt rl cp cs ct cv rr dr ja ea ma a1 a2 a3 a4 a5 a6 a7 a8 jb eb mb b1 b2 b3 b4 b5 b6 b7 b8 re fl g1 g2 g3 g4 g5 D).set 18 (.inl (0, 16, .inl f)) = (cW ki ln bt rl cp cs ct cv rr dr ja ea ma a1 a2 a3 a4 a5 a6 a7 a8 jb eb mb b1 b2 b3 f b5 b6 b7 b8 re fl g1 g2 g3 g4 g5 D) := rfl
theorem cs_19 {f : Nat → Int32} : (cW ki ln bt rl cp cs ct cv rr dr ja ea ma a1 a2 a3 a4 a5 a6 a7 a8 jb eb mb b1 b2 b3 b4 b5 b6 b7 b8 re fl g1 g2 g3 g4 g5 D).set 19 (.inl (0, 16, .inl f)) = (cW ki ln bt rl cp cs ct cv rr dr ja ea ma a1 a2 a3 a4 a5 a6 a7 a8 jb eb mb b1 b2 b3 b4 f b6 b7 b8 re fl g1 g2 g3 g4 g5 D) := rfl
theorem cs_20 {f : Nat → Int32} : (cW ki ln bt rl cp cs ct cv rr dr ja ea ma a1 a2 a3 a4 a5 a6 a7 a8 jb eb mb b1 b2 b3 b4 b5 b6 b7 b8 re fl g1 g2 g3 g4 g5 D).set 20 (.inl (0, 16, .inl f)) = (cW ki ln bt rl cp cs ct cv rr dr ja ea ma a1 a2 a3 a4 a5 a6 a7 a8 jb eb mb b1 b2 b3 b4 b5 f b7 b8 re fl g1 g2 g3 g4 g5 D) := rfl
theorem cs_21 {f : Nat → Int32} : (cW ki ln bt rl cp cs ct cv rr dr ja ea ma a1 a2 a3 a4 a5 a6 a7 a8 jb eb mb b1 b2 b3 b4 b5 b6 b7 b8 re fl g1 g2 g3 g4 g5 D).set 21 (.inl (0, 16, .inl f)) = (cW ki ln bt rl cp cs ct cv rr dr ja ea ma a1 a2 a3 a4 a5 a6 a7 a8 jb eb mb b1 b2 b3 b4 b5 b6 f b8 re fl g1 g2 g3 g4 g5 D) := rfl
theorem cs_22 {f : Nat → Int32} : (cW ki ln bt rl cp cs ct cv rr dr ja ea ma a1 a2 a3 a4 a5 a6 a7 a8 jb eb mb b1 b2 b3 b4 b5 b6 b7 b8 re fl g1 g2 g3 g4 g5 D).set 22 (.inl (0, 16, .inl f)) = (cW ki ln bt rl cp cs ct cv rr dr ja ea ma a1 a2 a3 a4 a5 a6 a7 a8 jb eb mb b1 b2 b3 b4 b5 b6 b7 f re fl g1 g2 g3 g4 g5 D) := rfl
theorem cs_24 {f : Nat → Int32} : (cW ki ln bt rl cp cs ct cv rr dr ja ea ma a1 a2 a3 a4 a5 a6 a7 a8 jb eb mb b1 b2 b3 b4 b5 b6 b7 b8 re fl g1 g2 g3 g4 g5 D).set 24 (.inl (0, 10, .inl f)) = (cW ki ln bt rl cp cs ct cv rr dr ja ea ma a1 a2 a3 a4 a5 a6 a7 a8 jb eb mb b1 b2 b3 b4 b5 b6 b7 b8 re fl f g2 g3 g4 g5 D) := rfl
theorem cs_25 {f : Nat → Int32} : (cW ki ln bt rl cp cs ct cv rr dr ja ea ma a1 a2 a3 a4 a5 a6 a7 a8 jb eb mb b1 b2 b3 b4 b5 b6 b7 b8 re fl g1 g2 g3 g4 g5 D).set 25 (.inl (0, 16, .inl f)) = (cW ki ln bt rl cp cs ct cv rr dr ja ea ma a1 a2 a3 a4 a5 a6 a7 a8 jb eb mb b1 b2 b3 b4 b5 b6 b7 b8 re fl g1 f g3 g4 g5 D) := rfl
theorem cs_26 {f : Nat → Int32} : (cW ki ln bt rl cp cs ct cv rr dr ja ea ma a1 a2 a3 a4 a5 a6 a7 a8 jb eb mb b1 b2 b3 b4 b5 b6 b7 b8 re fl g1 g2 g3 g4 g5 D).set 26 (.inl (0, 16, .inl f)) = (cW ki ln bt rl cp cs ct cv rr dr ja ea ma a1 a2 a3 a4 a5 a6 a7 a8 jb eb mb b1 b2 b3 b4 b5 b6 b7 b8 re fl g1 g2 f g4 g5 D) := rfl
theorem cs_27 {f : Nat → Int32} : (cW ki ln bt rl cp cs ct cv rr dr ja ea ma a1 a2 a3 a4 a5 a6 a7 a8 jb eb mb b1 b2 b3 b4 b5 b6 b7 b8 re fl g1 g2 g3 g4 g5 D).set 27 (.inl (0, 64, .inl f)) = (cW ki ln bt rl cp cs ct cv rr dr ja ea ma a1 a2 a3 a4 a5 a6 a7 a8 jb eb mb b1 b2 b3 b4 b5 b6 b7 b8 re fl g1 g2 g3 f g5 D) := rfl
theorem cs_28 {f : Nat → Int32} : (cW ki ln bt rl cp cs ct cv rr dr ja ea ma a1 a2 a3 a4 a5 a6 a7 a8 jb eb mb b1 b2 b3 b4 b5 b6 b7 b8 re fl g1 g2 g3 g4 g5 D).set 28 (.inl (0, 8, .inl f)) = (cW ki ln bt rl cp cs ct cv rr dr ja ea ma a1 a2 a3 a4 a5 a6 a7 a8 jb eb mb b1 b2 b3 b4 b5 b6 b7 b8 re fl g1 g2 g3 g4 f D) := rfl
theorem cp_ki {z : Int} : (cW ki ln bt rl cp cs ct cv rr dr ja ea ma a1 a2 a3 a4 a5 a6 a7 a8 jb eb mb b1 b2 b3 b4 b5 b6 b7 b8 re fl g1 g2 g3 g4 g5 D).set 0 (.inr (11, ([.ref 1, .ref 3, .ref 4, .ref 29, .ref 30, .ref 31, .ref 36, .ref 39, .ref 42, .ref 43, iv ki] : List Value).set 10 (iv z))) = (cW z ln bt rl cp cs ct cv rr dr ja ea ma a1 a2 a3 a4 a5 a6 a7 a8 jb eb mb b1 b2 b3 b4 b5 b6 b7 b8 re fl g1 g2 g3 g4 g5 D) := rfl
theorem cp_ln {z : Int} : (cW ki ln bt rl cp cs ct cv rr dr ja ea ma a1 a2 a3 a4 a5 a6 a7 a8 jb eb mb b1 b2 b3 b4 b5 b6 b7 b8 re fl g1 g2 g3 g4 g5 D).set 1 (.inr (10, ([.ref 2, iv ln] : List Value).set 1 (iv z))) = (cW ki z bt rl cp cs ct cv rr dr ja ea ma a1 a2 a3 a4 a5 a6 a7 a8 jb eb mb b1 b2 b3 b4 b5 b6 b7 b8 re fl g1 g2 g3 g4 g5 D) := rfl
theorem cp_rl {b : Nat} : (cW ki ln bt rl cp cs ct cv rr dr ja ea ma a1 a2 a3 a4 a5 a6 a7 a8 jb eb mb b1 b2 b3 b4 b5 b6 b7 b8 re fl g1 g2 g3 g4 g5 D).set 3 (.inr (7, ([.ref 1, rl, iv cp, iv cs, iv ct, iv cv] : List Value).set 1 (.ref b))) = (cW ki ln bt (.ref b) cp cs ct cv rr dr ja ea ma a1 a2 a3 a4 a5 a6 a7 a8 jb eb mb b1 b2 b3 b4 b5 b6 b7 b8 re fl g1 g2 g3 g4 g5 D) := rfl
theorem cp_cp {z : Int} : (cW ki ln bt rl cp cs ct cv rr dr ja ea ma a1 a2 a3 a4 a5 a6 a7 a8 jb eb mb b1 b2 b3 b4 b5 b6 b7 b8 re fl g1 g2 g3 g4 g5 D).set 3 (.inr (7, ([.ref 1, rl, iv cp, iv cs, iv ct, iv cv] : List Value).set 2 (iv z))) = (cW ki ln bt rl z cs ct cv rr dr ja ea ma a1 a2 a3 a4 a5 a6 a7 a8 jb eb mb b1 b2 b3 b4 b5 b6 b7 b8 re fl g1 g2 g3 g4 g5 D) := rfl
theorem cp_cs {z : Int} : (cW ki ln bt rl cp cs ct cv rr dr ja ea ma a1 a2 a3 a4 a5 a6 a7 a8 jb eb mb b1 b2 b3 b4 b5 b6 b7 b8 re fl g1 g2 g3 g4 g5 D).set 3 (.inr (7, ([.ref 1, rl, iv cp, iv cs, iv ct, iv cv] : List Value).set 3 (iv z))) = (cW ki ln bt rl cp z ct cv rr dr ja ea ma a1 a2 a3 a4 a5 a6 a7 a8 jb eb mb b1 b2 b3 b4 b5 b6 b7 b8 re fl g1 g2 g3 g4 g5 D) := rfl
theorem cp_ct {z : Int} : (cW ki ln bt rl cp cs ct cv rr dr ja ea ma a1 a2 a3 a4 a5 a6 a7 a8 jb eb mb b1 b2 b3 b4 b5 b6 b7 b8 re fl g1 g2 g3 g4 g5 D).set 3 (.inr (7, ([.ref 1, rl, iv cp, iv cs, iv ct, iv cv] : List Value).set 4 (iv z))) = (cW ki ln bt rl cp cs z cv rr dr ja ea ma a1 a2 a3 a4 a5 a6 a7 a8 jb eb mb b1 b2 b3 b4 b5 b6 b7 b8 re fl g1 g2 g3 g4 g5 D) := rfl
theorem cp_cv {z : Int} : (cW ki ln bt rl cp cs ct cv rr dr ja ea ma a1 a2 a3 a4 a5 a6 a7 a8 jb eb mb b1 b2 b3 b4 b5 b6 b7 b8 re fl g1 g2 g3 g4 g5 D).set 3 (.inr (7, ([.ref 1, rl, iv cp, iv cs, iv ct, iv cv] : List Value).set 5 (iv z))) = (cW ki ln bt rl cp cs ct z rr dr ja ea ma a1 a2 a3 a4 a5 a6 a7 a8 jb eb mb b1 b2 b3 b4 b5 b6 b7 b8 re fl g1 g2 g3 g4 g5 D) := rfl
theorem cp_rr {b : Nat} : (cW ki ln bt rl cp cs ct cv rr dr ja ea ma a1 a2 a3 a4 a5 a6 a7 a8 jb eb mb b1 b2 b3 b4 b5 b6 b7 b8 re fl g1 g2 g3 g4 g5 D).set 4 (.inr (0, ([.ref rr, .ref dr, .ref 23] : List Value).set 0 (.ref b))) = (cW ki ln bt rl cp cs ct cv b dr ja ea ma a1 a2 a3 a4 a5 a6 a7 a8 jb eb mb b1 b2 b3 b4 b5 b6 b7 b8 re fl g1 g2 g3 g4 g5 D) := rfl
theorem cp_dr {b : Nat} : (cW ki ln bt rl cp cs ct cv rr dr ja ea ma a1 a2 a3 a4 a5 a6 a7 a8 jb eb mb b1 b2 b3 b4 b5 b6 b7 b8 re fl g1 g2 g3 g4 g5 D).set 4 (.inr (0, ([.ref rr, .ref dr, .ref 23] : List Value).set 1 (.ref b))) = (cW ki ln bt rl cp cs ct cv rr b ja ea ma a1 a2 a3 a4 a5 a6 a7 a8 jb eb mb b1 b2 b3 b4 b5 b6 b7 b8 re fl g1 g2 g3 g4 g5 D) := rfl
theorem cp_ja {z : Int} : (cW ki ln bt rl cp cs ct cv rr dr ja ea ma a1 a2 a3 a4 a5 a6 a7 a8 jb eb mb b1 b2 b3 b4 b5 b6 b7 b8 re fl g1 g2 g3 g4 g5 D).set 5 (.inr (8, ([iv ja, iv ea, iv ma, .ref 6, .ref 7, .ref 8, .ref 9, .ref 10, .ref 11, .ref 12, .ref 13] : List Value).set 0 (iv z))) = (cW ki ln bt rl cp cs ct cv rr dr z ea ma a1 a2 a3 a4 a5 a6 a7 a8 jb eb mb b1 b2 b3 b4 b5 b6 b7 b8 re fl g1 g2 g3 g4 g5 D) := rfl
theorem cp_ea {z : Int} : (cW ki ln bt rl cp cs ct cv rr dr ja ea ma a1 a2 a3 a4 a5 a6 a7 a8 jb eb mb b1 b2 b3 b4 b5 b6 b7 b8 re fl g1 g2 g3 g4 g5 D).set 5 (.inr (8, ([iv ja, iv ea, iv ma, .ref 6, .ref 7, .ref 8, .ref 9, .ref 10, .ref 11, .ref 12, .ref 13] : List Value).set 1 (iv z))) = (cW ki ln bt rl cp cs ct cv rr dr ja z ma a1 a2 a3 a4 a5 a6 a7 a8 jb eb mb b1 b2 b3 b4 b5 b6 b7 b8 re fl g1 g2 g3 g4 g5 D) := rfl
theorem cp_ma {z : Int} : (cW ki ln bt rl cp cs ct cv rr dr ja ea ma a1 a2 a3 a4 a5 a6 a7 a8 jb eb mb b1 b2 b3 b4 b5 b6 b7 b8 re fl g1 g2 g3 g4 g5 D).set 5 (.inr (8, ([iv ja, iv ea, iv ma, .ref 6, .ref 7, .ref 8, .ref 9, .ref 10, .ref 11, .ref 12, .ref 13] : List Value).set 2 (iv z))) = (cW ki ln bt rl cp cs ct cv rr dr ja ea z a1 a2 a3 a4 a5 a6 a7 a8 jb eb mb b1 b2 b3 b4 b5 b6 b7 b8 re fl g1 g2 g3 g4 g5 D) := rfl
theorem cp_jb {z : Int} : (cW ki ln bt rl cp cs ct cv rr dr ja ea ma a1 a2 a3 a4 a5 a6 a7 a8 jb eb mb b1 b2 b3 b4 b5 b6 b7 b8 re fl g1 g2 g3 g4 g5 D).set 14 (.inr (8, ([iv jb, iv eb, iv mb, .ref 15, .ref 16, .ref 17, .ref 18, .ref 19, .ref 20, .ref 21, .ref 22] : List Value).set 0 (iv z))) = (cW ki ln bt rl cp cs ct cv rr dr ja ea ma a1 a2 a3 a4 a5 a6 a7 a8 z eb mb b1 b2 b3 b4 b5 b6 b7 b8 re fl g1 g2 g3 g4 g5 D) := rfl
theorem cp_eb {z : Int} : (cW ki ln bt rl cp cs ct cv rr dr ja ea ma a1 a2 a3 a4 a5 a6 a7 a8 jb eb mb b1 b2 b3 b4 b5 b6 b7 b8 re fl g1 g2 g3 g4 g5 D).set 14 (.inr (8, ([iv jb, iv eb, iv mb, .ref 15, .ref 16, .ref 17, .ref 18, .ref 19, .ref 20, .ref 21, .ref 22] : List Value).set 1 (iv z))) = (cW ki ln bt rl cp cs ct cv rr dr ja ea ma a1 a2 a3 a4 a5 a6 a7 a8 jb z mb b1 b2 b3 b4 b5 b6 b7 b8 re fl g1 g2 g3 g4 g5 D) := rfl
theorem cp_mb {z : Int} : (cW ki ln bt rl cp cs ct cv rr dr ja ea ma a1 a2 a3 a4 a5 a6 a7 a8 jb eb mb b1 b2 b3 b4 b5 b6 b7 b8 re fl g1 g2 g3 g4 g5 D).set 14 (.inr (8, ([iv jb, iv eb, iv mb, .ref 15, .ref 16, .ref 17, .ref 18, .ref 19, .ref 20, .ref 21, .ref 22] : List Value).set 2 (iv z))) = (cW ki ln bt rl cp cs ct cv rr dr ja ea ma a1 a2 a3 a4 a5 a6 a7 a8 jb eb z b1 b2 b3 b4 b5 b6 b7 b8 re fl g1 g2 g3 g4 g5 D) := rfl
theorem cp_re {z : Int} : (cW ki ln bt rl cp cs ct cv rr dr ja ea ma a1 a2 a3 a4 a5 a6 a7 a8 jb eb mb b1 b2 b3 b4 b5 b6 b7 b8 re fl g1 g2 g3 g4 g5 D).set 23 (.inr (5, ([.ref 24, .ref 25, .ref 26, .ref 27, .ref 28, iv re, iv fl] : List Value).set 5 (iv z))) = (cW ki ln bt rl cp cs ct cv rr dr ja ea ma a1 a2 a3 a4 a5 a6 a7 a8 jb eb mb b1 b2 b3 b4 b5 b6 b7 b8 z fl g1 g2 g3 g4 g5 D) := rfl
theorem cp_fl {z : Int} : (cW ki ln bt rl cp cs ct cv rr dr ja ea ma a1 a2 a3 a4 a5 a6 a7 a8 jb eb mb b1 b2 b3 b4 b5 b6 b7 b8 re fl g1 g2 g3 g4 g5 D).set 23 (.inr (5, ([.ref 24, .ref 25, .ref 26, .ref 27, .ref 28, iv re, iv fl] : List Value).set 6 (iv z))) = (cW ki ln bt rl cp cs ct cv rr dr ja ea ma a1 a2 a3 a4 a5 a6 a7 a8 jb eb mb b1 b2 b3 b4 b5 b6 b7 b8 re z g1 g2 g3 g4 g5 D) := rfl
theorem cg_out (hD : D.length = 38) {k : Nat} (hk : 67 ≤ k) : (cW ki ln bt rl cp cs ct cv rr dr ja ea ma a1 a2 a3 a4 a5 a6 a7 a8 jb eb mb b1 b2 b3 b4 b5 b6 b7 b8 re fl g1 g2 g3 g4 g5 D)[k]? = none := List.getElem?_eq_none (by show D.length + 29 ≤ k; omega)
end CWL
section C1
variable {ki ln cp cs ct cv ja ea ma jb eb mb re fl : Int} {rr dr : Nat} {rl : Value} {bt a1 a2 a3 a4 a5 a6 a7 a8 b1 b2 b3 b4 b5 b6 b7 b8 g1 g2 g3 g4 g5 : Nat → Int32} {D : List va_E} {a : Int} {mw : List va_E}
abbrev rn_X7_isSmallLetter (N : Nat) (c : mm_C) (Q : mm_R → Prop) : Prop := rn (mm_gf gLX7) (mm_pf pLX7) (mm_mv vX7_isSmallLetter) (mm_mv zX7_isSmallLetter) (mm_kc kLX7) mm_gs0 mm_rf0 mm_ro (some .boolean) 1 (mm_ins iX7_isSmallLetter) N c Q
theorem c_isSmall (ha : -2147483648 ≤ a ∧ a ≤ 2147483647) : sX7_isSmallLetter [iv (a)] mw = some (some (iv (bi (pt_low a))), mw) := by
  have main : ∀ Q : mm_R → Prop, Q (some (iv (bi (pt_low a))), mw) → rn_X7_isSmallLetter (1000) (0, [(0, iv (a))], [], mw) Q := by
    intro Q hQ
    refine r_il rfl rfl ?_
    refine r_bi rfl (by decide) ?_
    refine r_clt rfl rfl (by omega) (by omega) (fun g1 => ?_) (fun g1 => ?_)
    · have e : pt_low a = false := by simp [pt_low, i3]; omega
      rw [e] at hQ
      refine r_ic rfl ?_
      exact r_retb rfl rfl (by omega) hQ
    · refine r_il rfl rfl ?_
      refine r_bi rfl (by decide) ?_
      refine r_cgt rfl rfl (by omega) (by omega) (fun g2 => ?_) (fun g2 => ?_)
      · have e : pt_low a = false := by simp [pt_low, i3]; omega
        rw [e] at hQ
        refine r_ic rfl ?_
        exact r_retb rfl rfl (by omega) hQ
      · have e : pt_low a = true := by simp [pt_low, i3]; omega
        rw [e] at hQ
        refine r_ic rfl ?_
        refine r_goto rfl rfl ?_
        exact r_retb rfl rfl (by omega) hQ
  obtain ⟨r, h1, h2⟩ := rn_S (vs := [iv (a)]) (Q := fun r => r = (some (iv (bi (pt_low a))), mw)) rfl (rn_up (N := 1000) (M := mm_fuel) (by decide) (main (fun r => r = (some (iv (bi (pt_low a))), mw)) rfl))
  have h1 : sX7_isSmallLetter [iv (a)] mw = some r := h1
  rw [h1, h2]
abbrev rn_X7_isDigit (N : Nat) (c : mm_C) (Q : mm_R → Prop) : Prop := rn (mm_gf gLX7) (mm_pf pLX7) (mm_mv vX7_isDigit) (mm_mv zX7_isDigit) (mm_kc kLX7) mm_gs0 mm_rf0 mm_ro (some .boolean) 1 (mm_ins iX7_isDigit) N c Q
theorem c_isDig (ha : -2147483648 ≤ a ∧ a ≤ 2147483647) : sX7_isDigit [iv (a)] mw = some (some (iv (bi (pt_dig a))), mw) := by
  have main : ∀ Q : mm_R → Prop, Q (some (iv (bi (pt_dig a))), mw) → rn_X7_isDigit (1000) (0, [(0, iv (a))], [], mw) Q := by
    intro Q hQ
    refine r_il rfl rfl ?_
    refine r_bi rfl (by decide) ?_
    refine r_clt rfl rfl (by omega) (by omega) (fun g1 => ?_) (fun g1 => ?_)
    · have e : pt_dig a = false := by simp [pt_dig, i3]; omega
      rw [e] at hQ
      refine r_ic rfl ?_
      exact r_retb rfl rfl (by omega) hQ
    · refine r_il rfl rfl ?_
      refine r_bi rfl (by decide) ?_
      refine r_cgt rfl rfl (by omega) (by omega) (fun g2 => ?_) (fun g2 => ?_)
      · have e : pt_dig a = false := by simp [pt_dig, i3]; omega
        rw [e] at hQ
        refine r_ic rfl ?_
        exact r_retb rfl rfl (by omega) hQ
      · have e : pt_dig a = true := by simp [pt_dig, i3]; omega
        rw [e] at hQ
        refine r_ic rfl ?_
        refine r_goto rfl rfl ?_
        exact r_retb rfl rfl (by omega) hQ
  obtain ⟨r, h1, h2⟩ := rn_S (vs := [iv (a)]) (Q := fun r => r = (some (iv (bi (pt_dig a))), mw)) rfl (rn_up (N := 1000) (M := mm_fuel) (by decide) (main (fun r => r = (some (iv (bi (pt_dig a))), mw)) rfl))
  have h1 : sX7_isDigit [iv (a)] mw = some r := h1
  rw [h1, h2]
theorem hn0 {k : Nat} (hm : mw.length = 67) (hk : 67 ≤ k) : mw[k]? = none := List.getElem?_eq_none (by omega)
theorem c_coder0 (hm : mw.length = 67) : sJ0_coder_7d493 [.ref 1000] mw = some (some (iv 0), mw) := by
  obtain ⟨r, h3, h4⟩ := rn_S (vs := [.ref 1000]) (mw := mw) (Q := fun r => r = (some (iv 0), mw)) (gf := mm_gf gLJ0) (pf := mm_pf pLJ0) (mv := mm_mv vJ0_coder_7d493) (ms := mm_mv zJ0_coder_7d493) (kc := mm_kc kLJ0) (gs := gsJ0) (rf := rfJ0) (rt := (some .byte)) (nL := 1) (ins := mm_ins iJ0_coder_7d493) rfl (rn_up (N := 60) (M := mm_fuel) (by decide) (by
    refine r_gs rfl rfl ?_
    refine r_zeq (a := 1) rfl rfl (by decide) (fun h => ?_) (fun h => ?_)
    · exact absurd h (by decide)
    · refine r_al rfl rfl ?_
      refine r_gfo rfl (hn0 hm (by decide)) rfl ?_
      refine r_goto rfl rfl ?_
      exact r_rett (z := 0) rfl rfl rfl rfl))
  have h3 : sJ0_coder_7d493 [.ref 1000] mw = some r := h3
  rw [h3, h4]
theorem c_len0 (hm : mw.length = 67) : sJ0_length_8abf5 [.ref 1000] mw = some (some (iv 4), mw) := by
  obtain ⟨r, h3, h4⟩ := rn_S (vs := [.ref 1000]) (mw := mw) (Q := fun r => r = (some (iv 4), mw)) (gf := mm_gf gLJ0) (pf := mm_pf pLJ0) (mv := mm_mv vJ0_length_8abf5) (ms := mm_mv zJ0_length_8abf5) (kc := mm_kc kLJ0) (gs := gsJ0) (rf := rfJ0) (rt := (some .int)) (nL := 1) (ins := mm_ins iJ0_length_8abf5) rfl (rn_up (N := 60) (M := mm_fuel) (by decide) (by
    refine r_al rfl rfl ?_
    refine r_gfo rfl (hn0 hm (by decide)) rfl ?_
    refine r_alo rfl (hn0 hm (by decide)) rfl ?_
    refine r_al rfl rfl ?_
    refine r_o1s rfl rfl (hn0 hm (by decide)) rfl rfl (c_coder0 hm) ?_
    refine r_op (c := 4) rfl rfl ?_
    exact r_ret rfl rfl rfl))
  have h3 : sJ0_length_8abf5 [.ref 1000] mw = some r := h3
  rw [h3, h4]
theorem c_lat0 (hm : mw.length = 67) : sJ0_isLatin1_aae02 [.ref 1000] mw = some (some (iv 1), mw) := by
  obtain ⟨r, h3, h4⟩ := rn_S (vs := [.ref 1000]) (mw := mw) (Q := fun r => r = (some (iv 1), mw)) (gf := mm_gf gLJ0) (pf := mm_pf pLJ0) (mv := mm_mv vJ0_isLatin1_aae02) (ms := mm_mv zJ0_isLatin1_aae02) (kc := mm_kc kLJ0) (gs := gsJ0) (rf := rfJ0) (rt := (some .boolean)) (nL := 1) (ins := mm_ins iJ0_isLatin1_aae02) rfl (rn_up (N := 60) (M := mm_fuel) (by decide) (by
    refine r_gs rfl rfl ?_
    refine r_zeq (a := 1) rfl rfl (by decide) (fun h => ?_) (fun h => ?_)
    · exact absurd h (by decide)
    · refine r_al rfl rfl ?_
      refine r_gfo rfl (hn0 hm (by decide)) rfl ?_
      refine r_zne (a := 0) rfl rfl (by decide) (fun h => ?_) (fun h => ?_)
      · exact absurd rfl h
      · refine r_ic rfl ?_
        refine r_goto rfl rfl ?_
        exact r_retb rfl rfl (by decide) rfl))
  have h3 : sJ0_isLatin1_aae02 [.ref 1000] mw = some r := h3
  rw [h3, h4]
theorem c_chb00 (hm : mw.length = 67) : sJ1_charAt_3b067 [.ref 1100, iv 0] mw = some (some (iv 100), mw) := by
  obtain ⟨r, h3, h4⟩ := rn_S (vs := [.ref 1100, iv 0]) (mw := mw) (Q := fun r => r = (some (iv 100), mw)) (gf := mm_gf gLJ1) (pf := mm_pf pLJ1) (mv := mm_mv vJ1_charAt_3b067) (ms := mm_mv zJ1_charAt_3b067) (kc := mm_kc kLJ1) (gs := mm_gs0) (rf := mm_rf0) (rt := (some .char)) (nL := 2) (ins := mm_ins iJ1_charAt_3b067) rfl (rn_up (N := 60) (M := mm_fuel) (by decide) (by
    refine r_il rfl rfl ?_
    refine r_al rfl rfl ?_
    refine r_alo rfl (hn0 hm (by decide)) rfl ?_
    refine r_s2n rfl rfl rfl (show sJ0_checkIndex_df160 [iv 0, iv 4] mw = some (none, mw) from rfl) ?_
    refine r_al rfl rfl ?_
    refine r_il rfl rfl ?_
    refine r_bao rfl (hn0 hm (by decide)) rfl (by decide) (by decide) (by decide) ?_
    refine r_si rfl (by decide) ?_
    refine r_op (c := 100) rfl rfl ?_
    refine r_op1 (c := 100) rfl rfl ?_
    exact r_rett rfl rfl rfl rfl))
  have h3 : sJ1_charAt_3b067 [.ref 1100, iv 0] mw = some r := h3
  rw [h3, h4]
theorem c_chr00 (hm : mw.length = 67) : sJ0_charAt_5068e [.ref 1000, iv 0] mw = some (some (iv 100), mw) := by
  obtain ⟨r, h3, h4⟩ := rn_S (vs := [.ref 1000, iv 0]) (mw := mw) (Q := fun r => r = (some (iv 100), mw)) (gf := mm_gf gLJ0) (pf := mm_pf pLJ0) (mv := mm_mv vJ0_charAt_5068e) (ms := mm_mv zJ0_charAt_5068e) (kc := mm_kc kLJ0) (gs := gsJ0) (rf := rfJ0) (rt := (some .char)) (nL := 2) (ins := mm_ins iJ0_charAt_5068e) rfl (rn_up (N := 60) (M := mm_fuel) (by decide) (by
    refine r_al rfl rfl ?_
    refine r_o1s rfl rfl (hn0 hm (by decide)) rfl rfl (c_lat0 hm) ?_
    refine r_zeq rfl rfl (by decide) (fun h => ?_) (fun h => ?_)
    · exact absurd h (by decide)
    · refine r_al rfl rfl ?_
      refine r_gfo rfl (hn0 hm (by decide)) rfl ?_
      refine r_il rfl rfl ?_
      refine r_s2s rfl rfl rfl (c_chb00 hm) ?_
      exact r_rett rfl rfl rfl rfl))
  have h3 : sJ0_charAt_5068e [.ref 1000, iv 0] mw = some r := h3
  rw [h3, h4]
theorem c_chb01 (hm : mw.length = 67) : sJ1_charAt_3b067 [.ref 1100, iv 1] mw = some (some (iv 101), mw) := by
  obtain ⟨r, h3, h4⟩ := rn_S (vs := [.ref 1100, iv 1]) (mw := mw) (Q := fun r => r = (some (iv 101), mw)) (gf := mm_gf gLJ1) (pf := mm_pf pLJ1) (mv := mm_mv vJ1_charAt_3b067) (ms := mm_mv zJ1_charAt_3b067) (kc := mm_kc kLJ1) (gs := mm_gs0) (rf := mm_rf0) (rt := (some .char)) (nL := 2) (ins := mm_ins iJ1_charAt_3b067) rfl (rn_up (N := 60) (M := mm_fuel) (by decide) (by
    refine r_il rfl rfl ?_
    refine r_al rfl rfl ?_
    refine r_alo rfl (hn0 hm (by decide)) rfl ?_
    refine r_s2n rfl rfl rfl (show sJ0_checkIndex_df160 [iv 1, iv 4] mw = some (none, mw) from rfl) ?_
    refine r_al rfl rfl ?_
    refine r_il rfl rfl ?_
    refine r_bao rfl (hn0 hm (by decide)) rfl (by decide) (by decide) (by decide) ?_
    refine r_si rfl (by decide) ?_
    refine r_op (c := 101) rfl rfl ?_
    refine r_op1 (c := 101) rfl rfl ?_
    exact r_rett rfl rfl rfl rfl))
  have h3 : sJ1_charAt_3b067 [.ref 1100, iv 1] mw = some r := h3
  rw [h3, h4]
theorem c_chr01 (hm : mw.length = 67) : sJ0_charAt_5068e [.ref 1000, iv 1] mw = some (some (iv 101), mw) := by
  obtain ⟨r, h3, h4⟩ := rn_S (vs := [.ref 1000, iv 1]) (mw := mw) (Q := fun r => r = (some (iv 101), mw)) (gf := mm_gf gLJ0) (pf := mm_pf pLJ0) (mv := mm_mv vJ0_charAt_5068e) (ms := mm_mv zJ0_charAt_5068e) (kc := mm_kc kLJ0) (gs := gsJ0) (rf := rfJ0) (rt := (some .char)) (nL := 2) (ins := mm_ins iJ0_charAt_5068e) rfl (rn_up (N := 60) (M := mm_fuel) (by decide) (by
    refine r_al rfl rfl ?_
    refine r_o1s rfl rfl (hn0 hm (by decide)) rfl rfl (c_lat0 hm) ?_
    refine r_zeq rfl rfl (by decide) (fun h => ?_) (fun h => ?_)
    · exact absurd h (by decide)
    · refine r_al rfl rfl ?_
      refine r_gfo rfl (hn0 hm (by decide)) rfl ?_
      refine r_il rfl rfl ?_
      refine r_s2s rfl rfl rfl (c_chb01 hm) ?_
      exact r_rett rfl rfl rfl rfl))
  have h3 : sJ0_charAt_5068e [.ref 1000, iv 1] mw = some r := h3
  rw [h3, h4]
theorem c_chb02 (hm : mw.length = 67) : sJ1_charAt_3b067 [.ref 1100, iv 2] mw = some (some (iv 98), mw) := by
  obtain ⟨r, h3, h4⟩ := rn_S (vs := [.ref 1100, iv 2]) (mw := mw) (Q := fun r => r = (some (iv 98), mw)) (gf := mm_gf gLJ1) (pf := mm_pf pLJ1) (mv := mm_mv vJ1_charAt_3b067) (ms := mm_mv zJ1_charAt_3b067) (kc := mm_kc kLJ1) (gs := mm_gs0) (rf := mm_rf0) (rt := (some .char)) (nL := 2) (ins := mm_ins iJ1_charAt_3b067) rfl (rn_up (N := 60) (M := mm_fuel) (by decide) (by
    refine r_il rfl rfl ?_
    refine r_al rfl rfl ?_
    refine r_alo rfl (hn0 hm (by decide)) rfl ?_
    refine r_s2n rfl rfl rfl (show sJ0_checkIndex_df160 [iv 2, iv 4] mw = some (none, mw) from rfl) ?_
    refine r_al rfl rfl ?_
    refine r_il rfl rfl ?_
    refine r_bao rfl (hn0 hm (by decide)) rfl (by decide) (by decide) (by decide) ?_
    refine r_si rfl (by decide) ?_
    refine r_op (c := 98) rfl rfl ?_
    refine r_op1 (c := 98) rfl rfl ?_
    exact r_rett rfl rfl rfl rfl))
  have h3 : sJ1_charAt_3b067 [.ref 1100, iv 2] mw = some r := h3
  rw [h3, h4]
theorem c_chr02 (hm : mw.length = 67) : sJ0_charAt_5068e [.ref 1000, iv 2] mw = some (some (iv 98), mw) := by
  obtain ⟨r, h3, h4⟩ := rn_S (vs := [.ref 1000, iv 2]) (mw := mw) (Q := fun r => r = (some (iv 98), mw)) (gf := mm_gf gLJ0) (pf := mm_pf pLJ0) (mv := mm_mv vJ0_charAt_5068e) (ms := mm_mv zJ0_charAt_5068e) (kc := mm_kc kLJ0) (gs := gsJ0) (rf := rfJ0) (rt := (some .char)) (nL := 2) (ins := mm_ins iJ0_charAt_5068e) rfl (rn_up (N := 60) (M := mm_fuel) (by decide) (by
    refine r_al rfl rfl ?_
    refine r_o1s rfl rfl (hn0 hm (by decide)) rfl rfl (c_lat0 hm) ?_
    refine r_zeq rfl rfl (by decide) (fun h => ?_) (fun h => ?_)
    · exact absurd h (by decide)
    · refine r_al rfl rfl ?_
      refine r_gfo rfl (hn0 hm (by decide)) rfl ?_
      refine r_il rfl rfl ?_
      refine r_s2s rfl rfl rfl (c_chb02 hm) ?_
      exact r_rett rfl rfl rfl rfl))
  have h3 : sJ0_charAt_5068e [.ref 1000, iv 2] mw = some r := h3
  rw [h3, h4]
theorem c_chb03 (hm : mw.length = 67) : sJ1_charAt_3b067 [.ref 1100, iv 3] mw = some (some (iv 116), mw) := by
  obtain ⟨r, h3, h4⟩ := rn_S (vs := [.ref 1100, iv 3]) (mw := mw) (Q := fun r => r = (some (iv 116), mw)) (gf := mm_gf gLJ1) (pf := mm_pf pLJ1) (mv := mm_mv vJ1_charAt_3b067) (ms := mm_mv zJ1_charAt_3b067) (kc := mm_kc kLJ1) (gs := mm_gs0) (rf := mm_rf0) (rt := (some .char)) (nL := 2) (ins := mm_ins iJ1_charAt_3b067) rfl (rn_up (N := 60) (M := mm_fuel) (by decide) (by
    refine r_il rfl rfl ?_
    refine r_al rfl rfl ?_
    refine r_alo rfl (hn0 hm (by decide)) rfl ?_
    refine r_s2n rfl rfl rfl (show sJ0_checkIndex_df160 [iv 3, iv 4] mw = some (none, mw) from rfl) ?_
    refine r_al rfl rfl ?_
    refine r_il rfl rfl ?_
    refine r_bao rfl (hn0 hm (by decide)) rfl (by decide) (by decide) (by decide) ?_
    refine r_si rfl (by decide) ?_
    refine r_op (c := 116) rfl rfl ?_
    refine r_op1 (c := 116) rfl rfl ?_
    exact r_rett rfl rfl rfl rfl))
  have h3 : sJ1_charAt_3b067 [.ref 1100, iv 3] mw = some r := h3
  rw [h3, h4]
theorem c_chr03 (hm : mw.length = 67) : sJ0_charAt_5068e [.ref 1000, iv 3] mw = some (some (iv 116), mw) := by
  obtain ⟨r, h3, h4⟩ := rn_S (vs := [.ref 1000, iv 3]) (mw := mw) (Q := fun r => r = (some (iv 116), mw)) (gf := mm_gf gLJ0) (pf := mm_pf pLJ0) (mv := mm_mv vJ0_charAt_5068e) (ms := mm_mv zJ0_charAt_5068e) (kc := mm_kc kLJ0) (gs := gsJ0) (rf := rfJ0) (rt := (some .char)) (nL := 2) (ins := mm_ins iJ0_charAt_5068e) rfl (rn_up (N := 60) (M := mm_fuel) (by decide) (by
    refine r_al rfl rfl ?_
    refine r_o1s rfl rfl (hn0 hm (by decide)) rfl rfl (c_lat0 hm) ?_
    refine r_zeq rfl rfl (by decide) (fun h => ?_) (fun h => ?_)
    · exact absurd h (by decide)
    · refine r_al rfl rfl ?_
      refine r_gfo rfl (hn0 hm (by decide)) rfl ?_
      refine r_il rfl rfl ?_
      refine r_s2s rfl rfl rfl (c_chb03 hm) ?_
      exact r_rett rfl rfl rfl rfl))
  have h3 : sJ0_charAt_5068e [.ref 1000, iv 3] mw = some r := h3
  rw [h3, h4]
theorem c_coder1 (hm : mw.length = 67) : sJ0_coder_7d493 [.ref 1001] mw = some (some (iv 0), mw) := by
  obtain ⟨r, h3, h4⟩ := rn_S (vs := [.ref 1001]) (mw := mw) (Q := fun r => r = (some (iv 0), mw)) (gf := mm_gf gLJ0) (pf := mm_pf pLJ0) (mv := mm_mv vJ0_coder_7d493) (ms := mm_mv zJ0_coder_7d493) (kc := mm_kc kLJ0) (gs := gsJ0) (rf := rfJ0) (rt := (some .byte)) (nL := 1) (ins := mm_ins iJ0_coder_7d493) rfl (rn_up (N := 60) (M := mm_fuel) (by decide) (by
    refine r_gs rfl rfl ?_
    refine r_zeq (a := 1) rfl rfl (by decide) (fun h => ?_) (fun h => ?_)
    · exact absurd h (by decide)
    · refine r_al rfl rfl ?_
      refine r_gfo rfl (hn0 hm (by decide)) rfl ?_
      refine r_goto rfl rfl ?_
      exact r_rett (z := 0) rfl rfl rfl rfl))
  have h3 : sJ0_coder_7d493 [.ref 1001] mw = some r := h3
  rw [h3, h4]
theorem c_len1 (hm : mw.length = 67) : sJ0_length_8abf5 [.ref 1001] mw = some (some (iv 5), mw) := by
  obtain ⟨r, h3, h4⟩ := rn_S (vs := [.ref 1001]) (mw := mw) (Q := fun r => r = (some (iv 5), mw)) (gf := mm_gf gLJ0) (pf := mm_pf pLJ0) (mv := mm_mv vJ0_length_8abf5) (ms := mm_mv zJ0_length_8abf5) (kc := mm_kc kLJ0) (gs := gsJ0) (rf := rfJ0) (rt := (some .int)) (nL := 1) (ins := mm_ins iJ0_length_8abf5) rfl (rn_up (N := 60) (M := mm_fuel) (by decide) (by
    refine r_al rfl rfl ?_
    refine r_gfo rfl (hn0 hm (by decide)) rfl ?_
    refine r_alo rfl (hn0 hm (by decide)) rfl ?_
    refine r_al rfl rfl ?_
    refine r_o1s rfl rfl (hn0 hm (by decide)) rfl rfl (c_coder1 hm) ?_
    refine r_op (c := 5) rfl rfl ?_
    exact r_ret rfl rfl rfl))
  have h3 : sJ0_length_8abf5 [.ref 1001] mw = some r := h3
  rw [h3, h4]
theorem c_lat1 (hm : mw.length = 67) : sJ0_isLatin1_aae02 [.ref 1001] mw = some (some (iv 1), mw) := by
  obtain ⟨r, h3, h4⟩ := rn_S (vs := [.ref 1001]) (mw := mw) (Q := fun r => r = (some (iv 1), mw)) (gf := mm_gf gLJ0) (pf := mm_pf pLJ0) (mv := mm_mv vJ0_isLatin1_aae02) (ms := mm_mv zJ0_isLatin1_aae02) (kc := mm_kc kLJ0) (gs := gsJ0) (rf := rfJ0) (rt := (some .boolean)) (nL := 1) (ins := mm_ins iJ0_isLatin1_aae02) rfl (rn_up (N := 60) (M := mm_fuel) (by decide) (by
    refine r_gs rfl rfl ?_
    refine r_zeq (a := 1) rfl rfl (by decide) (fun h => ?_) (fun h => ?_)
    · exact absurd h (by decide)
    · refine r_al rfl rfl ?_
      refine r_gfo rfl (hn0 hm (by decide)) rfl ?_
      refine r_zne (a := 0) rfl rfl (by decide) (fun h => ?_) (fun h => ?_)
      · exact absurd rfl h
      · refine r_ic rfl ?_
        refine r_goto rfl rfl ?_
        exact r_retb rfl rfl (by decide) rfl))
  have h3 : sJ0_isLatin1_aae02 [.ref 1001] mw = some r := h3
  rw [h3, h4]
theorem c_chb10 (hm : mw.length = 67) : sJ1_charAt_3b067 [.ref 1101, iv 0] mw = some (some (iv 115), mw) := by
  obtain ⟨r, h3, h4⟩ := rn_S (vs := [.ref 1101, iv 0]) (mw := mw) (Q := fun r => r = (some (iv 115), mw)) (gf := mm_gf gLJ1) (pf := mm_pf pLJ1) (mv := mm_mv vJ1_charAt_3b067) (ms := mm_mv zJ1_charAt_3b067) (kc := mm_kc kLJ1) (gs := mm_gs0) (rf := mm_rf0) (rt := (some .char)) (nL := 2) (ins := mm_ins iJ1_charAt_3b067) rfl (rn_up (N := 60) (M := mm_fuel) (by decide) (by
    refine r_il rfl rfl ?_
    refine r_al rfl rfl ?_
    refine r_alo rfl (hn0 hm (by decide)) rfl ?_
    refine r_s2n rfl rfl rfl (show sJ0_checkIndex_df160 [iv 0, iv 5] mw = some (none, mw) from rfl) ?_
    refine r_al rfl rfl ?_
    refine r_il rfl rfl ?_
    refine r_bao rfl (hn0 hm (by decide)) rfl (by decide) (by decide) (by decide) ?_
    refine r_si rfl (by decide) ?_
    refine r_op (c := 115) rfl rfl ?_
    refine r_op1 (c := 115) rfl rfl ?_
    exact r_rett rfl rfl rfl rfl))
  have h3 : sJ1_charAt_3b067 [.ref 1101, iv 0] mw = some r := h3
  rw [h3, h4]
theorem c_chr10 (hm : mw.length = 67) : sJ0_charAt_5068e [.ref 1001, iv 0] mw = some (some (iv 115), mw) := by
  obtain ⟨r, h3, h4⟩ := rn_S (vs := [.ref 1001, iv 0]) (mw := mw) (Q := fun r => r = (some (iv 115), mw)) (gf := mm_gf gLJ0) (pf := mm_pf pLJ0) (mv := mm_mv vJ0_charAt_5068e) (ms := mm_mv zJ0_charAt_5068e) (kc := mm_kc kLJ0) (gs := gsJ0) (rf := rfJ0) (rt := (some .char)) (nL := 2) (ins := mm_ins iJ0_charAt_5068e) rfl (rn_up (N := 60) (M := mm_fuel) (by decide) (by
    refine r_al rfl rfl ?_
    refine r_o1s rfl rfl (hn0 hm (by decide)) rfl rfl (c_lat1 hm) ?_
    refine r_zeq rfl rfl (by decide) (fun h => ?_) (fun h => ?_)
    · exact absurd h (by decide)
    · refine r_al rfl rfl ?_
      refine r_gfo rfl (hn0 hm (by decide)) rfl ?_
      refine r_il rfl rfl ?_
      refine r_s2s rfl rfl rfl (c_chb10 hm) ?_
      exact r_rett rfl rfl rfl rfl))
  have h3 : sJ0_charAt_5068e [.ref 1001, iv 0] mw = some r := h3
  rw [h3, h4]
theorem c_chb11 (hm : mw.length = 67) : sJ1_charAt_3b067 [.ref 1101, iv 1] mw = some (some (iv 116), mw) := by
  obtain ⟨r, h3, h4⟩ := rn_S (vs := [.ref 1101, iv 1]) (mw := mw) (Q := fun r => r = (some (iv 116), mw)) (gf := mm_gf gLJ1) (pf := mm_pf pLJ1) (mv := mm_mv vJ1_charAt_3b067) (ms := mm_mv zJ1_charAt_3b067) (kc := mm_kc kLJ1) (gs := mm_gs0) (rf := mm_rf0) (rt := (some .char)) (nL := 2) (ins := mm_ins iJ1_charAt_3b067) rfl (rn_up (N := 60) (M := mm_fuel) (by decide) (by
    refine r_il rfl rfl ?_
    refine r_al rfl rfl ?_
    refine r_alo rfl (hn0 hm (by decide)) rfl ?_
    refine r_s2n rfl rfl rfl (show sJ0_checkIndex_df160 [iv 1, iv 5] mw = some (none, mw) from rfl) ?_
    refine r_al rfl rfl ?_
    refine r_il rfl rfl ?_
    refine r_bao rfl (hn0 hm (by decide)) rfl (by decide) (by decide) (by decide) ?_
    refine r_si rfl (by decide) ?_
    refine r_op (c := 116) rfl rfl ?_
    refine r_op1 (c := 116) rfl rfl ?_
    exact r_rett rfl rfl rfl rfl))
  have h3 : sJ1_charAt_3b067 [.ref 1101, iv 1] mw = some r := h3
  rw [h3, h4]
theorem c_chr11 (hm : mw.length = 67) : sJ0_charAt_5068e [.ref 1001, iv 1] mw = some (some (iv 116), mw) := by
  obtain ⟨r, h3, h4⟩ := rn_S (vs := [.ref 1001, iv 1]) (mw := mw) (Q := fun r => r = (some (iv 116), mw)) (gf := mm_gf gLJ0) (pf := mm_pf pLJ0) (mv := mm_mv vJ0_charAt_5068e) (ms := mm_mv zJ0_charAt_5068e) (kc := mm_kc kLJ0) (gs := gsJ0) (rf := rfJ0) (rt := (some .char)) (nL := 2) (ins := mm_ins iJ0_charAt_5068e) rfl (rn_up (N := 60) (M := mm_fuel) (by decide) (by
    refine r_al rfl rfl ?_
    refine r_o1s rfl rfl (hn0 hm (by decide)) rfl rfl (c_lat1 hm) ?_
    refine r_zeq rfl rfl (by decide) (fun h => ?_) (fun h => ?_)
    · exact absurd h (by decide)
    · refine r_al rfl rfl ?_
      refine r_gfo rfl (hn0 hm (by decide)) rfl ?_
      refine r_il rfl rfl ?_
      refine r_s2s rfl rfl rfl (c_chb11 hm) ?_
      exact r_rett rfl rfl rfl rfl))
  have h3 : sJ0_charAt_5068e [.ref 1001, iv 1] mw = some r := h3
  rw [h3, h4]
theorem c_chb12 (hm : mw.length = 67) : sJ1_charAt_3b067 [.ref 1101, iv 2] mw = some (some (iv 97), mw) := by
  obtain ⟨r, h3, h4⟩ := rn_S (vs := [.ref 1101, iv 2]) (mw := mw) (Q := fun r => r = (some (iv 97), mw)) (gf := mm_gf gLJ1) (pf := mm_pf pLJ1) (mv := mm_mv vJ1_charAt_3b067) (ms := mm_mv zJ1_charAt_3b067) (kc := mm_kc kLJ1) (gs := mm_gs0) (rf := mm_rf0) (rt := (some .char)) (nL := 2) (ins := mm_ins iJ1_charAt_3b067) rfl (rn_up (N := 60) (M := mm_fuel) (by decide) (by
    refine r_il rfl rfl ?_
    refine r_al rfl rfl ?_
    refine r_alo rfl (hn0 hm (by decide)) rfl ?_
    refine r_s2n rfl rfl rfl (show sJ0_checkIndex_df160 [iv 2, iv 5] mw = some (none, mw) from rfl) ?_
    refine r_al rfl rfl ?_
    refine r_il rfl rfl ?_
    refine r_bao rfl (hn0 hm (by decide)) rfl (by decide) (by decide) (by decide) ?_
    refine r_si rfl (by decide) ?_
    refine r_op (c := 97) rfl rfl ?_
    refine r_op1 (c := 97) rfl rfl ?_
    exact r_rett rfl rfl rfl rfl))
  have h3 : sJ1_charAt_3b067 [.ref 1101, iv 2] mw = some r := h3
  rw [h3, h4]
theorem c_chr12 (hm : mw.length = 67) : sJ0_charAt_5068e [.ref 1001, iv 2] mw = some (some (iv 97), mw) := by
  obtain ⟨r, h3, h4⟩ := rn_S (vs := [.ref 1001, iv 2]) (mw := mw) (Q := fun r => r = (some (iv 97), mw)) (gf := mm_gf gLJ0) (pf := mm_pf pLJ0) (mv := mm_mv vJ0_charAt_5068e) (ms := mm_mv zJ0_charAt_5068e) (kc := mm_kc kLJ0) (gs := gsJ0) (rf := rfJ0) (rt := (some .char)) (nL := 2) (ins := mm_ins iJ0_charAt_5068e) rfl (rn_up (N := 60) (M := mm_fuel) (by decide) (by
    refine r_al rfl rfl ?_
    refine r_o1s rfl rfl (hn0 hm (by decide)) rfl rfl (c_lat1 hm) ?_
    refine r_zeq rfl rfl (by decide) (fun h => ?_) (fun h => ?_)
    · exact absurd h (by decide)
    · refine r_al rfl rfl ?_
      refine r_gfo rfl (hn0 hm (by decide)) rfl ?_
      refine r_il rfl rfl ?_
      refine r_s2s rfl rfl rfl (c_chb12 hm) ?_
      exact r_rett rfl rfl rfl rfl))
  have h3 : sJ0_charAt_5068e [.ref 1001, iv 2] mw = some r := h3
  rw [h3, h4]
theorem c_chb13 (hm : mw.length = 67) : sJ1_charAt_3b067 [.ref 1101, iv 3] mw = some (some (iv 110), mw) := by
  obtain ⟨r, h3, h4⟩ := rn_S (vs := [.ref 1101, iv 3]) (mw := mw) (Q := fun r => r = (some (iv 110), mw)) (gf := mm_gf gLJ1) (pf := mm_pf pLJ1) (mv := mm_mv vJ1_charAt_3b067) (ms := mm_mv zJ1_charAt_3b067) (kc := mm_kc kLJ1) (gs := mm_gs0) (rf := mm_rf0) (rt := (some .char)) (nL := 2) (ins := mm_ins iJ1_charAt_3b067) rfl (rn_up (N := 60) (M := mm_fuel) (by decide) (by
    refine r_il rfl rfl ?_
    refine r_al rfl rfl ?_
    refine r_alo rfl (hn0 hm (by decide)) rfl ?_
    refine r_s2n rfl rfl rfl (show sJ0_checkIndex_df160 [iv 3, iv 5] mw = some (none, mw) from rfl) ?_
    refine r_al rfl rfl ?_
    refine r_il rfl rfl ?_
    refine r_bao rfl (hn0 hm (by decide)) rfl (by decide) (by decide) (by decide) ?_
    refine r_si rfl (by decide) ?_
    refine r_op (c := 110) rfl rfl ?_
    refine r_op1 (c := 110) rfl rfl ?_
    exact r_rett rfl rfl rfl rfl))
  have h3 : sJ1_charAt_3b067 [.ref 1101, iv 3] mw = some r := h3
  rw [h3, h4]
theorem c_chr13 (hm : mw.length = 67) : sJ0_charAt_5068e [.ref 1001, iv 3] mw = some (some (iv 110), mw) := by
  obtain ⟨r, h3, h4⟩ := rn_S (vs := [.ref 1001, iv 3]) (mw := mw) (Q := fun r => r = (some (iv 110), mw)) (gf := mm_gf gLJ0) (pf := mm_pf pLJ0) (mv := mm_mv vJ0_charAt_5068e) (ms := mm_mv zJ0_charAt_5068e) (kc := mm_kc kLJ0) (gs := gsJ0) (rf := rfJ0) (rt := (some .char)) (nL := 2) (ins := mm_ins iJ0_charAt_5068e) rfl (rn_up (N := 60) (M := mm_fuel) (by decide) (by
    refine r_al rfl rfl ?_
    refine r_o1s rfl rfl (hn0 hm (by decide)) rfl rfl (c_lat1 hm) ?_
    refine r_zeq rfl rfl (by decide) (fun h => ?_) (fun h => ?_)
    · exact absurd h (by decide)
    · refine r_al rfl rfl ?_
      refine r_gfo rfl (hn0 hm (by decide)) rfl ?_
      refine r_il rfl rfl ?_
      refine r_s2s rfl rfl rfl (c_chb13 hm) ?_
      exact r_rett rfl rfl rfl rfl))
  have h3 : sJ0_charAt_5068e [.ref 1001, iv 3] mw = some r := h3
  rw [h3, h4]
theorem c_chb14 (hm : mw.length = 67) : sJ1_charAt_3b067 [.ref 1101, iv 4] mw = some (some (iv 100), mw) := by
  obtain ⟨r, h3, h4⟩ := rn_S (vs := [.ref 1101, iv 4]) (mw := mw) (Q := fun r => r = (some (iv 100), mw)) (gf := mm_gf gLJ1) (pf := mm_pf pLJ1) (mv := mm_mv vJ1_charAt_3b067) (ms := mm_mv zJ1_charAt_3b067) (kc := mm_kc kLJ1) (gs := mm_gs0) (rf := mm_rf0) (rt := (some .char)) (nL := 2) (ins := mm_ins iJ1_charAt_3b067) rfl (rn_up (N := 60) (M := mm_fuel) (by decide) (by
    refine r_il rfl rfl ?_
    refine r_al rfl rfl ?_
    refine r_alo rfl (hn0 hm (by decide)) rfl ?_
    refine r_s2n rfl rfl rfl (show sJ0_checkIndex_df160 [iv 4, iv 5] mw = some (none, mw) from rfl) ?_
    refine r_al rfl rfl ?_
    refine r_il rfl rfl ?_
    refine r_bao rfl (hn0 hm (by decide)) rfl (by decide) (by decide) (by decide) ?_
    refine r_si rfl (by decide) ?_
    refine r_op (c := 100) rfl rfl ?_
    refine r_op1 (c := 100) rfl rfl ?_
    exact r_rett rfl rfl rfl rfl))
  have h3 : sJ1_charAt_3b067 [.ref 1101, iv 4] mw = some r := h3
  rw [h3, h4]
theorem c_chr14 (hm : mw.length = 67) : sJ0_charAt_5068e [.ref 1001, iv 4] mw = some (some (iv 100), mw) := by
  obtain ⟨r, h3, h4⟩ := rn_S (vs := [.ref 1001, iv 4]) (mw := mw) (Q := fun r => r = (some (iv 100), mw)) (gf := mm_gf gLJ0) (pf := mm_pf pLJ0) (mv := mm_mv vJ0_charAt_5068e) (ms := mm_mv zJ0_charAt_5068e) (kc := mm_kc kLJ0) (gs := gsJ0) (rf := rfJ0) (rt := (some .char)) (nL := 2) (ins := mm_ins iJ0_charAt_5068e) rfl (rn_up (N := 60) (M := mm_fuel) (by decide) (by
    refine r_al rfl rfl ?_
    refine r_o1s rfl rfl (hn0 hm (by decide)) rfl rfl (c_lat1 hm) ?_
    refine r_zeq rfl rfl (by decide) (fun h => ?_) (fun h => ?_)
    · exact absurd h (by decide)
    · refine r_al rfl rfl ?_
      refine r_gfo rfl (hn0 hm (by decide)) rfl ?_
      refine r_il rfl rfl ?_
      refine r_s2s rfl rfl rfl (c_chb14 hm) ?_
      exact r_rett rfl rfl rfl rfl))
  have h3 : sJ0_charAt_5068e [.ref 1001, iv 4] mw = some r := h3
  rw [h3, h4]
theorem c_coder2 (hm : mw.length = 67) : sJ0_coder_7d493 [.ref 1002] mw = some (some (iv 0), mw) := by
  obtain ⟨r, h3, h4⟩ := rn_S (vs := [.ref 1002]) (mw := mw) (Q := fun r => r = (some (iv 0), mw)) (gf := mm_gf gLJ0) (pf := mm_pf pLJ0) (mv := mm_mv vJ0_coder_7d493) (ms := mm_mv zJ0_coder_7d493) (kc := mm_kc kLJ0) (gs := gsJ0) (rf := rfJ0) (rt := (some .byte)) (nL := 1) (ins := mm_ins iJ0_coder_7d493) rfl (rn_up (N := 60) (M := mm_fuel) (by decide) (by
    refine r_gs rfl rfl ?_
    refine r_zeq (a := 1) rfl rfl (by decide) (fun h => ?_) (fun h => ?_)
    · exact absurd h (by decide)
    · refine r_al rfl rfl ?_
      refine r_gfo rfl (hn0 hm (by decide)) rfl ?_
      refine r_goto rfl rfl ?_
      exact r_rett (z := 0) rfl rfl rfl rfl))
  have h3 : sJ0_coder_7d493 [.ref 1002] mw = some r := h3
  rw [h3, h4]
theorem c_len2 (hm : mw.length = 67) : sJ0_length_8abf5 [.ref 1002] mw = some (some (iv 4), mw) := by
  obtain ⟨r, h3, h4⟩ := rn_S (vs := [.ref 1002]) (mw := mw) (Q := fun r => r = (some (iv 4), mw)) (gf := mm_gf gLJ0) (pf := mm_pf pLJ0) (mv := mm_mv vJ0_length_8abf5) (ms := mm_mv zJ0_length_8abf5) (kc := mm_kc kLJ0) (gs := gsJ0) (rf := rfJ0) (rt := (some .int)) (nL := 1) (ins := mm_ins iJ0_length_8abf5) rfl (rn_up (N := 60) (M := mm_fuel) (by decide) (by
    refine r_al rfl rfl ?_
    refine r_gfo rfl (hn0 hm (by decide)) rfl ?_
    refine r_alo rfl (hn0 hm (by decide)) rfl ?_
    refine r_al rfl rfl ?_
    refine r_o1s rfl rfl (hn0 hm (by decide)) rfl rfl (c_coder2 hm) ?_
    refine r_op (c := 4) rfl rfl ?_
    exact r_ret rfl rfl rfl))
  have h3 : sJ0_length_8abf5 [.ref 1002] mw = some r := h3
  rw [h3, h4]
theorem c_lat2 (hm : mw.length = 67) : sJ0_isLatin1_aae02 [.ref 1002] mw = some (some (iv 1), mw) := by
  obtain ⟨r, h3, h4⟩ := rn_S (vs := [.ref 1002]) (mw := mw) (Q := fun r => r = (some (iv 1), mw)) (gf := mm_gf gLJ0) (pf := mm_pf pLJ0) (mv := mm_mv vJ0_isLatin1_aae02) (ms := mm_mv zJ0_isLatin1_aae02) (kc := mm_kc kLJ0) (gs := gsJ0) (rf := rfJ0) (rt := (some .boolean)) (nL := 1) (ins := mm_ins iJ0_isLatin1_aae02) rfl (rn_up (N := 60) (M := mm_fuel) (by decide) (by
    refine r_gs rfl rfl ?_
    refine r_zeq (a := 1) rfl rfl (by decide) (fun h => ?_) (fun h => ?_)
    · exact absurd h (by decide)
    · refine r_al rfl rfl ?_
      refine r_gfo rfl (hn0 hm (by decide)) rfl ?_
      refine r_zne (a := 0) rfl rfl (by decide) (fun h => ?_) (fun h => ?_)
      · exact absurd rfl h
      · refine r_ic rfl ?_
        refine r_goto rfl rfl ?_
        exact r_retb rfl rfl (by decide) rfl))
  have h3 : sJ0_isLatin1_aae02 [.ref 1002] mw = some r := h3
  rw [h3, h4]
theorem c_chb20 (hm : mw.length = 67) : sJ1_charAt_3b067 [.ref 1102, iv 0] mw = some (some (iv 111), mw) := by
  obtain ⟨r, h3, h4⟩ := rn_S (vs := [.ref 1102, iv 0]) (mw := mw) (Q := fun r => r = (some (iv 111), mw)) (gf := mm_gf gLJ1) (pf := mm_pf pLJ1) (mv := mm_mv vJ1_charAt_3b067) (ms := mm_mv zJ1_charAt_3b067) (kc := mm_kc kLJ1) (gs := mm_gs0) (rf := mm_rf0) (rt := (some .char)) (nL := 2) (ins := mm_ins iJ1_charAt_3b067) rfl (rn_up (N := 60) (M := mm_fuel) (by decide) (by
    refine r_il rfl rfl ?_
    refine r_al rfl rfl ?_
    refine r_alo rfl (hn0 hm (by decide)) rfl ?_
    refine r_s2n rfl rfl rfl (show sJ0_checkIndex_df160 [iv 0, iv 4] mw = some (none, mw) from rfl) ?_
    refine r_al rfl rfl ?_
    refine r_il rfl rfl ?_
    refine r_bao rfl (hn0 hm (by decide)) rfl (by decide) (by decide) (by decide) ?_
    refine r_si rfl (by decide) ?_
    refine r_op (c := 111) rfl rfl ?_
    refine r_op1 (c := 111) rfl rfl ?_
    exact r_rett rfl rfl rfl rfl))
  have h3 : sJ1_charAt_3b067 [.ref 1102, iv 0] mw = some r := h3
  rw [h3, h4]
theorem c_chr20 (hm : mw.length = 67) : sJ0_charAt_5068e [.ref 1002, iv 0] mw = some (some (iv 111), mw) := by
  obtain ⟨r, h3, h4⟩ := rn_S (vs := [.ref 1002, iv 0]) (mw := mw) (Q := fun r => r = (some (iv 111), mw)) (gf := mm_gf gLJ0) (pf := mm_pf pLJ0) (mv := mm_mv vJ0_charAt_5068e) (ms := mm_mv zJ0_charAt_5068e) (kc := mm_kc kLJ0) (gs := gsJ0) (rf := rfJ0) (rt := (some .char)) (nL := 2) (ins := mm_ins iJ0_charAt_5068e) rfl (rn_up (N := 60) (M := mm_fuel) (by decide) (by
    refine r_al rfl rfl ?_
    refine r_o1s rfl rfl (hn0 hm (by decide)) rfl rfl (c_lat2 hm) ?_
    refine r_zeq rfl rfl (by decide) (fun h => ?_) (fun h => ?_)
    · exact absurd h (by decide)
    · refine r_al rfl rfl ?_
      refine r_gfo rfl (hn0 hm (by decide)) rfl ?_
      refine r_il rfl rfl ?_
      refine r_s2s rfl rfl rfl (c_chb20 hm) ?_
      exact r_rett rfl rfl rfl rfl))
  have h3 : sJ0_charAt_5068e [.ref 1002, iv 0] mw = some r := h3
  rw [h3, h4]
theorem c_chb21 (hm : mw.length = 67) : sJ1_charAt_3b067 [.ref 1102, iv 1] mw = some (some (iv 118), mw) := by
  obtain ⟨r, h3, h4⟩ := rn_S (vs := [.ref 1102, iv 1]) (mw := mw) (Q := fun r => r = (some (iv 118), mw)) (gf := mm_gf gLJ1) (pf := mm_pf pLJ1) (mv := mm_mv vJ1_charAt_3b067) (ms := mm_mv zJ1_charAt_3b067) (kc := mm_kc kLJ1) (gs := mm_gs0) (rf := mm_rf0) (rt := (some .char)) (nL := 2) (ins := mm_ins iJ1_charAt_3b067) rfl (rn_up (N := 60) (M := mm_fuel) (by decide) (by
    refine r_il rfl rfl ?_
    refine r_al rfl rfl ?_
    refine r_alo rfl (hn0 hm (by decide)) rfl ?_
    refine r_s2n rfl rfl rfl (show sJ0_checkIndex_df160 [iv 1, iv 4] mw = some (none, mw) from rfl) ?_
    refine r_al rfl rfl ?_
    refine r_il rfl rfl ?_
    refine r_bao rfl (hn0 hm (by decide)) rfl (by decide) (by decide) (by decide) ?_
    refine r_si rfl (by decide) ?_
    refine r_op (c := 118) rfl rfl ?_
    refine r_op1 (c := 118) rfl rfl ?_
    exact r_rett rfl rfl rfl rfl))
  have h3 : sJ1_charAt_3b067 [.ref 1102, iv 1] mw = some r := h3
  rw [h3, h4]
theorem c_chr21 (hm : mw.length = 67) : sJ0_charAt_5068e [.ref 1002, iv 1] mw = some (some (iv 118), mw) := by
  obtain ⟨r, h3, h4⟩ := rn_S (vs := [.ref 1002, iv 1]) (mw := mw) (Q := fun r => r = (some (iv 118), mw)) (gf := mm_gf gLJ0) (pf := mm_pf pLJ0) (mv := mm_mv vJ0_charAt_5068e) (ms := mm_mv zJ0_charAt_5068e) (kc := mm_kc kLJ0) (gs := gsJ0) (rf := rfJ0) (rt := (some .char)) (nL := 2) (ins := mm_ins iJ0_charAt_5068e) rfl (rn_up (N := 60) (M := mm_fuel) (by decide) (by
    refine r_al rfl rfl ?_
    refine r_o1s rfl rfl (hn0 hm (by decide)) rfl rfl (c_lat2 hm) ?_
    refine r_zeq rfl rfl (by decide) (fun h => ?_) (fun h => ?_)
    · exact absurd h (by decide)
    · refine r_al rfl rfl ?_
      refine r_gfo rfl (hn0 hm (by decide)) rfl ?_
      refine r_il rfl rfl ?_
      refine r_s2s rfl rfl rfl (c_chb21 hm) ?_
      exact r_rett rfl rfl rfl rfl))
  have h3 : sJ0_charAt_5068e [.ref 1002, iv 1] mw = some r := h3
  rw [h3, h4]
theorem c_chb22 (hm : mw.length = 67) : sJ1_charAt_3b067 [.ref 1102, iv 2] mw = some (some (iv 101), mw) := by
  obtain ⟨r, h3, h4⟩ := rn_S (vs := [.ref 1102, iv 2]) (mw := mw) (Q := fun r => r = (some (iv 101), mw)) (gf := mm_gf gLJ1) (pf := mm_pf pLJ1) (mv := mm_mv vJ1_charAt_3b067) (ms := mm_mv zJ1_charAt_3b067) (kc := mm_kc kLJ1) (gs := mm_gs0) (rf := mm_rf0) (rt := (some .char)) (nL := 2) (ins := mm_ins iJ1_charAt_3b067) rfl (rn_up (N := 60) (M := mm_fuel) (by decide) (by
    refine r_il rfl rfl ?_
    refine r_al rfl rfl ?_
    refine r_alo rfl (hn0 hm (by decide)) rfl ?_
    refine r_s2n rfl rfl rfl (show sJ0_checkIndex_df160 [iv 2, iv 4] mw = some (none, mw) from rfl) ?_
    refine r_al rfl rfl ?_
    refine r_il rfl rfl ?_
    refine r_bao rfl (hn0 hm (by decide)) rfl (by decide) (by decide) (by decide) ?_
    refine r_si rfl (by decide) ?_
    refine r_op (c := 101) rfl rfl ?_
    refine r_op1 (c := 101) rfl rfl ?_
    exact r_rett rfl rfl rfl rfl))
  have h3 : sJ1_charAt_3b067 [.ref 1102, iv 2] mw = some r := h3
  rw [h3, h4]
theorem c_chr22 (hm : mw.length = 67) : sJ0_charAt_5068e [.ref 1002, iv 2] mw = some (some (iv 101), mw) := by
  obtain ⟨r, h3, h4⟩ := rn_S (vs := [.ref 1002, iv 2]) (mw := mw) (Q := fun r => r = (some (iv 101), mw)) (gf := mm_gf gLJ0) (pf := mm_pf pLJ0) (mv := mm_mv vJ0_charAt_5068e) (ms := mm_mv zJ0_charAt_5068e) (kc := mm_kc kLJ0) (gs := gsJ0) (rf := rfJ0) (rt := (some .char)) (nL := 2) (ins := mm_ins iJ0_charAt_5068e) rfl (rn_up (N := 60) (M := mm_fuel) (by decide) (by
    refine r_al rfl rfl ?_
    refine r_o1s rfl rfl (hn0 hm (by decide)) rfl rfl (c_lat2 hm) ?_
    refine r_zeq rfl rfl (by decide) (fun h => ?_) (fun h => ?_)
    · exact absurd h (by decide)
    · refine r_al rfl rfl ?_
      refine r_gfo rfl (hn0 hm (by decide)) rfl ?_
      refine r_il rfl rfl ?_
      refine r_s2s rfl rfl rfl (c_chb22 hm) ?_
      exact r_rett rfl rfl rfl rfl))
  have h3 : sJ0_charAt_5068e [.ref 1002, iv 2] mw = some r := h3
  rw [h3, h4]
theorem c_chb23 (hm : mw.length = 67) : sJ1_charAt_3b067 [.ref 1102, iv 3] mw = some (some (iv 114), mw) := by
  obtain ⟨r, h3, h4⟩ := rn_S (vs := [.ref 1102, iv 3]) (mw := mw) (Q := fun r => r = (some (iv 114), mw)) (gf := mm_gf gLJ1) (pf := mm_pf pLJ1) (mv := mm_mv vJ1_charAt_3b067) (ms := mm_mv zJ1_charAt_3b067) (kc := mm_kc kLJ1) (gs := mm_gs0) (rf := mm_rf0) (rt := (some .char)) (nL := 2) (ins := mm_ins iJ1_charAt_3b067) rfl (rn_up (N := 60) (M := mm_fuel) (by decide) (by
    refine r_il rfl rfl ?_
    refine r_al rfl rfl ?_
    refine r_alo rfl (hn0 hm (by decide)) rfl ?_
    refine r_s2n rfl rfl rfl (show sJ0_checkIndex_df160 [iv 3, iv 4] mw = some (none, mw) from rfl) ?_
    refine r_al rfl rfl ?_
    refine r_il rfl rfl ?_
    refine r_bao rfl (hn0 hm (by decide)) rfl (by decide) (by decide) (by decide) ?_
    refine r_si rfl (by decide) ?_
    refine r_op (c := 114) rfl rfl ?_
    refine r_op1 (c := 114) rfl rfl ?_
    exact r_rett rfl rfl rfl rfl))
  have h3 : sJ1_charAt_3b067 [.ref 1102, iv 3] mw = some r := h3
  rw [h3, h4]
theorem c_chr23 (hm : mw.length = 67) : sJ0_charAt_5068e [.ref 1002, iv 3] mw = some (some (iv 114), mw) := by
  obtain ⟨r, h3, h4⟩ := rn_S (vs := [.ref 1002, iv 3]) (mw := mw) (Q := fun r => r = (some (iv 114), mw)) (gf := mm_gf gLJ0) (pf := mm_pf pLJ0) (mv := mm_mv vJ0_charAt_5068e) (ms := mm_mv zJ0_charAt_5068e) (kc := mm_kc kLJ0) (gs := gsJ0) (rf := rfJ0) (rt := (some .char)) (nL := 2) (ins := mm_ins iJ0_charAt_5068e) rfl (rn_up (N := 60) (M := mm_fuel) (by decide) (by
    refine r_al rfl rfl ?_
    refine r_o1s rfl rfl (hn0 hm (by decide)) rfl rfl (c_lat2 hm) ?_
    refine r_zeq rfl rfl (by decide) (fun h => ?_) (fun h => ?_)
    · exact absurd h (by decide)
    · refine r_al rfl rfl ?_
      refine r_gfo rfl (hn0 hm (by decide)) rfl ?_
      refine r_il rfl rfl ?_
      refine r_s2s rfl rfl rfl (c_chb23 hm) ?_
      exact r_rett rfl rfl rfl rfl))
  have h3 : sJ0_charAt_5068e [.ref 1002, iv 3] mw = some r := h3
  rw [h3, h4]
theorem c_coder3 (hm : mw.length = 67) : sJ0_coder_7d493 [.ref 1003] mw = some (some (iv 0), mw) := by
  obtain ⟨r, h3, h4⟩ := rn_S (vs := [.ref 1003]) (mw := mw) (Q := fun r => r = (some (iv 0), mw)) (gf := mm_gf gLJ0) (pf := mm_pf pLJ0) (mv := mm_mv vJ0_coder_7d493) (ms := mm_mv zJ0_coder_7d493) (kc := mm_kc kLJ0) (gs := gsJ0) (rf := rfJ0) (rt := (some .byte)) (nL := 1) (ins := mm_ins iJ0_coder_7d493) rfl (rn_up (N := 60) (M := mm_fuel) (by decide) (by
    refine r_gs rfl rfl ?_
    refine r_zeq (a := 1) rfl rfl (by decide) (fun h => ?_) (fun h => ?_)
    · exact absurd h (by decide)
    · refine r_al rfl rfl ?_
      refine r_gfo rfl (hn0 hm (by decide)) rfl ?_
      refine r_goto rfl rfl ?_
      exact r_rett (z := 0) rfl rfl rfl rfl))
  have h3 : sJ0_coder_7d493 [.ref 1003] mw = some r := h3
  rw [h3, h4]
theorem c_len3 (hm : mw.length = 67) : sJ0_length_8abf5 [.ref 1003] mw = some (some (iv 5), mw) := by
  obtain ⟨r, h3, h4⟩ := rn_S (vs := [.ref 1003]) (mw := mw) (Q := fun r => r = (some (iv 5), mw)) (gf := mm_gf gLJ0) (pf := mm_pf pLJ0) (mv := mm_mv vJ0_length_8abf5) (ms := mm_mv zJ0_length_8abf5) (kc := mm_kc kLJ0) (gs := gsJ0) (rf := rfJ0) (rt := (some .int)) (nL := 1) (ins := mm_ins iJ0_length_8abf5) rfl (rn_up (N := 60) (M := mm_fuel) (by decide) (by
    refine r_al rfl rfl ?_
    refine r_gfo rfl (hn0 hm (by decide)) rfl ?_
    refine r_alo rfl (hn0 hm (by decide)) rfl ?_
    refine r_al rfl rfl ?_
    refine r_o1s rfl rfl (hn0 hm (by decide)) rfl rfl (c_coder3 hm) ?_
    refine r_op (c := 5) rfl rfl ?_
    exact r_ret rfl rfl rfl))
  have h3 : sJ0_length_8abf5 [.ref 1003] mw = some r := h3
  rw [h3, h4]
theorem c_lat3 (hm : mw.length = 67) : sJ0_isLatin1_aae02 [.ref 1003] mw = some (some (iv 1), mw) := by
  obtain ⟨r, h3, h4⟩ := rn_S (vs := [.ref 1003]) (mw := mw) (Q := fun r => r = (some (iv 1), mw)) (gf := mm_gf gLJ0) (pf := mm_pf pLJ0) (mv := mm_mv vJ0_isLatin1_aae02) (ms := mm_mv zJ0_isLatin1_aae02) (kc := mm_kc kLJ0) (gs := gsJ0) (rf := rfJ0) (rt := (some .boolean)) (nL := 1) (ins := mm_ins iJ0_isLatin1_aae02) rfl (rn_up (N := 60) (M := mm_fuel) (by decide) (by
    refine r_gs rfl rfl ?_
    refine r_zeq (a := 1) rfl rfl (by decide) (fun h => ?_) (fun h => ?_)
    · exact absurd h (by decide)
    · refine r_al rfl rfl ?_
      refine r_gfo rfl (hn0 hm (by decide)) rfl ?_
      refine r_zne (a := 0) rfl rfl (by decide) (fun h => ?_) (fun h => ?_)
      · exact absurd rfl h
      · refine r_ic rfl ?_
        refine r_goto rfl rfl ?_
        exact r_retb rfl rfl (by decide) rfl))
  have h3 : sJ0_isLatin1_aae02 [.ref 1003] mw = some r := h3
  rw [h3, h4]
theorem c_chb30 (hm : mw.length = 67) : sJ1_charAt_3b067 [.ref 1103, iv 0] mw = some (some (iv 119), mw) := by
  obtain ⟨r, h3, h4⟩ := rn_S (vs := [.ref 1103, iv 0]) (mw := mw) (Q := fun r => r = (some (iv 119), mw)) (gf := mm_gf gLJ1) (pf := mm_pf pLJ1) (mv := mm_mv vJ1_charAt_3b067) (ms := mm_mv zJ1_charAt_3b067) (kc := mm_kc kLJ1) (gs := mm_gs0) (rf := mm_rf0) (rt := (some .char)) (nL := 2) (ins := mm_ins iJ1_charAt_3b067) rfl (rn_up (N := 60) (M := mm_fuel) (by decide) (by
    refine r_il rfl rfl ?_
    refine r_al rfl rfl ?_
    refine r_alo rfl (hn0 hm (by decide)) rfl ?_
    refine r_s2n rfl rfl rfl (show sJ0_checkIndex_df160 [iv 0, iv 5] mw = some (none, mw) from rfl) ?_
    refine r_al rfl rfl ?_
    refine r_il rfl rfl ?_
    refine r_bao rfl (hn0 hm (by decide)) rfl (by decide) (by decide) (by decide) ?_
    refine r_si rfl (by decide) ?_
    refine r_op (c := 119) rfl rfl ?_
    refine r_op1 (c := 119) rfl rfl ?_
    exact r_rett rfl rfl rfl rfl))
  have h3 : sJ1_charAt_3b067 [.ref 1103, iv 0] mw = some r := h3
  rw [h3, h4]
theorem c_chr30 (hm : mw.length = 67) : sJ0_charAt_5068e [.ref 1003, iv 0] mw = some (some (iv 119), mw) := by
  obtain ⟨r, h3, h4⟩ := rn_S (vs := [.ref 1003, iv 0]) (mw := mw) (Q := fun r => r = (some (iv 119), mw)) (gf := mm_gf gLJ0) (pf := mm_pf pLJ0) (mv := mm_mv vJ0_charAt_5068e) (ms := mm_mv zJ0_charAt_5068e) (kc := mm_kc kLJ0) (gs := gsJ0) (rf := rfJ0) (rt := (some .char)) (nL := 2) (ins := mm_ins iJ0_charAt_5068e) rfl (rn_up (N := 60) (M := mm_fuel) (by decide) (by
    refine r_al rfl rfl ?_
    refine r_o1s rfl rfl (hn0 hm (by decide)) rfl rfl (c_lat3 hm) ?_
    refine r_zeq rfl rfl (by decide) (fun h => ?_) (fun h => ?_)
    · exact absurd h (by decide)
    · refine r_al rfl rfl ?_
      refine r_gfo rfl (hn0 hm (by decide)) rfl ?_
      refine r_il rfl rfl ?_
      refine r_s2s rfl rfl rfl (c_chb30 hm) ?_
      exact r_rett rfl rfl rfl rfl))
  have h3 : sJ0_charAt_5068e [.ref 1003, iv 0] mw = some r := h3
  rw [h3, h4]
theorem c_chb31 (hm : mw.length = 67) : sJ1_charAt_3b067 [.ref 1103, iv 1] mw = some (some (iv 104), mw) := by
  obtain ⟨r, h3, h4⟩ := rn_S (vs := [.ref 1103, iv 1]) (mw := mw) (Q := fun r => r = (some (iv 104), mw)) (gf := mm_gf gLJ1) (pf := mm_pf pLJ1) (mv := mm_mv vJ1_charAt_3b067) (ms := mm_mv zJ1_charAt_3b067) (kc := mm_kc kLJ1) (gs := mm_gs0) (rf := mm_rf0) (rt := (some .char)) (nL := 2) (ins := mm_ins iJ1_charAt_3b067) rfl (rn_up (N := 60) (M := mm_fuel) (by decide) (by
    refine r_il rfl rfl ?_
    refine r_al rfl rfl ?_
    refine r_alo rfl (hn0 hm (by decide)) rfl ?_
    refine r_s2n rfl rfl rfl (show sJ0_checkIndex_df160 [iv 1, iv 5] mw = some (none, mw) from rfl) ?_
    refine r_al rfl rfl ?_
    refine r_il rfl rfl ?_
    refine r_bao rfl (hn0 hm (by decide)) rfl (by decide) (by decide) (by decide) ?_
    refine r_si rfl (by decide) ?_
    refine r_op (c := 104) rfl rfl ?_
    refine r_op1 (c := 104) rfl rfl ?_
    exact r_rett rfl rfl rfl rfl))
  have h3 : sJ1_charAt_3b067 [.ref 1103, iv 1] mw = some r := h3
  rw [h3, h4]
theorem c_chr31 (hm : mw.length = 67) : sJ0_charAt_5068e [.ref 1003, iv 1] mw = some (some (iv 104), mw) := by
  obtain ⟨r, h3, h4⟩ := rn_S (vs := [.ref 1003, iv 1]) (mw := mw) (Q := fun r => r = (some (iv 104), mw)) (gf := mm_gf gLJ0) (pf := mm_pf pLJ0) (mv := mm_mv vJ0_charAt_5068e) (ms := mm_mv zJ0_charAt_5068e) (kc := mm_kc kLJ0) (gs := gsJ0) (rf := rfJ0) (rt := (some .char)) (nL := 2) (ins := mm_ins iJ0_charAt_5068e) rfl (rn_up (N := 60) (M := mm_fuel) (by decide) (by
    refine r_al rfl rfl ?_
    refine r_o1s rfl rfl (hn0 hm (by decide)) rfl rfl (c_lat3 hm) ?_
    refine r_zeq rfl rfl (by decide) (fun h => ?_) (fun h => ?_)
    · exact absurd h (by decide)
    · refine r_al rfl rfl ?_
      refine r_gfo rfl (hn0 hm (by decide)) rfl ?_
      refine r_il rfl rfl ?_
      refine r_s2s rfl rfl rfl (c_chb31 hm) ?_
      exact r_rett rfl rfl rfl rfl))
  have h3 : sJ0_charAt_5068e [.ref 1003, iv 1] mw = some r := h3
  rw [h3, h4]
theorem c_chb32 (hm : mw.length = 67) : sJ1_charAt_3b067 [.ref 1103, iv 2] mw = some (some (iv 111), mw) := by
  obtain ⟨r, h3, h4⟩ := rn_S (vs := [.ref 1103, iv 2]) (mw := mw) (Q := fun r => r = (some (iv 111), mw)) (gf := mm_gf gLJ1) (pf := mm_pf pLJ1) (mv := mm_mv vJ1_charAt_3b067) (ms := mm_mv zJ1_charAt_3b067) (kc := mm_kc kLJ1) (gs := mm_gs0) (rf := mm_rf0) (rt := (some .char)) (nL := 2) (ins := mm_ins iJ1_charAt_3b067) rfl (rn_up (N := 60) (M := mm_fuel) (by decide) (by
    refine r_il rfl rfl ?_
    refine r_al rfl rfl ?_
    refine r_alo rfl (hn0 hm (by decide)) rfl ?_
    refine r_s2n rfl rfl rfl (show sJ0_checkIndex_df160 [iv 2, iv 5] mw = some (none, mw) from rfl) ?_
    refine r_al rfl rfl ?_
    refine r_il rfl rfl ?_
    refine r_bao rfl (hn0 hm (by decide)) rfl (by decide) (by decide) (by decide) ?_
    refine r_si rfl (by decide) ?_
    refine r_op (c := 111) rfl rfl ?_
    refine r_op1 (c := 111) rfl rfl ?_
    exact r_rett rfl rfl rfl rfl))
  have h3 : sJ1_charAt_3b067 [.ref 1103, iv 2] mw = some r := h3
  rw [h3, h4]
theorem c_chr32 (hm : mw.length = 67) : sJ0_charAt_5068e [.ref 1003, iv 2] mw = some (some (iv 111), mw) := by
  obtain ⟨r, h3, h4⟩ := rn_S (vs := [.ref 1003, iv 2]) (mw := mw) (Q := fun r => r = (some (iv 111), mw)) (gf := mm_gf gLJ0) (pf := mm_pf pLJ0) (mv := mm_mv vJ0_charAt_5068e) (ms := mm_mv zJ0_charAt_5068e) (kc := mm_kc kLJ0) (gs := gsJ0) (rf := rfJ0) (rt := (some .char)) (nL := 2) (ins := mm_ins iJ0_charAt_5068e) rfl (rn_up (N := 60) (M := mm_fuel) (by decide) (by
    refine r_al rfl rfl ?_
    refine r_o1s rfl rfl (hn0 hm (by decide)) rfl rfl (c_lat3 hm) ?_
    refine r_zeq rfl rfl (by decide) (fun h => ?_) (fun h => ?_)
    · exact absurd h (by decide)
    · refine r_al rfl rfl ?_
      refine r_gfo rfl (hn0 hm (by decide)) rfl ?_
      refine r_il rfl rfl ?_
      refine r_s2s rfl rfl rfl (c_chb32 hm) ?_
      exact r_rett rfl rfl rfl rfl))
  have h3 : sJ0_charAt_5068e [.ref 1003, iv 2] mw = some r := h3
  rw [h3, h4]
theorem c_chb33 (hm : mw.length = 67) : sJ1_charAt_3b067 [.ref 1103, iv 3] mw = some (some (iv 108), mw) := by
  obtain ⟨r, h3, h4⟩ := rn_S (vs := [.ref 1103, iv 3]) (mw := mw) (Q := fun r => r = (some (iv 108), mw)) (gf := mm_gf gLJ1) (pf := mm_pf pLJ1) (mv := mm_mv vJ1_charAt_3b067) (ms := mm_mv zJ1_charAt_3b067) (kc := mm_kc kLJ1) (gs := mm_gs0) (rf := mm_rf0) (rt := (some .char)) (nL := 2) (ins := mm_ins iJ1_charAt_3b067) rfl (rn_up (N := 60) (M := mm_fuel) (by decide) (by
    refine r_il rfl rfl ?_
    refine r_al rfl rfl ?_
    refine r_alo rfl (hn0 hm (by decide)) rfl ?_
    refine r_s2n rfl rfl rfl (show sJ0_checkIndex_df160 [iv 3, iv 5] mw = some (none, mw) from rfl) ?_
    refine r_al rfl rfl ?_
    refine r_il rfl rfl ?_
    refine r_bao rfl (hn0 hm (by decide)) rfl (by decide) (by decide) (by decide) ?_
    refine r_si rfl (by decide) ?_
    refine r_op (c := 108) rfl rfl ?_
    refine r_op1 (c := 108) rfl rfl ?_
    exact r_rett rfl rfl rfl rfl))
  have h3 : sJ1_charAt_3b067 [.ref 1103, iv 3] mw = some r := h3
  rw [h3, h4]
theorem c_chr33 (hm : mw.length = 67) : sJ0_charAt_5068e [.ref 1003, iv 3] mw = some (some (iv 108), mw) := by
  obtain ⟨r, h3, h4⟩ := rn_S (vs := [.ref 1003, iv 3]) (mw := mw) (Q := fun r => r = (some (iv 108), mw)) (gf := mm_gf gLJ0) (pf := mm_pf pLJ0) (mv := mm_mv vJ0_charAt_5068e) (ms := mm_mv zJ0_charAt_5068e) (kc := mm_kc kLJ0) (gs := gsJ0) (rf := rfJ0) (rt := (some .char)) (nL := 2) (ins := mm_ins iJ0_charAt_5068e) rfl (rn_up (N := 60) (M := mm_fuel) (by decide) (by
    refine r_al rfl rfl ?_
    refine r_o1s rfl rfl (hn0 hm (by decide)) rfl rfl (c_lat3 hm) ?_
    refine r_zeq rfl rfl (by decide) (fun h => ?_) (fun h => ?_)
    · exact absurd h (by decide)
    · refine r_al rfl rfl ?_
      refine r_gfo rfl (hn0 hm (by decide)) rfl ?_
      refine r_il rfl rfl ?_
      refine r_s2s rfl rfl rfl (c_chb33 hm) ?_
      exact r_rett rfl rfl rfl rfl))
  have h3 : sJ0_charAt_5068e [.ref 1003, iv 3] mw = some r := h3
  rw [h3, h4]
theorem c_chb34 (hm : mw.length = 67) : sJ1_charAt_3b067 [.ref 1103, iv 4] mw = some (some (iv 101), mw) := by
  obtain ⟨r, h3, h4⟩ := rn_S (vs := [.ref 1103, iv 4]) (mw := mw) (Q := fun r => r = (some (iv 101), mw)) (gf := mm_gf gLJ1) (pf := mm_pf pLJ1) (mv := mm_mv vJ1_charAt_3b067) (ms := mm_mv zJ1_charAt_3b067) (kc := mm_kc kLJ1) (gs := mm_gs0) (rf := mm_rf0) (rt := (some .char)) (nL := 2) (ins := mm_ins iJ1_charAt_3b067) rfl (rn_up (N := 60) (M := mm_fuel) (by decide) (by
    refine r_il rfl rfl ?_
    refine r_al rfl rfl ?_
    refine r_alo rfl (hn0 hm (by decide)) rfl ?_
    refine r_s2n rfl rfl rfl (show sJ0_checkIndex_df160 [iv 4, iv 5] mw = some (none, mw) from rfl) ?_
    refine r_al rfl rfl ?_
    refine r_il rfl rfl ?_
    refine r_bao rfl (hn0 hm (by decide)) rfl (by decide) (by decide) (by decide) ?_
    refine r_si rfl (by decide) ?_
    refine r_op (c := 101) rfl rfl ?_
    refine r_op1 (c := 101) rfl rfl ?_
    exact r_rett rfl rfl rfl rfl))
  have h3 : sJ1_charAt_3b067 [.ref 1103, iv 4] mw = some r := h3
  rw [h3, h4]
theorem c_chr34 (hm : mw.length = 67) : sJ0_charAt_5068e [.ref 1003, iv 4] mw = some (some (iv 101), mw) := by
  obtain ⟨r, h3, h4⟩ := rn_S (vs := [.ref 1003, iv 4]) (mw := mw) (Q := fun r => r = (some (iv 101), mw)) (gf := mm_gf gLJ0) (pf := mm_pf pLJ0) (mv := mm_mv vJ0_charAt_5068e) (ms := mm_mv zJ0_charAt_5068e) (kc := mm_kc kLJ0) (gs := gsJ0) (rf := rfJ0) (rt := (some .char)) (nL := 2) (ins := mm_ins iJ0_charAt_5068e) rfl (rn_up (N := 60) (M := mm_fuel) (by decide) (by
    refine r_al rfl rfl ?_
    refine r_o1s rfl rfl (hn0 hm (by decide)) rfl rfl (c_lat3 hm) ?_
    refine r_zeq rfl rfl (by decide) (fun h => ?_) (fun h => ?_)
    · exact absurd h (by decide)
    · refine r_al rfl rfl ?_
      refine r_gfo rfl (hn0 hm (by decide)) rfl ?_
      refine r_il rfl rfl ?_
      refine r_s2s rfl rfl rfl (c_chb34 hm) ?_
      exact r_rett rfl rfl rfl rfl))
  have h3 : sJ0_charAt_5068e [.ref 1003, iv 4] mw = some r := h3
  rw [h3, h4]
theorem c_coder4 (hm : mw.length = 67) : sJ0_coder_7d493 [.ref 1004] mw = some (some (iv 0), mw) := by
  obtain ⟨r, h3, h4⟩ := rn_S (vs := [.ref 1004]) (mw := mw) (Q := fun r => r = (some (iv 0), mw)) (gf := mm_gf gLJ0) (pf := mm_pf pLJ0) (mv := mm_mv vJ0_coder_7d493) (ms := mm_mv zJ0_coder_7d493) (kc := mm_kc kLJ0) (gs := gsJ0) (rf := rfJ0) (rt := (some .byte)) (nL := 1) (ins := mm_ins iJ0_coder_7d493) rfl (rn_up (N := 60) (M := mm_fuel) (by decide) (by
    refine r_gs rfl rfl ?_
    refine r_zeq (a := 1) rfl rfl (by decide) (fun h => ?_) (fun h => ?_)
    · exact absurd h (by decide)
    · refine r_al rfl rfl ?_
      refine r_gfo rfl (hn0 hm (by decide)) rfl ?_
      refine r_goto rfl rfl ?_
      exact r_rett (z := 0) rfl rfl rfl rfl))
  have h3 : sJ0_coder_7d493 [.ref 1004] mw = some r := h3
  rw [h3, h4]
theorem c_len4 (hm : mw.length = 67) : sJ0_length_8abf5 [.ref 1004] mw = some (some (iv 4), mw) := by
  obtain ⟨r, h3, h4⟩ := rn_S (vs := [.ref 1004]) (mw := mw) (Q := fun r => r = (some (iv 4), mw)) (gf := mm_gf gLJ0) (pf := mm_pf pLJ0) (mv := mm_mv vJ0_length_8abf5) (ms := mm_mv zJ0_length_8abf5) (kc := mm_kc kLJ0) (gs := gsJ0) (rf := rfJ0) (rt := (some .int)) (nL := 1) (ins := mm_ins iJ0_length_8abf5) rfl (rn_up (N := 60) (M := mm_fuel) (by decide) (by
    refine r_al rfl rfl ?_
    refine r_gfo rfl (hn0 hm (by decide)) rfl ?_
    refine r_alo rfl (hn0 hm (by decide)) rfl ?_
    refine r_al rfl rfl ?_
    refine r_o1s rfl rfl (hn0 hm (by decide)) rfl rfl (c_coder4 hm) ?_
    refine r_op (c := 4) rfl rfl ?_
    exact r_ret rfl rfl rfl))
  have h3 : sJ0_length_8abf5 [.ref 1004] mw = some r := h3
  rw [h3, h4]
theorem c_lat4 (hm : mw.length = 67) : sJ0_isLatin1_aae02 [.ref 1004] mw = some (some (iv 1), mw) := by
  obtain ⟨r, h3, h4⟩ := rn_S (vs := [.ref 1004]) (mw := mw) (Q := fun r => r = (some (iv 1), mw)) (gf := mm_gf gLJ0) (pf := mm_pf pLJ0) (mv := mm_mv vJ0_isLatin1_aae02) (ms := mm_mv zJ0_isLatin1_aae02) (kc := mm_kc kLJ0) (gs := gsJ0) (rf := rfJ0) (rt := (some .boolean)) (nL := 1) (ins := mm_ins iJ0_isLatin1_aae02) rfl (rn_up (N := 60) (M := mm_fuel) (by decide) (by
    refine r_gs rfl rfl ?_
    refine r_zeq (a := 1) rfl rfl (by decide) (fun h => ?_) (fun h => ?_)
    · exact absurd h (by decide)
    · refine r_al rfl rfl ?_
      refine r_gfo rfl (hn0 hm (by decide)) rfl ?_
      refine r_zne (a := 0) rfl rfl (by decide) (fun h => ?_) (fun h => ?_)
      · exact absurd rfl h
      · refine r_ic rfl ?_
        refine r_goto rfl rfl ?_
        exact r_retb rfl rfl (by decide) rfl))
  have h3 : sJ0_isLatin1_aae02 [.ref 1004] mw = some r := h3
  rw [h3, h4]
theorem c_chb40 (hm : mw.length = 67) : sJ1_charAt_3b067 [.ref 1104, iv 0] mw = some (some (iv 112), mw) := by
  obtain ⟨r, h3, h4⟩ := rn_S (vs := [.ref 1104, iv 0]) (mw := mw) (Q := fun r => r = (some (iv 112), mw)) (gf := mm_gf gLJ1) (pf := mm_pf pLJ1) (mv := mm_mv vJ1_charAt_3b067) (ms := mm_mv zJ1_charAt_3b067) (kc := mm_kc kLJ1) (gs := mm_gs0) (rf := mm_rf0) (rt := (some .char)) (nL := 2) (ins := mm_ins iJ1_charAt_3b067) rfl (rn_up (N := 60) (M := mm_fuel) (by decide) (by
    refine r_il rfl rfl ?_
    refine r_al rfl rfl ?_
    refine r_alo rfl (hn0 hm (by decide)) rfl ?_
    refine r_s2n rfl rfl rfl (show sJ0_checkIndex_df160 [iv 0, iv 4] mw = some (none, mw) from rfl) ?_
    refine r_al rfl rfl ?_
    refine r_il rfl rfl ?_
    refine r_bao rfl (hn0 hm (by decide)) rfl (by decide) (by decide) (by decide) ?_
    refine r_si rfl (by decide) ?_
    refine r_op (c := 112) rfl rfl ?_
    refine r_op1 (c := 112) rfl rfl ?_
    exact r_rett rfl rfl rfl rfl))
  have h3 : sJ1_charAt_3b067 [.ref 1104, iv 0] mw = some r := h3
  rw [h3, h4]
theorem c_chr40 (hm : mw.length = 67) : sJ0_charAt_5068e [.ref 1004, iv 0] mw = some (some (iv 112), mw) := by
  obtain ⟨r, h3, h4⟩ := rn_S (vs := [.ref 1004, iv 0]) (mw := mw) (Q := fun r => r = (some (iv 112), mw)) (gf := mm_gf gLJ0) (pf := mm_pf pLJ0) (mv := mm_mv vJ0_charAt_5068e) (ms := mm_mv zJ0_charAt_5068e) (kc := mm_kc kLJ0) (gs := gsJ0) (rf := rfJ0) (rt := (some .char)) (nL := 2) (ins := mm_ins iJ0_charAt_5068e) rfl (rn_up (N := 60) (M := mm_fuel) (by decide) (by
    refine r_al rfl rfl ?_
    refine r_o1s rfl rfl (hn0 hm (by decide)) rfl rfl (c_lat4 hm) ?_
    refine r_zeq rfl rfl (by decide) (fun h => ?_) (fun h => ?_)
    · exact absurd h (by decide)
    · refine r_al rfl rfl ?_
      refine r_gfo rfl (hn0 hm (by decide)) rfl ?_
      refine r_il rfl rfl ?_
      refine r_s2s rfl rfl rfl (c_chb40 hm) ?_
      exact r_rett rfl rfl rfl rfl))
  have h3 : sJ0_charAt_5068e [.ref 1004, iv 0] mw = some r := h3
  rw [h3, h4]
theorem c_chb41 (hm : mw.length = 67) : sJ1_charAt_3b067 [.ref 1104, iv 1] mw = some (some (iv 97), mw) := by
  obtain ⟨r, h3, h4⟩ := rn_S (vs := [.ref 1104, iv 1]) (mw := mw) (Q := fun r => r = (some (iv 97), mw)) (gf := mm_gf gLJ1) (pf := mm_pf pLJ1) (mv := mm_mv vJ1_charAt_3b067) (ms := mm_mv zJ1_charAt_3b067) (kc := mm_kc kLJ1) (gs := mm_gs0) (rf := mm_rf0) (rt := (some .char)) (nL := 2) (ins := mm_ins iJ1_charAt_3b067) rfl (rn_up (N := 60) (M := mm_fuel) (by decide) (by
    refine r_il rfl rfl ?_
    refine r_al rfl rfl ?_
    refine r_alo rfl (hn0 hm (by decide)) rfl ?_
    refine r_s2n rfl rfl rfl (show sJ0_checkIndex_df160 [iv 1, iv 4] mw = some (none, mw) from rfl) ?_
    refine r_al rfl rfl ?_
    refine r_il rfl rfl ?_
    refine r_bao rfl (hn0 hm (by decide)) rfl (by decide) (by decide) (by decide) ?_
    refine r_si rfl (by decide) ?_
    refine r_op (c := 97) rfl rfl ?_
    refine r_op1 (c := 97) rfl rfl ?_
    exact r_rett rfl rfl rfl rfl))
  have h3 : sJ1_charAt_3b067 [.ref 1104, iv 1] mw = some r := h3
  rw [h3, h4]
theorem c_chr41 (hm : mw.length = 67) : sJ0_charAt_5068e [.ref 1004, iv 1] mw = some (some (iv 97), mw) := by
  obtain ⟨r, h3, h4⟩ := rn_S (vs := [.ref 1004, iv 1]) (mw := mw) (Q := fun r => r = (some (iv 97), mw)) (gf := mm_gf gLJ0) (pf := mm_pf pLJ0) (mv := mm_mv vJ0_charAt_5068e) (ms := mm_mv zJ0_charAt_5068e) (kc := mm_kc kLJ0) (gs := gsJ0) (rf := rfJ0) (rt := (some .char)) (nL := 2) (ins := mm_ins iJ0_charAt_5068e) rfl (rn_up (N := 60) (M := mm_fuel) (by decide) (by
    refine r_al rfl rfl ?_
    refine r_o1s rfl rfl (hn0 hm (by decide)) rfl rfl (c_lat4 hm) ?_
    refine r_zeq rfl rfl (by decide) (fun h => ?_) (fun h => ?_)
    · exact absurd h (by decide)
    · refine r_al rfl rfl ?_
      refine r_gfo rfl (hn0 hm (by decide)) rfl ?_
      refine r_il rfl rfl ?_
      refine r_s2s rfl rfl rfl (c_chb41 hm) ?_
      exact r_rett rfl rfl rfl rfl))
  have h3 : sJ0_charAt_5068e [.ref 1004, iv 1] mw = some r := h3
  rw [h3, h4]
theorem c_chb42 (hm : mw.length = 67) : sJ1_charAt_3b067 [.ref 1104, iv 2] mw = some (some (iv 114), mw) := by
  obtain ⟨r, h3, h4⟩ := rn_S (vs := [.ref 1104, iv 2]) (mw := mw) (Q := fun r => r = (some (iv 114), mw)) (gf := mm_gf gLJ1) (pf := mm_pf pLJ1) (mv := mm_mv vJ1_charAt_3b067) (ms := mm_mv zJ1_charAt_3b067) (kc := mm_kc kLJ1) (gs := mm_gs0) (rf := mm_rf0) (rt := (some .char)) (nL := 2) (ins := mm_ins iJ1_charAt_3b067) rfl (rn_up (N := 60) (M := mm_fuel) (by decide) (by
    refine r_il rfl rfl ?_
    refine r_al rfl rfl ?_
    refine r_alo rfl (hn0 hm (by decide)) rfl ?_
    refine r_s2n rfl rfl rfl (show sJ0_checkIndex_df160 [iv 2, iv 4] mw = some (none, mw) from rfl) ?_
    refine r_al rfl rfl ?_
    refine r_il rfl rfl ?_
    refine r_bao rfl (hn0 hm (by decide)) rfl (by decide) (by decide) (by decide) ?_
    refine r_si rfl (by decide) ?_
    refine r_op (c := 114) rfl rfl ?_
    refine r_op1 (c := 114) rfl rfl ?_
    exact r_rett rfl rfl rfl rfl))
  have h3 : sJ1_charAt_3b067 [.ref 1104, iv 2] mw = some r := h3
  rw [h3, h4]
theorem c_chr42 (hm : mw.length = 67) : sJ0_charAt_5068e [.ref 1004, iv 2] mw = some (some (iv 114), mw) := by
  obtain ⟨r, h3, h4⟩ := rn_S (vs := [.ref 1004, iv 2]) (mw := mw) (Q := fun r => r = (some (iv 114), mw)) (gf := mm_gf gLJ0) (pf := mm_pf pLJ0) (mv := mm_mv vJ0_charAt_5068e) (ms := mm_mv zJ0_charAt_5068e) (kc := mm_kc kLJ0) (gs := gsJ0) (rf := rfJ0) (rt := (some .char)) (nL := 2) (ins := mm_ins iJ0_charAt_5068e) rfl (rn_up (N := 60) (M := mm_fuel) (by decide) (by
    refine r_al rfl rfl ?_
    refine r_o1s rfl rfl (hn0 hm (by decide)) rfl rfl (c_lat4 hm) ?_
    refine r_zeq rfl rfl (by decide) (fun h => ?_) (fun h => ?_)
    · exact absurd h (by decide)
    · refine r_al rfl rfl ?_
      refine r_gfo rfl (hn0 hm (by decide)) rfl ?_
      refine r_il rfl rfl ?_
      refine r_s2s rfl rfl rfl (c_chb42 hm) ?_
      exact r_rett rfl rfl rfl rfl))
  have h3 : sJ0_charAt_5068e [.ref 1004, iv 2] mw = some r := h3
  rw [h3, h4]
theorem c_chb43 (hm : mw.length = 67) : sJ1_charAt_3b067 [.ref 1104, iv 3] mw = some (some (iv 116), mw) := by
  obtain ⟨r, h3, h4⟩ := rn_S (vs := [.ref 1104, iv 3]) (mw := mw) (Q := fun r => r = (some (iv 116), mw)) (gf := mm_gf gLJ1) (pf := mm_pf pLJ1) (mv := mm_mv vJ1_charAt_3b067) (ms := mm_mv zJ1_charAt_3b067) (kc := mm_kc kLJ1) (gs := mm_gs0) (rf := mm_rf0) (rt := (some .char)) (nL := 2) (ins := mm_ins iJ1_charAt_3b067) rfl (rn_up (N := 60) (M := mm_fuel) (by decide) (by
    refine r_il rfl rfl ?_
    refine r_al rfl rfl ?_
    refine r_alo rfl (hn0 hm (by decide)) rfl ?_
    refine r_s2n rfl rfl rfl (show sJ0_checkIndex_df160 [iv 3, iv 4] mw = some (none, mw) from rfl) ?_
    refine r_al rfl rfl ?_
    refine r_il rfl rfl ?_
    refine r_bao rfl (hn0 hm (by decide)) rfl (by decide) (by decide) (by decide) ?_
    refine r_si rfl (by decide) ?_
    refine r_op (c := 116) rfl rfl ?_
    refine r_op1 (c := 116) rfl rfl ?_
    exact r_rett rfl rfl rfl rfl))
  have h3 : sJ1_charAt_3b067 [.ref 1104, iv 3] mw = some r := h3
  rw [h3, h4]
theorem c_chr43 (hm : mw.length = 67) : sJ0_charAt_5068e [.ref 1004, iv 3] mw = some (some (iv 116), mw) := by
  obtain ⟨r, h3, h4⟩ := rn_S (vs := [.ref 1004, iv 3]) (mw := mw) (Q := fun r => r = (some (iv 116), mw)) (gf := mm_gf gLJ0) (pf := mm_pf pLJ0) (mv := mm_mv vJ0_charAt_5068e) (ms := mm_mv zJ0_charAt_5068e) (kc := mm_kc kLJ0) (gs := gsJ0) (rf := rfJ0) (rt := (some .char)) (nL := 2) (ins := mm_ins iJ0_charAt_5068e) rfl (rn_up (N := 60) (M := mm_fuel) (by decide) (by
    refine r_al rfl rfl ?_
    refine r_o1s rfl rfl (hn0 hm (by decide)) rfl rfl (c_lat4 hm) ?_
    refine r_zeq rfl rfl (by decide) (fun h => ?_) (fun h => ?_)
    · exact absurd h (by decide)
    · refine r_al rfl rfl ?_
      refine r_gfo rfl (hn0 hm (by decide)) rfl ?_
      refine r_il rfl rfl ?_
      refine r_s2s rfl rfl rfl (c_chb43 hm) ?_
      exact r_rett rfl rfl rfl rfl))
  have h3 : sJ0_charAt_5068e [.ref 1004, iv 3] mw = some r := h3
  rw [h3, h4]
theorem c_coder5 (hm : mw.length = 67) : sJ0_coder_7d493 [.ref 1005] mw = some (some (iv 0), mw) := by
  obtain ⟨r, h3, h4⟩ := rn_S (vs := [.ref 1005]) (mw := mw) (Q := fun r => r = (some (iv 0), mw)) (gf := mm_gf gLJ0) (pf := mm_pf pLJ0) (mv := mm_mv vJ0_coder_7d493) (ms := mm_mv zJ0_coder_7d493) (kc := mm_kc kLJ0) (gs := gsJ0) (rf := rfJ0) (rt := (some .byte)) (nL := 1) (ins := mm_ins iJ0_coder_7d493) rfl (rn_up (N := 60) (M := mm_fuel) (by decide) (by
    refine r_gs rfl rfl ?_
    refine r_zeq (a := 1) rfl rfl (by decide) (fun h => ?_) (fun h => ?_)
    · exact absurd h (by decide)
    · refine r_al rfl rfl ?_
      refine r_gfo rfl (hn0 hm (by decide)) rfl ?_
      refine r_goto rfl rfl ?_
      exact r_rett (z := 0) rfl rfl rfl rfl))
  have h3 : sJ0_coder_7d493 [.ref 1005] mw = some r := h3
  rw [h3, h4]
theorem c_len5 (hm : mw.length = 67) : sJ0_length_8abf5 [.ref 1005] mw = some (some (iv 6), mw) := by
  obtain ⟨r, h3, h4⟩ := rn_S (vs := [.ref 1005]) (mw := mw) (Q := fun r => r = (some (iv 6), mw)) (gf := mm_gf gLJ0) (pf := mm_pf pLJ0) (mv := mm_mv vJ0_length_8abf5) (ms := mm_mv zJ0_length_8abf5) (kc := mm_kc kLJ0) (gs := gsJ0) (rf := rfJ0) (rt := (some .int)) (nL := 1) (ins := mm_ins iJ0_length_8abf5) rfl (rn_up (N := 60) (M := mm_fuel) (by decide) (by
    refine r_al rfl rfl ?_
    refine r_gfo rfl (hn0 hm (by decide)) rfl ?_
    refine r_alo rfl (hn0 hm (by decide)) rfl ?_
    refine r_al rfl rfl ?_
    refine r_o1s rfl rfl (hn0 hm (by decide)) rfl rfl (c_coder5 hm) ?_
    refine r_op (c := 6) rfl rfl ?_
    exact r_ret rfl rfl rfl))
  have h3 : sJ0_length_8abf5 [.ref 1005] mw = some r := h3
  rw [h3, h4]
theorem c_lat5 (hm : mw.length = 67) : sJ0_isLatin1_aae02 [.ref 1005] mw = some (some (iv 1), mw) := by
  obtain ⟨r, h3, h4⟩ := rn_S (vs := [.ref 1005]) (mw := mw) (Q := fun r => r = (some (iv 1), mw)) (gf := mm_gf gLJ0) (pf := mm_pf pLJ0) (mv := mm_mv vJ0_isLatin1_aae02) (ms := mm_mv zJ0_isLatin1_aae02) (kc := mm_kc kLJ0) (gs := gsJ0) (rf := rfJ0) (rt := (some .boolean)) (nL := 1) (ins := mm_ins iJ0_isLatin1_aae02) rfl (rn_up (N := 60) (M := mm_fuel) (by decide) (by
    refine r_gs rfl rfl ?_
    refine r_zeq (a := 1) rfl rfl (by decide) (fun h => ?_) (fun h => ?_)
    · exact absurd h (by decide)
    · refine r_al rfl rfl ?_
      refine r_gfo rfl (hn0 hm (by decide)) rfl ?_
      refine r_zne (a := 0) rfl rfl (by decide) (fun h => ?_) (fun h => ?_)
      · exact absurd rfl h
      · refine r_ic rfl ?_
        refine r_goto rfl rfl ?_
        exact r_retb rfl rfl (by decide) rfl))
  have h3 : sJ0_isLatin1_aae02 [.ref 1005] mw = some r := h3
  rw [h3, h4]
theorem c_chb50 (hm : mw.length = 67) : sJ1_charAt_3b067 [.ref 1105, iv 0] mw = some (some (iv 98), mw) := by
  obtain ⟨r, h3, h4⟩ := rn_S (vs := [.ref 1105, iv 0]) (mw := mw) (Q := fun r => r = (some (iv 98), mw)) (gf := mm_gf gLJ1) (pf := mm_pf pLJ1) (mv := mm_mv vJ1_charAt_3b067) (ms := mm_mv zJ1_charAt_3b067) (kc := mm_kc kLJ1) (gs := mm_gs0) (rf := mm_rf0) (rt := (some .char)) (nL := 2) (ins := mm_ins iJ1_charAt_3b067) rfl (rn_up (N := 60) (M := mm_fuel) (by decide) (by
    refine r_il rfl rfl ?_
    refine r_al rfl rfl ?_
    refine r_alo rfl (hn0 hm (by decide)) rfl ?_
    refine r_s2n rfl rfl rfl (show sJ0_checkIndex_df160 [iv 0, iv 6] mw = some (none, mw) from rfl) ?_
    refine r_al rfl rfl ?_
    refine r_il rfl rfl ?_
    refine r_bao rfl (hn0 hm (by decide)) rfl (by decide) (by decide) (by decide) ?_
    refine r_si rfl (by decide) ?_
    refine r_op (c := 98) rfl rfl ?_
    refine r_op1 (c := 98) rfl rfl ?_
    exact r_rett rfl rfl rfl rfl))
  have h3 : sJ1_charAt_3b067 [.ref 1105, iv 0] mw = some r := h3
  rw [h3, h4]
theorem c_chr50 (hm : mw.length = 67) : sJ0_charAt_5068e [.ref 1005, iv 0] mw = some (some (iv 98), mw) := by
  obtain ⟨r, h3, h4⟩ := rn_S (vs := [.ref 1005, iv 0]) (mw := mw) (Q := fun r => r = (some (iv 98), mw)) (gf := mm_gf gLJ0) (pf := mm_pf pLJ0) (mv := mm_mv vJ0_charAt_5068e) (ms := mm_mv zJ0_charAt_5068e) (kc := mm_kc kLJ0) (gs := gsJ0) (rf := rfJ0) (rt := (some .char)) (nL := 2) (ins := mm_ins iJ0_charAt_5068e) rfl (rn_up (N := 60) (M := mm_fuel) (by decide) (by
    refine r_al rfl rfl ?_
    refine r_o1s rfl rfl (hn0 hm (by decide)) rfl rfl (c_lat5 hm) ?_
    refine r_zeq rfl rfl (by decide) (fun h => ?_) (fun h => ?_)
    · exact absurd h (by decide)
    · refine r_al rfl rfl ?_
      refine r_gfo rfl (hn0 hm (by decide)) rfl ?_
      refine r_il rfl rfl ?_
      refine r_s2s rfl rfl rfl (c_chb50 hm) ?_
      exact r_rett rfl rfl rfl rfl))
  have h3 : sJ0_charAt_5068e [.ref 1005, iv 0] mw = some r := h3
  rw [h3, h4]
theorem c_chb51 (hm : mw.length = 67) : sJ1_charAt_3b067 [.ref 1105, iv 1] mw = some (some (iv 101), mw) := by
  obtain ⟨r, h3, h4⟩ := rn_S (vs := [.ref 1105, iv 1]) (mw := mw) (Q := fun r => r = (some (iv 101), mw)) (gf := mm_gf gLJ1) (pf := mm_pf pLJ1) (mv := mm_mv vJ1_charAt_3b067) (ms := mm_mv zJ1_charAt_3b067) (kc := mm_kc kLJ1) (gs := mm_gs0) (rf := mm_rf0) (rt := (some .char)) (nL := 2) (ins := mm_ins iJ1_charAt_3b067) rfl (rn_up (N := 60) (M := mm_fuel) (by decide) (by
    refine r_il rfl rfl ?_
    refine r_al rfl rfl ?_
    refine r_alo rfl (hn0 hm (by decide)) rfl ?_
    refine r_s2n rfl rfl rfl (show sJ0_checkIndex_df160 [iv 1, iv 6] mw = some (none, mw) from rfl) ?_
    refine r_al rfl rfl ?_
    refine r_il rfl rfl ?_
    refine r_bao rfl (hn0 hm (by decide)) rfl (by decide) (by decide) (by decide) ?_
    refine r_si rfl (by decide) ?_
    refine r_op (c := 101) rfl rfl ?_
    refine r_op1 (c := 101) rfl rfl ?_
    exact r_rett rfl rfl rfl rfl))
  have h3 : sJ1_charAt_3b067 [.ref 1105, iv 1] mw = some r := h3
  rw [h3, h4]
theorem c_chr51 (hm : mw.length = 67) : sJ0_charAt_5068e [.ref 1005, iv 1] mw = some (some (iv 101), mw) := by
  obtain ⟨r, h3, h4⟩ := rn_S (vs := [.ref 1005, iv 1]) (mw := mw) (Q := fun r => r = (some (iv 101), mw)) (gf := mm_gf gLJ0) (pf := mm_pf pLJ0) (mv := mm_mv vJ0_charAt_5068e) (ms := mm_mv zJ0_charAt_5068e) (kc := mm_kc kLJ0) (gs := gsJ0) (rf := rfJ0) (rt := (some .char)) (nL := 2) (ins := mm_ins iJ0_charAt_5068e) rfl (rn_up (N := 60) (M := mm_fuel) (by decide) (by
    refine r_al rfl rfl ?_
    refine r_o1s rfl rfl (hn0 hm (by decide)) rfl rfl (c_lat5 hm) ?_
    refine r_zeq rfl rfl (by decide) (fun h => ?_) (fun h => ?_)
    · exact absurd h (by decide)
    · refine r_al rfl rfl ?_
      refine r_gfo rfl (hn0 hm (by decide)) rfl ?_
      refine r_il rfl rfl ?_
      refine r_s2s rfl rfl rfl (c_chb51 hm) ?_
      exact r_rett rfl rfl rfl rfl))
  have h3 : sJ0_charAt_5068e [.ref 1005, iv 1] mw = some r := h3
  rw [h3, h4]
theorem c_chb52 (hm : mw.length = 67) : sJ1_charAt_3b067 [.ref 1105, iv 2] mw = some (some (iv 104), mw) := by
  obtain ⟨r, h3, h4⟩ := rn_S (vs := [.ref 1105, iv 2]) (mw := mw) (Q := fun r => r = (some (iv 104), mw)) (gf := mm_gf gLJ1) (pf := mm_pf pLJ1) (mv := mm_mv vJ1_charAt_3b067) (ms := mm_mv zJ1_charAt_3b067) (kc := mm_kc kLJ1) (gs := mm_gs0) (rf := mm_rf0) (rt := (some .char)) (nL := 2) (ins := mm_ins iJ1_charAt_3b067) rfl (rn_up (N := 60) (M := mm_fuel) (by decide) (by
    refine r_il rfl rfl ?_
    refine r_al rfl rfl ?_
    refine r_alo rfl (hn0 hm (by decide)) rfl ?_
    refine r_s2n rfl rfl rfl (show sJ0_checkIndex_df160 [iv 2, iv 6] mw = some (none, mw) from rfl) ?_
    refine r_al rfl rfl ?_
    refine r_il rfl rfl ?_
    refine r_bao rfl (hn0 hm (by decide)) rfl (by decide) (by decide) (by decide) ?_
    refine r_si rfl (by decide) ?_
    refine r_op (c := 104) rfl rfl ?_
    refine r_op1 (c := 104) rfl rfl ?_
    exact r_rett rfl rfl rfl rfl))
  have h3 : sJ1_charAt_3b067 [.ref 1105, iv 2] mw = some r := h3
  rw [h3, h4]
theorem c_chr52 (hm : mw.length = 67) : sJ0_charAt_5068e [.ref 1005, iv 2] mw = some (some (iv 104), mw) := by
  obtain ⟨r, h3, h4⟩ := rn_S (vs := [.ref 1005, iv 2]) (mw := mw) (Q := fun r => r = (some (iv 104), mw)) (gf := mm_gf gLJ0) (pf := mm_pf pLJ0) (mv := mm_mv vJ0_charAt_5068e) (ms := mm_mv zJ0_charAt_5068e) (kc := mm_kc kLJ0) (gs := gsJ0) (rf := rfJ0) (rt := (some .char)) (nL := 2) (ins := mm_ins iJ0_charAt_5068e) rfl (rn_up (N := 60) (M := mm_fuel) (by decide) (by
    refine r_al rfl rfl ?_
    refine r_o1s rfl rfl (hn0 hm (by decide)) rfl rfl (c_lat5 hm) ?_
    refine r_zeq rfl rfl (by decide) (fun h => ?_) (fun h => ?_)
    · exact absurd h (by decide)
    · refine r_al rfl rfl ?_
      refine r_gfo rfl (hn0 hm (by decide)) rfl ?_
      refine r_il rfl rfl ?_
      refine r_s2s rfl rfl rfl (c_chb52 hm) ?_
      exact r_rett rfl rfl rfl rfl))
  have h3 : sJ0_charAt_5068e [.ref 1005, iv 2] mw = some r := h3
  rw [h3, h4]
theorem c_chb53 (hm : mw.length = 67) : sJ1_charAt_3b067 [.ref 1105, iv 3] mw = some (some (iv 105), mw) := by
  obtain ⟨r, h3, h4⟩ := rn_S (vs := [.ref 1105, iv 3]) (mw := mw) (Q := fun r => r = (some (iv 105), mw)) (gf := mm_gf gLJ1) (pf := mm_pf pLJ1) (mv := mm_mv vJ1_charAt_3b067) (ms := mm_mv zJ1_charAt_3b067) (kc := mm_kc kLJ1) (gs := mm_gs0) (rf := mm_rf0) (rt := (some .char)) (nL := 2) (ins := mm_ins iJ1_charAt_3b067) rfl (rn_up (N := 60) (M := mm_fuel) (by decide) (by
    refine r_il rfl rfl ?_
    refine r_al rfl rfl ?_
    refine r_alo rfl (hn0 hm (by decide)) rfl ?_
    refine r_s2n rfl rfl rfl (show sJ0_checkIndex_df160 [iv 3, iv 6] mw = some (none, mw) from rfl) ?_
    refine r_al rfl rfl ?_
    refine r_il rfl rfl ?_
    refine r_bao rfl (hn0 hm (by decide)) rfl (by decide) (by decide) (by decide) ?_
    refine r_si rfl (by decide) ?_
    refine r_op (c := 105) rfl rfl ?_
    refine r_op1 (c := 105) rfl rfl ?_
    exact r_rett rfl rfl rfl rfl))
  have h3 : sJ1_charAt_3b067 [.ref 1105, iv 3] mw = some r := h3
  rw [h3, h4]
theorem c_chr53 (hm : mw.length = 67) : sJ0_charAt_5068e [.ref 1005, iv 3] mw = some (some (iv 105), mw) := by
  obtain ⟨r, h3, h4⟩ := rn_S (vs := [.ref 1005, iv 3]) (mw := mw) (Q := fun r => r = (some (iv 105), mw)) (gf := mm_gf gLJ0) (pf := mm_pf pLJ0) (mv := mm_mv vJ0_charAt_5068e) (ms := mm_mv zJ0_charAt_5068e) (kc := mm_kc kLJ0) (gs := gsJ0) (rf := rfJ0) (rt := (some .char)) (nL := 2) (ins := mm_ins iJ0_charAt_5068e) rfl (rn_up (N := 60) (M := mm_fuel) (by decide) (by
    refine r_al rfl rfl ?_
    refine r_o1s rfl rfl (hn0 hm (by decide)) rfl rfl (c_lat5 hm) ?_
    refine r_zeq rfl rfl (by decide) (fun h => ?_) (fun h => ?_)
    · exact absurd h (by decide)
    · refine r_al rfl rfl ?_
      refine r_gfo rfl (hn0 hm (by decide)) rfl ?_
      refine r_il rfl rfl ?_
      refine r_s2s rfl rfl rfl (c_chb53 hm) ?_
      exact r_rett rfl rfl rfl rfl))
  have h3 : sJ0_charAt_5068e [.ref 1005, iv 3] mw = some r := h3
  rw [h3, h4]
theorem c_chb54 (hm : mw.length = 67) : sJ1_charAt_3b067 [.ref 1105, iv 4] mw = some (some (iv 110), mw) := by
  obtain ⟨r, h3, h4⟩ := rn_S (vs := [.ref 1105, iv 4]) (mw := mw) (Q := fun r => r = (some (iv 110), mw)) (gf := mm_gf gLJ1) (pf := mm_pf pLJ1) (mv := mm_mv vJ1_charAt_3b067) (ms := mm_mv zJ1_charAt_3b067) (kc := mm_kc kLJ1) (gs := mm_gs0) (rf := mm_rf0) (rt := (some .char)) (nL := 2) (ins := mm_ins iJ1_charAt_3b067) rfl (rn_up (N := 60) (M := mm_fuel) (by decide) (by
    refine r_il rfl rfl ?_
    refine r_al rfl rfl ?_
    refine r_alo rfl (hn0 hm (by decide)) rfl ?_
    refine r_s2n rfl rfl rfl (show sJ0_checkIndex_df160 [iv 4, iv 6] mw = some (none, mw) from rfl) ?_
    refine r_al rfl rfl ?_
    refine r_il rfl rfl ?_
    refine r_bao rfl (hn0 hm (by decide)) rfl (by decide) (by decide) (by decide) ?_
    refine r_si rfl (by decide) ?_
    refine r_op (c := 110) rfl rfl ?_
    refine r_op1 (c := 110) rfl rfl ?_
    exact r_rett rfl rfl rfl rfl))
  have h3 : sJ1_charAt_3b067 [.ref 1105, iv 4] mw = some r := h3
  rw [h3, h4]
theorem c_chr54 (hm : mw.length = 67) : sJ0_charAt_5068e [.ref 1005, iv 4] mw = some (some (iv 110), mw) := by
  obtain ⟨r, h3, h4⟩ := rn_S (vs := [.ref 1005, iv 4]) (mw := mw) (Q := fun r => r = (some (iv 110), mw)) (gf := mm_gf gLJ0) (pf := mm_pf pLJ0) (mv := mm_mv vJ0_charAt_5068e) (ms := mm_mv zJ0_charAt_5068e) (kc := mm_kc kLJ0) (gs := gsJ0) (rf := rfJ0) (rt := (some .char)) (nL := 2) (ins := mm_ins iJ0_charAt_5068e) rfl (rn_up (N := 60) (M := mm_fuel) (by decide) (by
    refine r_al rfl rfl ?_
    refine r_o1s rfl rfl (hn0 hm (by decide)) rfl rfl (c_lat5 hm) ?_
    refine r_zeq rfl rfl (by decide) (fun h => ?_) (fun h => ?_)
    · exact absurd h (by decide)
    · refine r_al rfl rfl ?_
      refine r_gfo rfl (hn0 hm (by decide)) rfl ?_
      refine r_il rfl rfl ?_
      refine r_s2s rfl rfl rfl (c_chb54 hm) ?_
      exact r_rett rfl rfl rfl rfl))
  have h3 : sJ0_charAt_5068e [.ref 1005, iv 4] mw = some r := h3
  rw [h3, h4]
theorem c_chb55 (hm : mw.length = 67) : sJ1_charAt_3b067 [.ref 1105, iv 5] mw = some (some (iv 100), mw) := by
  obtain ⟨r, h3, h4⟩ := rn_S (vs := [.ref 1105, iv 5]) (mw := mw) (Q := fun r => r = (some (iv 100), mw)) (gf := mm_gf gLJ1) (pf := mm_pf pLJ1) (mv := mm_mv vJ1_charAt_3b067) (ms := mm_mv zJ1_charAt_3b067) (kc := mm_kc kLJ1) (gs := mm_gs0) (rf := mm_rf0) (rt := (some .char)) (nL := 2) (ins := mm_ins iJ1_charAt_3b067) rfl (rn_up (N := 60) (M := mm_fuel) (by decide) (by
    refine r_il rfl rfl ?_
    refine r_al rfl rfl ?_
    refine r_alo rfl (hn0 hm (by decide)) rfl ?_
    refine r_s2n rfl rfl rfl (show sJ0_checkIndex_df160 [iv 5, iv 6] mw = some (none, mw) from rfl) ?_
    refine r_al rfl rfl ?_
    refine r_il rfl rfl ?_
    refine r_bao rfl (hn0 hm (by decide)) rfl (by decide) (by decide) (by decide) ?_
    refine r_si rfl (by decide) ?_
    refine r_op (c := 100) rfl rfl ?_
    refine r_op1 (c := 100) rfl rfl ?_
    exact r_rett rfl rfl rfl rfl))
  have h3 : sJ1_charAt_3b067 [.ref 1105, iv 5] mw = some r := h3
  rw [h3, h4]
theorem c_chr55 (hm : mw.length = 67) : sJ0_charAt_5068e [.ref 1005, iv 5] mw = some (some (iv 100), mw) := by
  obtain ⟨r, h3, h4⟩ := rn_S (vs := [.ref 1005, iv 5]) (mw := mw) (Q := fun r => r = (some (iv 100), mw)) (gf := mm_gf gLJ0) (pf := mm_pf pLJ0) (mv := mm_mv vJ0_charAt_5068e) (ms := mm_mv zJ0_charAt_5068e) (kc := mm_kc kLJ0) (gs := gsJ0) (rf := rfJ0) (rt := (some .char)) (nL := 2) (ins := mm_ins iJ0_charAt_5068e) rfl (rn_up (N := 60) (M := mm_fuel) (by decide) (by
    refine r_al rfl rfl ?_
    refine r_o1s rfl rfl (hn0 hm (by decide)) rfl rfl (c_lat5 hm) ?_
    refine r_zeq rfl rfl (by decide) (fun h => ?_) (fun h => ?_)
    · exact absurd h (by decide)
    · refine r_al rfl rfl ?_
      refine r_gfo rfl (hn0 hm (by decide)) rfl ?_
      refine r_il rfl rfl ?_
      refine r_s2s rfl rfl rfl (c_chb55 hm) ?_
      exact r_rett rfl rfl rfl rfl))
  have h3 : sJ0_charAt_5068e [.ref 1005, iv 5] mw = some r := h3
  rw [h3, h4]
end C1
