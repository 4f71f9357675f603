/-! ===== more steps of the small machine as rules: bits ===== -/
def oAnd (a b : Int) : Int := (Int32.ofInt a &&& Int32.ofInt b).toInt
def oOr (a b : Int) : Int := (Int32.ofInt a ||| Int32.ofInt b).toInt
def oXor (a b : Int) : Int := (Int32.ofInt a ^^^ Int32.ofInt b).toInt
def oShl (a b : Int) : Int := (Int32.ofInt a <<< (Int32.ofInt b &&& 31)).toInt
def oShr (a b : Int) : Int := (Int32.ofInt a >>> (Int32.ofInt b &&& 31)).toInt
def oRem (a b : Int) : Int := (Int32.ofInt a - Int32.ofInt a / Int32.ofInt b * Int32.ofInt b).toInt
def oDiv (a b : Int) : Int := (Int32.ofInt a / Int32.ofInt b).toInt
def nrm (a : Int) : Int := (Int32.ofInt a).toInt
theorem nrm_r (a : Int) : -2147483648 ≤ nrm a ∧ nrm a ≤ 2147483647 := ⟨as_lo _, as_hi _⟩
theorem nrm_s {a : Int} (h : -2147483648 ≤ a ∧ a ≤ 2147483647) : nrm a = a := iv_to h
theorem iv_nrm (a : Int) : iv a = iv (nrm a) := by unfold iv nrm; rw [Int32.ofInt_toInt]
theorem oAnd_r (a b : Int) : -2147483648 ≤ oAnd a b ∧ oAnd a b ≤ 2147483647 := ⟨as_lo _, as_hi _⟩
theorem oOr_r (a b : Int) : -2147483648 ≤ oOr a b ∧ oOr a b ≤ 2147483647 := ⟨as_lo _, as_hi _⟩
theorem oShl_r (a b : Int) : -2147483648 ≤ oShl a b ∧ oShl a b ≤ 2147483647 := ⟨as_lo _, as_hi _⟩
theorem oShr_r (a b : Int) : -2147483648 ≤ oShr a b ∧ oShr a b ≤ 2147483647 := ⟨as_lo _, as_hi _⟩
theorem oDiv_r (a b : Int) : -2147483648 ≤ oDiv a b ∧ oDiv a b ≤ 2147483647 := ⟨as_lo _, as_hi _⟩
theorem oRem_r (a b : Int) : -2147483648 ≤ oRem a b ∧ oRem a b ≤ 2147483647 := ⟨as_lo _, as_hi _⟩
section RN2
variable {gf : Nat → Option (Nat × Nat)} {pf : Nat → Option (Nat × Nat × FieldType)} {mv ms : Nat → Option (Nat × Option Nat × mm_F)} {kc : Nat → Option Value} {gs : Nat → Option Value} {rf : Nat → Nat → Option Value} {ro : Nat → Option (Nat × Nat × (Nat → Int32))} {rt : Option FieldType} {nL : Nat} {ins : Nat → Option Instr} {N pc : Nat} {lv : List (Nat × Value)} {st : List Value} {mw : List va_E} {Q : mm_R → Prop}
theorem r_and {a b : Int} (h : ins pc = some .iand) (k : rn gf pf mv ms kc gs rf ro rt nL ins N (pc + 1, lv, iv (oAnd a b) :: st, mw) Q) : rn gf pf mv ms kc gs rf ro rt nL ins (N + 1) (pc, lv, iv b :: iv a :: st, mw) Q := rn_one h (by unfold oAnd; rw [← iv_of]; rfl) k
theorem r_or {a b : Int} (h : ins pc = some .ior) (k : rn gf pf mv ms kc gs rf ro rt nL ins N (pc + 1, lv, iv (oOr a b) :: st, mw) Q) : rn gf pf mv ms kc gs rf ro rt nL ins (N + 1) (pc, lv, iv b :: iv a :: st, mw) Q := rn_one h (by unfold oOr; rw [← iv_of]; rfl) k
theorem r_xor {a b : Int} (h : ins pc = some .ixor) (k : rn gf pf mv ms kc gs rf ro rt nL ins N (pc + 1, lv, iv (oXor a b) :: st, mw) Q) : rn gf pf mv ms kc gs rf ro rt nL ins (N + 1) (pc, lv, iv b :: iv a :: st, mw) Q := rn_one h (by unfold oXor; rw [← iv_of]; rfl) k
theorem r_shl {a b : Int} (h : ins pc = some .ishl) (k : rn gf pf mv ms kc gs rf ro rt nL ins N (pc + 1, lv, iv (oShl a b) :: st, mw) Q) : rn gf pf mv ms kc gs rf ro rt nL ins (N + 1) (pc, lv, iv b :: iv a :: st, mw) Q := rn_one h (by unfold oShl; rw [← iv_of]; rfl) k
theorem r_shr {a b : Int} (h : ins pc = some .ishr) (k : rn gf pf mv ms kc gs rf ro rt nL ins N (pc + 1, lv, iv (oShr a b) :: st, mw) Q) : rn gf pf mv ms kc gs rf ro rt nL ins (N + 1) (pc, lv, iv b :: iv a :: st, mw) Q := rn_one h (by unfold oShr; rw [← iv_of]; rfl) k
theorem r_rem {a b : Int} (h : ins pc = some .irem) (hb : ¬ Int32.ofInt b = 0) (k : rn gf pf mv ms kc gs rf ro rt nL ins N (pc + 1, lv, iv (oRem a b) :: st, mw) Q) : rn gf pf mv ms kc gs rf ro rt nL ins (N + 1) (pc, lv, iv b :: iv a :: st, mw) Q := rn_one h (by unfold oRem; rw [← iv_of]; simp only [mm_ex, mm_i2, iv, hb, decide_false, Bool.not_false, cond_true]) k
theorem r_odiv {a b : Int} (h : ins pc = some .idiv) (hb : ¬ Int32.ofInt b = 0) (k : rn gf pf mv ms kc gs rf ro rt nL ins N (pc + 1, lv, iv (oDiv a b) :: st, mw) Q) : rn gf pf mv ms kc gs rf ro rt nL ins (N + 1) (pc, lv, iv b :: iv a :: st, mw) Q := rn_one h (by unfold oDiv; rw [← iv_of]; simp only [mm_ex, mm_i2, iv, hb, decide_false, Bool.not_false, cond_true]) k
theorem r_nrm {a : Int} (k : rn gf pf mv ms kc gs rf ro rt nL ins N (pc, lv, iv (nrm a) :: st, mw) Q) : rn gf pf mv ms kc gs rf ro rt nL ins N (pc, lv, iv a :: st, mw) Q := by
  rw [iv_nrm]
  exact k
theorem r_eq {a b : Int} (e : a = b) (k : rn gf pf mv ms kc gs rf ro rt nL ins N (pc, lv, iv b :: st, mw) Q) : rn gf pf mv ms kc gs rf ro rt nL ins N (pc, lv, iv a :: st, mw) Q := by
  rw [e]
  exact k
theorem r_pop2 {x : Int64} (h : ins pc = some .pop2) (k : rn gf pf mv ms kc gs rf ro rt nL ins N (pc + 1, lv, st, mw) Q) : rn gf pf mv ms kc gs rf ro rt nL ins (N + 1) (pc, lv, .long x :: st, mw) Q := rn_one h rfl k
theorem r_iao {a n : Nat} {f : Nat → Int32} {i : Int} (h : ins pc = some .iaload) (hc : mw[a]? = none) (hr : ro a = some (0, n, f)) (h0 : 0 ≤ i) (h1 : i < (n : Int)) (hn : n ≤ 100000) (k : rn gf pf mv ms kc gs rf ro rt nL ins N (pc + 1, lv, iv (f i.toNat).toInt :: st, mw) Q) : rn gf pf mv ms kc gs rf ro rt nL ins (N + 1) (pc, lv, iv i :: .ref a :: st, mw) Q := rn_one h (by
  obtain ⟨e1, e2⟩ := iv_ix h0 h1 hn
  rw [← iv_of]
  simp only [mm_ex, mm_iald, iv, hc, hr, e1, e2]
  rfl) k
end RN2
