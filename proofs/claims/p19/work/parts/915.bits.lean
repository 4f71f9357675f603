/-! ===== count: both sides ===== -/
def oUsh (a b : Int) : Int := (((Int32.ofInt a).toUInt32 >>> ((Int32.ofInt b).toUInt32 &&& Int32.toUInt32 31)).toInt32).toInt
section RN5
variable {gf : Nat → Option (Nat × Nat)} {pf : Nat → Option (Nat × Nat × FieldType)} {mv ms : Nat → Option (Nat × Option Nat × mm_F)} {kc : Nat → Option Value} {gs : Nat → Option Value} {rf : Nat → Nat → Option Value} {ro : Nat → Option (Nat × Nat × (Nat → Int32))} {rt : Option FieldType} {nL : Nat} {ins : Nat → Option Instr} {N pc : Nat} {lv : List (Nat × Value)} {st : List Value} {mw : List va_E} {Q : mm_R → Prop}
theorem r_ush {a b : Int} (h : ins pc = some .iushr) (k : rn gf pf mv ms kc gs rf ro rt nL ins N (pc + 1, lv, iv (oUsh a b) :: st, mw) Q) : rn gf pf mv ms kc gs rf ro rt nL ins (N + 1) (pc, lv, iv b :: iv a :: st, mw) Q := rn_one h (by unfold oUsh; rw [← iv_of]; rfl) k
end RN5
def bc1 (a : Int) : Int := a - oAnd (oUsh a 1) 1431655765
def bc2 (a : Int) : Int := oAnd a 858993459 + oAnd (oUsh a 2) 858993459
def bc3 (a : Int) : Int := oAnd (a + oUsh a 4) 252645135
def bc4 (a : Int) : Int := a + oUsh a 8
def bc5 (a : Int) : Int := a + oUsh a 16
def bcF (a : Int) : Int := oAnd (bc5 (bc4 (bc3 (bc2 (bc1 a))))) 63
/-- as many as bits stand, of sixteen -/
def nO (n : Nat) : Nat → Nat
  | 0 => 0
  | j + 1 => nO n j + (n >>> j) % 2
theorem i_nat {x : Int32} (h : x.toBitVec.toNat < 2147483648) : x.toInt = (x.toBitVec.toNat : Int) := BitVec.toInt_eq_toNat_of_lt (by show 2 * x.toBitVec.toNat < 2 ^ 32; omega)
theorem u_nat {x : UInt32} (h : x.toNat < 2147483648) : x.toInt32.toInt = (x.toNat : Int) := BitVec.toInt_eq_toNat_of_lt (by show 2 * x.toBitVec.toNat < 2 ^ 32; have h : x.toBitVec.toNat < 2147483648 := h; omega)
theorem n_bv {m : Nat} (h : m < 2147483648) : (BitVec.ofInt 32 (m : Int)).toNat = m := by
  rw [BitVec.ofInt_natCast, BitVec.toNat_ofNat]
  exact Nat.mod_eq_of_lt (by omega)
theorem oAnd_n {m k : Nat} {b : Int} (hb : b = (k : Int)) (hm : m < 2147483648) (hk : k < 2147483648) : oAnd (m : Int) b = ((m &&& k : Nat) : Int) := by
  subst hb
  unfold oAnd
  have e : (Int32.ofInt (m : Int) &&& Int32.ofInt (k : Int)).toBitVec.toNat = m &&& k := by
    show (BitVec.ofInt 32 (m : Int) &&& BitVec.ofInt 32 (k : Int)).toNat = m &&& k
    rw [BitVec.toNat_and, n_bv hm, n_bv hk]
  rw [i_nat (by rw [e]; exact Nat.lt_of_le_of_lt Nat.and_le_left hm), e]
theorem oUsh_n {m k : Nat} {b : Int} (hm : m < 2147483648) (hb : ((Int32.ofInt b).toUInt32 &&& Int32.toUInt32 31).toNat % 32 = k) : oUsh (m : Int) b = ((m >>> k : Nat) : Int) := by
  unfold oUsh
  have e0 : (Int32.ofInt (m : Int)).toUInt32.toNat = m := n_bv hm
  have e : ((Int32.ofInt (m : Int)).toUInt32 >>> ((Int32.ofInt b).toUInt32 &&& Int32.toUInt32 31)).toNat = m >>> k := by
    rw [UInt32.toNat_shiftRight, hb, e0]
  rw [u_nat (by rw [e]; exact Nat.lt_of_le_of_lt (Nat.shiftRight_le m k) hm), e]
def bN1 (n : Nat) : Nat := Nat.sub n (Nat.land (Nat.shiftRight n 1) 1431655765)
def bN2 (n : Nat) : Nat := Nat.add (Nat.land n 858993459) (Nat.land (Nat.shiftRight n 2) 858993459)
def bN3 (n : Nat) : Nat := Nat.land (Nat.add n (Nat.shiftRight n 4)) 252645135
def bN4 (n : Nat) : Nat := Nat.add n (Nat.shiftRight n 8)
def bN5 (n : Nat) : Nat := Nat.add n (Nat.shiftRight n 16)
def bN (n : Nat) : Nat := Nat.land (bN5 (bN4 (bN3 (bN2 (bN1 n))))) 63
theorem and_lm (m k : Nat) : m &&& k ≤ m := Nat.and_le_left
theorem bN_e {n : Nat} (hn : n < 65536) : bcF (n : Int) = ((bN n : Nat) : Int) := by
  have l1 : n >>> 1 &&& 1431655765 ≤ n := Nat.le_trans (and_lm _ _) (Nat.shiftRight_le n 1)
  have s1 := Nat.shiftRight_le n 1
  have e1 : bc1 (n : Int) = ((bN1 n : Nat) : Int) := by
    unfold bc1
    rw [oUsh_n (k := 1) (by omega) (by decide), oAnd_n (b := 1431655765) (k := 1431655765) rfl (Nat.lt_of_le_of_lt s1 (by omega)) (by decide)]
    show (n : Int) - ((n >>> 1 &&& 1431655765 : Nat) : Int) = ((n - (n >>> 1 &&& 1431655765) : Nat) : Int)
    exact (Int.ofNat_sub l1).symm
  have b1 : bN1 n ≤ n := Nat.sub_le _ _
  have e2 : ∀ x : Nat, x < 65536 → bc2 (x : Int) = ((bN2 x : Nat) : Int) ∧ bN2 x < 131072 := fun x hx => by
    refine ⟨?_, ?_⟩
    · unfold bc2
      rw [oAnd_n (m := x) (b := 858993459) (k := 858993459) rfl (by omega) (by decide), oUsh_n (k := 2) (by omega) (by decide), oAnd_n (b := 858993459) (k := 858993459) rfl (Nat.lt_of_le_of_lt (Nat.shiftRight_le x 2) (by omega)) (by decide)]
      rfl
    · have h1 := and_lm x 858993459
      have h2 := Nat.le_trans (and_lm (x >>> 2) 858993459) (Nat.shiftRight_le x 2)
      show (x &&& 858993459) + (x >>> 2 &&& 858993459) < 131072
      generalize x &&& 858993459 = y at h1
      generalize x >>> 2 &&& 858993459 = z at h2
      omega
  have e3 : ∀ x : Nat, x < 131072 → bc3 (x : Int) = ((bN3 x : Nat) : Int) ∧ bN3 x < 262144 := fun x hx => by
    have h2 := Nat.shiftRight_le x 4
    have h3 : x + x >>> 4 < 262144 := by generalize x >>> 4 = z at h2; omega
    refine ⟨?_, Nat.lt_of_le_of_lt (and_lm (x + x >>> 4) 252645135) h3⟩
    unfold bc3
    rw [oUsh_n (k := 4) (by omega) (by decide), ← Int.natCast_add, oAnd_n (b := 252645135) (k := 252645135) rfl (Nat.lt_trans h3 (by decide)) (by decide)]
    rfl
  have e4 : ∀ x : Nat, x < 262144 → bc4 (x : Int) = ((bN4 x : Nat) : Int) ∧ bN4 x < 524288 := fun x hx => by
    have h2 := Nat.shiftRight_le x 8
    have h3 : x + x >>> 8 < 524288 := by generalize x >>> 8 = z at h2; omega
    refine ⟨?_, h3⟩
    unfold bc4
    rw [oUsh_n (k := 8) (by omega) (by decide), ← Int.natCast_add]
    rfl
  have e5 : ∀ x : Nat, x < 524288 → bc5 (x : Int) = ((bN5 x : Nat) : Int) ∧ bN5 x < 1048576 := fun x hx => by
    have h2 := Nat.shiftRight_le x 16
    have h3 : x + x >>> 16 < 1048576 := by generalize x >>> 16 = z at h2; omega
    refine ⟨?_, h3⟩
    unfold bc5
    rw [oUsh_n (k := 16) (by omega) (by decide), ← Int.natCast_add]
    rfl
  have f2 := e2 (bN1 n) (by omega)
  have f3 := e3 (bN2 (bN1 n)) f2.2
  have f4 := e4 (bN3 (bN2 (bN1 n))) f3.2
  have f5 := e5 (bN4 (bN3 (bN2 (bN1 n)))) f4.2
  unfold bcF
  rw [e1, f2.1, f3.1, f4.1, f5.1, oAnd_n (b := 63) (k := 63) rfl (Nat.lt_trans f5.2 (by decide)) (by decide)]
  rfl
def pO (n : Nat) : Nat := Nat.add (Nat.add (Nat.add (Nat.add (Nat.add (Nat.add (Nat.add (Nat.add (Nat.add (Nat.add (Nat.add (Nat.add (Nat.add (Nat.add (Nat.add (Nat.add (0) (Nat.mod (Nat.shiftRight n 0) 2)) (Nat.mod (Nat.shiftRight n 1) 2)) (Nat.mod (Nat.shiftRight n 2) 2)) (Nat.mod (Nat.shiftRight n 3) 2)) (Nat.mod (Nat.shiftRight n 4) 2)) (Nat.mod (Nat.shiftRight n 5) 2)) (Nat.mod (Nat.shiftRight n 6) 2)) (Nat.mod (Nat.shiftRight n 7) 2)) (Nat.mod (Nat.shiftRight n 8) 2)) (Nat.mod (Nat.shiftRight n 9) 2)) (Nat.mod (Nat.shiftRight n 10) 2)) (Nat.mod (Nat.shiftRight n 11) 2)) (Nat.mod (Nat.shiftRight n 12) 2)) (Nat.mod (Nat.shiftRight n 13) 2)) (Nat.mod (Nat.shiftRight n 14) 2)) (Nat.mod (Nat.shiftRight n 15) 2)
theorem pO_e (n : Nat) : nO n 16 = pO n := rfl
noncomputable def bcK (b : Nat) : Nat → Bool := Nat.rec true (fun k ih => and (Nat.beq (bN (Nat.add b k)) (pO (Nat.add b k))) ih)
theorem bcK_t {b : Nat} : ∀ m : Nat, bcK b m = true → ∀ k : Nat, k < m → bN (b + k) = nO (b + k) 16
  | 0, _, k, hk => by omega
  | m + 1, h, k, hk => by
    have h : (Nat.beq (bN (b + m)) (pO (b + m)) && bcK b m) = true := h
    rw [Bool.and_eq_true] at h
    by_cases e : k = m
    · rw [e, pO_e]; exact Nat.eq_of_beq_eq_true h.1
    · exact bcK_t m h.2 k (by omega)
theorem bcK_0 : bcK 0 4096 = true := by decide +kernel
theorem bcK_1 : bcK 4096 4096 = true := by decide +kernel
theorem bcK_2 : bcK 8192 4096 = true := by decide +kernel
theorem bcK_3 : bcK 12288 4096 = true := by decide +kernel
theorem bcK_4 : bcK 16384 4096 = true := by decide +kernel
theorem bcK_5 : bcK 20480 4096 = true := by decide +kernel
theorem bcK_6 : bcK 24576 4096 = true := by decide +kernel
theorem bcK_7 : bcK 28672 4096 = true := by decide +kernel
theorem bcK_8 : bcK 32768 4096 = true := by decide +kernel
theorem bcK_9 : bcK 36864 4096 = true := by decide +kernel
theorem bcK_10 : bcK 40960 4096 = true := by decide +kernel
theorem bcK_11 : bcK 45056 4096 = true := by decide +kernel
theorem bcK_12 : bcK 49152 4096 = true := by decide +kernel
theorem bcK_13 : bcK 53248 4096 = true := by decide +kernel
theorem bcK_14 : bcK 57344 4096 = true := by decide +kernel
theorem bcK_15 : bcK 61440 4096 = true := by decide +kernel
theorem bN_all {n : Nat} (hn : n < 65536) : bN n = nO n 16 := by
  by_cases h0 : n < 4096
  · have := bcK_t 4096 bcK_0 (n - 0) (by omega)
    rw [show 0 + (n - 0) = n by omega] at this
    exact this
  by_cases h1 : n < 8192
  · have := bcK_t 4096 bcK_1 (n - 4096) (by omega)
    rw [show 4096 + (n - 4096) = n by omega] at this
    exact this
  by_cases h2 : n < 12288
  · have := bcK_t 4096 bcK_2 (n - 8192) (by omega)
    rw [show 8192 + (n - 8192) = n by omega] at this
    exact this
  by_cases h3 : n < 16384
  · have := bcK_t 4096 bcK_3 (n - 12288) (by omega)
    rw [show 12288 + (n - 12288) = n by omega] at this
    exact this
  by_cases h4 : n < 20480
  · have := bcK_t 4096 bcK_4 (n - 16384) (by omega)
    rw [show 16384 + (n - 16384) = n by omega] at this
    exact this
  by_cases h5 : n < 24576
  · have := bcK_t 4096 bcK_5 (n - 20480) (by omega)
    rw [show 20480 + (n - 20480) = n by omega] at this
    exact this
  by_cases h6 : n < 28672
  · have := bcK_t 4096 bcK_6 (n - 24576) (by omega)
    rw [show 24576 + (n - 24576) = n by omega] at this
    exact this
  by_cases h7 : n < 32768
  · have := bcK_t 4096 bcK_7 (n - 28672) (by omega)
    rw [show 28672 + (n - 28672) = n by omega] at this
    exact this
  by_cases h8 : n < 36864
  · have := bcK_t 4096 bcK_8 (n - 32768) (by omega)
    rw [show 32768 + (n - 32768) = n by omega] at this
    exact this
  by_cases h9 : n < 40960
  · have := bcK_t 4096 bcK_9 (n - 36864) (by omega)
    rw [show 36864 + (n - 36864) = n by omega] at this
    exact this
  by_cases h10 : n < 45056
  · have := bcK_t 4096 bcK_10 (n - 40960) (by omega)
    rw [show 40960 + (n - 40960) = n by omega] at this
    exact this
  by_cases h11 : n < 49152
  · have := bcK_t 4096 bcK_11 (n - 45056) (by omega)
    rw [show 45056 + (n - 45056) = n by omega] at this
    exact this
  by_cases h12 : n < 53248
  · have := bcK_t 4096 bcK_12 (n - 49152) (by omega)
    rw [show 49152 + (n - 49152) = n by omega] at this
    exact this
  by_cases h13 : n < 57344
  · have := bcK_t 4096 bcK_13 (n - 53248) (by omega)
    rw [show 53248 + (n - 53248) = n by omega] at this
    exact this
  by_cases h14 : n < 61440
  · have := bcK_t 4096 bcK_14 (n - 57344) (by omega)
    rw [show 57344 + (n - 57344) = n by omega] at this
    exact this
  have := bcK_t 4096 bcK_15 (n - 61440) (by omega)
  rw [show 61440 + (n - 61440) = n by omega] at this
  exact this
theorem bcF_n {n : Nat} (hn : n < 65536) : bcF (n : Int) = (nO n 16 : Nat) := by rw [bN_e hn, bN_all hn]
