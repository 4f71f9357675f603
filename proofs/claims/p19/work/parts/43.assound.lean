/-! ===== the checker is sound: what an abstract state says; numbers ===== -/
def as_elt (mw : List va_E) (k n : Nat) : Option Int32 := match mw[k]? with
  | some (.inl x) => (match x.2.2 with
    | .inl f => bif Nat.ble (n + 1) x.2.1 then some (f n) else none
    | _ => none)
  | _ => none
def as_fld (mw : List va_E) (k j : Nat) : Option Value := match mw[k]? with
  | some (.inr x) => x.2[j]?
  | _ => none
def as_int (v : Option Value) : Option Int := match v with
  | some (.int x) => some x.toInt
  | _ => none
def as_loc (lv : List (Nat × Value)) (mw : List va_E) (j : Nat) : Option Value := bif Nat.ble 1000 j then as_fld mw (j / 1000 - 1) (j % 1000) else mm_get lv j
def as_E (lv : List (Nat × Value)) (mw : List va_E) (j : Nat) : Option Int := as_int (as_loc lv mw j)
def as_G (mw : List va_E) (k : Nat) (i : Int) : Option Int := match i with
  | .ofNat n => (as_elt mw k n).map (fun x => x.toInt)
  | .negSucc _ => none
def as_in (I : ab_I) (v : Int) : Prop := I.1 ≤ v ∧ v ≤ I.2.1 ∧ v % (I.2.2.1 : Int) = (I.2.2.2.1 : Int) ∧ 0 < I.2.2.1
section ASD
variable (E : Nat → Option Int) (G : Nat → Int → Option Int)
def as_tL (j : Nat) (lo hi : Int) : Prop := ∃ x, E j = some x ∧ lo ≤ x ∧ x ≤ hi
def as_tE (k a j c : Nat) (lo hi : Int) : Prop := ∃ x e, E j = some x ∧ G k ((a : Int) * x + c) = some e ∧ lo ≤ e ∧ e ≤ hi
def as_two (o i : Nat) : Prop := ∃ x y, E o = some x ∧ E i = some y ∧ ((x = 1 ∧ 0 ≤ y ∧ y ≤ 15) ∨ (x = 0 ∧ 0 ≤ y ∧ y ≤ 9))
def as_pv (p : List Nat) (v : Int) : Prop := match p with
  | [1, j] => E j = some v
  | [2, a, j, c] => ∃ x, E j = some x ∧ v = (a : Int) * x + c
  | [3, k, a, j, c] => ∃ x, E j = some x ∧ G k ((a : Int) * x + c) = some v
  | [4, s, l, h, 1, j] => v ≠ ab_sent s → as_tL E j l h
  | [4, s, l, h, 3, k, a, j, c] => v ≠ ab_sent s → as_tE E G k a j c l h
  | [5, o, i] => v ≠ 0 → as_two E o i
  | _ => True
def as_fact (f : List Nat) : Prop := match f with
  | [1, k, a, j, c, l, h] => as_tE E G k a j c l h
  | [2, o, i] => as_two E o i
  | [3, o, i] => ∃ x y, E o = some x ∧ E i = some y ∧ 0 ≤ x ∧ x < y
  | _ => True
def as_val (a : ab_V) (v : Value) : Prop := match a, v with
  | .inl I, .int x => as_in I x.toInt ∧ as_pv E G I.2.2.2.2 x.toInt
  | .inr (some k), .ref q => q = k
  | .inr none, .long _ => True
  | _, _ => False
def as_stk : List ab_V → List Value → Prop
  | [], [] => True
  | a :: s, v :: w => as_val E G a v ∧ as_stk s w
  | _, _ => False
end ASD
def as_st (lv : List (Nat × Value)) (st : List Value) (mw : List va_E) (t : ab_T) : Prop := (∀ q ∈ t.1, ∃ v, as_loc lv mw q.1 = some v ∧ as_val (as_E lv mw) (as_G mw) q.2 v) ∧ as_stk (as_E lv mw) (as_G mw) t.2.1 st ∧ ∀ f ∈ t.2.2, as_fact (as_E lv mw) (as_G mw) f
/-! numbers -/
theorem as_lo (z : Int32) : -2147483648 ≤ z.toInt := by have := Int32.le_toInt z; omega
theorem as_hi (z : Int32) : z.toInt ≤ 2147483647 := by have := Int32.toInt_lt z; omega
theorem as_inTop (z : Int32) : as_in ab_top z.toInt := ⟨as_lo z, as_hi z, Int.emod_one _, Nat.one_pos⟩
theorem as_pvN {E : Nat → Option Int} {G : Nat → Int → Option Int} {v : Int} : as_pv E G [] v := trivial
theorem as_inC (x : Int) : as_in (ab_c x) x := ⟨Int.le_refl _, Int.le_refl _, Int.emod_one _, Nat.one_pos⟩
theorem as_isC {I : ab_I} {v : Int} (h : ab_isC I = true) (hv : as_in I v) : v = I.1 := by
  have h : I.1 = I.2.1 := by simpa [ab_isC] using h
  have := hv.1
  have := hv.2.1
  omega
section ASN
variable {E : Nat → Option Int} {G : Nat → Int → Option Int}
theorem as_fit {I : ab_I} {v : Int} {z : Int32} (hz : z.toInt = v.bmod 4294967296) (h : as_in I v) (hp : as_pv E G I.2.2.2.2 v) : as_in (ab_fit I) z.toInt ∧ as_pv E G (ab_fit I).2.2.2.2 z.toInt := by
  unfold ab_fit
  cases hr : ab_rng I.1 I.2.1 with
  | false => exact ⟨as_inTop z, trivial⟩
  | true =>
    have hr : -2147483648 ≤ I.1 ∧ I.2.1 ≤ 2147483647 := by simpa [ab_rng] using hr
    have h1 := h.1
    have h2 := h.2.1
    have e1 : z.toInt = v := by
      rw [hz]
      apply Int.bmod_eq_of_le <;> omega
    rw [e1]
    exact ⟨h, hp⟩
theorem as_padd {p : List Nat} {v c : Int} (h : as_pv E G p v) : as_pv E G (ab_padd p c) (v + c) := by
  unfold ab_padd
  cases hc : decide (0 ≤ c) with
  | false => exact trivial
  | true =>
    have hc : 0 ≤ c := by simpa using hc
    have e1 : (c.toNat : Int) = c := Int.toNat_of_nonneg hc
    simp only [cond_true]
    split
    · exact ⟨v, h, by simp [e1]⟩
    · obtain ⟨x, h1, h2⟩ := h
      refine ⟨x, h1, ?_⟩
      rw [h2, Int.natCast_add, e1]
      omega
    · exact trivial
theorem as_pmul {p : List Nat} {v : Int} {c : Nat} (h : as_pv E G p v) : as_pv E G (ab_pmul p c) (v * c) := by
  unfold ab_pmul
  split
  · refine ⟨v, h, ?_⟩
    simp [Int.mul_comm]
  · obtain ⟨x, h1, h2⟩ := h
    refine ⟨x, h1, ?_⟩
    rw [h2, Int.natCast_mul, Int.natCast_mul, Int.add_mul, Int.mul_right_comm]
  · exact trivial
theorem as_addc {I : ab_I} {c : Int} {x y : Int32} (hI : as_in I x.toInt) (hp : as_pv E G I.2.2.2.2 x.toInt) (hc : y.toInt = c) : as_in (ab_addc I c) (x + y).toInt ∧ as_pv E G (ab_addc I c).2.2.2.2 (x + y).toInt := by
  unfold ab_addc
  refine as_fit (v := x.toInt + c) (by rw [Int32.toInt_add, hc]) ⟨?_, ?_, ?_, hI.2.2.2⟩ (as_padd hp)
  · have := hI.1; show I.1 + c ≤ _; omega
  · have := hI.2.1; show _ ≤ I.2.1 + c; omega
  · have h3 := hI.2.2.1
    have hm : (I.2.2.1 : Int) ≠ 0 := by have := hI.2.2.2; omega
    show (x.toInt + c) % (I.2.2.1 : Int) = (((((I.2.2.2.1 : Int) + c) % (I.2.2.1 : Int)).toNat : Nat) : Int)
    rw [Int.toNat_of_nonneg (Int.emod_nonneg _ hm), ← h3, Int.emod_add_emod]
theorem as_add {I J : ab_I} {x y : Int32} (hI : as_in I x.toInt) (hJ : as_in J y.toInt) (hp : as_pv E G I.2.2.2.2 x.toInt) (hq : as_pv E G J.2.2.2.2 y.toInt) : as_in (ab_add I J) (x + y).toInt ∧ as_pv E G (ab_add I J).2.2.2.2 (x + y).toInt := by
  unfold ab_add
  cases h1 : ab_isC J with
  | true => exact as_addc hI hp (as_isC h1 hJ)
  | false =>
    cases h2 : ab_isC I with
    | true =>
      have := as_addc hJ hq (as_isC h2 hI)
      rw [Int32.add_comm] at this
      exact this
    | false =>
      refine as_fit (v := x.toInt + y.toInt) (by rw [Int32.toInt_add]) ⟨?_, ?_, Int.emod_one _, Nat.one_pos⟩ trivial
      · have := hI.1; have := hJ.1; show I.1 + J.1 ≤ _; omega
      · have := hI.2.1; have := hJ.2.1; show _ ≤ I.2.1 + J.2.1; omega
theorem as_sub {I J : ab_I} {x y : Int32} (hI : as_in I x.toInt) (hJ : as_in J y.toInt) : as_in (ab_sub I J) (x - y).toInt ∧ as_pv E G (ab_sub I J).2.2.2.2 (x - y).toInt := by
  unfold ab_sub
  cases h1 : ab_isC J with
  | true =>
    have hc := as_isC h1 hJ
    refine as_fit (v := x.toInt - J.1) (by rw [Int32.toInt_sub, hc]) ⟨?_, ?_, ?_, hI.2.2.2⟩ trivial
    · have := hI.1; show I.1 - J.1 ≤ _; omega
    · have := hI.2.1; show _ ≤ I.2.1 - J.1; omega
    · have h3 := hI.2.2.1
      have hm : (I.2.2.1 : Int) ≠ 0 := by have := hI.2.2.2; omega
      show (x.toInt - J.1) % (I.2.2.1 : Int) = (((((I.2.2.2.1 : Int) - J.1) % (I.2.2.1 : Int)).toNat : Nat) : Int)
      rw [Int.toNat_of_nonneg (Int.emod_nonneg _ hm), ← h3, Int.emod_sub_emod]
  | false =>
    refine as_fit (v := x.toInt - y.toInt) (by rw [Int32.toInt_sub]) ⟨?_, ?_, Int.emod_one _, Nat.one_pos⟩ trivial
    · have := hI.1; have := hJ.2.1; show I.1 - J.2.1 ≤ _; omega
    · have := hI.2.1; have := hJ.1; show _ ≤ I.2.1 - J.1; omega
theorem as_mulc {I : ab_I} {c : Nat} {x y : Int32} (hI : as_in I x.toInt) (hp : as_pv E G I.2.2.2.2 x.toInt) (hc : y.toInt = (c : Int)) (h1 : 0 < c) : as_in (ab_mulc I c) (x * y).toInt ∧ as_pv E G (ab_mulc I c).2.2.2.2 (x * y).toInt := by
  unfold ab_mulc
  refine as_fit (v := x.toInt * c) (by rw [Int32.toInt_mul, hc]) ⟨?_, ?_, ?_, Nat.mul_pos hI.2.2.2 h1⟩ (as_pmul hp)
  · exact Int.mul_le_mul_of_nonneg_right hI.1 (by omega)
  · exact Int.mul_le_mul_of_nonneg_right hI.2.1 (by omega)
  · show (x.toInt * c) % ((I.2.2.1 * c : Nat) : Int) = ((I.2.2.2.1 * c : Nat) : Int)
    rw [Int.natCast_mul, Int.natCast_mul, Int.mul_comm x.toInt, Int.mul_comm (I.2.2.1 : Int), Int.mul_emod_mul_of_pos _ _ (by omega), hI.2.2.1, Int.mul_comm]
theorem as_mul {I J : ab_I} {x y : Int32} (hI : as_in I x.toInt) (hJ : as_in J y.toInt) (hp : as_pv E G I.2.2.2.2 x.toInt) (hq : as_pv E G J.2.2.2.2 y.toInt) : as_in (ab_mul I J) (x * y).toInt ∧ as_pv E G (ab_mul I J).2.2.2.2 (x * y).toInt := by
  unfold ab_mul
  cases h1 : (ab_isC J && decide (1 ≤ J.1)) with
  | true =>
    simp only [Bool.and_eq_true, decide_eq_true_eq] at h1
    have hc := as_isC h1.1 hJ
    exact as_mulc hI hp (by rw [hc, Int.toNat_of_nonneg (by omega)]) (by omega)
  | false =>
    cases h2 : (ab_isC I && decide (1 ≤ I.1)) with
    | true =>
      simp only [Bool.and_eq_true, decide_eq_true_eq] at h2
      have hc := as_isC h2.1 hI
      have := as_mulc (y := x) (c := I.1.toNat) hJ hq (by rw [hc, Int.toNat_of_nonneg (by omega)]) (by omega)
      rw [Int32.mul_comm] at this
      exact this
    | false =>
      cases h3 : (decide (0 ≤ I.1) && decide (0 ≤ J.1)) with
      | false => exact ⟨as_inTop _, trivial⟩
      | true =>
        simp only [Bool.and_eq_true, decide_eq_true_eq] at h3
        have a1 := hI.1; have a2 := hI.2.1; have b1 := hJ.1; have b2 := hJ.2.1
        refine as_fit (v := x.toInt * y.toInt) (by rw [Int32.toInt_mul]) ⟨?_, ?_, Int.emod_one _, Nat.one_pos⟩ trivial
        · exact Int.mul_le_mul a1 b1 h3.2 (by omega)
        · exact Int.mul_le_mul a2 b2 (by omega) (by omega)
theorem as_nat {x : Int32} (h : 0 ≤ x.toInt) : x.toInt = (x.toBitVec.toNat : Int) ∧ x.toBitVec.toNat < 2147483648 := by
  have h1 : x.toInt = if 2 * x.toBitVec.toNat < 2 ^ 32 then (x.toBitVec.toNat : Int) else (x.toBitVec.toNat : Int) - ((2 ^ 32 : Nat) : Int) := BitVec.toInt_eq_toNat_cond _
  have h2 := x.toBitVec.isLt
  split at h1
  · exact ⟨h1, by omega⟩
  · omega
theorem as_ofnat {x : Int32} (h : x.toBitVec.toNat < 2147483648) : x.toInt = (x.toBitVec.toNat : Int) := by
  have h1 : x.toInt = if 2 * x.toBitVec.toNat < 2 ^ 32 then (x.toBitVec.toNat : Int) else (x.toBitVec.toNat : Int) - ((2 ^ 32 : Nat) : Int) := BitVec.toInt_eq_toNat_cond _
  rw [if_pos (by omega)] at h1
  exact h1
theorem as_andR {x y : Int32} (h : 0 ≤ y.toInt) : 0 ≤ (x &&& y).toInt ∧ (x &&& y).toInt ≤ y.toInt := by
  obtain ⟨h1, h2⟩ := as_nat h
  have h3 : (x &&& y).toBitVec.toNat ≤ y.toBitVec.toNat := by
    rw [Int32.toBitVec_and, BitVec.toNat_and]
    exact Nat.and_le_right
  rw [as_ofnat (x := x &&& y) (by omega), h1]
  omega
theorem as_and {I J : ab_I} {x y : Int32} (hI : as_in I x.toInt) (hJ : as_in J y.toInt) : as_in (ab_and I J) (x &&& y).toInt ∧ as_pv E G (ab_and I J).2.2.2.2 (x &&& y).toInt := by
  have a1 := hI.1; have a2 := hI.2.1; have b1 := hJ.1; have b2 := hJ.2.1
  unfold ab_and
  cases h1 : decide (0 ≤ I.1) with
  | true =>
    have h1 : 0 ≤ I.1 := by simpa using h1
    have c1 := as_andR (x := y) (y := x) (by omega)
    rw [Int32.and_comm] at c1
    cases h2 : (decide (0 ≤ J.1) && decide (J.2.1 ≤ I.2.1)) with
    | true =>
      simp only [Bool.and_eq_true, decide_eq_true_eq] at h2
      have c2 := as_andR (x := x) (y := y) (by omega)
      exact ⟨⟨c2.1, by show _ ≤ J.2.1; omega, Int.emod_one _, Nat.one_pos⟩, trivial⟩
    | false => exact ⟨⟨c1.1, by show _ ≤ I.2.1; omega, Int.emod_one _, Nat.one_pos⟩, trivial⟩
  | false =>
    cases h2 : decide (0 ≤ J.1) with
    | true =>
      have h2 : 0 ≤ J.1 := by simpa using h2
      have c2 := as_andR (x := x) (y := y) (by omega)
      exact ⟨⟨c2.1, by show _ ≤ J.2.1; omega, Int.emod_one _, Nat.one_pos⟩, trivial⟩
    | false => exact ⟨as_inTop _, trivial⟩
theorem as_orB {x y : Int32} {n : Nat} (hx : 0 ≤ x.toInt) (hy : 0 ≤ y.toInt) (h1 : x.toInt < 2 ^ n) (h2 : y.toInt < 2 ^ n) (hn : n < 31) : 0 ≤ (x ||| y).toInt ∧ (x ||| y).toInt < 2 ^ n := by
  obtain ⟨a1, a2⟩ := as_nat hx
  obtain ⟨b1, b2⟩ := as_nat hy
  have e0 : ((2 ^ n : Nat) : Int) = (2 : Int) ^ n := by rw [Int.natCast_pow]; rfl
  have h3 : (x ||| y).toBitVec.toNat < 2 ^ n := by
    rw [Int32.toBitVec_or, BitVec.toNat_or]
    exact Nat.or_lt_two_pow (by omega) (by omega)
  have h4 : 2 ^ n ≤ 2 ^ 30 := Nat.pow_le_pow_right (by omega) (by omega)
  rw [as_ofnat (x := x ||| y) (by omega)]
  omega
theorem as_or {I J : ab_I} {x y : Int32} (hI : as_in I x.toInt) (hJ : as_in J y.toInt) : as_in (ab_or I J) (x ||| y).toInt ∧ as_pv E G (ab_or I J).2.2.2.2 (x ||| y).toInt := by
  have a1 := hI.1; have a2 := hI.2.1; have b1 := hJ.1; have b2 := hJ.2.1
  unfold ab_or
  cases h0 : (decide (0 ≤ I.1) && decide (0 ≤ J.1)) with
  | false => exact ⟨as_inTop _, trivial⟩
  | true =>
    simp only [Bool.and_eq_true, decide_eq_true_eq] at h0
    cases h1 : (decide (I.2.1 ≤ 1) && decide (J.2.1 ≤ 1)) with
    | true =>
      simp only [Bool.and_eq_true, decide_eq_true_eq] at h1
      have := as_orB (n := 1) (x := x) (y := y) (by omega) (by omega) (by omega) (by omega) (by omega)
      exact ⟨⟨this.1, by show _ ≤ (1 : Int); omega, Int.emod_one _, Nat.one_pos⟩, trivial⟩
    | false =>
      cases h2 : (decide (I.2.1 ≤ 255) && decide (J.2.1 ≤ 255)) with
      | true =>
        simp only [Bool.and_eq_true, decide_eq_true_eq] at h2
        have := as_orB (n := 8) (x := x) (y := y) (by omega) (by omega) (by omega) (by omega) (by omega)
        exact ⟨⟨this.1, by show _ ≤ (255 : Int); omega, Int.emod_one _, Nat.one_pos⟩, trivial⟩
      | false =>
        cases h3 : (decide (I.2.1 ≤ 65535) && decide (J.2.1 ≤ 65535)) with
        | true =>
          simp only [Bool.and_eq_true, decide_eq_true_eq] at h3
          have := as_orB (n := 16) (x := x) (y := y) (by omega) (by omega) (by omega) (by omega) (by omega)
          exact ⟨⟨this.1, by show _ ≤ (65535 : Int); omega, Int.emod_one _, Nat.one_pos⟩, trivial⟩
        | false => exact ⟨as_inTop _, trivial⟩
theorem as_shT : ∀ n, n < 16 → ((1 : Int32) <<< (Int32.ofNat n &&& 31)).toInt = 2 ^ n := by decide +kernel
theorem as_shl {I J : ab_I} {x y : Int32} (hI : as_in I x.toInt) (hJ : as_in J y.toInt) : as_in (ab_shl I J) (x <<< (y &&& 31)).toInt ∧ as_pv E G (ab_shl I J).2.2.2.2 (x <<< (y &&& 31)).toInt := by
  have b1 := hJ.1; have b2 := hJ.2.1
  unfold ab_shl
  cases h0 : (ab_isC I && (decide (I.1 = 1) && (decide (0 ≤ J.1) && decide (J.2.1 ≤ 15)))) with
  | false => exact ⟨as_inTop _, trivial⟩
  | true =>
    simp only [Bool.and_eq_true, decide_eq_true_eq] at h0
    obtain ⟨h1, h2, h3, h4⟩ := h0
    have hx : x.toInt = 1 := by rw [as_isC h1 hI, h2]
    have hx : x = 1 := Int32.toInt_inj.mp (by rw [hx]; rfl)
    obtain ⟨c1, c2⟩ := as_nat (x := y) (by omega)
    have hy : y = Int32.ofNat y.toBitVec.toNat := Int32.toBitVec_inj.mp (by show y.toBitVec = BitVec.ofNat 32 _; simp)
    have h5 := as_shT y.toBitVec.toNat (by omega)
    rw [hx, hy, h5]
    have h6 : (2 : Int) ^ y.toBitVec.toNat ≤ 2 ^ J.2.1.toNat := by
      have := Nat.pow_le_pow_right (n := 2) (by omega) (show y.toBitVec.toNat ≤ J.2.1.toNat by omega)
      exact_mod_cast this
    have h7 : (1 : Int) ≤ 2 ^ y.toBitVec.toNat := by
      have := Nat.one_le_two_pow (n := y.toBitVec.toNat)
      exact_mod_cast this
    exact ⟨⟨h7, h6, Int.emod_one _, Nat.one_pos⟩, trivial⟩
theorem as_div {I J Q : ab_I} {x y : Int32} (hI : as_in I x.toInt) (hJ : as_in J y.toInt) (h : ab_div I J = some Q) : ¬ y = 0 ∧ as_in Q (x / y).toInt ∧ as_pv E G Q.2.2.2.2 (x / y).toInt := by
  have a1 := hI.1; have a2 := hI.2.1; have b1 := hJ.1; have b2 := hJ.2.1
  unfold ab_div at h
  cases h1 : decide (1 ≤ J.1) with
  | true =>
    rw [h1] at h
    have h1 : 1 ≤ J.1 := by simpa using h1
    have hy : ¬ y = 0 := by intro z; rw [z, Int32.toInt_zero] at b1; omega
    cases h2 : decide (0 ≤ I.1) with
    | true =>
      rw [h2] at h
      have h2 : 0 ≤ I.1 := by simpa using h2
      cases h
      have e1 : (x / y).toInt = x.toInt.tdiv y.toInt := by
        rw [Int32.toInt_div]
        have c1 : 0 ≤ x.toInt.tdiv y.toInt := Int.tdiv_nonneg (by omega) (by omega)
        have c2 : x.toInt.tdiv y.toInt ≤ x.toInt := Int.tdiv_le_self _ (by omega)
        have := as_hi x
        apply Int.bmod_eq_of_le <;> omega
      have c1 : 0 ≤ x.toInt.tdiv y.toInt := Int.tdiv_nonneg (by omega) (by omega)
      have c2 : x.toInt.tdiv y.toInt ≤ x.toInt := Int.tdiv_le_self _ (by omega)
      exact ⟨hy, ⟨by rw [e1]; exact c1, by rw [e1]; show _ ≤ I.2.1; omega, Int.emod_one _, Nat.one_pos⟩, trivial⟩
    | false =>
      rw [h2] at h
      cases h
      exact ⟨hy, as_inTop _, trivial⟩
  | false =>
    rw [h1] at h
    cases h2 : decide (J.2.1 ≤ -1) with
    | true =>
      rw [h2] at h
      have h2 : J.2.1 ≤ -1 := by simpa using h2
      cases h
      exact ⟨by intro z; rw [z, Int32.toInt_zero] at b2; omega, as_inTop _, trivial⟩
    | false => rw [h2] at h; cases h
end ASN
