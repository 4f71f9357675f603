/-! ===== steps of the small machine as rules ===== -/
/-- a whole number as the machine has it -/
def iv (z : Int) : Value := .int (Int32.ofInt z)
def lgv (z : Int) : Value := .long (Int64.ofInt z)
theorem iv_to {z : Int} (h : -2147483648 ≤ z ∧ z ≤ 2147483647) : (Int32.ofInt z).toInt = z := by
  exact Int32.toInt_ofInt_of_le (by omega) (by omega)
theorem iv_of (x : Int32) : Value.int x = iv x.toInt := by
  unfold iv
  rw [Int32.ofInt_toInt]
theorem iv_inj {a b : Int} (ha : -2147483648 ≤ a ∧ a ≤ 2147483647) (hb : -2147483648 ≤ b ∧ b ≤ 2147483647) : Int32.ofInt a = Int32.ofInt b ↔ a = b := by
  constructor
  · intro h
    have := congrArg Int32.toInt h
    rwa [iv_to ha, iv_to hb] at this
  · intro h
    rw [h]
theorem iv_lt {a b : Int} (ha : -2147483648 ≤ a ∧ a ≤ 2147483647) (hb : -2147483648 ≤ b ∧ b ≤ 2147483647) : Int32.ofInt a < Int32.ofInt b ↔ a < b := by
  rw [Int32.lt_iff_toInt_lt, iv_to ha, iv_to hb]
theorem iv_le {a b : Int} (ha : -2147483648 ≤ a ∧ a ≤ 2147483647) (hb : -2147483648 ≤ b ∧ b ≤ 2147483647) : Int32.ofInt a ≤ Int32.ofInt b ↔ a ≤ b := by
  rw [Int32.le_iff_toInt_le, iv_to ha, iv_to hb]
theorem iv_z : (0 : Int32) = Int32.ofInt 0 := rfl
theorem iv_ix {i : Int} {n : Nat} (h0 : 0 ≤ i) (h1 : i < (n : Int)) (hn : n ≤ 100000) : mm_inB (Int32.ofInt i) n = true ∧ (Int32.ofInt i).toNatClampNeg = i.toNat := by
  have e1 : (Int32.ofInt i).toInt = i := iv_to ⟨by omega, by omega⟩
  have e2 : (Int32.ofInt i).toNatClampNeg = i.toNat := by
    show (Int32.ofInt i).toInt.toNat = _
    rw [e1]
  refine ⟨?_, e2⟩
  unfold mm_inB
  rw [e2]
  have h2 : ¬ (Int32.ofInt i < 0) := by
    rw [iv_z, iv_lt ⟨by omega, by omega⟩ ⟨by omega, by omega⟩]
    omega
  have h3 : Nat.ble n i.toNat = false := by
    cases hb : Nat.ble n i.toNat with
    | false => rfl
    | true => have := Nat.le_of_ble_eq_true hb; omega
  simp [h2, h3]
theorem mm_run_up {gf : Nat → Option (Nat × Nat)} {pf : Nat → Option (Nat × Nat × FieldType)} {mv ms : Nat → Option (Nat × Option Nat × mm_F)} {kc : Nat → Option Value} {gs : Nat → Option Value} {rf : Nat → Nat → Option Value} {ro : Nat → Option (Nat × Nat × (Nat → Int32))} {rt : Option FieldType} {nL : Nat} {ins : Nat → Option Instr} : ∀ {n m : Nat} {c : mm_C} {r : mm_R}, mm_run gf pf mv ms kc gs rf ro rt nL ins n c = some r → n ≤ m → mm_run gf pf mv ms kc gs rf ro rt nL ins m c = some r
  | 0, _, _, _, h, _ => by cases h
  | n + 1, 0, _, _, _, h => by omega
  | n + 1, m + 1, (pc, lv, st, mw), r, h, hm => by
    rw [mm_run] at h ⊢
    cases hi : ins pc with
    | none => rw [hi] at h; cases h
    | some i =>
      rw [hi] at h
      simp only at h ⊢
      cases he : mm_ex gf pf mv ms kc gs rf ro rt nL i pc lv st mw with
      | none => rw [he] at h; cases h
      | some y =>
        rw [he] at h
        cases y with
        | inl x => exact mm_run_up (n := n) h (by omega)
        | inr x => exact h
section RN
variable {gf : Nat → Option (Nat × Nat)} {pf : Nat → Option (Nat × Nat × FieldType)} {mv ms : Nat → Option (Nat × Option Nat × mm_F)} {kc : Nat → Option Value} {gs : Nat → Option Value} {rf : Nat → Nat → Option Value} {ro : Nat → Option (Nat × Nat × (Nat → Int32))} {rt : Option FieldType} {nL : Nat} {ins : Nat → Option Instr}
def rn (gf : Nat → Option (Nat × Nat)) (pf : Nat → Option (Nat × Nat × FieldType)) (mv ms : Nat → Option (Nat × Option Nat × mm_F)) (kc : Nat → Option Value) (gs : Nat → Option Value) (rf : Nat → Nat → Option Value) (ro : Nat → Option (Nat × Nat × (Nat → Int32))) (rt : Option FieldType) (nL : Nat) (ins : Nat → Option Instr) (N : Nat) (c : mm_C) (Q : mm_R → Prop) : Prop := ∃ r, mm_run gf pf mv ms kc gs rf ro rt nL ins N c = some r ∧ Q r
variable {N pc : Nat} {lv : List (Nat × Value)} {st : List Value} {mw : List va_E} {Q : mm_R → Prop}
theorem rn_up {M : Nat} {c : mm_C} (h : N ≤ M) (k : rn gf pf mv ms kc gs rf ro rt nL ins N c Q) : rn gf pf mv ms kc gs rf ro rt nL ins M c Q := by
  obtain ⟨r, h1, h2⟩ := k
  exact ⟨r, mm_run_up h1 h, h2⟩
theorem rn_one {i : Instr} {c' : mm_C} (h : ins pc = some i) (he : mm_ex gf pf mv ms kc gs rf ro rt nL i pc lv st mw = some (.inl c')) (k : rn gf pf mv ms kc gs rf ro rt nL ins N c' Q) : rn gf pf mv ms kc gs rf ro rt nL ins (N + 1) (pc, lv, st, mw) Q := by
  obtain ⟨r, h1, h2⟩ := k
  obtain ⟨a, b, c, d⟩ := c'
  exact ⟨r, by rw [mm_run, h]; simp only [he]; exact h1, h2⟩
theorem rn_S {vs : List Value} (h : Nat.ble (lg_sl vs).length nL = true) (k : rn gf pf mv ms kc gs rf mm_ro rt nL ins mm_fuel (0, lv_args 0 vs, [], mw) Q) : ∃ r, mm_S gf pf mv ms kc gs rf rt nL ins vs mw = some r ∧ Q r := by
  unfold mm_S
  rw [h]
  exact k

theorem r_ic {n : Int} (h : ins pc = some (.iconst n)) (k : rn gf pf mv ms kc gs rf ro rt nL ins N (pc + 1, lv, iv n :: st, mw) Q) : rn gf pf mv ms kc gs rf ro rt nL ins (N + 1) (pc, lv, st, mw) Q := rn_one h rfl k
theorem r_bi {n : Int} (h : ins pc = some (.bipush n)) (e : (Int8.ofInt n).toInt32 = Int32.ofInt n) (k : rn gf pf mv ms kc gs rf ro rt nL ins N (pc + 2, lv, iv n :: st, mw) Q) : rn gf pf mv ms kc gs rf ro rt nL ins (N + 1) (pc, lv, st, mw) Q := rn_one h (by rw [iv, ← e]; rfl) k
theorem r_si {n : Int} (h : ins pc = some (.sipush n)) (e : (Int16.ofInt n).toInt32 = Int32.ofInt n) (k : rn gf pf mv ms kc gs rf ro rt nL ins N (pc + 3, lv, iv n :: st, mw) Q) : rn gf pf mv ms kc gs rf ro rt nL ins (N + 1) (pc, lv, st, mw) Q := rn_one h (by rw [iv, ← e]; rfl) k
theorem r_lc {n : Fin 2} (h : ins pc = some (.lconst n)) (k : rn gf pf mv ms kc gs rf ro rt nL ins N (pc + 1, lv, .long (Int64.ofNat (n : Nat)) :: st, mw) Q) : rn gf pf mv ms kc gs rf ro rt nL ins (N + 1) (pc, lv, st, mw) Q := rn_one h rfl k
theorem r_ldc {n : Nat} {v : Value} (h : ins pc = some (.ldc n)) (hk : kc (3 * n) = some v) (k : rn gf pf mv ms kc gs rf ro rt nL ins N (pc + 2, lv, v :: st, mw) Q) : rn gf pf mv ms kc gs rf ro rt nL ins (N + 1) (pc, lv, st, mw) Q := rn_one h (by simp only [mm_ex, hk]; rfl) k
theorem r_ldcw {n : Nat} {v : Value} (h : ins pc = some (.ldc_w n)) (hk : kc (3 * n + 1) = some v) (k : rn gf pf mv ms kc gs rf ro rt nL ins N (pc + 3, lv, v :: st, mw) Q) : rn gf pf mv ms kc gs rf ro rt nL ins (N + 1) (pc, lv, st, mw) Q := rn_one h (by simp only [mm_ex, hk]; rfl) k
theorem r_ldc2 {n : Nat} {v : Value} (h : ins pc = some (.ldc2_w n)) (hk : kc (3 * n + 2) = some v) (k : rn gf pf mv ms kc gs rf ro rt nL ins N (pc + 3, lv, v :: st, mw) Q) : rn gf pf mv ms kc gs rf ro rt nL ins (N + 1) (pc, lv, st, mw) Q := rn_one h (by simp only [mm_ex, hk]; rfl) k
theorem r_il {j : Fin 4} {z : Int} (h : ins pc = some (.iload_n j)) (hg : mm_get lv j = some (iv z)) (k : rn gf pf mv ms kc gs rf ro rt nL ins N (pc + 1, lv, iv z :: st, mw) Q) : rn gf pf mv ms kc gs rf ro rt nL ins (N + 1) (pc, lv, st, mw) Q := rn_one h (by simp only [mm_ex, mm_load, hg, iv]) k
theorem r_ilw {j : Nat} {z : Int} (h : ins pc = some (.iload j)) (hg : mm_get lv j = some (iv z)) (k : rn gf pf mv ms kc gs rf ro rt nL ins N (pc + 2, lv, iv z :: st, mw) Q) : rn gf pf mv ms kc gs rf ro rt nL ins (N + 1) (pc, lv, st, mw) Q := rn_one h (by simp only [mm_ex, mm_load, hg, iv]) k
theorem r_al {j : Fin 4} {a : Nat} (h : ins pc = some (.aload_n j)) (hg : mm_get lv j = some (.ref a)) (k : rn gf pf mv ms kc gs rf ro rt nL ins N (pc + 1, lv, .ref a :: st, mw) Q) : rn gf pf mv ms kc gs rf ro rt nL ins (N + 1) (pc, lv, st, mw) Q := rn_one h (by simp only [mm_ex, mm_load, hg, iv]) k
theorem r_alw {j : Nat} {a : Nat} (h : ins pc = some (.aload j)) (hg : mm_get lv j = some (.ref a)) (k : rn gf pf mv ms kc gs rf ro rt nL ins N (pc + 2, lv, .ref a :: st, mw) Q) : rn gf pf mv ms kc gs rf ro rt nL ins (N + 1) (pc, lv, st, mw) Q := rn_one h (by simp only [mm_ex, mm_load, hg, iv]) k
theorem r_ll {j : Fin 4} {z : Int64} (h : ins pc = some (.lload_n j)) (hg : mm_get lv j = some (.long z)) (k : rn gf pf mv ms kc gs rf ro rt nL ins N (pc + 1, lv, .long z :: st, mw) Q) : rn gf pf mv ms kc gs rf ro rt nL ins (N + 1) (pc, lv, st, mw) Q := rn_one h (by simp only [mm_ex, mm_load, hg, iv]) k
theorem r_llw {j : Nat} {z : Int64} (h : ins pc = some (.lload j)) (hg : mm_get lv j = some (.long z)) (k : rn gf pf mv ms kc gs rf ro rt nL ins N (pc + 2, lv, .long z :: st, mw) Q) : rn gf pf mv ms kc gs rf ro rt nL ins (N + 1) (pc, lv, st, mw) Q := rn_one h (by simp only [mm_ex, mm_load, hg, iv]) k
theorem r_is {j : Fin 4} {lv' : List (Nat × Value)} {z : Int} (h : ins pc = some (.istore_n j)) (hb : Nat.ble ((j : Nat) + 1) nL = true) (hl : mm_set1 lv (j : Nat) (iv z) = lv') (k : rn gf pf mv ms kc gs rf ro rt nL ins N (pc + 1, lv', st, mw) Q) : rn gf pf mv ms kc gs rf ro rt nL ins (N + 1) (pc, lv, iv z :: st, mw) Q := rn_one h (by subst hl; simp only [mm_ex, mm_store, hb, iv, cond_true]) k
theorem r_isw {j : Nat} {lv' : List (Nat × Value)} {z : Int} (h : ins pc = some (.istore j)) (hb : Nat.ble ((j : Nat) + 1) nL = true) (hl : mm_set1 lv (j : Nat) (iv z) = lv') (k : rn gf pf mv ms kc gs rf ro rt nL ins N (pc + 2, lv', st, mw) Q) : rn gf pf mv ms kc gs rf ro rt nL ins (N + 1) (pc, lv, iv z :: st, mw) Q := rn_one h (by subst hl; simp only [mm_ex, mm_store, hb, iv, cond_true]) k
theorem r_as {j : Fin 4} {lv' : List (Nat × Value)} {a : Nat} (h : ins pc = some (.astore_n j)) (hb : Nat.ble ((j : Nat) + 1) nL = true) (hl : mm_set1 lv (j : Nat) (.ref a) = lv') (k : rn gf pf mv ms kc gs rf ro rt nL ins N (pc + 1, lv', st, mw) Q) : rn gf pf mv ms kc gs rf ro rt nL ins (N + 1) (pc, lv, .ref a :: st, mw) Q := rn_one h (by subst hl; simp only [mm_ex, mm_store, hb, iv, cond_true]) k
theorem r_asw {j : Nat} {lv' : List (Nat × Value)} {a : Nat} (h : ins pc = some (.astore j)) (hb : Nat.ble ((j : Nat) + 1) nL = true) (hl : mm_set1 lv (j : Nat) (.ref a) = lv') (k : rn gf pf mv ms kc gs rf ro rt nL ins N (pc + 2, lv', st, mw) Q) : rn gf pf mv ms kc gs rf ro rt nL ins (N + 1) (pc, lv, .ref a :: st, mw) Q := rn_one h (by subst hl; simp only [mm_ex, mm_store, hb, iv, cond_true]) k
theorem r_ls {j : Fin 4} {lv' : List (Nat × Value)} {z : Int64} (h : ins pc = some (.lstore_n j)) (hb : Nat.ble ((j : Nat) + 2) nL = true) (hl : mm_set2 lv (j : Nat) (.long z) = lv') (k : rn gf pf mv ms kc gs rf ro rt nL ins N (pc + 1, lv', st, mw) Q) : rn gf pf mv ms kc gs rf ro rt nL ins (N + 1) (pc, lv, .long z :: st, mw) Q := rn_one h (by subst hl; simp only [mm_ex, mm_store, hb, iv, cond_true]) k
theorem r_lsw {j : Nat} {lv' : List (Nat × Value)} {z : Int64} (h : ins pc = some (.lstore j)) (hb : Nat.ble ((j : Nat) + 2) nL = true) (hl : mm_set2 lv (j : Nat) (.long z) = lv') (k : rn gf pf mv ms kc gs rf ro rt nL ins N (pc + 2, lv', st, mw) Q) : rn gf pf mv ms kc gs rf ro rt nL ins (N + 1) (pc, lv, .long z :: st, mw) Q := rn_one h (by subst hl; simp only [mm_ex, mm_store, hb, iv, cond_true]) k
theorem r_inc {j : Nat} {d z : Int} {lv' : List (Nat × Value)} (h : ins pc = some (.iinc j d)) (hg : mm_get lv j = some (iv z)) (hb : Nat.ble (j + 1) nL = true) (hl : mm_set1 lv j (iv (z + d)) = lv') (k : rn gf pf mv ms kc gs rf ro rt nL ins N (pc + 3, lv', st, mw) Q) : rn gf pf mv ms kc gs rf ro rt nL ins (N + 1) (pc, lv, st, mw) Q := rn_one h (by subst hl; simp only [mm_ex, mm_iinc, hg, hb, iv, cond_true, Int32.ofInt_add]) k
theorem r_dup {v : Value} (h : ins pc = some .dup) (e : v.category = 1) (k : rn gf pf mv ms kc gs rf ro rt nL ins N (pc + 1, lv, v :: v :: st, mw) Q) : rn gf pf mv ms kc gs rf ro rt nL ins (N + 1) (pc, lv, v :: st, mw) Q := rn_one h (by simp only [mm_ex, mm_dup, e]; rfl) k
theorem r_dup2 {v u : Value} (h : ins pc = some .dup2) (e : v.category = 1) (e2 : u.category = 1) (k : rn gf pf mv ms kc gs rf ro rt nL ins N (pc + 1, lv, v :: u :: v :: u :: st, mw) Q) : rn gf pf mv ms kc gs rf ro rt nL ins (N + 1) (pc, lv, v :: u :: st, mw) Q := rn_one h (by simp only [mm_ex, mm_dup2, e, e2]; rfl) k
theorem r_pop {v : Value} (h : ins pc = some .pop) (e : v.category = 1) (k : rn gf pf mv ms kc gs rf ro rt nL ins N (pc + 1, lv, st, mw) Q) : rn gf pf mv ms kc gs rf ro rt nL ins (N + 1) (pc, lv, v :: st, mw) Q := rn_one h (by simp only [mm_ex, mm_pop, e]; rfl) k
theorem r_add {a b : Int} (h : ins pc = some .iadd) (k : rn gf pf mv ms kc gs rf ro rt nL ins N (pc + 1, lv, iv (a + b) :: st, mw) Q) : rn gf pf mv ms kc gs rf ro rt nL ins (N + 1) (pc, lv, iv b :: iv a :: st, mw) Q := rn_one h (by simp only [mm_ex, mm_i2, iv, cond_true, Int32.ofInt_add]) k
theorem r_sub {a b : Int} (h : ins pc = some .isub) (k : rn gf pf mv ms kc gs rf ro rt nL ins N (pc + 1, lv, iv (a - b) :: st, mw) Q) : rn gf pf mv ms kc gs rf ro rt nL ins (N + 1) (pc, lv, iv b :: iv a :: st, mw) Q := rn_one h (by simp only [mm_ex, mm_i2, iv, cond_true, Int32.ofInt_sub]) k
theorem r_mul {a b : Int} (h : ins pc = some .imul) (k : rn gf pf mv ms kc gs rf ro rt nL ins N (pc + 1, lv, iv (a * b) :: st, mw) Q) : rn gf pf mv ms kc gs rf ro rt nL ins (N + 1) (pc, lv, iv b :: iv a :: st, mw) Q := rn_one h (by simp only [mm_ex, mm_i2, iv, cond_true, Int32.ofInt_mul]) k
theorem r_div {a b : Int} (h : ins pc = some .idiv) (ha : 0 ≤ a ∧ a ≤ 2147483647) (hb : 1 ≤ b ∧ b ≤ 2147483647) (k : rn gf pf mv ms kc gs rf ro rt nL ins N (pc + 1, lv, iv (a / b) :: st, mw) Q) : rn gf pf mv ms kc gs rf ro rt nL ins (N + 1) (pc, lv, iv b :: iv a :: st, mw) Q := rn_one h (by
  have e1 := iv_to (z := a) ⟨by omega, by omega⟩
  have e2 := iv_to (z := b) ⟨by omega, by omega⟩
  have hz : ¬ Int32.ofInt b = 0 := by rw [iv_z, iv_inj ⟨by omega, by omega⟩ ⟨by omega, by omega⟩]; omega
  have h0 : 0 ≤ a / b := Int.ediv_nonneg ha.1 (by omega)
  have h1 : a / b ≤ a := Int.ediv_le_self _ ha.1
  have e3 : Int32.ofInt a / Int32.ofInt b = Int32.ofInt (a / b) := by
    apply Int32.toInt_inj.mp
    rw [iv_to ⟨by omega, by omega⟩, Int32.toInt_div, e1, e2, Int.tdiv_eq_ediv_of_nonneg ha.1]
    apply Int.bmod_eq_of_le <;> omega
  simp only [mm_ex, mm_i2, iv, hz, decide_false, Bool.not_false, cond_true, e3]) k
theorem r_i2 {x y z : Int32} {i : Instr} (h : ins pc = some i) (e : mm_ex gf pf mv ms kc gs rf ro rt nL i pc lv (.int y :: .int x :: st) mw = some (.inl (pc + 1, lv, .int z :: st, mw))) (k : rn gf pf mv ms kc gs rf ro rt nL ins N (pc + 1, lv, iv z.toInt :: st, mw) Q) : rn gf pf mv ms kc gs rf ro rt nL ins (N + 1) (pc, lv, .int y :: .int x :: st, mw) Q := rn_one h e (by rw [iv_of]; exact k)
theorem r_i2l {a : Int} (h : ins pc = some .i2l) (k : rn gf pf mv ms kc gs rf ro rt nL ins N (pc + 1, lv, .long (Int32.ofInt a).toInt64 :: st, mw) Q) : rn gf pf mv ms kc gs rf ro rt nL ins (N + 1) (pc, lv, iv a :: st, mw) Q := rn_one h rfl k
theorem r_l2i {x : Int64} (h : ins pc = some .l2i) (k : rn gf pf mv ms kc gs rf ro rt nL ins N (pc + 1, lv, iv x.toInt32.toInt :: st, mw) Q) : rn gf pf mv ms kc gs rf ro rt nL ins (N + 1) (pc, lv, .long x :: st, mw) Q := rn_one h (by rw [← iv_of]; rfl) k
theorem r_i2b {a : Int} (h : ins pc = some .i2b) (k : rn gf pf mv ms kc gs rf ro rt nL ins N (pc + 1, lv, iv ((Int32.ofInt a).toInt8.toInt32).toInt :: st, mw) Q) : rn gf pf mv ms kc gs rf ro rt nL ins (N + 1) (pc, lv, iv a :: st, mw) Q := rn_one h (by rw [← iv_of]; rfl) k
theorem r_ladd {x y : Int64} (h : ins pc = some .ladd) (k : rn gf pf mv ms kc gs rf ro rt nL ins N (pc + 1, lv, .long (x + y) :: st, mw) Q) : rn gf pf mv ms kc gs rf ro rt nL ins (N + 1) (pc, lv, .long y :: .long x :: st, mw) Q := rn_one h rfl k
theorem r_lmul {x y : Int64} (h : ins pc = some .lmul) (k : rn gf pf mv ms kc gs rf ro rt nL ins N (pc + 1, lv, .long (x * y) :: st, mw) Q) : rn gf pf mv ms kc gs rf ro rt nL ins (N + 1) (pc, lv, .long y :: .long x :: st, mw) Q := rn_one h rfl k
theorem r_land {x y : Int64} (h : ins pc = some .land) (k : rn gf pf mv ms kc gs rf ro rt nL ins N (pc + 1, lv, .long (x &&& y) :: st, mw) Q) : rn gf pf mv ms kc gs rf ro rt nL ins (N + 1) (pc, lv, .long y :: .long x :: st, mw) Q := rn_one h rfl k
theorem r_lcmp {x y : Int64} (h : ins pc = some .lcmp) (k : rn gf pf mv ms kc gs rf ro rt nL ins N (pc + 1, lv, iv (lg_cmp x y).toInt :: st, mw) Q) : rn gf pf mv ms kc gs rf ro rt nL ins (N + 1) (pc, lv, .long y :: .long x :: st, mw) Q := rn_one h (by rw [← iv_of]; rfl) k
theorem r_lshr {x : Int64} {a : Int} (h : ins pc = some .lshr) (k : rn gf pf mv ms kc gs rf ro rt nL ins N (pc + 1, lv, .long (x >>> ((Int32.ofInt a).toInt64 &&& 63)) :: st, mw) Q) : rn gf pf mv ms kc gs rf ro rt nL ins (N + 1) (pc, lv, iv a :: .long x :: st, mw) Q := rn_one h rfl k
theorem r_lshl {x : Int64} {a : Int} (h : ins pc = some .lshl) (k : rn gf pf mv ms kc gs rf ro rt nL ins N (pc + 1, lv, .long (x <<< ((Int32.ofInt a).toInt64 &&& 63)) :: st, mw) Q) : rn gf pf mv ms kc gs rf ro rt nL ins (N + 1) (pc, lv, iv a :: .long x :: st, mw) Q := rn_one h rfl k
theorem r_goto {off : Int} {q : Nat} (h : ins pc = some (.goto off)) (hj : mm_jmp pc off = some q) (k : rn gf pf mv ms kc gs rf ro rt nL ins N (q, lv, st, mw) Q) : rn gf pf mv ms kc gs rf ro rt nL ins (N + 1) (pc, lv, st, mw) Q := rn_one h (by simp only [mm_ex, mm_goto, hj]) k
theorem r_ceq {a b : Int} {off : Int} {q : Nat} (h : ins pc = some (.if_icmp .eq off)) (hj : mm_jmp pc off = some q) (ha : -2147483648 ≤ a ∧ a ≤ 2147483647) (hb : -2147483648 ≤ b ∧ b ≤ 2147483647) (k1 : a = b → rn gf pf mv ms kc gs rf ro rt nL ins N (q, lv, st, mw) Q) (k2 : ¬ a = b → rn gf pf mv ms kc gs rf ro rt nL ins N (pc + 3, lv, st, mw) Q) : rn gf pf mv ms kc gs rf ro rt nL ins (N + 1) (pc, lv, iv b :: iv a :: st, mw) Q := by
  by_cases hc : a = b
  · have e : mm_cnd .eq (Int32.ofInt a) (Int32.ofInt b) = true := by simp only [mm_cnd, decide_eq_true_eq, iv_inj ha hb]; exact hc
    exact rn_one h (by simp only [mm_ex, mm_icmp, hj, iv, e, cond_true]) (k1 hc)
  · have e : mm_cnd .eq (Int32.ofInt a) (Int32.ofInt b) = false := by simp only [mm_cnd, decide_eq_false_iff_not, iv_inj ha hb]; exact hc
    exact rn_one h (by simp only [mm_ex, mm_icmp, hj, iv, e, cond_false]) (k2 (by first | exact hc | omega))
theorem r_zeq {a : Int} {off : Int} {q : Nat} (h : ins pc = some (.ifCond .eq off)) (hj : mm_jmp pc off = some q) (ha : -2147483648 ≤ a ∧ a ≤ 2147483647) (k1 : a = 0 → rn gf pf mv ms kc gs rf ro rt nL ins N (q, lv, st, mw) Q) (k2 : ¬ a = 0 → rn gf pf mv ms kc gs rf ro rt nL ins N (pc + 3, lv, st, mw) Q) : rn gf pf mv ms kc gs rf ro rt nL ins (N + 1) (pc, lv, iv a :: st, mw) Q := by
  have hb : -2147483648 ≤ (0 : Int) ∧ (0 : Int) ≤ 2147483647 := by omega
  by_cases hc : a = 0
  · have e : mm_cnd .eq (Int32.ofInt a) 0 = true := by rw [iv_z]; simp only [mm_cnd, decide_eq_true_eq, iv_inj ha hb]; exact hc
    exact rn_one h (by simp only [mm_ex, mm_if, hj, iv, e, cond_true]) (k1 hc)
  · have e : mm_cnd .eq (Int32.ofInt a) 0 = false := by rw [iv_z]; simp only [mm_cnd, decide_eq_false_iff_not, iv_inj ha hb]; exact hc
    exact rn_one h (by simp only [mm_ex, mm_if, hj, iv, e, cond_false]) (k2 (by first | exact hc | omega))
theorem r_cne {a b : Int} {off : Int} {q : Nat} (h : ins pc = some (.if_icmp .ne off)) (hj : mm_jmp pc off = some q) (ha : -2147483648 ≤ a ∧ a ≤ 2147483647) (hb : -2147483648 ≤ b ∧ b ≤ 2147483647) (k1 : ¬ a = b → rn gf pf mv ms kc gs rf ro rt nL ins N (q, lv, st, mw) Q) (k2 : a = b → rn gf pf mv ms kc gs rf ro rt nL ins N (pc + 3, lv, st, mw) Q) : rn gf pf mv ms kc gs rf ro rt nL ins (N + 1) (pc, lv, iv b :: iv a :: st, mw) Q := by
  by_cases hc : ¬ a = b
  · have e : mm_cnd .ne (Int32.ofInt a) (Int32.ofInt b) = true := by simp only [mm_cnd, decide_eq_true_eq, iv_inj ha hb]; exact hc
    exact rn_one h (by simp only [mm_ex, mm_icmp, hj, iv, e, cond_true]) (k1 hc)
  · have e : mm_cnd .ne (Int32.ofInt a) (Int32.ofInt b) = false := by simp only [mm_cnd, decide_eq_false_iff_not, iv_inj ha hb]; exact hc
    exact rn_one h (by simp only [mm_ex, mm_icmp, hj, iv, e, cond_false]) (k2 (by first | exact hc | omega))
theorem r_zne {a : Int} {off : Int} {q : Nat} (h : ins pc = some (.ifCond .ne off)) (hj : mm_jmp pc off = some q) (ha : -2147483648 ≤ a ∧ a ≤ 2147483647) (k1 : ¬ a = 0 → rn gf pf mv ms kc gs rf ro rt nL ins N (q, lv, st, mw) Q) (k2 : a = 0 → rn gf pf mv ms kc gs rf ro rt nL ins N (pc + 3, lv, st, mw) Q) : rn gf pf mv ms kc gs rf ro rt nL ins (N + 1) (pc, lv, iv a :: st, mw) Q := by
  have hb : -2147483648 ≤ (0 : Int) ∧ (0 : Int) ≤ 2147483647 := by omega
  by_cases hc : ¬ a = 0
  · have e : mm_cnd .ne (Int32.ofInt a) 0 = true := by rw [iv_z]; simp only [mm_cnd, decide_eq_true_eq, iv_inj ha hb]; exact hc
    exact rn_one h (by simp only [mm_ex, mm_if, hj, iv, e, cond_true]) (k1 hc)
  · have e : mm_cnd .ne (Int32.ofInt a) 0 = false := by rw [iv_z]; simp only [mm_cnd, decide_eq_false_iff_not, iv_inj ha hb]; exact hc
    exact rn_one h (by simp only [mm_ex, mm_if, hj, iv, e, cond_false]) (k2 (by first | exact hc | omega))
theorem r_clt {a b : Int} {off : Int} {q : Nat} (h : ins pc = some (.if_icmp .lt off)) (hj : mm_jmp pc off = some q) (ha : -2147483648 ≤ a ∧ a ≤ 2147483647) (hb : -2147483648 ≤ b ∧ b ≤ 2147483647) (k1 : a < b → rn gf pf mv ms kc gs rf ro rt nL ins N (q, lv, st, mw) Q) (k2 : b ≤ a → rn gf pf mv ms kc gs rf ro rt nL ins N (pc + 3, lv, st, mw) Q) : rn gf pf mv ms kc gs rf ro rt nL ins (N + 1) (pc, lv, iv b :: iv a :: st, mw) Q := by
  by_cases hc : a < b
  · have e : mm_cnd .lt (Int32.ofInt a) (Int32.ofInt b) = true := by simp only [mm_cnd, decide_eq_true_eq, iv_lt ha hb]; exact hc
    exact rn_one h (by simp only [mm_ex, mm_icmp, hj, iv, e, cond_true]) (k1 hc)
  · have e : mm_cnd .lt (Int32.ofInt a) (Int32.ofInt b) = false := by simp only [mm_cnd, decide_eq_false_iff_not, iv_lt ha hb]; exact hc
    exact rn_one h (by simp only [mm_ex, mm_icmp, hj, iv, e, cond_false]) (k2 (by first | exact hc | omega))
theorem r_zlt {a : Int} {off : Int} {q : Nat} (h : ins pc = some (.ifCond .lt off)) (hj : mm_jmp pc off = some q) (ha : -2147483648 ≤ a ∧ a ≤ 2147483647) (k1 : a < 0 → rn gf pf mv ms kc gs rf ro rt nL ins N (q, lv, st, mw) Q) (k2 : 0 ≤ a → rn gf pf mv ms kc gs rf ro rt nL ins N (pc + 3, lv, st, mw) Q) : rn gf pf mv ms kc gs rf ro rt nL ins (N + 1) (pc, lv, iv a :: st, mw) Q := by
  have hb : -2147483648 ≤ (0 : Int) ∧ (0 : Int) ≤ 2147483647 := by omega
  by_cases hc : a < 0
  · have e : mm_cnd .lt (Int32.ofInt a) 0 = true := by rw [iv_z]; simp only [mm_cnd, decide_eq_true_eq, iv_lt ha hb]; exact hc
    exact rn_one h (by simp only [mm_ex, mm_if, hj, iv, e, cond_true]) (k1 hc)
  · have e : mm_cnd .lt (Int32.ofInt a) 0 = false := by rw [iv_z]; simp only [mm_cnd, decide_eq_false_iff_not, iv_lt ha hb]; exact hc
    exact rn_one h (by simp only [mm_ex, mm_if, hj, iv, e, cond_false]) (k2 (by first | exact hc | omega))
theorem r_cge {a b : Int} {off : Int} {q : Nat} (h : ins pc = some (.if_icmp .ge off)) (hj : mm_jmp pc off = some q) (ha : -2147483648 ≤ a ∧ a ≤ 2147483647) (hb : -2147483648 ≤ b ∧ b ≤ 2147483647) (k1 : b ≤ a → rn gf pf mv ms kc gs rf ro rt nL ins N (q, lv, st, mw) Q) (k2 : a < b → rn gf pf mv ms kc gs rf ro rt nL ins N (pc + 3, lv, st, mw) Q) : rn gf pf mv ms kc gs rf ro rt nL ins (N + 1) (pc, lv, iv b :: iv a :: st, mw) Q := by
  by_cases hc : b ≤ a
  · have e : mm_cnd .ge (Int32.ofInt a) (Int32.ofInt b) = true := by simp only [mm_cnd, decide_eq_true_eq, iv_le hb ha]; exact hc
    exact rn_one h (by simp only [mm_ex, mm_icmp, hj, iv, e, cond_true]) (k1 hc)
  · have e : mm_cnd .ge (Int32.ofInt a) (Int32.ofInt b) = false := by simp only [mm_cnd, decide_eq_false_iff_not, iv_le hb ha]; exact hc
    exact rn_one h (by simp only [mm_ex, mm_icmp, hj, iv, e, cond_false]) (k2 (by first | exact hc | omega))
theorem r_zge {a : Int} {off : Int} {q : Nat} (h : ins pc = some (.ifCond .ge off)) (hj : mm_jmp pc off = some q) (ha : -2147483648 ≤ a ∧ a ≤ 2147483647) (k1 : 0 ≤ a → rn gf pf mv ms kc gs rf ro rt nL ins N (q, lv, st, mw) Q) (k2 : a < 0 → rn gf pf mv ms kc gs rf ro rt nL ins N (pc + 3, lv, st, mw) Q) : rn gf pf mv ms kc gs rf ro rt nL ins (N + 1) (pc, lv, iv a :: st, mw) Q := by
  have hb : -2147483648 ≤ (0 : Int) ∧ (0 : Int) ≤ 2147483647 := by omega
  by_cases hc : 0 ≤ a
  · have e : mm_cnd .ge (Int32.ofInt a) 0 = true := by rw [iv_z]; simp only [mm_cnd, decide_eq_true_eq, iv_le hb ha]; exact hc
    exact rn_one h (by simp only [mm_ex, mm_if, hj, iv, e, cond_true]) (k1 hc)
  · have e : mm_cnd .ge (Int32.ofInt a) 0 = false := by rw [iv_z]; simp only [mm_cnd, decide_eq_false_iff_not, iv_le hb ha]; exact hc
    exact rn_one h (by simp only [mm_ex, mm_if, hj, iv, e, cond_false]) (k2 (by first | exact hc | omega))
theorem r_cgt {a b : Int} {off : Int} {q : Nat} (h : ins pc = some (.if_icmp .gt off)) (hj : mm_jmp pc off = some q) (ha : -2147483648 ≤ a ∧ a ≤ 2147483647) (hb : -2147483648 ≤ b ∧ b ≤ 2147483647) (k1 : b < a → rn gf pf mv ms kc gs rf ro rt nL ins N (q, lv, st, mw) Q) (k2 : a ≤ b → rn gf pf mv ms kc gs rf ro rt nL ins N (pc + 3, lv, st, mw) Q) : rn gf pf mv ms kc gs rf ro rt nL ins (N + 1) (pc, lv, iv b :: iv a :: st, mw) Q := by
  by_cases hc : b < a
  · have e : mm_cnd .gt (Int32.ofInt a) (Int32.ofInt b) = true := by simp only [mm_cnd, decide_eq_true_eq, iv_lt hb ha]; exact hc
    exact rn_one h (by simp only [mm_ex, mm_icmp, hj, iv, e, cond_true]) (k1 hc)
  · have e : mm_cnd .gt (Int32.ofInt a) (Int32.ofInt b) = false := by simp only [mm_cnd, decide_eq_false_iff_not, iv_lt hb ha]; exact hc
    exact rn_one h (by simp only [mm_ex, mm_icmp, hj, iv, e, cond_false]) (k2 (by first | exact hc | omega))
theorem r_zgt {a : Int} {off : Int} {q : Nat} (h : ins pc = some (.ifCond .gt off)) (hj : mm_jmp pc off = some q) (ha : -2147483648 ≤ a ∧ a ≤ 2147483647) (k1 : 0 < a → rn gf pf mv ms kc gs rf ro rt nL ins N (q, lv, st, mw) Q) (k2 : a ≤ 0 → rn gf pf mv ms kc gs rf ro rt nL ins N (pc + 3, lv, st, mw) Q) : rn gf pf mv ms kc gs rf ro rt nL ins (N + 1) (pc, lv, iv a :: st, mw) Q := by
  have hb : -2147483648 ≤ (0 : Int) ∧ (0 : Int) ≤ 2147483647 := by omega
  by_cases hc : 0 < a
  · have e : mm_cnd .gt (Int32.ofInt a) 0 = true := by rw [iv_z]; simp only [mm_cnd, decide_eq_true_eq, iv_lt hb ha]; exact hc
    exact rn_one h (by simp only [mm_ex, mm_if, hj, iv, e, cond_true]) (k1 hc)
  · have e : mm_cnd .gt (Int32.ofInt a) 0 = false := by rw [iv_z]; simp only [mm_cnd, decide_eq_false_iff_not, iv_lt hb ha]; exact hc
    exact rn_one h (by simp only [mm_ex, mm_if, hj, iv, e, cond_false]) (k2 (by first | exact hc | omega))
theorem r_cle {a b : Int} {off : Int} {q : Nat} (h : ins pc = some (.if_icmp .le off)) (hj : mm_jmp pc off = some q) (ha : -2147483648 ≤ a ∧ a ≤ 2147483647) (hb : -2147483648 ≤ b ∧ b ≤ 2147483647) (k1 : a ≤ b → rn gf pf mv ms kc gs rf ro rt nL ins N (q, lv, st, mw) Q) (k2 : b < a → rn gf pf mv ms kc gs rf ro rt nL ins N (pc + 3, lv, st, mw) Q) : rn gf pf mv ms kc gs rf ro rt nL ins (N + 1) (pc, lv, iv b :: iv a :: st, mw) Q := by
  by_cases hc : a ≤ b
  · have e : mm_cnd .le (Int32.ofInt a) (Int32.ofInt b) = true := by simp only [mm_cnd, decide_eq_true_eq, iv_le ha hb]; exact hc
    exact rn_one h (by simp only [mm_ex, mm_icmp, hj, iv, e, cond_true]) (k1 hc)
  · have e : mm_cnd .le (Int32.ofInt a) (Int32.ofInt b) = false := by simp only [mm_cnd, decide_eq_false_iff_not, iv_le ha hb]; exact hc
    exact rn_one h (by simp only [mm_ex, mm_icmp, hj, iv, e, cond_false]) (k2 (by first | exact hc | omega))
theorem r_zle {a : Int} {off : Int} {q : Nat} (h : ins pc = some (.ifCond .le off)) (hj : mm_jmp pc off = some q) (ha : -2147483648 ≤ a ∧ a ≤ 2147483647) (k1 : a ≤ 0 → rn gf pf mv ms kc gs rf ro rt nL ins N (q, lv, st, mw) Q) (k2 : 0 < a → rn gf pf mv ms kc gs rf ro rt nL ins N (pc + 3, lv, st, mw) Q) : rn gf pf mv ms kc gs rf ro rt nL ins (N + 1) (pc, lv, iv a :: st, mw) Q := by
  have hb : -2147483648 ≤ (0 : Int) ∧ (0 : Int) ≤ 2147483647 := by omega
  by_cases hc : a ≤ 0
  · have e : mm_cnd .le (Int32.ofInt a) 0 = true := by rw [iv_z]; simp only [mm_cnd, decide_eq_true_eq, iv_le ha hb]; exact hc
    exact rn_one h (by simp only [mm_ex, mm_if, hj, iv, e, cond_true]) (k1 hc)
  · have e : mm_cnd .le (Int32.ofInt a) 0 = false := by rw [iv_z]; simp only [mm_cnd, decide_eq_false_iff_not, iv_le ha hb]; exact hc
    exact rn_one h (by simp only [mm_ex, mm_if, hj, iv, e, cond_false]) (k2 (by first | exact hc | omega))
theorem r_gs {n : Nat} {v : Value} (h : ins pc = some (.getstatic n)) (hg : gs n = some v) (k : rn gf pf mv ms kc gs rf ro rt nL ins N (pc + 3, lv, v :: st, mw) Q) : rn gf pf mv ms kc gs rf ro rt nL ins (N + 1) (pc, lv, st, mw) Q := rn_one h (by simp only [mm_ex, mm_const, hg]) k
theorem r_gfo {n a : Nat} {v : Value} (h : ins pc = some (.getfield n)) (hc : mw[a]? = none) (hr : rf a n = some v) (k : rn gf pf mv ms kc gs rf ro rt nL ins N (pc + 3, lv, v :: st, mw) Q) : rn gf pf mv ms kc gs rf ro rt nL ins (N + 1) (pc, lv, .ref a :: st, mw) Q := rn_one h (by simp only [mm_ex, mm_getf, hc, hr]) k
theorem r_alo {a t n : Nat} {f : Nat → Int32} (h : ins pc = some .arraylength) (hc : mw[a]? = none) (hr : ro a = some (t, n, f)) (k : rn gf pf mv ms kc gs rf ro rt nL ins N (pc + 1, lv, iv (n : Int) :: st, mw) Q) : rn gf pf mv ms kc gs rf ro rt nL ins (N + 1) (pc, lv, .ref a :: st, mw) Q := rn_one h (by simp only [mm_ex, mm_alen, hc, hr]; rfl) k
theorem r_al1 {a t n : Nat} {x : Nat → Int32} (h : ins pc = some .arraylength) (hc : mw[a]? = some (.inl (t, n, .inl x))) (ht : Nat.ble t 3 = true) (k : rn gf pf mv ms kc gs rf ro rt nL ins N (pc + 1, lv, iv (n : Int) :: st, mw) Q) : rn gf pf mv ms kc gs rf ro rt nL ins (N + 1) (pc, lv, .ref a :: st, mw) Q := rn_one h (by simp only [mm_ex, mm_alen, hc, ht]; rfl) k
theorem r_bao {a n : Nat} {f : Nat → Int32} {i : Int} (h : ins pc = some .baload) (hc : mw[a]? = none) (hr : ro a = some (1, n, f)) (h0 : 0 ≤ i) (h1 : i < (n : Int)) (hn : n ≤ 100000) (k : rn gf pf mv ms kc gs rf ro rt nL ins N (pc + 1, lv, iv (f i.toNat).toInt :: st, mw) Q) : rn gf pf mv ms kc gs rf ro rt nL ins (N + 1) (pc, lv, iv i :: .ref a :: st, mw) Q := rn_one h (by
  obtain ⟨e1, e2⟩ := iv_ix h0 h1 hn
  rw [← iv_of]
  simp only [mm_ex, mm_bald, iv, hc, hr, e1, e2]
  rfl) k
theorem r_op {a b c : Int} {i : Instr} (h : ins pc = some i) (e : mm_ex gf pf mv ms kc gs rf ro rt nL i pc lv (iv b :: iv a :: st) mw = some (.inl (pc + 1, lv, iv c :: st, mw))) (k : rn gf pf mv ms kc gs rf ro rt nL ins N (pc + 1, lv, iv c :: st, mw) Q) : rn gf pf mv ms kc gs rf ro rt nL ins (N + 1) (pc, lv, iv b :: iv a :: st, mw) Q := rn_one h e k
theorem r_op1 {a c : Int} {i : Instr} (h : ins pc = some i) (e : mm_ex gf pf mv ms kc gs rf ro rt nL i pc lv (iv a :: st) mw = some (.inl (pc + 1, lv, iv c :: st, mw))) (k : rn gf pf mv ms kc gs rf ro rt nL ins N (pc + 1, lv, iv c :: st, mw) Q) : rn gf pf mv ms kc gs rf ro rt nL ins (N + 1) (pc, lv, iv a :: st, mw) Q := rn_one h e k
theorem r_gf {n ci j a : Nat} {F : List Value} {v : Value} (h : ins pc = some (.getfield n)) (hq : gf n = some (ci, j)) (hc : mw[a]? = some (.inr (ci, F))) (hv : F[j]? = some v) (k : rn gf pf mv ms kc gs rf ro rt nL ins N (pc + 3, lv, v :: st, mw) Q) : rn gf pf mv ms kc gs rf ro rt nL ins (N + 1) (pc, lv, .ref a :: st, mw) Q := rn_one h (by simp only [mm_ex, mm_getf, hq, hc, hv, beq_self_eq_true, cond_true]) k
theorem r_pf {n ci j a : Nat} {F : List Value} {z : Int} {mw' : List va_E} (h : ins pc = some (.putfield n)) (hq : pf n = some (ci, j, .int)) (hc : mw[a]? = some (.inr (ci, F))) (hj : Nat.ble (j + 1) F.length = true) (hw : mw.set a (.inr (ci, F.set j (iv z))) = mw') (k : rn gf pf mv ms kc gs rf ro rt nL ins N (pc + 3, lv, st, mw') Q) : rn gf pf mv ms kc gs rf ro rt nL ins (N + 1) (pc, lv, iv z :: .ref a :: st, mw) Q := rn_one h (by
  have e1 : narrow .int (iv z) = iv z := rfl
  have e2 : fits .int (iv z) = true := rfl
  subst hw
  simp only [mm_ex, mm_putf, hq, hc, hj, e1, e2, beq_self_eq_true, Bool.and_self, decide_true, cond_true]) k
theorem r_pfr {n ci j a b : Nat} {F : List Value} {ty : FieldType} {mw' : List va_E} (h : ins pc = some (.putfield n)) (hq : pf n = some (ci, j, ty)) (hc : mw[a]? = some (.inr (ci, F))) (e1 : narrow ty (.ref b) = .ref b) (e2 : fits ty (.ref b) = true) (hj : Nat.ble (j + 1) F.length = true) (hw : mw.set a (.inr (ci, F.set j (.ref b))) = mw') (k : rn gf pf mv ms kc gs rf ro rt nL ins N (pc + 3, lv, st, mw') Q) : rn gf pf mv ms kc gs rf ro rt nL ins (N + 1) (pc, lv, .ref b :: .ref a :: st, mw) Q := rn_one h (by
  subst hw
  simp only [mm_ex, mm_putf, hq, hc, hj, e1, e2, beq_self_eq_true, Bool.and_self, decide_true, cond_true]) k
theorem r_ia {a n : Nat} {f : Nat → Int32} {i : Int} (h : ins pc = some .iaload) (hc : mw[a]? = some (.inl (0, n, .inl f))) (h0 : 0 ≤ i) (h1 : i < (n : Int)) (hn : n ≤ 100000) (k : rn gf pf mv ms kc gs rf ro rt nL ins N (pc + 1, lv, iv (f i.toNat).toInt :: st, mw) Q) : rn gf pf mv ms kc gs rf ro rt nL ins (N + 1) (pc, lv, iv i :: .ref a :: st, mw) Q := rn_one h (by
  obtain ⟨e1, e2⟩ := iv_ix h0 h1 hn
  rw [← iv_of]
  simp only [mm_ex, mm_iald, iv, hc, e1, e2]
  rfl) k
theorem r_ba {a n : Nat} {f : Nat → Int32} {i : Int} (h : ins pc = some .baload) (hc : mw[a]? = some (.inl (1, n, .inl f))) (h0 : 0 ≤ i) (h1 : i < (n : Int)) (hn : n ≤ 100000) (k : rn gf pf mv ms kc gs rf ro rt nL ins N (pc + 1, lv, iv (f i.toNat).toInt :: st, mw) Q) : rn gf pf mv ms kc gs rf ro rt nL ins (N + 1) (pc, lv, iv i :: .ref a :: st, mw) Q := rn_one h (by
  obtain ⟨e1, e2⟩ := iv_ix h0 h1 hn
  rw [← iv_of]
  simp only [mm_ex, mm_bald, iv, hc, e1, e2]
  rfl) k
theorem r_za {a n : Nat} {f : Nat → Int32} {i : Int} (h : ins pc = some .baload) (hc : mw[a]? = some (.inl (2, n, .inl f))) (h0 : 0 ≤ i) (h1 : i < (n : Int)) (hn : n ≤ 100000) (k : rn gf pf mv ms kc gs rf ro rt nL ins N (pc + 1, lv, iv (f i.toNat).toInt :: st, mw) Q) : rn gf pf mv ms kc gs rf ro rt nL ins (N + 1) (pc, lv, iv i :: .ref a :: st, mw) Q := rn_one h (by
  obtain ⟨e1, e2⟩ := iv_ix h0 h1 hn
  rw [← iv_of]
  simp only [mm_ex, mm_bald, iv, hc, e1, e2]
  rfl) k
theorem r_ias {a n : Nat} {f : Nat → Int32} {i z : Int} {mw' : List va_E} (h : ins pc = some .iastore) (hc : mw[a]? = some (.inl (0, n, .inl f))) (h0 : 0 ≤ i) (h1 : i < (n : Int)) (hn : n ≤ 100000) (hw : mw.set a (.inl (0, n, .inl (upd f i.toNat (Int32.ofInt z)))) = mw') (k : rn gf pf mv ms kc gs rf ro rt nL ins N (pc + 1, lv, st, mw') Q) : rn gf pf mv ms kc gs rf ro rt nL ins (N + 1) (pc, lv, iv z :: iv i :: .ref a :: st, mw) Q := rn_one h (by
  obtain ⟨e1, e2⟩ := iv_ix h0 h1 hn
  subst hw
  simp only [mm_ex, mm_iast, iv, hc, e1, e2]
  rfl) k
theorem r_bas {a n : Nat} {f : Nat → Int32} {i z : Int} {mw' : List va_E} (h : ins pc = some .bastore) (hc : mw[a]? = some (.inl (1, n, .inl f))) (h0 : 0 ≤ i) (h1 : i < (n : Int)) (hn : n ≤ 100000) (hw : mw.set a (.inl (1, n, .inl (upd f i.toNat (vp_nar (mm_ty 1) (Int32.ofInt z))))) = mw') (k : rn gf pf mv ms kc gs rf ro rt nL ins N (pc + 1, lv, st, mw') Q) : rn gf pf mv ms kc gs rf ro rt nL ins (N + 1) (pc, lv, iv z :: iv i :: .ref a :: st, mw) Q := rn_one h (by
  obtain ⟨e1, e2⟩ := iv_ix h0 h1 hn
  subst hw
  simp only [mm_ex, mm_bast, iv, hc, e1, e2]
  rfl) k
theorem r_zas {a n : Nat} {f : Nat → Int32} {i z : Int} {mw' : List va_E} (h : ins pc = some .bastore) (hc : mw[a]? = some (.inl (2, n, .inl f))) (h0 : 0 ≤ i) (h1 : i < (n : Int)) (hn : n ≤ 100000) (hw : mw.set a (.inl (2, n, .inl (upd f i.toNat (vp_nar (mm_ty 2) (Int32.ofInt z))))) = mw') (k : rn gf pf mv ms kc gs rf ro rt nL ins N (pc + 1, lv, st, mw') Q) : rn gf pf mv ms kc gs rf ro rt nL ins (N + 1) (pc, lv, iv z :: iv i :: .ref a :: st, mw) Q := rn_one h (by
  obtain ⟨e1, e2⟩ := iv_ix h0 h1 hn
  subst hw
  simp only [mm_ex, mm_bast, iv, hc, e1, e2]
  rfl) k
theorem r_v1s {ix ci a : Nat} {F : List Value} {f : mm_F} {v : Value} {mw' : List va_E} (h : ins pc = some (.invokevirtual ix)) (hm : mv ix = some (1, some ci, f)) (hc : mw[a]? = some (.inr (ci, F))) (hs : Nat.ble ((st.map fun v => v.category).sum) 8 = true) (hf : f [.ref a] mw = some (some v, mw')) (k : rn gf pf mv ms kc gs rf ro rt nL ins N (pc + 3, lv, v :: st, mw') Q) : rn gf pf mv ms kc gs rf ro rt nL ins (N + 1) (pc, lv, .ref a :: st, mw) Q := rn_one h (by
  have e1 : mm_rc (some ci) [.ref a] mw = true := by simp only [mm_rc, hc, beq_self_eq_true]
  have e2 : (((.ref a :: st).take 1).reverse) = [.ref a] := rfl
  have e3 : ((.ref a :: st).drop 1) = st := rfl
  have e4 : Nat.ble 1 (.ref a :: st).length = true := Nat.ble_eq.mpr (by simp only [List.length_cons]; omega)
  simp only [mm_ex, hm, mm_call, e2, e3, e4, e1, hs, hf, Bool.and_self, cond_true]
  rfl) k
theorem r_s1s {ix : Nat} {f : mm_F} {x0 : Value} {v : Value} {mw' : List va_E} (h : ins pc = some (.invokestatic ix)) (hm : ms ix = some (1, none, f)) (hs : Nat.ble ((st.map fun v => v.category).sum) 8 = true) (hf : f [x0] mw = some (some v, mw')) (k : rn gf pf mv ms kc gs rf ro rt nL ins N (pc + 3, lv, v :: st, mw') Q) : rn gf pf mv ms kc gs rf ro rt nL ins (N + 1) (pc, lv, x0 :: st, mw) Q := rn_one h (by
  have e1 : mm_rc none [x0] mw = true := rfl
  have e2 : (((x0 :: st).take 1).reverse) = [x0] := rfl
  have e3 : ((x0 :: st).drop 1) = st := rfl
  have e4 : Nat.ble 1 (x0 :: st).length = true := Nat.ble_eq.mpr (by simp only [List.length_cons]; omega)
  simp only [mm_ex, hm, mm_call, e2, e3, e4, e1, hs, hf, Bool.and_self, cond_true]
  rfl) k
theorem r_v1n {ix ci a : Nat} {F : List Value} {f : mm_F} {mw' : List va_E} (h : ins pc = some (.invokevirtual ix)) (hm : mv ix = some (1, some ci, f)) (hc : mw[a]? = some (.inr (ci, F))) (hs : Nat.ble ((st.map fun v => v.category).sum) 8 = true) (hf : f [.ref a] mw = some (none, mw')) (k : rn gf pf mv ms kc gs rf ro rt nL ins N (pc + 3, lv, st, mw') Q) : rn gf pf mv ms kc gs rf ro rt nL ins (N + 1) (pc, lv, .ref a :: st, mw) Q := rn_one h (by
  have e1 : mm_rc (some ci) [.ref a] mw = true := by simp only [mm_rc, hc, beq_self_eq_true]
  have e2 : (((.ref a :: st).take 1).reverse) = [.ref a] := rfl
  have e3 : ((.ref a :: st).drop 1) = st := rfl
  have e4 : Nat.ble 1 (.ref a :: st).length = true := Nat.ble_eq.mpr (by simp only [List.length_cons]; omega)
  simp only [mm_ex, hm, mm_call, e2, e3, e4, e1, hs, hf, Bool.and_self, cond_true]
  rfl) k
theorem r_s1n {ix : Nat} {f : mm_F} {x0 : Value} {mw' : List va_E} (h : ins pc = some (.invokestatic ix)) (hm : ms ix = some (1, none, f)) (hs : Nat.ble ((st.map fun v => v.category).sum) 8 = true) (hf : f [x0] mw = some (none, mw')) (k : rn gf pf mv ms kc gs rf ro rt nL ins N (pc + 3, lv, st, mw') Q) : rn gf pf mv ms kc gs rf ro rt nL ins (N + 1) (pc, lv, x0 :: st, mw) Q := rn_one h (by
  have e1 : mm_rc none [x0] mw = true := rfl
  have e2 : (((x0 :: st).take 1).reverse) = [x0] := rfl
  have e3 : ((x0 :: st).drop 1) = st := rfl
  have e4 : Nat.ble 1 (x0 :: st).length = true := Nat.ble_eq.mpr (by simp only [List.length_cons]; omega)
  simp only [mm_ex, hm, mm_call, e2, e3, e4, e1, hs, hf, Bool.and_self, cond_true]
  rfl) k
theorem r_v2s {ix ci a : Nat} {F : List Value} {f : mm_F} {x1 : Value} {v : Value} {mw' : List va_E} (h : ins pc = some (.invokevirtual ix)) (hm : mv ix = some (2, some ci, f)) (hc : mw[a]? = some (.inr (ci, F))) (hs : Nat.ble ((st.map fun v => v.category).sum) 8 = true) (hf : f [.ref a, x1] mw = some (some v, mw')) (k : rn gf pf mv ms kc gs rf ro rt nL ins N (pc + 3, lv, v :: st, mw') Q) : rn gf pf mv ms kc gs rf ro rt nL ins (N + 1) (pc, lv, x1 :: .ref a :: st, mw) Q := rn_one h (by
  have e1 : mm_rc (some ci) [.ref a, x1] mw = true := by simp only [mm_rc, hc, beq_self_eq_true]
  have e2 : (((x1 :: .ref a :: st).take 2).reverse) = [.ref a, x1] := rfl
  have e3 : ((x1 :: .ref a :: st).drop 2) = st := rfl
  have e4 : Nat.ble 2 (x1 :: .ref a :: st).length = true := Nat.ble_eq.mpr (by simp only [List.length_cons]; omega)
  simp only [mm_ex, hm, mm_call, e2, e3, e4, e1, hs, hf, Bool.and_self, cond_true]
  rfl) k
theorem r_s2s {ix : Nat} {f : mm_F} {x0 x1 : Value} {v : Value} {mw' : List va_E} (h : ins pc = some (.invokestatic ix)) (hm : ms ix = some (2, none, f)) (hs : Nat.ble ((st.map fun v => v.category).sum) 8 = true) (hf : f [x0, x1] mw = some (some v, mw')) (k : rn gf pf mv ms kc gs rf ro rt nL ins N (pc + 3, lv, v :: st, mw') Q) : rn gf pf mv ms kc gs rf ro rt nL ins (N + 1) (pc, lv, x1 :: x0 :: st, mw) Q := rn_one h (by
  have e1 : mm_rc none [x0, x1] mw = true := rfl
  have e2 : (((x1 :: x0 :: st).take 2).reverse) = [x0, x1] := rfl
  have e3 : ((x1 :: x0 :: st).drop 2) = st := rfl
  have e4 : Nat.ble 2 (x1 :: x0 :: st).length = true := Nat.ble_eq.mpr (by simp only [List.length_cons]; omega)
  simp only [mm_ex, hm, mm_call, e2, e3, e4, e1, hs, hf, Bool.and_self, cond_true]
  rfl) k
theorem r_v2n {ix ci a : Nat} {F : List Value} {f : mm_F} {x1 : Value} {mw' : List va_E} (h : ins pc = some (.invokevirtual ix)) (hm : mv ix = some (2, some ci, f)) (hc : mw[a]? = some (.inr (ci, F))) (hs : Nat.ble ((st.map fun v => v.category).sum) 8 = true) (hf : f [.ref a, x1] mw = some (none, mw')) (k : rn gf pf mv ms kc gs rf ro rt nL ins N (pc + 3, lv, st, mw') Q) : rn gf pf mv ms kc gs rf ro rt nL ins (N + 1) (pc, lv, x1 :: .ref a :: st, mw) Q := rn_one h (by
  have e1 : mm_rc (some ci) [.ref a, x1] mw = true := by simp only [mm_rc, hc, beq_self_eq_true]
  have e2 : (((x1 :: .ref a :: st).take 2).reverse) = [.ref a, x1] := rfl
  have e3 : ((x1 :: .ref a :: st).drop 2) = st := rfl
  have e4 : Nat.ble 2 (x1 :: .ref a :: st).length = true := Nat.ble_eq.mpr (by simp only [List.length_cons]; omega)
  simp only [mm_ex, hm, mm_call, e2, e3, e4, e1, hs, hf, Bool.and_self, cond_true]
  rfl) k
theorem r_s2n {ix : Nat} {f : mm_F} {x0 x1 : Value} {mw' : List va_E} (h : ins pc = some (.invokestatic ix)) (hm : ms ix = some (2, none, f)) (hs : Nat.ble ((st.map fun v => v.category).sum) 8 = true) (hf : f [x0, x1] mw = some (none, mw')) (k : rn gf pf mv ms kc gs rf ro rt nL ins N (pc + 3, lv, st, mw') Q) : rn gf pf mv ms kc gs rf ro rt nL ins (N + 1) (pc, lv, x1 :: x0 :: st, mw) Q := rn_one h (by
  have e1 : mm_rc none [x0, x1] mw = true := rfl
  have e2 : (((x1 :: x0 :: st).take 2).reverse) = [x0, x1] := rfl
  have e3 : ((x1 :: x0 :: st).drop 2) = st := rfl
  have e4 : Nat.ble 2 (x1 :: x0 :: st).length = true := Nat.ble_eq.mpr (by simp only [List.length_cons]; omega)
  simp only [mm_ex, hm, mm_call, e2, e3, e4, e1, hs, hf, Bool.and_self, cond_true]
  rfl) k
theorem r_v3s {ix ci a : Nat} {F : List Value} {f : mm_F} {x1 x2 : Value} {v : Value} {mw' : List va_E} (h : ins pc = some (.invokevirtual ix)) (hm : mv ix = some (3, some ci, f)) (hc : mw[a]? = some (.inr (ci, F))) (hs : Nat.ble ((st.map fun v => v.category).sum) 8 = true) (hf : f [.ref a, x1, x2] mw = some (some v, mw')) (k : rn gf pf mv ms kc gs rf ro rt nL ins N (pc + 3, lv, v :: st, mw') Q) : rn gf pf mv ms kc gs rf ro rt nL ins (N + 1) (pc, lv, x2 :: x1 :: .ref a :: st, mw) Q := rn_one h (by
  have e1 : mm_rc (some ci) [.ref a, x1, x2] mw = true := by simp only [mm_rc, hc, beq_self_eq_true]
  have e2 : (((x2 :: x1 :: .ref a :: st).take 3).reverse) = [.ref a, x1, x2] := rfl
  have e3 : ((x2 :: x1 :: .ref a :: st).drop 3) = st := rfl
  have e4 : Nat.ble 3 (x2 :: x1 :: .ref a :: st).length = true := Nat.ble_eq.mpr (by simp only [List.length_cons]; omega)
  simp only [mm_ex, hm, mm_call, e2, e3, e4, e1, hs, hf, Bool.and_self, cond_true]
  rfl) k
theorem r_s3s {ix : Nat} {f : mm_F} {x0 x1 x2 : Value} {v : Value} {mw' : List va_E} (h : ins pc = some (.invokestatic ix)) (hm : ms ix = some (3, none, f)) (hs : Nat.ble ((st.map fun v => v.category).sum) 8 = true) (hf : f [x0, x1, x2] mw = some (some v, mw')) (k : rn gf pf mv ms kc gs rf ro rt nL ins N (pc + 3, lv, v :: st, mw') Q) : rn gf pf mv ms kc gs rf ro rt nL ins (N + 1) (pc, lv, x2 :: x1 :: x0 :: st, mw) Q := rn_one h (by
  have e1 : mm_rc none [x0, x1, x2] mw = true := rfl
  have e2 : (((x2 :: x1 :: x0 :: st).take 3).reverse) = [x0, x1, x2] := rfl
  have e3 : ((x2 :: x1 :: x0 :: st).drop 3) = st := rfl
  have e4 : Nat.ble 3 (x2 :: x1 :: x0 :: st).length = true := Nat.ble_eq.mpr (by simp only [List.length_cons]; omega)
  simp only [mm_ex, hm, mm_call, e2, e3, e4, e1, hs, hf, Bool.and_self, cond_true]
  rfl) k
theorem r_v3n {ix ci a : Nat} {F : List Value} {f : mm_F} {x1 x2 : Value} {mw' : List va_E} (h : ins pc = some (.invokevirtual ix)) (hm : mv ix = some (3, some ci, f)) (hc : mw[a]? = some (.inr (ci, F))) (hs : Nat.ble ((st.map fun v => v.category).sum) 8 = true) (hf : f [.ref a, x1, x2] mw = some (none, mw')) (k : rn gf pf mv ms kc gs rf ro rt nL ins N (pc + 3, lv, st, mw') Q) : rn gf pf mv ms kc gs rf ro rt nL ins (N + 1) (pc, lv, x2 :: x1 :: .ref a :: st, mw) Q := rn_one h (by
  have e1 : mm_rc (some ci) [.ref a, x1, x2] mw = true := by simp only [mm_rc, hc, beq_self_eq_true]
  have e2 : (((x2 :: x1 :: .ref a :: st).take 3).reverse) = [.ref a, x1, x2] := rfl
  have e3 : ((x2 :: x1 :: .ref a :: st).drop 3) = st := rfl
  have e4 : Nat.ble 3 (x2 :: x1 :: .ref a :: st).length = true := Nat.ble_eq.mpr (by simp only [List.length_cons]; omega)
  simp only [mm_ex, hm, mm_call, e2, e3, e4, e1, hs, hf, Bool.and_self, cond_true]
  rfl) k
theorem r_s3n {ix : Nat} {f : mm_F} {x0 x1 x2 : Value} {mw' : List va_E} (h : ins pc = some (.invokestatic ix)) (hm : ms ix = some (3, none, f)) (hs : Nat.ble ((st.map fun v => v.category).sum) 8 = true) (hf : f [x0, x1, x2] mw = some (none, mw')) (k : rn gf pf mv ms kc gs rf ro rt nL ins N (pc + 3, lv, st, mw') Q) : rn gf pf mv ms kc gs rf ro rt nL ins (N + 1) (pc, lv, x2 :: x1 :: x0 :: st, mw) Q := rn_one h (by
  have e1 : mm_rc none [x0, x1, x2] mw = true := rfl
  have e2 : (((x2 :: x1 :: x0 :: st).take 3).reverse) = [x0, x1, x2] := rfl
  have e3 : ((x2 :: x1 :: x0 :: st).drop 3) = st := rfl
  have e4 : Nat.ble 3 (x2 :: x1 :: x0 :: st).length = true := Nat.ble_eq.mpr (by simp only [List.length_cons]; omega)
  simp only [mm_ex, hm, mm_call, e2, e3, e4, e1, hs, hf, Bool.and_self, cond_true]
  rfl) k
theorem r_v4s {ix ci a : Nat} {F : List Value} {f : mm_F} {x1 x2 x3 : Value} {v : Value} {mw' : List va_E} (h : ins pc = some (.invokevirtual ix)) (hm : mv ix = some (4, some ci, f)) (hc : mw[a]? = some (.inr (ci, F))) (hs : Nat.ble ((st.map fun v => v.category).sum) 8 = true) (hf : f [.ref a, x1, x2, x3] mw = some (some v, mw')) (k : rn gf pf mv ms kc gs rf ro rt nL ins N (pc + 3, lv, v :: st, mw') Q) : rn gf pf mv ms kc gs rf ro rt nL ins (N + 1) (pc, lv, x3 :: x2 :: x1 :: .ref a :: st, mw) Q := rn_one h (by
  have e1 : mm_rc (some ci) [.ref a, x1, x2, x3] mw = true := by simp only [mm_rc, hc, beq_self_eq_true]
  have e2 : (((x3 :: x2 :: x1 :: .ref a :: st).take 4).reverse) = [.ref a, x1, x2, x3] := rfl
  have e3 : ((x3 :: x2 :: x1 :: .ref a :: st).drop 4) = st := rfl
  have e4 : Nat.ble 4 (x3 :: x2 :: x1 :: .ref a :: st).length = true := Nat.ble_eq.mpr (by simp only [List.length_cons]; omega)
  simp only [mm_ex, hm, mm_call, e2, e3, e4, e1, hs, hf, Bool.and_self, cond_true]
  rfl) k
theorem r_s4s {ix : Nat} {f : mm_F} {x0 x1 x2 x3 : Value} {v : Value} {mw' : List va_E} (h : ins pc = some (.invokestatic ix)) (hm : ms ix = some (4, none, f)) (hs : Nat.ble ((st.map fun v => v.category).sum) 8 = true) (hf : f [x0, x1, x2, x3] mw = some (some v, mw')) (k : rn gf pf mv ms kc gs rf ro rt nL ins N (pc + 3, lv, v :: st, mw') Q) : rn gf pf mv ms kc gs rf ro rt nL ins (N + 1) (pc, lv, x3 :: x2 :: x1 :: x0 :: st, mw) Q := rn_one h (by
  have e1 : mm_rc none [x0, x1, x2, x3] mw = true := rfl
  have e2 : (((x3 :: x2 :: x1 :: x0 :: st).take 4).reverse) = [x0, x1, x2, x3] := rfl
  have e3 : ((x3 :: x2 :: x1 :: x0 :: st).drop 4) = st := rfl
  have e4 : Nat.ble 4 (x3 :: x2 :: x1 :: x0 :: st).length = true := Nat.ble_eq.mpr (by simp only [List.length_cons]; omega)
  simp only [mm_ex, hm, mm_call, e2, e3, e4, e1, hs, hf, Bool.and_self, cond_true]
  rfl) k
theorem r_v4n {ix ci a : Nat} {F : List Value} {f : mm_F} {x1 x2 x3 : Value} {mw' : List va_E} (h : ins pc = some (.invokevirtual ix)) (hm : mv ix = some (4, some ci, f)) (hc : mw[a]? = some (.inr (ci, F))) (hs : Nat.ble ((st.map fun v => v.category).sum) 8 = true) (hf : f [.ref a, x1, x2, x3] mw = some (none, mw')) (k : rn gf pf mv ms kc gs rf ro rt nL ins N (pc + 3, lv, st, mw') Q) : rn gf pf mv ms kc gs rf ro rt nL ins (N + 1) (pc, lv, x3 :: x2 :: x1 :: .ref a :: st, mw) Q := rn_one h (by
  have e1 : mm_rc (some ci) [.ref a, x1, x2, x3] mw = true := by simp only [mm_rc, hc, beq_self_eq_true]
  have e2 : (((x3 :: x2 :: x1 :: .ref a :: st).take 4).reverse) = [.ref a, x1, x2, x3] := rfl
  have e3 : ((x3 :: x2 :: x1 :: .ref a :: st).drop 4) = st := rfl
  have e4 : Nat.ble 4 (x3 :: x2 :: x1 :: .ref a :: st).length = true := Nat.ble_eq.mpr (by simp only [List.length_cons]; omega)
  simp only [mm_ex, hm, mm_call, e2, e3, e4, e1, hs, hf, Bool.and_self, cond_true]
  rfl) k
theorem r_s4n {ix : Nat} {f : mm_F} {x0 x1 x2 x3 : Value} {mw' : List va_E} (h : ins pc = some (.invokestatic ix)) (hm : ms ix = some (4, none, f)) (hs : Nat.ble ((st.map fun v => v.category).sum) 8 = true) (hf : f [x0, x1, x2, x3] mw = some (none, mw')) (k : rn gf pf mv ms kc gs rf ro rt nL ins N (pc + 3, lv, st, mw') Q) : rn gf pf mv ms kc gs rf ro rt nL ins (N + 1) (pc, lv, x3 :: x2 :: x1 :: x0 :: st, mw) Q := rn_one h (by
  have e1 : mm_rc none [x0, x1, x2, x3] mw = true := rfl
  have e2 : (((x3 :: x2 :: x1 :: x0 :: st).take 4).reverse) = [x0, x1, x2, x3] := rfl
  have e3 : ((x3 :: x2 :: x1 :: x0 :: st).drop 4) = st := rfl
  have e4 : Nat.ble 4 (x3 :: x2 :: x1 :: x0 :: st).length = true := Nat.ble_eq.mpr (by simp only [List.length_cons]; omega)
  simp only [mm_ex, hm, mm_call, e2, e3, e4, e1, hs, hf, Bool.and_self, cond_true]
  rfl) k
theorem r_v5s {ix ci a : Nat} {F : List Value} {f : mm_F} {x1 x2 x3 x4 : Value} {v : Value} {mw' : List va_E} (h : ins pc = some (.invokevirtual ix)) (hm : mv ix = some (5, some ci, f)) (hc : mw[a]? = some (.inr (ci, F))) (hs : Nat.ble ((st.map fun v => v.category).sum) 8 = true) (hf : f [.ref a, x1, x2, x3, x4] mw = some (some v, mw')) (k : rn gf pf mv ms kc gs rf ro rt nL ins N (pc + 3, lv, v :: st, mw') Q) : rn gf pf mv ms kc gs rf ro rt nL ins (N + 1) (pc, lv, x4 :: x3 :: x2 :: x1 :: .ref a :: st, mw) Q := rn_one h (by
  have e1 : mm_rc (some ci) [.ref a, x1, x2, x3, x4] mw = true := by simp only [mm_rc, hc, beq_self_eq_true]
  have e2 : (((x4 :: x3 :: x2 :: x1 :: .ref a :: st).take 5).reverse) = [.ref a, x1, x2, x3, x4] := rfl
  have e3 : ((x4 :: x3 :: x2 :: x1 :: .ref a :: st).drop 5) = st := rfl
  have e4 : Nat.ble 5 (x4 :: x3 :: x2 :: x1 :: .ref a :: st).length = true := Nat.ble_eq.mpr (by simp only [List.length_cons]; omega)
  simp only [mm_ex, hm, mm_call, e2, e3, e4, e1, hs, hf, Bool.and_self, cond_true]
  rfl) k
theorem r_s5s {ix : Nat} {f : mm_F} {x0 x1 x2 x3 x4 : Value} {v : Value} {mw' : List va_E} (h : ins pc = some (.invokestatic ix)) (hm : ms ix = some (5, none, f)) (hs : Nat.ble ((st.map fun v => v.category).sum) 8 = true) (hf : f [x0, x1, x2, x3, x4] mw = some (some v, mw')) (k : rn gf pf mv ms kc gs rf ro rt nL ins N (pc + 3, lv, v :: st, mw') Q) : rn gf pf mv ms kc gs rf ro rt nL ins (N + 1) (pc, lv, x4 :: x3 :: x2 :: x1 :: x0 :: st, mw) Q := rn_one h (by
  have e1 : mm_rc none [x0, x1, x2, x3, x4] mw = true := rfl
  have e2 : (((x4 :: x3 :: x2 :: x1 :: x0 :: st).take 5).reverse) = [x0, x1, x2, x3, x4] := rfl
  have e3 : ((x4 :: x3 :: x2 :: x1 :: x0 :: st).drop 5) = st := rfl
  have e4 : Nat.ble 5 (x4 :: x3 :: x2 :: x1 :: x0 :: st).length = true := Nat.ble_eq.mpr (by simp only [List.length_cons]; omega)
  simp only [mm_ex, hm, mm_call, e2, e3, e4, e1, hs, hf, Bool.and_self, cond_true]
  rfl) k
theorem r_v5n {ix ci a : Nat} {F : List Value} {f : mm_F} {x1 x2 x3 x4 : Value} {mw' : List va_E} (h : ins pc = some (.invokevirtual ix)) (hm : mv ix = some (5, some ci, f)) (hc : mw[a]? = some (.inr (ci, F))) (hs : Nat.ble ((st.map fun v => v.category).sum) 8 = true) (hf : f [.ref a, x1, x2, x3, x4] mw = some (none, mw')) (k : rn gf pf mv ms kc gs rf ro rt nL ins N (pc + 3, lv, st, mw') Q) : rn gf pf mv ms kc gs rf ro rt nL ins (N + 1) (pc, lv, x4 :: x3 :: x2 :: x1 :: .ref a :: st, mw) Q := rn_one h (by
  have e1 : mm_rc (some ci) [.ref a, x1, x2, x3, x4] mw = true := by simp only [mm_rc, hc, beq_self_eq_true]
  have e2 : (((x4 :: x3 :: x2 :: x1 :: .ref a :: st).take 5).reverse) = [.ref a, x1, x2, x3, x4] := rfl
  have e3 : ((x4 :: x3 :: x2 :: x1 :: .ref a :: st).drop 5) = st := rfl
  have e4 : Nat.ble 5 (x4 :: x3 :: x2 :: x1 :: .ref a :: st).length = true := Nat.ble_eq.mpr (by simp only [List.length_cons]; omega)
  simp only [mm_ex, hm, mm_call, e2, e3, e4, e1, hs, hf, Bool.and_self, cond_true]
  rfl) k
theorem r_s5n {ix : Nat} {f : mm_F} {x0 x1 x2 x3 x4 : Value} {mw' : List va_E} (h : ins pc = some (.invokestatic ix)) (hm : ms ix = some (5, none, f)) (hs : Nat.ble ((st.map fun v => v.category).sum) 8 = true) (hf : f [x0, x1, x2, x3, x4] mw = some (none, mw')) (k : rn gf pf mv ms kc gs rf ro rt nL ins N (pc + 3, lv, st, mw') Q) : rn gf pf mv ms kc gs rf ro rt nL ins (N + 1) (pc, lv, x4 :: x3 :: x2 :: x1 :: x0 :: st, mw) Q := rn_one h (by
  have e1 : mm_rc none [x0, x1, x2, x3, x4] mw = true := rfl
  have e2 : (((x4 :: x3 :: x2 :: x1 :: x0 :: st).take 5).reverse) = [x0, x1, x2, x3, x4] := rfl
  have e3 : ((x4 :: x3 :: x2 :: x1 :: x0 :: st).drop 5) = st := rfl
  have e4 : Nat.ble 5 (x4 :: x3 :: x2 :: x1 :: x0 :: st).length = true := Nat.ble_eq.mpr (by simp only [List.length_cons]; omega)
  simp only [mm_ex, hm, mm_call, e2, e3, e4, e1, hs, hf, Bool.and_self, cond_true]
  rfl) k
theorem r_v6s {ix ci a : Nat} {F : List Value} {f : mm_F} {x1 x2 x3 x4 x5 : Value} {v : Value} {mw' : List va_E} (h : ins pc = some (.invokevirtual ix)) (hm : mv ix = some (6, some ci, f)) (hc : mw[a]? = some (.inr (ci, F))) (hs : Nat.ble ((st.map fun v => v.category).sum) 8 = true) (hf : f [.ref a, x1, x2, x3, x4, x5] mw = some (some v, mw')) (k : rn gf pf mv ms kc gs rf ro rt nL ins N (pc + 3, lv, v :: st, mw') Q) : rn gf pf mv ms kc gs rf ro rt nL ins (N + 1) (pc, lv, x5 :: x4 :: x3 :: x2 :: x1 :: .ref a :: st, mw) Q := rn_one h (by
  have e1 : mm_rc (some ci) [.ref a, x1, x2, x3, x4, x5] mw = true := by simp only [mm_rc, hc, beq_self_eq_true]
  have e2 : (((x5 :: x4 :: x3 :: x2 :: x1 :: .ref a :: st).take 6).reverse) = [.ref a, x1, x2, x3, x4, x5] := rfl
  have e3 : ((x5 :: x4 :: x3 :: x2 :: x1 :: .ref a :: st).drop 6) = st := rfl
  have e4 : Nat.ble 6 (x5 :: x4 :: x3 :: x2 :: x1 :: .ref a :: st).length = true := Nat.ble_eq.mpr (by simp only [List.length_cons]; omega)
  simp only [mm_ex, hm, mm_call, e2, e3, e4, e1, hs, hf, Bool.and_self, cond_true]
  rfl) k
theorem r_s6s {ix : Nat} {f : mm_F} {x0 x1 x2 x3 x4 x5 : Value} {v : Value} {mw' : List va_E} (h : ins pc = some (.invokestatic ix)) (hm : ms ix = some (6, none, f)) (hs : Nat.ble ((st.map fun v => v.category).sum) 8 = true) (hf : f [x0, x1, x2, x3, x4, x5] mw = some (some v, mw')) (k : rn gf pf mv ms kc gs rf ro rt nL ins N (pc + 3, lv, v :: st, mw') Q) : rn gf pf mv ms kc gs rf ro rt nL ins (N + 1) (pc, lv, x5 :: x4 :: x3 :: x2 :: x1 :: x0 :: st, mw) Q := rn_one h (by
  have e1 : mm_rc none [x0, x1, x2, x3, x4, x5] mw = true := rfl
  have e2 : (((x5 :: x4 :: x3 :: x2 :: x1 :: x0 :: st).take 6).reverse) = [x0, x1, x2, x3, x4, x5] := rfl
  have e3 : ((x5 :: x4 :: x3 :: x2 :: x1 :: x0 :: st).drop 6) = st := rfl
  have e4 : Nat.ble 6 (x5 :: x4 :: x3 :: x2 :: x1 :: x0 :: st).length = true := Nat.ble_eq.mpr (by simp only [List.length_cons]; omega)
  simp only [mm_ex, hm, mm_call, e2, e3, e4, e1, hs, hf, Bool.and_self, cond_true]
  rfl) k
theorem r_v6n {ix ci a : Nat} {F : List Value} {f : mm_F} {x1 x2 x3 x4 x5 : Value} {mw' : List va_E} (h : ins pc = some (.invokevirtual ix)) (hm : mv ix = some (6, some ci, f)) (hc : mw[a]? = some (.inr (ci, F))) (hs : Nat.ble ((st.map fun v => v.category).sum) 8 = true) (hf : f [.ref a, x1, x2, x3, x4, x5] mw = some (none, mw')) (k : rn gf pf mv ms kc gs rf ro rt nL ins N (pc + 3, lv, st, mw') Q) : rn gf pf mv ms kc gs rf ro rt nL ins (N + 1) (pc, lv, x5 :: x4 :: x3 :: x2 :: x1 :: .ref a :: st, mw) Q := rn_one h (by
  have e1 : mm_rc (some ci) [.ref a, x1, x2, x3, x4, x5] mw = true := by simp only [mm_rc, hc, beq_self_eq_true]
  have e2 : (((x5 :: x4 :: x3 :: x2 :: x1 :: .ref a :: st).take 6).reverse) = [.ref a, x1, x2, x3, x4, x5] := rfl
  have e3 : ((x5 :: x4 :: x3 :: x2 :: x1 :: .ref a :: st).drop 6) = st := rfl
  have e4 : Nat.ble 6 (x5 :: x4 :: x3 :: x2 :: x1 :: .ref a :: st).length = true := Nat.ble_eq.mpr (by simp only [List.length_cons]; omega)
  simp only [mm_ex, hm, mm_call, e2, e3, e4, e1, hs, hf, Bool.and_self, cond_true]
  rfl) k
theorem r_s6n {ix : Nat} {f : mm_F} {x0 x1 x2 x3 x4 x5 : Value} {mw' : List va_E} (h : ins pc = some (.invokestatic ix)) (hm : ms ix = some (6, none, f)) (hs : Nat.ble ((st.map fun v => v.category).sum) 8 = true) (hf : f [x0, x1, x2, x3, x4, x5] mw = some (none, mw')) (k : rn gf pf mv ms kc gs rf ro rt nL ins N (pc + 3, lv, st, mw') Q) : rn gf pf mv ms kc gs rf ro rt nL ins (N + 1) (pc, lv, x5 :: x4 :: x3 :: x2 :: x1 :: x0 :: st, mw) Q := rn_one h (by
  have e1 : mm_rc none [x0, x1, x2, x3, x4, x5] mw = true := rfl
  have e2 : (((x5 :: x4 :: x3 :: x2 :: x1 :: x0 :: st).take 6).reverse) = [x0, x1, x2, x3, x4, x5] := rfl
  have e3 : ((x5 :: x4 :: x3 :: x2 :: x1 :: x0 :: st).drop 6) = st := rfl
  have e4 : Nat.ble 6 (x5 :: x4 :: x3 :: x2 :: x1 :: x0 :: st).length = true := Nat.ble_eq.mpr (by simp only [List.length_cons]; omega)
  simp only [mm_ex, hm, mm_call, e2, e3, e4, e1, hs, hf, Bool.and_self, cond_true]
  rfl) k
theorem r_o1s {ix a : Nat} {f : mm_F} {v : Value} {mw' : List va_E} (h : ins pc = some (.invokevirtual ix)) (hm : mv ix = some (1, some 99, f)) (hc : mw[a]? = none) (ha : (Nat.ble 1000 a && Nat.ble (a + 1) 1006) = true) (hs : Nat.ble ((st.map fun v => v.category).sum) 8 = true) (hf : f [.ref a] mw = some (some v, mw')) (k : rn gf pf mv ms kc gs rf ro rt nL ins N (pc + 3, lv, v :: st, mw') Q) : rn gf pf mv ms kc gs rf ro rt nL ins (N + 1) (pc, lv, .ref a :: st, mw) Q := rn_one h (by
  have e1 : mm_rc (some 99) [.ref a] mw = true := by simp only [mm_rc, hc, ha]; rfl
  have e2 : (((.ref a :: st).take 1).reverse) = [.ref a] := rfl
  have e3 : ((.ref a :: st).drop 1) = st := rfl
  have e4 : Nat.ble 1 (.ref a :: st).length = true := Nat.ble_eq.mpr (by simp only [List.length_cons]; omega)
  simp only [mm_ex, hm, mm_call, e2, e3, e4, e1, hs, hf, Bool.and_self, cond_true]
  rfl) k
theorem r_o2s {ix a : Nat} {f : mm_F} {x1 : Value} {v : Value} {mw' : List va_E} (h : ins pc = some (.invokevirtual ix)) (hm : mv ix = some (2, some 99, f)) (hc : mw[a]? = none) (ha : (Nat.ble 1000 a && Nat.ble (a + 1) 1006) = true) (hs : Nat.ble ((st.map fun v => v.category).sum) 8 = true) (hf : f [.ref a, x1] mw = some (some v, mw')) (k : rn gf pf mv ms kc gs rf ro rt nL ins N (pc + 3, lv, v :: st, mw') Q) : rn gf pf mv ms kc gs rf ro rt nL ins (N + 1) (pc, lv, x1 :: .ref a :: st, mw) Q := rn_one h (by
  have e1 : mm_rc (some 99) [.ref a, x1] mw = true := by simp only [mm_rc, hc, ha]; rfl
  have e2 : (((x1 :: .ref a :: st).take 2).reverse) = [.ref a, x1] := rfl
  have e3 : ((x1 :: .ref a :: st).drop 2) = st := rfl
  have e4 : Nat.ble 2 (x1 :: .ref a :: st).length = true := Nat.ble_eq.mpr (by simp only [List.length_cons]; omega)
  simp only [mm_ex, hm, mm_call, e2, e3, e4, e1, hs, hf, Bool.and_self, cond_true]
  rfl) k
theorem rn_ret {r : mm_R} {i : Instr} (h : ins pc = some i) (hi : mm_isRet i = true) (he : mm_ex gf pf mv ms kc gs rf ro rt nL i pc lv st mw = some (.inr r)) (q : Q r) : rn gf pf mv ms kc gs rf ro rt nL ins (N + 1) (pc, lv, st, mw) Q := ⟨r, by
  rw [mm_run, h]
  simp only [he, hi, cond_true], q⟩
theorem r_ret {z : Int} (h : ins pc = some .ireturn) (hr : rt = some .int) (q : Q (some (iv z), mw)) : rn gf pf mv ms kc gs rf ro rt nL ins (N + 1) (pc, lv, [iv z], mw) Q := rn_ret h rfl (by
  subst hr
  have e1 : narrow .int (.int (Int32.ofInt z)) = .int (Int32.ofInt z) := rfl
  simp only [mm_ex, mm_ret, iv, e1, decide_true, cond_true]) q
theorem r_retb {z : Int} (h : ins pc = some .ireturn) (hr : rt = some .boolean) (hz : z = 0 ∨ z = 1) (q : Q (some (iv z), mw)) : rn gf pf mv ms kc gs rf ro rt nL ins (N + 1) (pc, lv, [iv z], mw) Q := rn_ret h rfl (by
  subst hr
  have e1 : narrow .boolean (.int (Int32.ofInt z)) = .int (Int32.ofInt z) := by rcases hz with rfl | rfl <;> rfl
  simp only [mm_ex, mm_ret, iv, e1, decide_true, cond_true]) q
theorem r_rett {z : Int} {ty : FieldType} (h : ins pc = some .ireturn) (hr : rt = some ty) (hz : narrow ty (.int (Int32.ofInt z)) = .int (Int32.ofInt z)) (q : Q (some (iv z), mw)) : rn gf pf mv ms kc gs rf ro rt nL ins (N + 1) (pc, lv, [iv z], mw) Q := rn_ret h rfl (by
  subst hr
  simp only [mm_ex, mm_ret, iv, hz, decide_true, cond_true]) q
theorem r_retl {x : Int64} (h : ins pc = some .lreturn) (hr : rt = some .long) (q : Q (some (.long x), mw)) : rn gf pf mv ms kc gs rf ro rt nL ins (N + 1) (pc, lv, [.long x], mw) Q := rn_ret h rfl (by subst hr; rfl) q
theorem r_retv (h : ins pc = some .return_) (hr : rt = none) (q : Q (none, mw)) : rn gf pf mv ms kc gs rf ro rt nL ins (N + 1) (pc, lv, [], mw) Q := rn_ret h rfl (by subst hr; rfl) q
end RN
