/-! ===== rounds: rows, and the first that comes again, purely ===== -/
/-- two rows are alike below j -/
def rwS (R : Nat → Nat → Int) (a b : Nat) : Nat → Bool
  | 0 => true
  | j + 1 => rwS R a b j && decide (R a j = R b j)
theorem rwS_t {R : Nat → Nat → Int} {a b : Nat} : ∀ {j : Nat}, rwS R a b j = true → ∀ k : Nat, k < j → R a k = R b k
  | 0, _, k, hk => by omega
  | j + 1, h, k, hk => by
    have h : (rwS R a b j && decide (R a j = R b j)) = true := h
    rw [Bool.and_eq_true] at h
    by_cases e : k = j
    · rw [e]; exact of_decide_eq_true h.2
    · exact rwS_t h.1 k (by omega)
theorem rwS_of {R : Nat → Nat → Int} {a b : Nat} : ∀ {j : Nat}, (∀ k : Nat, k < j → R a k = R b k) → rwS R a b j = true
  | 0, _ => rfl
  | j + 1, h => by
    show (rwS R a b j && decide (R a j = R b j)) = true
    rw [rwS_of (fun k hk => h k (by omega)), decide_eq_true (h j (by omega))]
    rfl
/-- a row below n that is the nth's like: the newest first, -1 for none -/
def rwN (R : Nat → Nat → Int) (n : Nat) : Nat → Int
  | 0 => -1
  | j + 1 => bif rwS R j n 26 then (j : Int) else rwN R n j
/-- the oldest first: how far behind, -9 for none -/
def rwO (R : Nat → Nat → Int) (n : Nat) : Nat → Int
  | 0 => -9
  | j + 1 => bif decide (rwO R n j = -9) then (bif rwS R j n 26 then (n : Int) - (j : Int) else -9) else rwO R n j
/-- no row below n is like another below n -/
def rwD (R : Nat → Nat → Int) (n : Nat) : Prop := ∀ a b : Nat, a < b → b < n → rwS R a b 26 = false
theorem rwS_tr {R : Nat → Nat → Int} {a b n : Nat} (h1 : rwS R a n 26 = true) (h2 : rwS R b n 26 = true) : rwS R a b 26 = true := rwS_of (fun k hk => (rwS_t h1 k hk).trans (rwS_t h2 k hk).symm)
theorem rwN_n {R : Nat → Nat → Int} {n : Nat} : ∀ j : Nat, (∀ r : Nat, r < j → rwS R r n 26 = false) → rwN R n j = -1 ∧ rwO R n j = -9
  | 0, _ => ⟨rfl, rfl⟩
  | j + 1, h => by
    obtain ⟨e1, e2⟩ := rwN_n j (fun r hr => h r (by omega))
    show (bif rwS R j n 26 then (j : Int) else rwN R n j) = -1 ∧ (bif decide (rwO R n j = -9) then (bif rwS R j n 26 then (n : Int) - (j : Int) else -9) else rwO R n j) = -9
    rw [h j (by omega), e2]
    exact ⟨e1, rfl⟩
theorem rwN_y {R : Nat → Nat → Int} {n r : Nat} (hr : r < n) (h : rwS R r n 26 = true) (hD : rwD R n) : ∀ j : Nat, r < j → j ≤ n → rwN R n j = (r : Int) ∧ rwO R n j = (n : Int) - (r : Int)
  | 0, h0, _ => by omega
  | j + 1, h0, hj => by
    show (bif rwS R j n 26 then (j : Int) else rwN R n j) = (r : Int) ∧ (bif decide (rwO R n j = -9) then (bif rwS R j n 26 then (n : Int) - (j : Int) else -9) else rwO R n j) = (n : Int) - (r : Int)
    by_cases e : j = r
    · subst e
      have e2 := (rwN_n (R := R) (n := n) j (fun q hq => by
        cases hb : rwS R q n 26 with
        | false => rfl
        | true =>
          have z := hD q j hq hr
          rw [rwS_tr hb h] at z
          cases z)).2
      rw [h, e2]
      exact ⟨rfl, rfl⟩
    · have hb : rwS R j n 26 = false := by
        cases hb : rwS R j n 26 with
        | false => rfl
        | true =>
          have z := hD r j (by omega) (by omega)
          rw [rwS_tr h hb] at z
          cases z
      obtain ⟨e1, e2⟩ := rwN_y hr h hD j (by omega) (by omega)
      rw [hb, e2, decide_eq_false (by omega)]
      exact ⟨e1, rfl⟩
/-- either none is like it, on both ways, and all stay unlike; or one, on both -/
theorem rw_or {R : Nat → Nat → Int} {n : Nat} (hD : rwD R n) : (rwN R n n = -1 ∧ rwO R n n = -9 ∧ rwD R (n + 1)) ∨ ∃ r : Nat, r < n ∧ rwN R n n = (r : Int) ∧ rwO R n n = (n : Int) - (r : Int) := by
  by_cases h : ∃ r : Nat, r < n ∧ rwS R r n 26 = true
  · obtain ⟨r, h1, h2⟩ := h
    exact Or.inr ⟨r, h1, rwN_y h1 h2 hD n h1 (Nat.le_refl n)⟩
  · have h0 : ∀ r : Nat, r < n → rwS R r n 26 = false := fun r hr => by
      cases hb : rwS R r n 26 with
      | false => rfl
      | true => exact absurd ⟨r, hr, hb⟩ h
    obtain ⟨e1, e2⟩ := rwN_n (R := R) (n := n) n h0
    refine Or.inl ⟨e1, e2, fun a b hab hb => ?_⟩
    by_cases e : b = n
    · subst e; exact h0 a hab
    · exact hD a b hab (by omega)
/-! ===== rounds: what is due, what is there, what is paid, purely ===== -/
def rkP (db sn : Int) (k : Nat) : Bool := bif decide ((k : Int) < 10) then decide ((k : Int) < db) else decide ((k : Int) - 10 < sn)
def rkT (de sd : Nat → Int32) (k : Nat) : Int := (de (Int.toNat (3 * (bif decide ((k : Int) < 10) then (k : Int) else (sd (Int.toNat (5 * ((k : Int) - 10) + 1))).toInt) + 1))).toInt
def rkO (de sd : Nat → Int32) (k : Nat) : Int := bif decide ((k : Int) < 10) then (de (Int.toNat (3 * (k : Int)))).toInt else (sd (Int.toNat (5 * ((k : Int) - 10)))).toInt
def rkW (x : Int) : Int := bif decide (x < 0) then 0 else x
def rkD (de sd s : Nat → Int32) (R : Nat → Int) (k : Nat) : Int := bif decide ((k : Int) < 10) then fR de s (k : Int) else (bif decide ((sd (Int.toNat (5 * ((k : Int) - 10) + 2))).toInt = 3) then 0 else lsr (fL s ((k : Int) - 10)) (rkW (fR de s (sd (Int.toNat (5 * ((k : Int) - 10) + 1))).toInt - R (Int.toNat (sd (Int.toNat (5 * ((k : Int) - 10) + 1))).toInt))))
def rkH (db sn : Int) (de sd s : Nat → Int32) (R : Nat → Int) (p : Int) : Nat → Int
  | 0 => (s (Int.toNat (122 + p))).toInt
  | j + 1 => rkH db sn de sd s R p j + (bif rkP db sn j && decide (rkT de sd j = p) then R j else 0)
def rkA (db sn : Int) (de sd s : Nat → Int32) (R : Nat → Int) (p : Int) : Nat → Int
  | 0 => 0
  | j + 1 => rkA db sn de sd s R p j + (bif rkP db sn j && decide (rkO de sd j = p) then rkD de sd s R j else 0)
def rkV (d h a : Int) : Int := bif decide (a ≤ h) then d else d * h / a
def rkY (db sn : Int) (de sd s : Nat → Int32) (R : Nat → Int) (k : Nat) : Int := bif rkP db sn k then rkV (rkD de sd s R k) (rkH db sn de sd s R (rkO de sd k) 26) (rkA db sn de sd s R (rkO de sd k) 26) else 0
def rkR (db sn : Int) (de sd s : Nat → Int32) : Nat → (Nat → Int)
  | 0 => fun k => bif decide ((k : Int) < db) then fR de s (k : Int) else 0
  | r + 1 => fun k => rkY db sn de sd s (rkR db sn de sd s r) k
theorem fR_9 {de s sd : Nat → Int32} {d : Int} (h1 : RS s) (h2 : DEr de) (hX : EXx s de sd) (hd : 0 ≤ d ∧ d ≤ 9) : 0 ≤ fR de s d ∧ fR de s d ≤ 999 := by
  refine ⟨fR_0 hX hd, ?_⟩
  obtain ⟨n, rfl⟩ := Int.eq_ofNat_of_zero_le hd.1
  have a := (h2 n (by omega)).2.2
  have b := h1.1 n (by omega)
  unfold i7 at a b
  unfold fR
  rw [show Int.toNat (3 * (n : Int) + 2) = 3 * n + 2 by omega, show Int.toNat (0 + (n : Int)) = n by omega]
  omega
theorem rkW_r {x : Int} (h : x ≤ 999) : 0 ≤ rkW x ∧ rkW x ≤ 999 := by
  unfold rkW
  by_cases q : x < 0
  · rw [decide_eq_true q]; show (0 : Int) ≤ 0 ∧ (0 : Int) ≤ 999; decide
  · rw [decide_eq_false q]; exact ⟨by show 0 ≤ x; omega, h⟩
theorem rkW_0 (x : Int) : 0 ≤ rkW x := by
  unfold rkW
  by_cases q : x < 0
  · rw [decide_eq_true q]; exact Int.le_refl _
  · rw [decide_eq_false q]; show 0 ≤ x; omega
theorem lsr_b {a c : Int} (ha : 0 ≤ a) (hc : 0 ≤ c ∧ c ≤ 999) : 0 ≤ lsr a c ∧ lsr a c ≤ 999 := by
  have h1 := lsr_le a c
  have h2 := lsr_or a c
  omega
theorem rkV_r {d h a : Int} (hd : 0 ≤ d ∧ d ≤ 999) (hh : 0 ≤ h) : 0 ≤ rkV d h a ∧ rkV d h a ≤ 999 := by
  unfold rkV
  by_cases q : a ≤ h
  · rw [decide_eq_true q]; exact hd
  · rw [decide_eq_false q]
    show 0 ≤ d * h / a ∧ d * h / a ≤ 999
    have h1 : 0 ≤ d * h / a := Int.ediv_nonneg (Int.mul_nonneg hd.1 hh) (by omega)
    have h2 : d * h / a ≤ d := Int.ediv_le_of_le_mul (by omega) (Int.mul_le_mul_of_nonneg_left (by omega) hd.1)
    omega
section RKB
variable {db sn : Int} {de sd s : Nat → Int32}
theorem rkO_r (hE : DEr de) (hS : SDr sd) {k : Nat} (hk : k < 26) : 0 ≤ rkO de sd k ∧ rkO de sd k ≤ 7 := by
  unfold rkO
  by_cases q : (k : Int) < 10
  · rw [decide_eq_true q]; exact (de_r hE ⟨by omega, by omega⟩).1
  · rw [decide_eq_false q]; exact (sd_r hS ⟨by omega, by omega⟩).1
theorem rkD_r (hRS : RS s) (hE : DEr de) (hS : SDr sd) (hX : EXx s de sd) {R : Nat → Int} (hR : ∀ k : Nat, k < 26 → 0 ≤ R k ∧ R k ≤ 999) {k : Nat} (hk : k < 26) : 0 ≤ rkD de sd s R k ∧ rkD de sd s R k ≤ 999 := by
  unfold rkD
  by_cases q : (k : Int) < 10
  · rw [decide_eq_true q]; exact fR_9 hRS hE hX ⟨by omega, by omega⟩
  · rw [decide_eq_false q, cond_false]
    by_cases q3 : (sd (Int.toNat (5 * ((k : Int) - 10) + 2))).toInt = 3
    · rw [decide_eq_true q3]; show (0 : Int) ≤ 0 ∧ (0 : Int) ≤ 999; decide
    · rw [decide_eq_false q3, cond_false]
      have a := (sd_r hS (i := (k : Int) - 10) ⟨by omega, by omega⟩).2.1
      have b := fR_9 hRS hE hX a
      have c := hR (Int.toNat (sd (Int.toNat (5 * ((k : Int) - 10) + 1))).toInt) (by omega)
      exact lsr_b (fL_r s _).1 (rkW_r (by omega))
theorem rkH_r (hRS : RS s) {R : Nat → Int} (hR : ∀ k : Nat, k < 26 → 0 ≤ R k ∧ R k ≤ 999) {p : Int} (hp : 0 ≤ p ∧ p ≤ 7) : ∀ j : Nat, j ≤ 26 → 0 ≤ rkH db sn de sd s R p j ∧ rkH db sn de sd s R p j ≤ 9999 + 999 * (j : Int)
  | 0, _ => by
    have a := hRS.2 (Int.toNat (122 + p)) (by omega) (by omega)
    unfold i7 at a
    show 0 ≤ (s (Int.toNat (122 + p))).toInt ∧ (s (Int.toNat (122 + p))).toInt ≤ 9999 + 999 * ((0 : Nat) : Int)
    omega
  | j + 1, hj => by
    have ih := rkH_r hRS hR hp j (by omega)
    have a := hR j (by omega)
    show 0 ≤ rkH db sn de sd s R p j + (bif rkP db sn j && decide (rkT de sd j = p) then R j else 0) ∧ rkH db sn de sd s R p j + (bif rkP db sn j && decide (rkT de sd j = p) then R j else 0) ≤ 9999 + 999 * ((j + 1 : Nat) : Int)
    cases (rkP db sn j && decide (rkT de sd j = p)) <;> simp only [cond_true, cond_false] <;> omega
theorem rkA_r (hRS : RS s) (hE : DEr de) (hS : SDr sd) (hX : EXx s de sd) {R : Nat → Int} (hR : ∀ k : Nat, k < 26 → 0 ≤ R k ∧ R k ≤ 999) {p : Int} : ∀ j : Nat, j ≤ 26 → 0 ≤ rkA db sn de sd s R p j ∧ rkA db sn de sd s R p j ≤ 999 * (j : Int)
  | 0, _ => by show (0 : Int) ≤ 0 ∧ (0 : Int) ≤ 999 * ((0 : Nat) : Int); decide
  | j + 1, hj => by
    have ih := rkA_r hRS hE hS hX hR (p := p) j (by omega)
    have a := rkD_r hRS hE hS hX hR (k := j) (by omega)
    show 0 ≤ rkA db sn de sd s R p j + (bif rkP db sn j && decide (rkO de sd j = p) then rkD de sd s R j else 0) ∧ rkA db sn de sd s R p j + (bif rkP db sn j && decide (rkO de sd j = p) then rkD de sd s R j else 0) ≤ 999 * ((j + 1 : Nat) : Int)
    cases (rkP db sn j && decide (rkO de sd j = p)) <;> simp only [cond_true, cond_false] <;> omega
theorem rkY_r (hRS : RS s) (hE : DEr de) (hS : SDr sd) (hX : EXx s de sd) {R : Nat → Int} (hR : ∀ k : Nat, k < 26 → 0 ≤ R k ∧ R k ≤ 999) {k : Nat} (hk : k < 26) : 0 ≤ rkY db sn de sd s R k ∧ rkY db sn de sd s R k ≤ 999 := by
  unfold rkY
  cases rkP db sn k with
  | false => show (0 : Int) ≤ 0 ∧ (0 : Int) ≤ 999; decide
  | true => exact rkV_r (rkD_r hRS hE hS hX hR hk) (rkH_r hRS hR (rkO_r hE hS hk) 26 (Nat.le_refl _)).1
theorem rkR_r (hd : db ≤ 10) (hRS : RS s) (hE : DEr de) (hS : SDr sd) (hX : EXx s de sd) : ∀ (r k : Nat), k < 26 → 0 ≤ rkR db sn de sd s r k ∧ rkR db sn de sd s r k ≤ 999
  | 0, k, hk => by
    show 0 ≤ (bif decide ((k : Int) < db) then fR de s (k : Int) else 0) ∧ (bif decide ((k : Int) < db) then fR de s (k : Int) else 0) ≤ 999
    by_cases q : (k : Int) < db
    · rw [decide_eq_true q]; exact fR_9 hRS hE hX ⟨by omega, by omega⟩
    · rw [decide_eq_false q]; show (0 : Int) ≤ 0 ∧ (0 : Int) ≤ 999; decide
  | r + 1, k, hk => rkY_r hRS hE hS hX (fun q hq => rkR_r hd hRS hE hS hX r q hq) hk
theorem rkR_n (hd : db ≤ 10) {k : Nat} (h : rkP db sn k = false) : ∀ r : Nat, rkR db sn de sd s r k = 0
  | 0 => by
    show (bif decide ((k : Int) < db) then fR de s (k : Int) else 0) = 0
    by_cases q : (k : Int) < 10
    · unfold rkP at h
      rw [decide_eq_true q] at h
      have h : decide ((k : Int) < db) = false := h
      rw [h]; rfl
    · rw [decide_eq_false (by omega)]; rfl
  | r + 1 => by
    show rkY db sn de sd s (rkR db sn de sd s r) k = 0
    unfold rkY
    rw [h]; rfl
theorem rkP_d {k : Nat} (hk : (k : Int) < 10) : rkP db sn k = decide ((k : Int) < db) := by
  unfold rkP
  rw [decide_eq_true hk]; rfl
theorem rkP_s {k : Nat} (hk : ¬ (k : Int) < 10) : rkP db sn k = decide ((k : Int) - 10 < sn) := by
  unfold rkP
  rw [decide_eq_false hk]; rfl
end RKB
/-- the reference's rows below n -/
def rkI (db sn : Int) (de sd s : Nat → Int32) (n : Nat) (pa : Nat → Int32) : Prop := (∀ j, j < 5226 → i7 (pa j) 0 999) ∧ ∀ a k : Nat, a < n → k < 26 → rkP db sn k = true → pa (26 * a + k) = Int32.ofInt (rkR db sn de sd s a k)
/-- and of the nth row those of the persons below p, and of p those below j -/
def rkJ (db sn : Int) (de sd s : Nat → Int32) (n p j : Nat) (pa : Nat → Int32) : Prop := rkI db sn de sd s n pa ∧ ∀ k : Nat, k < 26 → rkP db sn k = true → (rkO de sd k < (p : Int) ∨ rkO de sd k = (p : Int) ∧ k < j) → pa (26 * n + k) = Int32.ofInt (rkR db sn de sd s n k)
section RKJ
variable {db sn : Int} {de sd s pa : Nat → Int32} {n p j : Nat}
theorem rkJ_0 (hE : DEr de) (hS : SDr sd) (h : rkI db sn de sd s n pa) : rkJ db sn de sd s n 0 0 pa := ⟨h, fun k hk _ hc => by
  have := rkO_r hE hS hk
  omega⟩
theorem rkJ_p (h : rkJ db sn de sd s n p 26 pa) : rkJ db sn de sd s n (p + 1) 0 pa := ⟨h.1, fun k hk hP hc => h.2 k hk hP (by omega)⟩
theorem rkJ_e (hE : DEr de) (hS : SDr sd) (h : rkJ db sn de sd s n 8 0 pa) : rkI db sn de sd s (n + 1) pa := ⟨h.1.1, fun a k ha hk hP => by
  by_cases e : a = n
  · subst e
    have := rkO_r hE hS hk
    exact h.2 k hk hP (by omega)
  · exact h.1.2 a k (by omega) hk hP⟩
theorem rkJ_n (h : rkJ db sn de sd s n p j pa) (hn : rkP db sn j = false ∨ rkO de sd j ≠ (p : Int)) : rkJ db sn de sd s n p (j + 1) pa := ⟨h.1, fun k hk hP hc => by
  by_cases e : k = j
  · subst e
    rcases hn with q | q
    · rw [hP] at q; cases q
    · exact h.2 k hk hP (by omega)
  · exact h.2 k hk hP (by omega)⟩
theorem rkJ_s (hn : n ≤ 200) (hj : j < 26) {x : Int} (hx : 0 ≤ x ∧ x ≤ 999) (h : rkJ db sn de sd s n p j pa) (e : x = rkR db sn de sd s n j) : rkJ db sn de sd s n p (j + 1) (upd pa (26 * n + j) (Int32.ofInt x)) := by
  refine ⟨⟨fun i hi => ?_, fun a k ha hk hP => ?_⟩, fun k hk hP hc => ?_⟩
  · by_cases q : i = 26 * n + j
    · rw [q, upd_same]
      unfold i7
      rw [iv_to ⟨by omega, by omega⟩]
      exact hx
    · rw [upd_ne q]; exact h.1.1 i hi
  · rw [upd_ne (by omega)]; exact h.1.2 a k ha hk hP
  · by_cases q : k = j
    · subst q
      rw [upd_same, e]
    · rw [upd_ne (by omega)]
      exact h.2 k hk hP (by omega)
end RKJ
theorem rwS_f {R : Nat → Nat → Int} {a b k : Nat} (hk : k < 26) (h : ¬ R a k = R b k) : rwS R a b 26 = false := by
  cases hb : rwS R a b 26 with
  | false => rfl
  | true => exact absurd (rwS_t hb k hk) h
theorem rwS_s {R : Nat → Nat → Int} {a b j : Nat} (h : rwS R a b j = true) (e : R a j = R b j) : rwS R a b (j + 1) = true := by
  show (rwS R a b j && decide (R a j = R b j)) = true
  rw [h, decide_eq_true e]; rfl
theorem rwO_r {R : Nat → Nat → Int} {n : Nat} : ∀ j : Nat, j ≤ n → rwO R n j = -9 ∨ (1 ≤ rwO R n j ∧ rwO R n j ≤ (n : Int))
  | 0, _ => Or.inl rfl
  | j + 1, hj => by
    show (bif decide (rwO R n j = -9) then (bif rwS R j n 26 then (n : Int) - (j : Int) else -9) else rwO R n j) = -9 ∨ _
    have ih := rwO_r (R := R) (n := n) j (by omega)
    by_cases q : rwO R n j = -9
    · cases hb : rwS R j n 26 with
      | true =>
        have e : rwO R n (j + 1) = (n : Int) - (j : Int) := by
          show (bif decide (rwO R n j = -9) then (bif rwS R j n 26 then (n : Int) - (j : Int) else -9) else rwO R n j) = _
          rw [decide_eq_true q, hb]; rfl
        rw [e]
        right; omega
      | false => left; rw [decide_eq_true q]; rfl
    · have e : rwO R n (j + 1) = rwO R n j := by
        show (bif decide (rwO R n j = -9) then (bif rwS R j n 26 then (n : Int) - (j : Int) else -9) else rwO R n j) = _
        rw [decide_eq_false q]; rfl
      rw [e, decide_eq_false q]
      exact ih
/-- the whole course from round n on, m rounds at most: the last round, and how far behind its like is -/
def rgo (R : Nat → Nat → Int) : Nat → Nat → Nat × Int
  | 0, n => (n, -9)
  | m + 1, n => bif decide (rwO R (n + 1) (n + 1) = -9) then rgo R m (n + 1) else (n + 1, rwO R (n + 1) (n + 1))
theorem rgo_n {R : Nat → Nat → Int} {m n : Nat} (h : rwO R (n + 1) (n + 1) = -9) : rgo R (m + 1) n = rgo R m (n + 1) := by
  show (bif decide (rwO R (n + 1) (n + 1) = -9) then rgo R m (n + 1) else (n + 1, rwO R (n + 1) (n + 1))) = _
  rw [decide_eq_true h]; rfl
theorem rgo_y {R : Nat → Nat → Int} {m n : Nat} (h : ¬ rwO R (n + 1) (n + 1) = -9) : rgo R (m + 1) n = (n + 1, rwO R (n + 1) (n + 1)) := by
  show (bif decide (rwO R (n + 1) (n + 1) = -9) then rgo R m (n + 1) else (n + 1, rwO R (n + 1) (n + 1))) = _
  rw [decide_eq_false h]; rfl
theorem rgo_r {R : Nat → Nat → Int} : ∀ m n : Nat, (rgo R m n).1 ≤ n + m ∧ ((rgo R m n).2 = -9 ∨ 1 ≤ (rgo R m n).2 ∧ (rgo R m n).2 ≤ ((n + m : Nat) : Int))
  | 0, n => ⟨Nat.le_refl _, Or.inl rfl⟩
  | m + 1, n => by
    by_cases q : rwO R (n + 1) (n + 1) = -9
    · rw [rgo_n q]
      have ih := rgo_r (R := R) m (n + 1)
      omega
    · rw [rgo_y q]
      have h := rwO_r (R := R) (n := n + 1) (n + 1) (Nat.le_refl _)
      refine ⟨by show n + 1 ≤ n + (m + 1); omega, ?_⟩
      show rwO R (n + 1) (n + 1) = -9 ∨ 1 ≤ rwO R (n + 1) (n + 1) ∧ rwO R (n + 1) (n + 1) ≤ ((n + (m + 1) : Nat) : Int)
      omega
/-- long product and quotient, as numbers -/
theorem ld_q {d h a : Int} (hd : 0 ≤ d ∧ d ≤ 999) (hh : 0 ≤ h ∧ h ≤ 100000) (ha : 1 ≤ a ∧ a ≤ 100000) : ((((Int32.ofInt d).toInt64 * (Int32.ofInt h).toInt64) / (Int32.ofInt a).toInt64).toInt32).toInt = d * h / a := by
  have p0 : 0 ≤ d * h := Int.mul_nonneg hd.1 hh.1
  have p1 : d * h ≤ 999 * 100000 := Int.mul_le_mul hd.2 hh.2 hh.1 (by decide)
  have q0 : 0 ≤ d * h / a := Int.ediv_nonneg p0 (by omega)
  have q1 : d * h / a ≤ d * h := Int.ediv_le_self _ p0
  have e1 : ((Int32.ofInt d).toInt64 * (Int32.ofInt h).toInt64).toInt = d * h := by
    rw [Int64.toInt_mul, Int32.toInt_toInt64, Int32.toInt_toInt64, iv_to ⟨by omega, by omega⟩, iv_to ⟨by omega, by omega⟩]
    apply Int.bmod_eq_of_le <;> omega
  have e2 : (((Int32.ofInt d).toInt64 * (Int32.ofInt h).toInt64) / (Int32.ofInt a).toInt64).toInt = d * h / a := by
    rw [Int64.toInt_div, e1, Int32.toInt_toInt64, iv_to ⟨by omega, by omega⟩, Int.tdiv_eq_ediv_of_nonneg p0]
    apply Int.bmod_eq_of_le <;> omega
  rw [Int64.toInt_toInt32, e2]
  apply Int.bmod_eq_of_le <;> omega
