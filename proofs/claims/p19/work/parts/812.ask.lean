/-! ===== what may be asked: the reference, exactly ===== -/
def fR (de s : Nat → Int32) (d : Int) : Int := (de (Int.toNat (3 * d + 2))).toInt - (s (Int.toNat (0 + d))).toInt
def fL (s : Nat → Int32) (i : Int) : Int := bif decide ((s (Int.toNat (42 + i))).toInt = 1) || decide (nrm ((s (Int.toNat (26 + i))).toInt - (s (Int.toNat (10 + i))).toInt) < 0) then 0 else nrm ((s (Int.toNat (26 + i))).toInt - (s (Int.toNat (10 + i))).toInt)
def fF (s : Nat → Int32) (p : Int) : Bool := zb (s 130) p.toNat
def lsr (a c : Int) : Int := bif decide (a < c) then a else c
def isA (sd s : Nat → Int32) (d : Int) (j : Nat) : Bool := decide ((sd (Int.toNat (5 * (j : Int) + 1))).toInt = d) && (decide ((sd (Int.toNat (5 * (j : Int) + 2))).toInt < 2) && decide ((s (Int.toNat (42 + (j : Int)))).toInt = 0))
def alo (sd s : Nat → Int32) (d : Int) : Nat → Bool
  | 0 => true
  | j + 1 => alo sd s d j && (!isA sd s d j || fF s (sd (Int.toNat (5 * (j : Int)))).toInt)
def fMA (de sd s : Nat → Int32) (sn i : Int) : Int := bif fF s (sd (Int.toNat (5 * i))).toInt || (decide ((sd (Int.toNat (5 * i + 2))).toInt = 2) && !(fF s (de (Int.toNat (3 * (sd (Int.toNat (5 * i + 1))).toInt))).toInt && alo sd s (sd (Int.toNat (5 * i + 1))).toInt sn.toNat)) then 0 else bif decide ((sd (Int.toNat (5 * i + 2))).toInt = 3) then (bif fF s (sd (Int.toNat (5 * (sd (Int.toNat (5 * i + 3))).toInt))).toInt then lsr (lsr (fL s i) (fR de s (sd (Int.toNat (5 * i + 1))).toInt)) (fL s (sd (Int.toNat (5 * i + 3))).toInt) else 0) else lsr (fL s i) (fR de s (sd (Int.toNat (5 * i + 1))).toInt)
def fAS (de sd s : Nat → Int32) (sn k i : Int) : Int := bif decide (k = 1) then fMA de sd s sn i else (bif fF s (de (Int.toNat (3 * i))).toInt then 0 else fR de s i)
def fTH (db sn k i : Int) : Bool := i3 k 0 1 && (bif decide (k = 1) then i3 i 0 (sn - 1) else i3 i 0 (db - 1))
theorem fL_r (s : Nat → Int32) (i : Int) : 0 ≤ fL s i ∧ fL s i ≤ 2147483647 := by
  unfold fL
  cases h : decide ((s (Int.toNat (42 + i))).toInt = 1) || decide (nrm ((s (Int.toNat (26 + i))).toInt - (s (Int.toNat (10 + i))).toInt) < 0) with
  | true => show (0 : Int) ≤ 0 ∧ (0 : Int) ≤ 2147483647; decide
  | false =>
    rw [Bool.or_eq_false_iff] at h
    have h2 := of_decide_eq_false h.2
    have := nrm_r ((s (Int.toNat (26 + i))).toInt - (s (Int.toNat (10 + i))).toInt)
    show 0 ≤ nrm _ ∧ nrm _ ≤ _
    omega
theorem lsr_le (a c : Int) : lsr a c ≤ a ∧ lsr a c ≤ c := by
  unfold lsr
  by_cases h : a < c
  · rw [decide_eq_true h]; show a ≤ a ∧ a ≤ c; omega
  · rw [decide_eq_false h]; show c ≤ a ∧ c ≤ c; omega
theorem lsr_or (a c : Int) : lsr a c = a ∨ lsr a c = c := by
  unfold lsr
  cases decide (a < c) with
  | true => exact Or.inl rfl
  | false => exact Or.inr rfl
theorem bi_and (a b : Bool) : oAnd (bi a) (bi b) = bi (a && b) := by cases a <;> cases b <;> decide
theorem bi_c {b : Bool} (h : b = true) : bi b = 1 := bi_t h
/-- what the rows of the reference are worth -/
theorem fR_r {de s : Nat → Int32} {d : Int} (h1 : RS s) (h2 : DEr de) (hd : 0 ≤ d ∧ d ≤ 9) : -1000 ≤ fR de s d ∧ fR de s d ≤ 1000 := by
  obtain ⟨n, rfl⟩ := Int.eq_ofNat_of_zero_le hd.1
  unfold fR
  rw [show Int.toNat (3 * (n : Int) + 2) = 3 * n + 2 by omega, show Int.toNat (0 + (n : Int)) = n by omega]
  have := (h2 n (by omega)).2.2
  have := h1.1 n (by omega)
  unfold i7 at *
  omega
theorem fR_0 {de s sd : Nat → Int32} {d : Int} (h1 : EXx s de sd) (hd : 0 ≤ d ∧ d ≤ 9) : 0 ≤ fR de s d := by
  obtain ⟨n, rfl⟩ := Int.eq_ofNat_of_zero_le hd.1
  unfold fR
  rw [show Int.toNat (3 * (n : Int) + 2) = 3 * n + 2 by omega, show Int.toNat (0 + (n : Int)) = n by omega]
  have := h1.2 n (by omega)
  omega
theorem sd_r {sd : Nat → Int32} {i : Int} (h : SDr sd) (hi : 0 ≤ i ∧ i ≤ 15) : (0 ≤ (sd (Int.toNat (5 * i))).toInt ∧ (sd (Int.toNat (5 * i))).toInt ≤ 7) ∧ (0 ≤ (sd (Int.toNat (5 * i + 1))).toInt ∧ (sd (Int.toNat (5 * i + 1))).toInt ≤ 9) ∧ (0 ≤ (sd (Int.toNat (5 * i + 2))).toInt ∧ (sd (Int.toNat (5 * i + 2))).toInt ≤ 3) := by
  obtain ⟨n, rfl⟩ := Int.eq_ofNat_of_zero_le hi.1
  rw [show Int.toNat (5 * (n : Int)) = 5 * n by omega, show Int.toNat (5 * (n : Int) + 1) = 5 * n + 1 by omega, show Int.toNat (5 * (n : Int) + 2) = 5 * n + 2 by omega]
  have := h n (by omega)
  exact ⟨this.1, this.2.1, this.2.2.1⟩
theorem sd_3 {s de sd : Nat → Int32} {i : Int} (h : EXx s de sd) (hi : 0 ≤ i ∧ i ≤ 15) (h3 : (sd (Int.toNat (5 * i + 2))).toInt = 3) : 0 ≤ (sd (Int.toNat (5 * i + 3))).toInt ∧ (sd (Int.toNat (5 * i + 3))).toInt ≤ 15 := by
  obtain ⟨n, rfl⟩ := Int.eq_ofNat_of_zero_le hi.1
  rw [show Int.toNat (5 * (n : Int) + 2) = 5 * n + 2 by omega] at h3
  rw [show Int.toNat (5 * (n : Int) + 3) = 5 * n + 3 by omega]
  exact h.1 n (by omega) h3
theorem de_r {de : Nat → Int32} {d : Int} (h : DEr de) (hd : 0 ≤ d ∧ d ≤ 9) : (0 ≤ (de (Int.toNat (3 * d))).toInt ∧ (de (Int.toNat (3 * d))).toInt ≤ 7) ∧ (0 ≤ (de (Int.toNat (3 * d + 1))).toInt ∧ (de (Int.toNat (3 * d + 1))).toInt ≤ 7) ∧ (0 ≤ (de (Int.toNat (3 * d + 2))).toInt ∧ (de (Int.toNat (3 * d + 2))).toInt ≤ 999) := by
  obtain ⟨n, rfl⟩ := Int.eq_ofNat_of_zero_le hd.1
  rw [show Int.toNat (3 * (n : Int)) = 3 * n by omega, show Int.toNat (3 * (n : Int) + 1) = 3 * n + 1 by omega, show Int.toNat (3 * (n : Int) + 2) = 3 * n + 2 by omega]
  have := h n (by omega)
  exact ⟨this.1, this.2.1, this.2.2⟩
theorem fMA_le {de sd s : Nat → Int32} {sn i : Int} (h : 0 ≤ fR de s (sd (Int.toNat (5 * i + 1))).toInt) : fMA de sd s sn i ≤ fR de s (sd (Int.toNat (5 * i + 1))).toInt := by
  unfold fMA
  have q1 := (lsr_le (fL s i) (fR de s (sd (Int.toNat (5 * i + 1))).toInt)).2
  have q2 := (lsr_le (lsr (fL s i) (fR de s (sd (Int.toNat (5 * i + 1))).toInt)) (fL s (sd (Int.toNat (5 * i + 3))).toInt)).1
  generalize (fF s (sd (Int.toNat (5 * i))).toInt || (decide ((sd (Int.toNat (5 * i + 2))).toInt = 2) && !(fF s (de (Int.toNat (3 * (sd (Int.toNat (5 * i + 1))).toInt))).toInt && alo sd s (sd (Int.toNat (5 * i + 1))).toInt sn.toNat))) = b1
  generalize decide ((sd (Int.toNat (5 * i + 2))).toInt = 3) = b2
  generalize fF s (sd (Int.toNat (5 * (sd (Int.toNat (5 * i + 3))).toInt))).toInt = b3
  cases b1 with
  | true => exact h
  | false =>
    cases b2 with
    | false => exact q1
    | true =>
      cases b3 with
      | true => exact Int.le_trans q2 q1
      | false => exact h
theorem fMA_r {de sd s : Nat → Int32} {sn i : Int} (hR : -1000 ≤ fR de s (sd (Int.toNat (5 * i + 1))).toInt ∧ fR de s (sd (Int.toNat (5 * i + 1))).toInt ≤ 1000) : -2147483648 ≤ fMA de sd s sn i ∧ fMA de sd s sn i ≤ 2147483647 := by
  unfold fMA
  have q0 := fL_r s i
  have q3 := fL_r s (sd (Int.toNat (5 * i + 3))).toInt
  have q1 := lsr_or (fL s i) (fR de s (sd (Int.toNat (5 * i + 1))).toInt)
  have q2 := lsr_or (lsr (fL s i) (fR de s (sd (Int.toNat (5 * i + 1))).toInt)) (fL s (sd (Int.toNat (5 * i + 3))).toInt)
  generalize (fF s (sd (Int.toNat (5 * i))).toInt || (decide ((sd (Int.toNat (5 * i + 2))).toInt = 2) && !(fF s (de (Int.toNat (3 * (sd (Int.toNat (5 * i + 1))).toInt))).toInt && alo sd s (sd (Int.toNat (5 * i + 1))).toInt sn.toNat))) = b1
  generalize decide ((sd (Int.toNat (5 * i + 2))).toInt = 3) = b2
  generalize fF s (sd (Int.toNat (5 * (sd (Int.toNat (5 * i + 3))).toInt))).toInt = b3
  cases b1 with
  | true => show (-2147483648 : Int) ≤ 0 ∧ (0 : Int) ≤ 2147483647; decide
  | false =>
    cases b2 with
    | false => show -2147483648 ≤ lsr _ _ ∧ lsr _ _ ≤ 2147483647; omega
    | true =>
      cases b3 with
      | true => show -2147483648 ≤ lsr _ _ ∧ lsr _ _ ≤ 2147483647; omega
      | false => show (-2147483648 : Int) ≤ 0 ∧ (0 : Int) ≤ 2147483647; decide
section AS
variable {C : List va_E} {tr : Int64} {th db sn dm sm ty nx tk pl va fa lr ri : Int} {s kp ik tn de sd dd sr tx pa : Nat → Int32} {a d i k : Int} {Q : mm_R → Prop} {N : Nat}
abbrev rn_X12_isDebt (N : Nat) (c : mm_C) (Q : mm_R → Prop) : Prop := rn (mm_gf gLX12) (mm_pf pLX12) (mm_mv vX12_isDebt) (mm_mv zX12_isDebt) (mm_kc kLX12) mm_gs0 mm_rf0 mm_ro (some .boolean) 2 (mm_ins iX12_isDebt) N c Q
theorem c_isDebtR (hC : C.length = 56) (ha : -2147483648 ≤ a ∧ a ≤ 2147483647) (hn : 0 ≤ db ∧ db ≤ 16) : sX12_isDebt [.ref 56, iv (a)] (C ++ rL (ro_ th tr db sn dm sm ty nx tk pl va fa lr ri) s kp ik tn de sd dd sr tx pa) = some (some (iv (bi (i3 a 0 (db - 1)))), (C ++ rL (ro_ th tr db sn dm sm ty nx tk pl va fa lr ri) s kp ik tn de sd dd sr tx pa)) := by
  have main : ∀ Q : mm_R → Prop, Q (some (iv (bi (i3 a 0 (db - 1)))), (C ++ rL (ro_ th tr db sn dm sm ty nx tk pl va fa lr ri) s kp ik tn de sd dd sr tx pa)) → rn_X12_isDebt (1000) (0, [(0, .ref 56), (1, iv (a))], [], (C ++ rL (ro_ th tr db sn dm sm ty nx tk pl va fa lr ri) s kp ik tn de sd dd sr tx pa)) Q := by
    intro Q hQ
    refine r_il rfl rfl ?_
    refine r_ic rfl ?_
    refine r_al rfl rfl ?_
    refine r_gf rfl rfl (rg_56 hC) rfl ?_
    refine r_ic rfl ?_
    refine r_sub rfl ?_
    refine r_s3s rfl rfl rfl (c_in ha (by decide) (by omega)) ?_
    exact r_retb rfl rfl (bi_01 _) hQ
  obtain ⟨r, h1, h2⟩ := rn_S (vs := [.ref 56, iv (a)]) (Q := fun r => r = (some (iv (bi (i3 a 0 (db - 1)))), (C ++ rL (ro_ th tr db sn dm sm ty nx tk pl va fa lr ri) s kp ik tn de sd dd sr tx pa))) rfl (rn_up (N := 1000) (M := mm_fuel) (by decide) (main (fun r => r = (some (iv (bi (i3 a 0 (db - 1)))), (C ++ rL (ro_ th tr db sn dm sm ty nx tk pl va fa lr ri) s kp ik tn de sd dd sr tx pa))) rfl))
  have h1 : sX12_isDebt [.ref 56, iv (a)] (C ++ rL (ro_ th tr db sn dm sm ty nx tk pl va fa lr ri) s kp ik tn de sd dd sr tx pa) = some r := h1
  rw [h1, h2]
abbrev rn_X12_isStand (N : Nat) (c : mm_C) (Q : mm_R → Prop) : Prop := rn (mm_gf gLX12) (mm_pf pLX12) (mm_mv vX12_isStand) (mm_mv zX12_isStand) (mm_kc kLX12) mm_gs0 mm_rf0 mm_ro (some .boolean) 2 (mm_ins iX12_isStand) N c Q
theorem c_isStandR (hC : C.length = 56) (ha : -2147483648 ≤ a ∧ a ≤ 2147483647) (hn : 0 ≤ sn ∧ sn ≤ 16) : sX12_isStand [.ref 56, iv (a)] (C ++ rL (ro_ th tr db sn dm sm ty nx tk pl va fa lr ri) s kp ik tn de sd dd sr tx pa) = some (some (iv (bi (i3 a 0 (sn - 1)))), (C ++ rL (ro_ th tr db sn dm sm ty nx tk pl va fa lr ri) s kp ik tn de sd dd sr tx pa)) := by
  have main : ∀ Q : mm_R → Prop, Q (some (iv (bi (i3 a 0 (sn - 1)))), (C ++ rL (ro_ th tr db sn dm sm ty nx tk pl va fa lr ri) s kp ik tn de sd dd sr tx pa)) → rn_X12_isStand (1000) (0, [(0, .ref 56), (1, iv (a))], [], (C ++ rL (ro_ th tr db sn dm sm ty nx tk pl va fa lr ri) s kp ik tn de sd dd sr tx pa)) Q := by
    intro Q hQ
    refine r_il rfl rfl ?_
    refine r_ic rfl ?_
    refine r_al rfl rfl ?_
    refine r_gf rfl rfl (rg_56 hC) rfl ?_
    refine r_ic rfl ?_
    refine r_sub rfl ?_
    refine r_s3s rfl rfl rfl (c_in ha (by decide) (by omega)) ?_
    exact r_retb rfl rfl (bi_01 _) hQ
  obtain ⟨r, h1, h2⟩ := rn_S (vs := [.ref 56, iv (a)]) (Q := fun r => r = (some (iv (bi (i3 a 0 (sn - 1)))), (C ++ rL (ro_ th tr db sn dm sm ty nx tk pl va fa lr ri) s kp ik tn de sd dd sr tx pa))) rfl (rn_up (N := 1000) (M := mm_fuel) (by decide) (main (fun r => r = (some (iv (bi (i3 a 0 (sn - 1)))), (C ++ rL (ro_ th tr db sn dm sm ty nx tk pl va fa lr ri) s kp ik tn de sd dd sr tx pa))) rfl))
  have h1 : sX12_isStand [.ref 56, iv (a)] (C ++ rL (ro_ th tr db sn dm sm ty nx tk pl va fa lr ri) s kp ik tn de sd dd sr tx pa) = some r := h1
  rw [h1, h2]
abbrev rn_X12_rest (N : Nat) (c : mm_C) (Q : mm_R → Prop) : Prop := rn (mm_gf gLX12) (mm_pf pLX12) (mm_mv vX12_rest) (mm_mv zX12_rest) (mm_kc kLX12) mm_gs0 mm_rf0 mm_ro (some .int) 2 (mm_ins iX12_rest) N c Q
theorem c_restR (hC : C.length = 56) (hd : 0 ≤ d ∧ d ≤ 9) : sX12_rest [.ref 56, iv (d)] (C ++ rL (ro_ th tr db sn dm sm ty nx tk pl va fa lr ri) s kp ik tn de sd dd sr tx pa) = some (some (iv (fR de s d)), (C ++ rL (ro_ th tr db sn dm sm ty nx tk pl va fa lr ri) s kp ik tn de sd dd sr tx pa)) := by
  have main : ∀ Q : mm_R → Prop, Q (some (iv (fR de s d)), (C ++ rL (ro_ th tr db sn dm sm ty nx tk pl va fa lr ri) s kp ik tn de sd dd sr tx pa)) → rn_X12_rest (1000) (0, [(0, .ref 56), (1, iv (d))], [], (C ++ rL (ro_ th tr db sn dm sm ty nx tk pl va fa lr ri) s kp ik tn de sd dd sr tx pa)) Q := by
    intro Q hQ
    refine r_al rfl rfl ?_
    refine r_gf rfl rfl (rg_56 hC) rfl ?_
    refine r_ic rfl ?_
    refine r_il rfl rfl ?_
    refine r_mul rfl ?_
    refine r_ic rfl ?_
    refine r_add rfl ?_
    refine r_ia rfl (rg_61 hC) (by omega) (by omega) (by decide) ?_
    refine r_al rfl rfl ?_
    refine r_gf rfl rfl (rg_56 hC) rfl ?_
    refine r_ic rfl ?_
    refine r_il rfl rfl ?_
    refine r_add rfl ?_
    refine r_ia rfl (rg_57 hC) (by omega) (by omega) (by decide) ?_
    refine r_sub rfl ?_
    exact r_ret rfl rfl hQ
  obtain ⟨r, h1, h2⟩ := rn_S (vs := [.ref 56, iv (d)]) (Q := fun r => r = (some (iv (fR de s d)), (C ++ rL (ro_ th tr db sn dm sm ty nx tk pl va fa lr ri) s kp ik tn de sd dd sr tx pa))) rfl (rn_up (N := 1000) (M := mm_fuel) (by decide) (main (fun r => r = (some (iv (fR de s d)), (C ++ rL (ro_ th tr db sn dm sm ty nx tk pl va fa lr ri) s kp ik tn de sd dd sr tx pa))) rfl))
  have h1 : sX12_rest [.ref 56, iv (d)] (C ++ rL (ro_ th tr db sn dm sm ty nx tk pl va fa lr ri) s kp ik tn de sd dd sr tx pa) = some r := h1
  rw [h1, h2]
abbrev rn_X12_isFallen (N : Nat) (c : mm_C) (Q : mm_R → Prop) : Prop := rn (mm_gf gLX12) (mm_pf pLX12) (mm_mv vX12_isFallen) (mm_mv zX12_isFallen) (mm_kc kLX12) mm_gs0 mm_rf0 mm_ro (some .boolean) 2 (mm_ins iX12_isFallen) N c Q
theorem c_isFallenR (hC : C.length = 56) (hi : 0 ≤ i ∧ i ≤ 7) : sX12_isFallen [.ref 56, iv (i)] (C ++ rL (ro_ th tr db sn dm sm ty nx tk pl va fa lr ri) s kp ik tn de sd dd sr tx pa) = some (some (iv (bi (fF s i))), (C ++ rL (ro_ th tr db sn dm sm ty nx tk pl va fa lr ri) s kp ik tn de sd dd sr tx pa)) := by
  have main : ∀ Q : mm_R → Prop, Q (some (iv (bi (fF s i))), (C ++ rL (ro_ th tr db sn dm sm ty nx tk pl va fa lr ri) s kp ik tn de sd dd sr tx pa)) → rn_X12_isFallen (1000) (0, [(0, .ref 56), (1, iv (i))], [], (C ++ rL (ro_ th tr db sn dm sm ty nx tk pl va fa lr ri) s kp ik tn de sd dd sr tx pa)) Q := by
    intro Q hQ
    refine r_al rfl rfl ?_
    refine r_gf rfl rfl (rg_56 hC) rfl ?_
    refine r_si rfl (by decide) ?_
    refine r_ia rfl (rg_57 hC) (by omega) (by omega) (by decide) ?_
    refine r_il rfl rfl ?_
    refine r_shr rfl ?_
    refine r_ic rfl ?_
    refine r_and rfl ?_
    obtain ⟨n, rfl⟩ := Int.eq_ofNat_of_zero_le hi.1
    have e0 : fF s (n : Int) = zb (Int32.ofInt (s (Int.toNat 130)).toInt) n := by unfold fF; rw [Int32.ofInt_toInt]; rfl
    refine r_eq (zb_bit (by omega)) ?_
    rw [← e0]
    refine r_ic rfl ?_
    refine r_cne rfl rfl (bi_r _) (by decide) (fun g1 => ?_) (fun g1 => ?_)
    · have g1 : fF s (n : Int) = false := bi_0 (by have := bi_01 (fF s (n : Int)); omega)
      rw [g1] at hQ
      refine r_ic rfl ?_
      exact r_retb rfl rfl (by omega) hQ
    · have g1 : fF s (n : Int) = true := bi_1 (by omega)
      rw [g1] at hQ
      refine r_ic rfl ?_
      refine r_goto rfl rfl ?_
      exact r_retb rfl rfl (by omega) hQ
  obtain ⟨r, h1, h2⟩ := rn_S (vs := [.ref 56, iv (i)]) (Q := fun r => r = (some (iv (bi (fF s i))), (C ++ rL (ro_ th tr db sn dm sm ty nx tk pl va fa lr ri) s kp ik tn de sd dd sr tx pa))) rfl (rn_up (N := 1000) (M := mm_fuel) (by decide) (main (fun r => r = (some (iv (bi (fF s i))), (C ++ rL (ro_ th tr db sn dm sm ty nx tk pl va fa lr ri) s kp ik tn de sd dd sr tx pa))) rfl))
  have h1 : sX12_isFallen [.ref 56, iv (i)] (C ++ rL (ro_ th tr db sn dm sm ty nx tk pl va fa lr ri) s kp ik tn de sd dd sr tx pa) = some r := h1
  rw [h1, h2]
abbrev rn_X12_left (N : Nat) (c : mm_C) (Q : mm_R → Prop) : Prop := rn (mm_gf gLX12) (mm_pf pLX12) (mm_mv vX12_left) (mm_mv zX12_left) (mm_kc kLX12) mm_gs0 mm_rf0 mm_ro (some .int) 3 (mm_ins iX12_left) N c Q
theorem c_leftR (hC : C.length = 56) (hi : 0 ≤ i ∧ i ≤ 15) : sX12_left [.ref 56, iv (i)] (C ++ rL (ro_ th tr db sn dm sm ty nx tk pl va fa lr ri) s kp ik tn de sd dd sr tx pa) = some (some (iv (fL s i)), (C ++ rL (ro_ th tr db sn dm sm ty nx tk pl va fa lr ri) s kp ik tn de sd dd sr tx pa)) := by
  have main : ∀ Q : mm_R → Prop, Q (some (iv (fL s i)), (C ++ rL (ro_ th tr db sn dm sm ty nx tk pl va fa lr ri) s kp ik tn de sd dd sr tx pa)) → rn_X12_left (1000) (0, [(0, .ref 56), (1, iv (i))], [], (C ++ rL (ro_ th tr db sn dm sm ty nx tk pl va fa lr ri) s kp ik tn de sd dd sr tx pa)) Q := by
    intro Q hQ
    refine r_al rfl rfl ?_
    refine r_gf rfl rfl (rg_56 hC) rfl ?_
    refine r_bi rfl (by decide) ?_
    refine r_il rfl rfl ?_
    refine r_add rfl ?_
    refine r_ia rfl (rg_57 hC) (by omega) (by omega) (by decide) ?_
    refine r_al rfl rfl ?_
    refine r_gf rfl rfl (rg_56 hC) rfl ?_
    refine r_bi rfl (by decide) ?_
    refine r_il rfl rfl ?_
    refine r_add rfl ?_
    refine r_ia rfl (rg_57 hC) (by omega) (by omega) (by decide) ?_
    refine r_sub rfl ?_
    refine r_nrm ?_
    refine r_is (lv' := [(2, _), (0, _), (1, _)]) rfl rfl rfl ?_
    refine r_al rfl rfl ?_
    refine r_gf rfl rfl (rg_56 hC) rfl ?_
    refine r_bi rfl (by decide) ?_
    refine r_il rfl rfl ?_
    refine r_add rfl ?_
    refine r_ia rfl (rg_57 hC) (by omega) (by omega) (by decide) ?_
    refine r_ic rfl ?_
    refine r_ceq rfl rfl (as_r _) (by decide) (fun g1 => ?_) (fun g1 => ?_)
    · have e : fL s i = 0 := by unfold fL; rw [decide_eq_true g1]; rfl
      rw [e] at hQ
      refine r_ic rfl ?_
      refine r_goto rfl rfl ?_
      exact r_ret rfl rfl hQ
    · refine r_il rfl rfl ?_
      refine r_zge rfl rfl (nrm_r _) (fun g2 => ?_) (fun g2 => ?_)
      · have e : fL s i = nrm ((s (Int.toNat (26 + i))).toInt - (s (Int.toNat (10 + i))).toInt) := by unfold fL; rw [decide_eq_false g1, decide_eq_false (Int.not_lt.mpr g2)]; rfl
        rw [e] at hQ
        refine r_il rfl rfl ?_
        exact r_ret rfl rfl hQ
      · have e : fL s i = 0 := by unfold fL; rw [decide_eq_false g1, decide_eq_true g2]; rfl
        rw [e] at hQ
        refine r_ic rfl ?_
        refine r_goto rfl rfl ?_
        exact r_ret rfl rfl hQ
  obtain ⟨r, h1, h2⟩ := rn_S (vs := [.ref 56, iv (i)]) (Q := fun r => r = (some (iv (fL s i)), (C ++ rL (ro_ th tr db sn dm sm ty nx tk pl va fa lr ri) s kp ik tn de sd dd sr tx pa))) rfl (rn_up (N := 1000) (M := mm_fuel) (by decide) (main (fun r => r = (some (iv (fL s i)), (C ++ rL (ro_ th tr db sn dm sm ty nx tk pl va fa lr ri) s kp ik tn de sd dd sr tx pa))) rfl))
  have h1 : sX12_left [.ref 56, iv (i)] (C ++ rL (ro_ th tr db sn dm sm ty nx tk pl va fa lr ri) s kp ik tn de sd dd sr tx pa) = some r := h1
  rw [h1, h2]
abbrev rn_X12_isAlone (N : Nat) (c : mm_C) (Q : mm_R → Prop) : Prop := rn (mm_gf gLX12) (mm_pf pLX12) (mm_mv vX12_isAlone) (mm_mv zX12_isAlone) (mm_kc kLX12) mm_gs0 mm_rf0 mm_ro (some .boolean) 5 (mm_ins iX12_isAlone) N c Q
theorem alone_lp (hC : C.length = 56) (hd : 0 ≤ d ∧ d ≤ 9) (hS : SDr sd) {n : Nat} (hn : n ≤ 16) (k : ∀ x : Int, rn_X12_isAlone N (93, [(3, iv ((n : Int))), (2, iv (bi (alo sd s d n))), (4, iv (x)), (0, .ref 56), (1, iv (d))], [], (C ++ rL (ro_ th tr db (n : Int) dm sm ty nx tk pl va fa lr ri) s kp ik tn de sd dd sr tx pa)) Q) : ∀ (m j : Nat) (x : Int), j + m = n → rn_X12_isAlone (N + 200 * m + 200) (4, [(3, iv ((j : Int))), (2, iv (bi (alo sd s d j))), (4, iv (x)), (0, .ref 56), (1, iv (d))], [], (C ++ rL (ro_ th tr db (n : Int) dm sm ty nx tk pl va fa lr ri) s kp ik tn de sd dd sr tx pa)) Q := by
  intro m
  induction m with
  | zero =>
    intro j x hj
    have hj : j = n := by omega
    subst hj
    refine rn_up (N := N + 200) (by omega) ?_
    refine r_il rfl rfl ?_
    refine r_al rfl rfl ?_
    refine r_gf rfl rfl (rg_56 hC) rfl ?_
    refine r_cge rfl rfl (by omega) (by omega) (fun g1 => ?_) (fun g1 => ?_)
    · exact rn_up (by omega) (k x)
    · omega
  | succ m ih =>
    intro j x hj
    generalize hM : N + 200 * m + 200 = M at ih
    refine rn_up (N := M + 200) (by omega) ?_
    refine r_il rfl rfl ?_
    refine r_al rfl rfl ?_
    refine r_gf rfl rfl (rg_56 hC) rfl ?_
    refine r_cge rfl rfl (by omega) (by omega) (fun g1 => ?_) (fun g1 => ?_)
    · omega
    · have K : rn_X12_isAlone (M + 150) (57, [(3, iv ((j : Int))), (2, iv (bi (alo sd s d j))), (4, iv (x)), (0, .ref 56), (1, iv (d))], [iv (bi (isA sd s d j))], (C ++ rL (ro_ th tr db (n : Int) dm sm ty nx tk pl va fa lr ri) s kp ik tn de sd dd sr tx pa)) Q := by
        refine r_isw (lv' := [(4, _), (3, _), (2, _), (0, _), (1, _)]) rfl rfl rfl ?_
        refine r_il rfl rfl ?_
        refine r_ilw rfl rfl ?_
        have K2 : rn_X12_isAlone (M + 100) (85, [(4, iv (bi (isA sd s d j))), (3, iv ((j : Int))), (2, iv (bi (alo sd s d j))), (0, .ref 56), (1, iv (d))], [iv (bi (!isA sd s d j || fF s (sd (Int.toNat (5 * ((j : Nat) : Int)))).toInt)), iv (bi (alo sd s d j))], (C ++ rL (ro_ th tr db (n : Int) dm sm ty nx tk pl va fa lr ri) s kp ik tn de sd dd sr tx pa)) Q := by
          refine r_and rfl ?_
          refine r_eq (bi_and (alo sd s d j) _) ?_
          refine r_is (lv' := [(2, _), (4, _), (3, _), (0, _), (1, _)]) rfl rfl rfl ?_
          refine r_inc (lv' := [(3, _), (2, _), (4, _), (0, _), (1, _)]) rfl rfl rfl rfl ?_
          refine r_goto rfl rfl ?_
          exact rn_up (by omega) (ih (j + 1) _ (by omega))
        refine r_zeq rfl rfl (bi_r _) (fun g4 => ?_) (fun g4 => ?_)
        · refine r_ic rfl ?_
          refine r_goto rfl rfl ?_
          rw [bi_0 g4] at K2 ⊢
          exact rn_up (N := M + 100) (by omega) K2
        · refine r_al rfl rfl ?_
          refine r_al rfl rfl ?_
          refine r_gf rfl rfl (rg_56 hC) rfl ?_
          refine r_ic rfl ?_
          refine r_il rfl rfl ?_
          refine r_mul rfl ?_
          refine r_ia rfl (rg_62 hC) (by omega) (by omega) (by decide) ?_
          refine r_v2s rfl rfl (rg_56 hC) rfl (c_isFallenR hC (sd_r hS (by omega)).1) ?_
          refine r_zeq rfl rfl (bi_r _) (fun g5 => ?_) (fun g5 => ?_)
          · refine r_ic rfl ?_
            rw [bi_1 g4] at K2 ⊢
            rw [bi_0 g5] at K2
            exact rn_up (N := M + 100) (by omega) K2
          · refine r_ic rfl ?_
            refine r_goto rfl rfl ?_
            rw [bi_1 g4] at K2 ⊢
            rw [bi_1 g5] at K2
            exact rn_up (N := M + 100) (by omega) K2
      refine r_al rfl rfl ?_
      refine r_gf rfl rfl (rg_56 hC) rfl ?_
      refine r_ic rfl ?_
      refine r_il rfl rfl ?_
      refine r_mul rfl ?_
      refine r_ic rfl ?_
      refine r_add rfl ?_
      refine r_ia rfl (rg_62 hC) (by omega) (by omega) (by decide) ?_
      refine r_il rfl rfl ?_
      refine r_cne rfl rfl (as_r _) (by omega) (fun g1 => ?_) (fun g1 => ?_)
      · refine r_ic rfl ?_
        have e : isA sd s d j = false := by unfold isA; rw [decide_eq_false g1]; rfl
        rw [e] at K
        exact rn_up (N := M + 150) (by omega) K
      · refine r_al rfl rfl ?_
        refine r_gf rfl rfl (rg_56 hC) rfl ?_
        refine r_ic rfl ?_
        refine r_il rfl rfl ?_
        refine r_mul rfl ?_
        refine r_ic rfl ?_
        refine r_add rfl ?_
        refine r_ia rfl (rg_62 hC) (by omega) (by omega) (by decide) ?_
        refine r_ic rfl ?_
        refine r_cge rfl rfl (as_r _) (by decide) (fun g2 => ?_) (fun g2 => ?_)
        · refine r_ic rfl ?_
          have e : isA sd s d j = false := by unfold isA; rw [decide_eq_true g1, decide_eq_false (Int.not_lt.mpr g2)]; rfl
          rw [e] at K
          exact rn_up (N := M + 150) (by omega) K
        · refine r_al rfl rfl ?_
          refine r_gf rfl rfl (rg_56 hC) rfl ?_
          refine r_bi rfl (by decide) ?_
          refine r_il rfl rfl ?_
          refine r_add rfl ?_
          refine r_ia rfl (rg_57 hC) (by omega) (by omega) (by decide) ?_
          refine r_zne rfl rfl (as_r _) (fun g3 => ?_) (fun g3 => ?_)
          · refine r_ic rfl ?_
            have e : isA sd s d j = false := by unfold isA; rw [decide_eq_true g1, decide_eq_true g2, decide_eq_false g3]; rfl
            rw [e] at K
            exact rn_up (N := M + 150) (by omega) K
          · refine r_ic rfl ?_
            refine r_goto rfl rfl ?_
            have e : isA sd s d j = true := by unfold isA; rw [decide_eq_true g1, decide_eq_true g2, decide_eq_true g3]; rfl
            rw [e] at K
            exact rn_up (N := M + 150) (by omega) K
theorem c_isAloneR (hC : C.length = 56) (hd : 0 ≤ d ∧ d ≤ 9) (hS : SDr sd) (hn : 0 ≤ sn ∧ sn ≤ 16) : sX12_isAlone [.ref 56, iv d] (C ++ rL (ro_ th tr db sn dm sm ty nx tk pl va fa lr ri) s kp ik tn de sd dd sr tx pa) = some (some (iv (bi (alo sd s d sn.toNat))), (C ++ rL (ro_ th tr db sn dm sm ty nx tk pl va fa lr ri) s kp ik tn de sd dd sr tx pa)) := by
  obtain ⟨n, rfl⟩ := Int.eq_ofNat_of_zero_le hn.1
  have hn : n ≤ 16 := by omega
  obtain ⟨M, hM⟩ : ∃ M, M = 10 + 200 * 16 + 200 := ⟨_, rfl⟩
  have main : ∀ Q : mm_R → Prop, Q (some (iv (bi (alo sd s d n))), (C ++ rL (ro_ th tr db (n : Int) dm sm ty nx tk pl va fa lr ri) s kp ik tn de sd dd sr tx pa)) → rn_X12_isAlone (M + 400) (0, [(0, .ref 56), (1, iv (d))], [], (C ++ rL (ro_ th tr db (n : Int) dm sm ty nx tk pl va fa lr ri) s kp ik tn de sd dd sr tx pa)) Q := by
    intro Q hQ
    refine r_ic rfl ?_
    refine r_is (lv' := [(2, _), (0, _), (1, _)]) rfl rfl rfl ?_
    refine r_ic rfl ?_
    refine r_is (lv' := [(3, _), (2, _), (0, _), (1, _)]) rfl rfl rfl ?_
    refine r_il rfl rfl ?_
    refine r_al rfl rfl ?_
    refine r_gf rfl rfl (rg_56 hC) rfl ?_
    refine r_cge rfl rfl (by omega) (by omega) (fun g1 => ?_) (fun g1 => ?_)
    · have e0 : n = 0 := by omega
      subst e0
      refine r_il rfl rfl ?_
      exact r_retb rfl rfl (Or.inr rfl) hQ
    · obtain ⟨m, rfl⟩ : ∃ m, n = m + 1 := ⟨n - 1, by omega⟩
      show rn_X12_isAlone _ (12, [(3, iv (((0 : Nat) : Int))), (2, iv (1)), (0, .ref 56), (1, iv (d))], [], (C ++ rL (ro_ th tr db ((m + 1 : Nat) : Int) dm sm ty nx tk pl va fa lr ri) s kp ik tn de sd dd sr tx pa)) Q
      have K : rn_X12_isAlone (M + 150) (57, [(3, iv (((0 : Nat) : Int))), (2, iv (1)), (0, .ref 56), (1, iv (d))], [iv (bi (isA sd s d 0))], (C ++ rL (ro_ th tr db ((m + 1 : Nat) : Int) dm sm ty nx tk pl va fa lr ri) s kp ik tn de sd dd sr tx pa)) Q := by
        refine r_isw (lv' := [(4, _), (3, _), (2, _), (0, _), (1, _)]) rfl rfl rfl ?_
        refine r_il rfl rfl ?_
        refine r_ilw rfl rfl ?_
        have K2 : rn_X12_isAlone (M + 100) (85, [(4, iv (bi (isA sd s d 0))), (3, iv (((0 : Nat) : Int))), (2, iv (1)), (0, .ref 56), (1, iv (d))], [iv (bi (!isA sd s d 0 || fF s (sd (Int.toNat (5 * ((0 : Nat) : Int)))).toInt)), iv (1)], (C ++ rL (ro_ th tr db ((m + 1 : Nat) : Int) dm sm ty nx tk pl va fa lr ri) s kp ik tn de sd dd sr tx pa)) Q := by
          refine r_and rfl ?_
          refine r_eq (bi_and (true) _) ?_
          refine r_is (lv' := [(2, _), (4, _), (3, _), (0, _), (1, _)]) rfl rfl rfl ?_
          refine r_inc (lv' := [(3, _), (2, _), (4, _), (0, _), (1, _)]) rfl rfl rfl rfl ?_
          refine r_goto rfl rfl ?_
          refine rn_up (N := 10 + 200 * m + 200) (by omega) (alone_lp (N := 10) hC hd hS hn (fun x => ?_) m 1 _ (by omega))
          refine r_il rfl rfl ?_
          exact r_retb rfl rfl (bi_01 _) hQ
        refine r_zeq rfl rfl (bi_r _) (fun g4 => ?_) (fun g4 => ?_)
        · refine r_ic rfl ?_
          refine r_goto rfl rfl ?_
          rw [bi_0 g4] at K2 ⊢
          exact rn_up (N := M + 100) (by omega) K2
        · refine r_al rfl rfl ?_
          refine r_al rfl rfl ?_
          refine r_gf rfl rfl (rg_56 hC) rfl ?_
          refine r_ic rfl ?_
          refine r_il rfl rfl ?_
          refine r_mul rfl ?_
          refine r_ia rfl (rg_62 hC) (by omega) (by omega) (by decide) ?_
          refine r_v2s rfl rfl (rg_56 hC) rfl (c_isFallenR hC (sd_r hS (by omega)).1) ?_
          refine r_zeq rfl rfl (bi_r _) (fun g5 => ?_) (fun g5 => ?_)
          · refine r_ic rfl ?_
            rw [bi_1 g4] at K2 ⊢
            rw [bi_0 g5] at K2
            exact rn_up (N := M + 100) (by omega) K2
          · refine r_ic rfl ?_
            refine r_goto rfl rfl ?_
            rw [bi_1 g4] at K2 ⊢
            rw [bi_1 g5] at K2
            exact rn_up (N := M + 100) (by omega) K2
      refine r_al rfl rfl ?_
      refine r_gf rfl rfl (rg_56 hC) rfl ?_
      refine r_ic rfl ?_
      refine r_il rfl rfl ?_
      refine r_mul rfl ?_
      refine r_ic rfl ?_
      refine r_add rfl ?_
      refine r_ia rfl (rg_62 hC) (by omega) (by omega) (by decide) ?_
      refine r_il rfl rfl ?_
      refine r_cne rfl rfl (as_r _) (by omega) (fun g1 => ?_) (fun g1 => ?_)
      · refine r_ic rfl ?_
        have e : isA sd s d 0 = false := by unfold isA; rw [decide_eq_false g1]; rfl
        rw [e] at K
        exact rn_up (N := M + 150) (by omega) K
      · refine r_al rfl rfl ?_
        refine r_gf rfl rfl (rg_56 hC) rfl ?_
        refine r_ic rfl ?_
        refine r_il rfl rfl ?_
        refine r_mul rfl ?_
        refine r_ic rfl ?_
        refine r_add rfl ?_
        refine r_ia rfl (rg_62 hC) (by omega) (by omega) (by decide) ?_
        refine r_ic rfl ?_
        refine r_cge rfl rfl (as_r _) (by decide) (fun g2 => ?_) (fun g2 => ?_)
        · refine r_ic rfl ?_
          have e : isA sd s d 0 = false := by unfold isA; rw [decide_eq_true g1, decide_eq_false (Int.not_lt.mpr g2)]; rfl
          rw [e] at K
          exact rn_up (N := M + 150) (by omega) K
        · refine r_al rfl rfl ?_
          refine r_gf rfl rfl (rg_56 hC) rfl ?_
          refine r_bi rfl (by decide) ?_
          refine r_il rfl rfl ?_
          refine r_add rfl ?_
          refine r_ia rfl (rg_57 hC) (by omega) (by omega) (by decide) ?_
          refine r_zne rfl rfl (as_r _) (fun g3 => ?_) (fun g3 => ?_)
          · refine r_ic rfl ?_
            have e : isA sd s d 0 = false := by unfold isA; rw [decide_eq_true g1, decide_eq_true g2, decide_eq_false g3]; rfl
            rw [e] at K
            exact rn_up (N := M + 150) (by omega) K
          · refine r_ic rfl ?_
            refine r_goto rfl rfl ?_
            have e : isA sd s d 0 = true := by unfold isA; rw [decide_eq_true g1, decide_eq_true g2, decide_eq_true g3]; rfl
            rw [e] at K
            exact rn_up (N := M + 150) (by omega) K
  obtain ⟨r, h1, h2⟩ := rn_S (vs := [.ref 56, iv d]) (Q := fun r => r = (some (iv (bi (alo sd s d n))), (C ++ rL (ro_ th tr db (n : Int) dm sm ty nx tk pl va fa lr ri) s kp ik tn de sd dd sr tx pa))) rfl (rn_up (N := M + 400) (M := mm_fuel) (by rw [hM]; decide) (main (fun r => r = (some (iv (bi (alo sd s d n))), (C ++ rL (ro_ th tr db (n : Int) dm sm ty nx tk pl va fa lr ri) s kp ik tn de sd dd sr tx pa))) rfl))
  have h1 : sX12_isAlone [.ref 56, iv d] (C ++ rL (ro_ th tr db (n : Int) dm sm ty nx tk pl va fa lr ri) s kp ik tn de sd dd sr tx pa) = some r := h1
  rw [h1, h2]
  rfl
end AS
