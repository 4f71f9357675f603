/-! ===== the class reads debts and standings ===== -/
section RT
variable {gf : Nat → Option (Nat × Nat)} {pf : Nat → Option (Nat × Nat × FieldType)} {mv ms : Nat → Option (Nat × Option Nat × mm_F)} {kc : Nat → Option Value} {gs : Nat → Option Value} {rf : Nat → Nat → Option Value} {ro : Nat → Option (Nat × Nat × (Nat → Int32))} {rt : Option FieldType} {nL : Nat} {ins : Nat → Option Instr} {N pc : Nat} {lv : List (Nat × Value)} {st : List Value} {mw : List va_E} {Q : mm_R → Prop}
theorem r_ts {z d lo hi off : Int} {offs : Array Int} {q : Nat} (h : ins pc = some (.tableswitch d lo hi offs)) (hz : -2147483648 ≤ z ∧ z ≤ 2147483647) (e : mm_tsw d lo hi offs z = some off) (hj : mm_jmp pc off = some q) (k : rn gf pf mv ms kc gs rf ro rt nL ins N (q, lv, st, mw) Q) : rn gf pf mv ms kc gs rf ro rt nL ins (N + 1) (pc, lv, iv z :: st, mw) Q := rn_one h (by
  simp only [mm_ex, mm_sw, iv, iv_to hz, e, mm_goto, hj]) k
end RT
def TR (bt : Nat → Int32) (n p : Int) (σ : pS) : Prop := σ.2.2.2.2 < 0 ∧ σ.1 = cl_e bt n p ∧ σ.2.2.1 = ra_pl bt n p ∧ tkrel (cl_t bt n p) (cl_v bt n p) σ.2.1 σ.2.2.2.1
theorem TR_adv {bt tx : Nat → Int32} {n : Int} {σ : pS} (hn : 0 ≤ n ∧ n ≤ 400) (hl : tx_like bt tx n) (h0 : 0 ≤ σ.1 ∧ σ.1 ≤ n) (hf : σ.2.2.2.2 < 0) : TR bt n σ.1 (pt_adv tx n σ) := by
  obtain ⟨h1, h2, h3⟩ := tok_rel (v0 := σ.2.2.2.1) hn hl h0
  exact ⟨hf, h1, h2, h3⟩
theorem st_y {bt tx : Nat → Int32} {n p : Int} {σ : pS} {b : Bool} (hn : 0 ≤ n ∧ n ≤ 400) (hl : tx_like bt tx n) (hB : ∀ k : Nat, (k : Int) < n → 0 ≤ (tx k).toInt ∧ (tx k).toInt ≤ 255) (hσ : pt_ok n σ) (hT : TR bt n p σ) (hb : b = true) : pt_tv b σ = σ.2.2.2.1 ∧ TR bt n (cl_e bt n p) (pt_tk tx n b σ) ∧ pt_ok n (pt_tk tx n b σ) := by
  subst hb
  have e : pt_tk tx n true σ = pt_adv tx n σ := by unfold pt_tk; rw [decide_eq_true hT.1]; rfl
  have e2 : pt_tv true σ = σ.2.2.2.1 := by unfold pt_tv; rw [decide_eq_true hT.1]; rfl
  refine ⟨e2, ?_, pt_tk_ok hn hB hσ⟩
  rw [e, ← hT.2.1]
  exact TR_adv hn hl hσ.1 hT.1
theorem st_n {bt tx : Nat → Int32} {n p : Int} {σ : pS} {b : Bool} (hσ : pt_ok n σ) (hT : TR bt n p σ) (hb : b = false) : (pt_tk tx n b σ).2.2.2.2 = ra_pl bt n p ∧ 0 ≤ ra_pl bt n p := by
  subst hb
  have e : pt_tk tx n false σ = (σ.1, σ.2.1, σ.2.2.1, σ.2.2.2.1, σ.2.2.1) := by unfold pt_tk; rw [decide_eq_true hT.1]; rfl
  rw [e, ← hT.2.2.1]
  exact ⟨rfl, hσ.2.2.1.1⟩
theorem tk_dead {B : Nat → Int32} {n : Int} {σ : pS} {b : Bool} (h : 0 ≤ σ.2.2.2.2) : pt_tk B n b σ = σ := by
  unfold pt_tk
  rw [decide_eq_false (show ¬ σ.2.2.2.2 < 0 by omega)]
  rfl
def RRd (db : Int) (f1 f2 f3 dd : Nat → Int32) : Prop := ∀ i : Nat, (i : Int) < db → f1 i = dd (3 * i) ∧ f2 i = dd (3 * i + 1) ∧ f3 i = dd (3 * i + 2)
def RRs (sn : Int) (f4 f5 f6 f7 f8 sr : Nat → Int32) : Prop := ∀ i : Nat, (i : Int) < sn → f4 i = sr (5 * i) ∧ f5 i = sr (5 * i + 1) ∧ f6 i = sr (5 * i + 2) ∧ f7 i = sr (5 * i + 3) ∧ f8 i = sr (5 * i + 4)
def i7 (x : Int32) (a b : Int) : Prop := a ≤ x.toInt ∧ x.toInt ≤ b
def DWd (dm : Int) (dd : Nat → Int32) : Prop := ∀ i : Nat, (i : Int) < dm → i7 (dd (3 * i)) 0 7 ∧ i7 (dd (3 * i + 1)) 0 7 ∧ i7 (dd (3 * i + 2)) 0 999
def DWs (sm : Int) (sr : Nat → Int32) : Prop := ∀ i : Nat, (i : Int) < sm → i7 (sr (5 * i)) 0 7 ∧ i7 (sr (5 * i + 1)) 0 9 ∧ i7 (sr (5 * i + 2)) 0 3 ∧ i7 (sr (5 * i + 3)) (-9) 15 ∧ ((sr (5 * i + 2)).toInt = 3 → i7 (sr (5 * i + 3)) 0 15)
section C4
variable {ki ln cp cs ct cv ja ea ma jb eb mb re fl : Int} {rr dr : Nat} {rl : Value} {bt a1 a2 a3 a4 a5 a6 a7 a8 b1 b2 b3 b4 b5 b6 b7 b8 g1 g2 g3 g4 g5 : Nat → Int32} {D : List va_E} {tx dd sr : Nat → Int32} {σ : pS} {x y z u : Int} {mw : List va_E}
abbrev rn_J9_min_7cf53 (N : Nat) (c : mm_C) (Q : mm_R → Prop) : Prop := rn (mm_gf gLJ9) (mm_pf pLJ9) (mm_mv vJ9_min_7cf53) (mm_mv zJ9_min_7cf53) (mm_kc kLJ9) mm_gs0 mm_rf0 mm_ro (some .int) 2 (mm_ins iJ9_min_7cf53) N c Q
theorem c_min (hx : -2147483648 ≤ x ∧ x ≤ 2147483647) (hy : -2147483648 ≤ y ∧ y ≤ 2147483647) : sJ9_min_7cf53 [iv (x), iv (y)] mw = some (some (iv (bif decide (x < y) then x else y)), mw) := by
  have main : ∀ Q : mm_R → Prop, Q (some (iv (bif decide (x < y) then x else y)), mw) → rn_J9_min_7cf53 (1000) (0, [(0, iv (x)), (1, iv (y))], [], mw) Q := by
    intro Q hQ
    refine r_il rfl rfl ?_
    refine r_il rfl rfl ?_
    refine r_cgt rfl rfl (by omega) (by omega) (fun g1 => ?_) (fun g1 => ?_)
    · rw [decide_eq_false (show ¬ x < y by omega)] at hQ
      refine r_il rfl rfl ?_
      exact r_ret rfl rfl hQ
    · have e : (bif decide (x < y) then x else y) = x := by
        by_cases q : x < y
        · rw [decide_eq_true q]; rfl
        · rw [decide_eq_false q]; show y = x; omega
      rw [e] at hQ
      refine r_il rfl rfl ?_
      refine r_goto rfl rfl ?_
      exact r_ret rfl rfl hQ
  obtain ⟨r, h1, h2⟩ := rn_S (vs := [iv (x), iv (y)]) (Q := fun r => r = (some (iv (bif decide (x < y) then x else y)), mw)) rfl (rn_up (N := 1000) (M := mm_fuel) (by decide) (main (fun r => r = (some (iv (bif decide (x < y) then x else y)), mw)) rfl))
  have h1 : sJ9_min_7cf53 [iv (x), iv (y)] mw = some r := h1
  rw [h1, h2]
abbrev rn_X8_empty (N : Nat) (c : mm_C) (Q : mm_R → Prop) : Prop := rn (mm_gf gLX8) (mm_pf pLX8) (mm_mv vX8_empty) (mm_mv zX8_empty) (mm_kc kLX8) mm_gs0 mm_rf0 mm_ro none 1 (mm_ins iX8_empty) N c Q
theorem c_empty0  : sX8_empty [.ref 14] (cW ki ln bt rl cp cs ct cv rr dr ja ea ma a1 a2 a3 a4 a5 a6 a7 a8 jb eb mb b1 b2 b3 b4 b5 b6 b7 b8 re fl g1 g2 g3 g4 g5 D) = some (none, (cW ki ln bt rl cp cs ct cv rr dr ja ea ma a1 a2 a3 a4 a5 a6 a7 a8 (0 : Int) (0 : Int) (0 : Int) b1 b2 b3 b4 b5 b6 b7 b8 re fl g1 g2 g3 g4 g5 D)) := by
  have main : ∀ Q : mm_R → Prop, Q (none, (cW ki ln bt rl cp cs ct cv rr dr ja ea ma a1 a2 a3 a4 a5 a6 a7 a8 (0 : Int) (0 : Int) (0 : Int) b1 b2 b3 b4 b5 b6 b7 b8 re fl g1 g2 g3 g4 g5 D)) → rn_X8_empty (1000) (0, [(0, .ref 14)], [], (cW ki ln bt rl cp cs ct cv rr dr ja ea ma a1 a2 a3 a4 a5 a6 a7 a8 jb eb mb b1 b2 b3 b4 b5 b6 b7 b8 re fl g1 g2 g3 g4 g5 D)) Q := by
    intro Q hQ
    refine r_al rfl rfl ?_
    refine r_ic rfl ?_
    refine r_pf rfl rfl cg_14 rfl cp_jb ?_
    refine r_al rfl rfl ?_
    refine r_ic rfl ?_
    refine r_pf rfl rfl cg_14 rfl cp_eb ?_
    refine r_al rfl rfl ?_
    refine r_ic rfl ?_
    refine r_pf rfl rfl cg_14 rfl cp_mb ?_
    exact r_retv rfl rfl hQ
  obtain ⟨r, h1, h2⟩ := rn_S (vs := [.ref 14]) (Q := fun r => r = (none, (cW ki ln bt rl cp cs ct cv rr dr ja ea ma a1 a2 a3 a4 a5 a6 a7 a8 (0 : Int) (0 : Int) (0 : Int) b1 b2 b3 b4 b5 b6 b7 b8 re fl g1 g2 g3 g4 g5 D))) rfl (rn_up (N := 1000) (M := mm_fuel) (by decide) (main (fun r => r = (none, (cW ki ln bt rl cp cs ct cv rr dr ja ea ma a1 a2 a3 a4 a5 a6 a7 a8 (0 : Int) (0 : Int) (0 : Int) b1 b2 b3 b4 b5 b6 b7 b8 re fl g1 g2 g3 g4 g5 D))) rfl))
  have h1 : sX8_empty [.ref 14] (cW ki ln bt rl cp cs ct cv rr dr ja ea ma a1 a2 a3 a4 a5 a6 a7 a8 jb eb mb b1 b2 b3 b4 b5 b6 b7 b8 re fl g1 g2 g3 g4 g5 D) = some r := h1
  rw [h1, h2]
abbrev rn_X8_addDebt (N : Nat) (c : mm_C) (Q : mm_R → Prop) : Prop := rn (mm_gf gLX8) (mm_pf pLX8) (mm_mv vX8_addDebt) (mm_mv zX8_addDebt) (mm_kc kLX8) mm_gs0 mm_rf0 mm_ro none 4 (mm_ins iX8_addDebt) N c Q
theorem c_addDebt0 (h : 0 ≤ eb ∧ eb ≤ 9) : sX8_addDebt [.ref 14, iv (x), iv (y), iv (z)] (cW ki ln bt rl cp cs ct cv rr dr ja ea ma a1 a2 a3 a4 a5 a6 a7 a8 jb eb mb b1 b2 b3 b4 b5 b6 b7 b8 re fl g1 g2 g3 g4 g5 D) = some (none, (cW ki ln bt rl cp cs ct cv rr dr ja ea ma a1 a2 a3 a4 a5 a6 a7 a8 jb (eb + 1) mb (upd b1 (Int.toNat eb) (Int32.ofInt x)) (upd b2 (Int.toNat eb) (Int32.ofInt y)) (upd b3 (Int.toNat eb) (Int32.ofInt z)) b4 b5 b6 b7 b8 re fl g1 g2 g3 g4 g5 D)) := by
  have main : ∀ Q : mm_R → Prop, Q (none, (cW ki ln bt rl cp cs ct cv rr dr ja ea ma a1 a2 a3 a4 a5 a6 a7 a8 jb (eb + 1) mb (upd b1 (Int.toNat eb) (Int32.ofInt x)) (upd b2 (Int.toNat eb) (Int32.ofInt y)) (upd b3 (Int.toNat eb) (Int32.ofInt z)) b4 b5 b6 b7 b8 re fl g1 g2 g3 g4 g5 D)) → rn_X8_addDebt (1000) (0, [(0, .ref 14), (1, iv (x)), (2, iv (y)), (3, iv (z))], [], (cW ki ln bt rl cp cs ct cv rr dr ja ea ma a1 a2 a3 a4 a5 a6 a7 a8 jb eb mb b1 b2 b3 b4 b5 b6 b7 b8 re fl g1 g2 g3 g4 g5 D)) Q := by
    intro Q hQ
    refine r_al rfl rfl ?_
    refine r_gf rfl rfl cg_14 rfl ?_
    refine r_bi rfl (by decide) ?_
    refine r_cge rfl rfl (by omega) (by omega) (fun g1 => ?_) (fun g1 => ?_)
    · omega
    · refine r_al rfl rfl ?_
      refine r_gf rfl rfl cg_14 rfl ?_
      refine r_al rfl rfl ?_
      refine r_gf rfl rfl cg_14 rfl ?_
      refine r_il rfl rfl ?_
      refine r_ias rfl cg_15 (by omega) (by omega) (by decide) cs_15 ?_
      refine r_al rfl rfl ?_
      refine r_gf rfl rfl cg_14 rfl ?_
      refine r_al rfl rfl ?_
      refine r_gf rfl rfl cg_14 rfl ?_
      refine r_il rfl rfl ?_
      refine r_ias rfl cg_16 (by omega) (by omega) (by decide) cs_16 ?_
      refine r_al rfl rfl ?_
      refine r_gf rfl rfl cg_14 rfl ?_
      refine r_al rfl rfl ?_
      refine r_gf rfl rfl cg_14 rfl ?_
      refine r_il rfl rfl ?_
      refine r_ias rfl cg_17 (by omega) (by omega) (by decide) cs_17 ?_
      refine r_al rfl rfl ?_
      refine r_dup rfl rfl ?_
      refine r_gf rfl rfl cg_14 rfl ?_
      refine r_ic rfl ?_
      refine r_add rfl ?_
      refine r_pf rfl rfl cg_14 rfl cp_eb ?_
      exact r_retv rfl rfl hQ
  obtain ⟨r, h1, h2⟩ := rn_S (vs := [.ref 14, iv (x), iv (y), iv (z)]) (Q := fun r => r = (none, (cW ki ln bt rl cp cs ct cv rr dr ja ea ma a1 a2 a3 a4 a5 a6 a7 a8 jb (eb + 1) mb (upd b1 (Int.toNat eb) (Int32.ofInt x)) (upd b2 (Int.toNat eb) (Int32.ofInt y)) (upd b3 (Int.toNat eb) (Int32.ofInt z)) b4 b5 b6 b7 b8 re fl g1 g2 g3 g4 g5 D))) rfl (rn_up (N := 1000) (M := mm_fuel) (by decide) (main (fun r => r = (none, (cW ki ln bt rl cp cs ct cv rr dr ja ea ma a1 a2 a3 a4 a5 a6 a7 a8 jb (eb + 1) mb (upd b1 (Int.toNat eb) (Int32.ofInt x)) (upd b2 (Int.toNat eb) (Int32.ofInt y)) (upd b3 (Int.toNat eb) (Int32.ofInt z)) b4 b5 b6 b7 b8 re fl g1 g2 g3 g4 g5 D))) rfl))
  have h1 : sX8_addDebt [.ref 14, iv (x), iv (y), iv (z)] (cW ki ln bt rl cp cs ct cv rr dr ja ea ma a1 a2 a3 a4 a5 a6 a7 a8 jb eb mb b1 b2 b3 b4 b5 b6 b7 b8 re fl g1 g2 g3 g4 g5 D) = some r := h1
  rw [h1, h2]
abbrev rn_X8_addStanding (N : Nat) (c : mm_C) (Q : mm_R → Prop) : Prop := rn (mm_gf gLX8) (mm_pf pLX8) (mm_mv vX8_addStanding) (mm_mv zX8_addStanding) (mm_kc kLX8) mm_gs0 mm_rf0 mm_ro none 5 (mm_ins iX8_addStanding) N c Q
theorem c_addStanding0 (h : 0 ≤ mb ∧ mb ≤ 15) : sX8_addStanding [.ref 14, iv (x), iv (y), iv (z), iv (u)] (cW ki ln bt rl cp cs ct cv rr dr ja ea ma a1 a2 a3 a4 a5 a6 a7 a8 jb eb mb b1 b2 b3 b4 b5 b6 b7 b8 re fl g1 g2 g3 g4 g5 D) = some (none, (cW ki ln bt rl cp cs ct cv rr dr ja ea ma a1 a2 a3 a4 a5 a6 a7 a8 jb eb (mb + 1) b1 b2 b3 (upd b4 (Int.toNat mb) (Int32.ofInt x)) (upd b5 (Int.toNat mb) (Int32.ofInt y)) (upd b6 (Int.toNat mb) (Int32.ofInt z)) (upd b7 (Int.toNat mb) (Int32.ofInt (-9))) (upd b8 (Int.toNat mb) (Int32.ofInt u)) re fl g1 g2 g3 g4 g5 D)) := by
  have main : ∀ Q : mm_R → Prop, Q (none, (cW ki ln bt rl cp cs ct cv rr dr ja ea ma a1 a2 a3 a4 a5 a6 a7 a8 jb eb (mb + 1) b1 b2 b3 (upd b4 (Int.toNat mb) (Int32.ofInt x)) (upd b5 (Int.toNat mb) (Int32.ofInt y)) (upd b6 (Int.toNat mb) (Int32.ofInt z)) (upd b7 (Int.toNat mb) (Int32.ofInt (-9))) (upd b8 (Int.toNat mb) (Int32.ofInt u)) re fl g1 g2 g3 g4 g5 D)) → rn_X8_addStanding (1000) (0, [(0, .ref 14), (1, iv (x)), (2, iv (y)), (3, iv (z)), (4, iv (u))], [], (cW ki ln bt rl cp cs ct cv rr dr ja ea ma a1 a2 a3 a4 a5 a6 a7 a8 jb eb mb b1 b2 b3 b4 b5 b6 b7 b8 re fl g1 g2 g3 g4 g5 D)) Q := by
    intro Q hQ
    refine r_al rfl rfl ?_
    refine r_gf rfl rfl cg_14 rfl ?_
    refine r_bi rfl (by decide) ?_
    refine r_cge rfl rfl (by omega) (by omega) (fun g1 => ?_) (fun g1 => ?_)
    · omega
    · refine r_al rfl rfl ?_
      refine r_gf rfl rfl cg_14 rfl ?_
      refine r_al rfl rfl ?_
      refine r_gf rfl rfl cg_14 rfl ?_
      refine r_il rfl rfl ?_
      refine r_ias rfl cg_18 (by omega) (by omega) (by decide) cs_18 ?_
      refine r_al rfl rfl ?_
      refine r_gf rfl rfl cg_14 rfl ?_
      refine r_al rfl rfl ?_
      refine r_gf rfl rfl cg_14 rfl ?_
      refine r_il rfl rfl ?_
      refine r_ias rfl cg_19 (by omega) (by omega) (by decide) cs_19 ?_
      refine r_al rfl rfl ?_
      refine r_gf rfl rfl cg_14 rfl ?_
      refine r_al rfl rfl ?_
      refine r_gf rfl rfl cg_14 rfl ?_
      refine r_il rfl rfl ?_
      refine r_ias rfl cg_20 (by omega) (by omega) (by decide) cs_20 ?_
      refine r_al rfl rfl ?_
      refine r_gf rfl rfl cg_14 rfl ?_
      refine r_al rfl rfl ?_
      refine r_gf rfl rfl cg_14 rfl ?_
      refine r_bi rfl (by decide) ?_
      refine r_ias rfl cg_21 (by omega) (by omega) (by decide) cs_21 ?_
      refine r_al rfl rfl ?_
      refine r_gf rfl rfl cg_14 rfl ?_
      refine r_al rfl rfl ?_
      refine r_gf rfl rfl cg_14 rfl ?_
      refine r_ilw rfl rfl ?_
      refine r_ias rfl cg_22 (by omega) (by omega) (by decide) cs_22 ?_
      refine r_al rfl rfl ?_
      refine r_dup rfl rfl ?_
      refine r_gf rfl rfl cg_14 rfl ?_
      refine r_ic rfl ?_
      refine r_add rfl ?_
      refine r_pf rfl rfl cg_14 rfl cp_mb ?_
      exact r_retv rfl rfl hQ
  obtain ⟨r, h1, h2⟩ := rn_S (vs := [.ref 14, iv (x), iv (y), iv (z), iv (u)]) (Q := fun r => r = (none, (cW ki ln bt rl cp cs ct cv rr dr ja ea ma a1 a2 a3 a4 a5 a6 a7 a8 jb eb (mb + 1) b1 b2 b3 (upd b4 (Int.toNat mb) (Int32.ofInt x)) (upd b5 (Int.toNat mb) (Int32.ofInt y)) (upd b6 (Int.toNat mb) (Int32.ofInt z)) (upd b7 (Int.toNat mb) (Int32.ofInt (-9))) (upd b8 (Int.toNat mb) (Int32.ofInt u)) re fl g1 g2 g3 g4 g5 D))) rfl (rn_up (N := 1000) (M := mm_fuel) (by decide) (main (fun r => r = (none, (cW ki ln bt rl cp cs ct cv rr dr ja ea ma a1 a2 a3 a4 a5 a6 a7 a8 jb eb (mb + 1) b1 b2 b3 (upd b4 (Int.toNat mb) (Int32.ofInt x)) (upd b5 (Int.toNat mb) (Int32.ofInt y)) (upd b6 (Int.toNat mb) (Int32.ofInt z)) (upd b7 (Int.toNat mb) (Int32.ofInt (-9))) (upd b8 (Int.toNat mb) (Int32.ofInt u)) re fl g1 g2 g3 g4 g5 D))) rfl))
  have h1 : sX8_addStanding [.ref 14, iv (x), iv (y), iv (z), iv (u)] (cW ki ln bt rl cp cs ct cv rr dr ja ea ma a1 a2 a3 a4 a5 a6 a7 a8 jb eb mb b1 b2 b3 b4 b5 b6 b7 b8 re fl g1 g2 g3 g4 g5 D) = some r := h1
  rw [h1, h2]
abbrev rn_X8_addOver (N : Nat) (c : mm_C) (Q : mm_R → Prop) : Prop := rn (mm_gf gLX8) (mm_pf pLX8) (mm_mv vX8_addOver) (mm_mv zX8_addOver) (mm_kc kLX8) mm_gs0 mm_rf0 mm_ro none 4 (mm_ins iX8_addOver) N c Q
theorem c_addOver0 (h : 0 ≤ mb ∧ mb ≤ 15) (hy : 0 ≤ y ∧ y ≤ 15) : sX8_addOver [.ref 14, iv (x), iv (y), iv (z)] (cW ki ln bt rl cp cs ct cv rr dr ja ea ma a1 a2 a3 a4 a5 a6 a7 a8 jb eb mb b1 b2 b3 b4 b5 b6 b7 b8 re fl g1 g2 g3 g4 g5 D) = some (none, (cW ki ln bt rl cp cs ct cv rr dr ja ea ma a1 a2 a3 a4 a5 a6 a7 a8 jb eb (mb + 1) b1 b2 b3 (upd b4 (Int.toNat mb) (Int32.ofInt x)) (upd b5 (Int.toNat mb) (Int32.ofInt (b5 (Int.toNat y)).toInt)) (upd b6 (Int.toNat mb) (Int32.ofInt 3)) (upd (upd b7 (Int.toNat mb) (Int32.ofInt (-9))) (Int.toNat (mb + 1 - 1)) (Int32.ofInt y)) (upd b8 (Int.toNat mb) (Int32.ofInt z)) re fl g1 g2 g3 g4 g5 D)) := by
  have main : ∀ Q : mm_R → Prop, Q (none, (cW ki ln bt rl cp cs ct cv rr dr ja ea ma a1 a2 a3 a4 a5 a6 a7 a8 jb eb (mb + 1) b1 b2 b3 (upd b4 (Int.toNat mb) (Int32.ofInt x)) (upd b5 (Int.toNat mb) (Int32.ofInt (b5 (Int.toNat y)).toInt)) (upd b6 (Int.toNat mb) (Int32.ofInt 3)) (upd (upd b7 (Int.toNat mb) (Int32.ofInt (-9))) (Int.toNat (mb + 1 - 1)) (Int32.ofInt y)) (upd b8 (Int.toNat mb) (Int32.ofInt z)) re fl g1 g2 g3 g4 g5 D)) → rn_X8_addOver (1000) (0, [(0, .ref 14), (1, iv (x)), (2, iv (y)), (3, iv (z))], [], (cW ki ln bt rl cp cs ct cv rr dr ja ea ma a1 a2 a3 a4 a5 a6 a7 a8 jb eb mb b1 b2 b3 b4 b5 b6 b7 b8 re fl g1 g2 g3 g4 g5 D)) Q := by
    intro Q hQ
    refine r_al rfl rfl ?_
    refine r_gf rfl rfl cg_14 rfl ?_
    refine r_bi rfl (by decide) ?_
    refine r_cge rfl rfl (by omega) (by omega) (fun g1 => ?_) (fun g1 => ?_)
    · omega
    · refine r_al rfl rfl ?_
      refine r_il rfl rfl ?_
      refine r_al rfl rfl ?_
      refine r_gf rfl rfl cg_14 rfl ?_
      refine r_il rfl rfl ?_
      refine r_ia rfl cg_19 (by omega) (by omega) (by decide) ?_
      refine r_ic rfl ?_
      refine r_il rfl rfl ?_
      refine r_v5n rfl rfl cg_14 rfl (c_addStanding0 h) ?_
      refine r_al rfl rfl ?_
      refine r_gf rfl rfl cg_14 rfl ?_
      refine r_al rfl rfl ?_
      refine r_gf rfl rfl cg_14 rfl ?_
      refine r_ic rfl ?_
      refine r_sub rfl ?_
      refine r_il rfl rfl ?_
      refine r_ias rfl cg_21 (by omega) (by omega) (by decide) cs_21 ?_
      exact r_retv rfl rfl hQ
  obtain ⟨r, h1, h2⟩ := rn_S (vs := [.ref 14, iv (x), iv (y), iv (z)]) (Q := fun r => r = (none, (cW ki ln bt rl cp cs ct cv rr dr ja ea ma a1 a2 a3 a4 a5 a6 a7 a8 jb eb (mb + 1) b1 b2 b3 (upd b4 (Int.toNat mb) (Int32.ofInt x)) (upd b5 (Int.toNat mb) (Int32.ofInt (b5 (Int.toNat y)).toInt)) (upd b6 (Int.toNat mb) (Int32.ofInt 3)) (upd (upd b7 (Int.toNat mb) (Int32.ofInt (-9))) (Int.toNat (mb + 1 - 1)) (Int32.ofInt y)) (upd b8 (Int.toNat mb) (Int32.ofInt z)) re fl g1 g2 g3 g4 g5 D))) rfl (rn_up (N := 1000) (M := mm_fuel) (by decide) (main (fun r => r = (none, (cW ki ln bt rl cp cs ct cv rr dr ja ea ma a1 a2 a3 a4 a5 a6 a7 a8 jb eb (mb + 1) b1 b2 b3 (upd b4 (Int.toNat mb) (Int32.ofInt x)) (upd b5 (Int.toNat mb) (Int32.ofInt (b5 (Int.toNat y)).toInt)) (upd b6 (Int.toNat mb) (Int32.ofInt 3)) (upd (upd b7 (Int.toNat mb) (Int32.ofInt (-9))) (Int.toNat (mb + 1 - 1)) (Int32.ofInt y)) (upd b8 (Int.toNat mb) (Int32.ofInt z)) re fl g1 g2 g3 g4 g5 D))) rfl))
  have h1 : sX8_addOver [.ref 14, iv (x), iv (y), iv (z)] (cW ki ln bt rl cp cs ct cv rr dr ja ea ma a1 a2 a3 a4 a5 a6 a7 a8 jb eb mb b1 b2 b3 b4 b5 b6 b7 b8 re fl g1 g2 g3 g4 g5 D) = some r := h1
  rw [h1, h2]
abbrev rn_X7_mannerOfToken (N : Nat) (c : mm_C) (Q : mm_R → Prop) : Prop := rn (mm_gf gLX7) (mm_pf pLX7) (mm_mv vX7_mannerOfToken) (mm_mv zX7_mannerOfToken) (mm_kc kLX7) mm_gs0 mm_rf0 mm_ro (some .int) 1 (mm_ins iX7_mannerOfToken) N c Q
theorem c_manner (h : 0 ≤ ct ∧ ct ≤ 11) : sX7_mannerOfToken [.ref 3] (cW ki ln bt rl cp cs ct cv rr dr ja ea ma a1 a2 a3 a4 a5 a6 a7 a8 jb eb mb b1 b2 b3 b4 b5 b6 b7 b8 re fl g1 g2 g3 g4 g5 D) = some (some (iv (bif decide (9 ≤ ct) then ct - 9 else (-9))), (cW ki ln bt rl cp cs ct cv rr dr ja ea ma a1 a2 a3 a4 a5 a6 a7 a8 jb eb mb b1 b2 b3 b4 b5 b6 b7 b8 re fl g1 g2 g3 g4 g5 D)) := by
  have main : ∀ Q : mm_R → Prop, Q (some (iv (bif decide (9 ≤ ct) then ct - 9 else (-9))), (cW ki ln bt rl cp cs ct cv rr dr ja ea ma a1 a2 a3 a4 a5 a6 a7 a8 jb eb mb b1 b2 b3 b4 b5 b6 b7 b8 re fl g1 g2 g3 g4 g5 D)) → rn_X7_mannerOfToken (1000) (0, [(0, .ref 3)], [], (cW ki ln bt rl cp cs ct cv rr dr ja ea ma a1 a2 a3 a4 a5 a6 a7 a8 jb eb mb b1 b2 b3 b4 b5 b6 b7 b8 re fl g1 g2 g3 g4 g5 D)) Q := by
    intro Q hQ
    refine r_al rfl rfl ?_
    refine r_gf rfl rfl cg_3 rfl ?_
    by_cases g : 9 ≤ ct
    · rw [decide_eq_true g] at hQ
      have g2 : ct = 9 ∨ ct = 10 ∨ ct = 11 := by omega
      rcases g2 with rfl | rfl | rfl
      · refine r_ts rfl (by decide) rfl rfl ?_
        refine r_ic rfl ?_
        exact r_ret rfl rfl hQ
      · refine r_ts rfl (by decide) rfl rfl ?_
        refine r_ic rfl ?_
        exact r_ret rfl rfl hQ
      · refine r_ts rfl (by decide) rfl rfl ?_
        refine r_ic rfl ?_
        exact r_ret rfl rfl hQ
    · rw [decide_eq_false g] at hQ
      refine r_ts (off := 34) rfl (by omega) (by unfold mm_tsw; rw [decide_eq_true (show ct < 9 by omega)]; rfl) rfl ?_
      refine r_bi rfl (by decide) ?_
      exact r_ret rfl rfl hQ
  obtain ⟨r, h1, h2⟩ := rn_S (vs := [.ref 3]) (Q := fun r => r = (some (iv (bif decide (9 ≤ ct) then ct - 9 else (-9))), (cW ki ln bt rl cp cs ct cv rr dr ja ea ma a1 a2 a3 a4 a5 a6 a7 a8 jb eb mb b1 b2 b3 b4 b5 b6 b7 b8 re fl g1 g2 g3 g4 g5 D))) rfl (rn_up (N := 1000) (M := mm_fuel) (by decide) (main (fun r => r = (some (iv (bif decide (9 ≤ ct) then ct - 9 else (-9))), (cW ki ln bt rl cp cs ct cv rr dr ja ea ma a1 a2 a3 a4 a5 a6 a7 a8 jb eb mb b1 b2 b3 b4 b5 b6 b7 b8 re fl g1 g2 g3 g4 g5 D))) rfl))
  have h1 : sX7_mannerOfToken [.ref 3] (cW ki ln bt rl cp cs ct cv rr dr ja ea ma a1 a2 a3 a4 a5 a6 a7 a8 jb eb mb b1 b2 b3 b4 b5 b6 b7 b8 re fl g1 g2 g3 g4 g5 D) = some r := h1
  rw [h1, h2]
abbrev rn_X7_readDebt (N : Nat) (c : mm_C) (Q : mm_R → Prop) : Prop := rn (mm_gf gLX7) (mm_pf pLX7) (mm_mv vX7_readDebt) (mm_mv zX7_readDebt) (mm_kc kLX7) mm_gs0 mm_rf0 mm_ro (some .boolean) 4 (mm_ins iX7_readDebt) N c Q
theorem c_readDebtF0 (h : 10 ≤ eb ∧ eb ≤ 100) : sX7_readDebt [.ref 3] (cW ki ln bt (.ref 14) cp cs ct cv rr dr ja ea ma a1 a2 a3 a4 a5 a6 a7 a8 jb eb mb b1 b2 b3 b4 b5 b6 b7 b8 re fl g1 g2 g3 g4 g5 D) = some (some (iv 0), (cW ki ln bt (.ref 14) cp cs ct cv rr dr ja ea ma a1 a2 a3 a4 a5 a6 a7 a8 jb eb mb b1 b2 b3 b4 b5 b6 b7 b8 re fl g1 g2 g3 g4 g5 D)) := by
  have main : ∀ Q : mm_R → Prop, Q (some (iv 0), (cW ki ln bt (.ref 14) cp cs ct cv rr dr ja ea ma a1 a2 a3 a4 a5 a6 a7 a8 jb eb mb b1 b2 b3 b4 b5 b6 b7 b8 re fl g1 g2 g3 g4 g5 D)) → rn_X7_readDebt (1000) (0, [(0, .ref 3)], [], (cW ki ln bt (.ref 14) cp cs ct cv rr dr ja ea ma a1 a2 a3 a4 a5 a6 a7 a8 jb eb mb b1 b2 b3 b4 b5 b6 b7 b8 re fl g1 g2 g3 g4 g5 D)) Q := by
    intro Q hQ
    refine r_al rfl rfl ?_
    refine r_gf rfl rfl cg_3 rfl ?_
    refine r_gf rfl rfl cg_14 rfl ?_
    refine r_bi rfl (by decide) ?_
    refine r_cge rfl rfl (by omega) (by omega) (fun g1 => ?_) (fun g1 => ?_)
    · refine r_ic rfl ?_
      exact r_retb rfl rfl (by omega) hQ
    · omega
  obtain ⟨r, h1, h2⟩ := rn_S (vs := [.ref 3]) (Q := fun r => r = (some (iv 0), (cW ki ln bt (.ref 14) cp cs ct cv rr dr ja ea ma a1 a2 a3 a4 a5 a6 a7 a8 jb eb mb b1 b2 b3 b4 b5 b6 b7 b8 re fl g1 g2 g3 g4 g5 D))) rfl (rn_up (N := 1000) (M := mm_fuel) (by decide) (main (fun r => r = (some (iv 0), (cW ki ln bt (.ref 14) cp cs ct cv rr dr ja ea ma a1 a2 a3 a4 a5 a6 a7 a8 jb eb mb b1 b2 b3 b4 b5 b6 b7 b8 re fl g1 g2 g3 g4 g5 D))) rfl))
  have h1 : sX7_readDebt [.ref 3] (cW ki ln bt (.ref 14) cp cs ct cv rr dr ja ea ma a1 a2 a3 a4 a5 a6 a7 a8 jb eb mb b1 b2 b3 b4 b5 b6 b7 b8 re fl g1 g2 g3 g4 g5 D) = some r := h1
  rw [h1, h2]
abbrev rn_X7_readStand (N : Nat) (c : mm_C) (Q : mm_R → Prop) : Prop := rn (mm_gf gLX7) (mm_pf pLX7) (mm_mv vX7_readStand) (mm_mv zX7_readStand) (mm_kc kLX7) mm_gs0 mm_rf0 mm_ro (some .boolean) 6 (mm_ins iX7_readStand) N c Q
theorem c_readStandF0 (h : 16 ≤ mb ∧ mb ≤ 100) : sX7_readStand [.ref 3] (cW ki ln bt (.ref 14) cp cs ct cv rr dr ja ea ma a1 a2 a3 a4 a5 a6 a7 a8 jb eb mb b1 b2 b3 b4 b5 b6 b7 b8 re fl g1 g2 g3 g4 g5 D) = some (some (iv 0), (cW ki ln bt (.ref 14) cp cs ct cv rr dr ja ea ma a1 a2 a3 a4 a5 a6 a7 a8 jb eb mb b1 b2 b3 b4 b5 b6 b7 b8 re fl g1 g2 g3 g4 g5 D)) := by
  have main : ∀ Q : mm_R → Prop, Q (some (iv 0), (cW ki ln bt (.ref 14) cp cs ct cv rr dr ja ea ma a1 a2 a3 a4 a5 a6 a7 a8 jb eb mb b1 b2 b3 b4 b5 b6 b7 b8 re fl g1 g2 g3 g4 g5 D)) → rn_X7_readStand (1000) (0, [(0, .ref 3)], [], (cW ki ln bt (.ref 14) cp cs ct cv rr dr ja ea ma a1 a2 a3 a4 a5 a6 a7 a8 jb eb mb b1 b2 b3 b4 b5 b6 b7 b8 re fl g1 g2 g3 g4 g5 D)) Q := by
    intro Q hQ
    refine r_al rfl rfl ?_
    refine r_gf rfl rfl cg_3 rfl ?_
    refine r_gf rfl rfl cg_14 rfl ?_
    refine r_bi rfl (by decide) ?_
    refine r_cge rfl rfl (by omega) (by omega) (fun g1 => ?_) (fun g1 => ?_)
    · refine r_ic rfl ?_
      exact r_retb rfl rfl (by omega) hQ
    · omega
  obtain ⟨r, h1, h2⟩ := rn_S (vs := [.ref 3]) (Q := fun r => r = (some (iv 0), (cW ki ln bt (.ref 14) cp cs ct cv rr dr ja ea ma a1 a2 a3 a4 a5 a6 a7 a8 jb eb mb b1 b2 b3 b4 b5 b6 b7 b8 re fl g1 g2 g3 g4 g5 D))) rfl (rn_up (N := 1000) (M := mm_fuel) (by decide) (main (fun r => r = (some (iv 0), (cW ki ln bt (.ref 14) cp cs ct cv rr dr ja ea ma a1 a2 a3 a4 a5 a6 a7 a8 jb eb mb b1 b2 b3 b4 b5 b6 b7 b8 re fl g1 g2 g3 g4 g5 D))) rfl))
  have h1 : sX7_readStand [.ref 3] (cW ki ln bt (.ref 14) cp cs ct cv rr dr ja ea ma a1 a2 a3 a4 a5 a6 a7 a8 jb eb mb b1 b2 b3 b4 b5 b6 b7 b8 re fl g1 g2 g3 g4 g5 D) = some r := h1
  rw [h1, h2]
abbrev rn_X7_readOver (N : Nat) (c : mm_C) (Q : mm_R → Prop) : Prop := rn (mm_gf gLX7) (mm_pf pLX7) (mm_mv vX7_readOver) (mm_mv zX7_readOver) (mm_kc kLX7) mm_gs0 mm_rf0 mm_ro (some .boolean) 4 (mm_ins iX7_readOver) N c Q
theorem c_readOverF0 (h : 16 ≤ mb ∧ mb ≤ 100) : sX7_readOver [.ref 3] (cW ki ln bt (.ref 14) cp cs ct cv rr dr ja ea ma a1 a2 a3 a4 a5 a6 a7 a8 jb eb mb b1 b2 b3 b4 b5 b6 b7 b8 re fl g1 g2 g3 g4 g5 D) = some (some (iv 0), (cW ki ln bt (.ref 14) cp cs ct cv rr dr ja ea ma a1 a2 a3 a4 a5 a6 a7 a8 jb eb mb b1 b2 b3 b4 b5 b6 b7 b8 re fl g1 g2 g3 g4 g5 D)) := by
  have main : ∀ Q : mm_R → Prop, Q (some (iv 0), (cW ki ln bt (.ref 14) cp cs ct cv rr dr ja ea ma a1 a2 a3 a4 a5 a6 a7 a8 jb eb mb b1 b2 b3 b4 b5 b6 b7 b8 re fl g1 g2 g3 g4 g5 D)) → rn_X7_readOver (1000) (0, [(0, .ref 3)], [], (cW ki ln bt (.ref 14) cp cs ct cv rr dr ja ea ma a1 a2 a3 a4 a5 a6 a7 a8 jb eb mb b1 b2 b3 b4 b5 b6 b7 b8 re fl g1 g2 g3 g4 g5 D)) Q := by
    intro Q hQ
    refine r_al rfl rfl ?_
    refine r_gf rfl rfl cg_3 rfl ?_
    refine r_gf rfl rfl cg_14 rfl ?_
    refine r_bi rfl (by decide) ?_
    refine r_cge rfl rfl (by omega) (by omega) (fun g1 => ?_) (fun g1 => ?_)
    · refine r_ic rfl ?_
      exact r_retb rfl rfl (by omega) hQ
    · omega
  obtain ⟨r, h1, h2⟩ := rn_S (vs := [.ref 3]) (Q := fun r => r = (some (iv 0), (cW ki ln bt (.ref 14) cp cs ct cv rr dr ja ea ma a1 a2 a3 a4 a5 a6 a7 a8 jb eb mb b1 b2 b3 b4 b5 b6 b7 b8 re fl g1 g2 g3 g4 g5 D))) rfl (rn_up (N := 1000) (M := mm_fuel) (by decide) (main (fun r => r = (some (iv 0), (cW ki ln bt (.ref 14) cp cs ct cv rr dr ja ea ma a1 a2 a3 a4 a5 a6 a7 a8 jb eb mb b1 b2 b3 b4 b5 b6 b7 b8 re fl g1 g2 g3 g4 g5 D))) rfl))
  have h1 : sX7_readOver [.ref 3] (cW ki ln bt (.ref 14) cp cs ct cv rr dr ja ea ma a1 a2 a3 a4 a5 a6 a7 a8 jb eb mb b1 b2 b3 b4 b5 b6 b7 b8 re fl g1 g2 g3 g4 g5 D) = some r := h1
  rw [h1, h2]
theorem c_readDebt0 (hD : D.length = 38) (hln : 0 ≤ ln ∧ ln ≤ 400) (hl : tx_like bt tx ln) (hB : ∀ k : Nat, (k : Int) < ln → 0 ≤ (tx k).toInt ∧ (tx k).toInt ≤ 255) (h : 0 ≤ eb ∧ eb ≤ 9) (hσ : pt_ok ln σ) (hT : TR bt ln cp σ) (hcp : 0 ≤ cp ∧ cp ≤ ln) : ∃ r, sX7_readDebt [.ref 3] (cW ki ln bt (.ref 14) cp cs ct cv rr dr ja ea ma a1 a2 a3 a4 a5 a6 a7 a8 jb eb mb b1 b2 b3 b4 b5 b6 b7 b8 re fl g1 g2 g3 g4 g5 D) = some r ∧ (fun r : mm_R => ((pt_tk tx ln (bSto (rd_σ tx ln σ)) (rd_σ tx ln σ)).2.2.2.2 < 0 ∧ ∃ y1 y2 y3 y4 : Int, r = (some (iv 1), (cW ki ln bt (.ref 14) y1 y2 y3 y4 rr dr ja ea ma a1 a2 a3 a4 a5 a6 a7 a8 jb (eb + 1) mb (upd b1 (Int.toNat eb) (Int32.ofInt (pt_tv (bPer σ) σ))) (upd b2 (Int.toNat eb) (Int32.ofInt (pt_tv (bPer2 (pt_tv (bPer σ) σ) (pt_tk tx ln (bPer σ) σ)) (pt_tk tx ln (bPer σ) σ)))) (upd b3 (Int.toNat eb) (Int32.ofInt (pt_tv (nb 1 999 (pt_tk tx ln (bPer2 (pt_tv (bPer σ) σ) (pt_tk tx ln (bPer σ) σ)) (pt_tk tx ln (bPer σ) σ))) (pt_tk tx ln (bPer2 (pt_tv (bPer σ) σ) (pt_tk tx ln (bPer σ) σ)) (pt_tk tx ln (bPer σ) σ))))) b4 b5 b6 b7 b8 re fl g1 g2 g3 g4 g5 D)) ∧ TR bt ln y1 (pt_tk tx ln (bSto (rd_σ tx ln σ)) (rd_σ tx ln σ)) ∧ (0 ≤ y1 ∧ y1 ≤ ln)) ∨ (0 ≤ (pt_tk tx ln (bSto (rd_σ tx ln σ)) (rd_σ tx ln σ)).2.2.2.2 ∧ ∃ y1 y2 y3 y4 : Int, r = (some (iv 0), (cW ki ln bt (.ref 14) y1 y2 y3 y4 rr dr ja ea ma a1 a2 a3 a4 a5 a6 a7 a8 jb eb mb b1 b2 b3 b4 b5 b6 b7 b8 re fl g1 g2 g3 g4 g5 D)) ∧ y2 = (pt_tk tx ln (bSto (rd_σ tx ln σ)) (rd_σ tx ln σ)).2.2.2.2)) r := by
  refine rn_S rfl ?_
  refine rn_up (N := 3000) (by decide) ?_
  obtain ⟨t0, t1, t2, t3⟩ := id hT
  have r1 : 0 ≤ cl_e bt ln cp ∧ cl_e bt ln cp ≤ ln := by rw [← t1]; exact hσ.1
  unfold tkrel at t3
  refine r_al rfl rfl ?_
  refine r_gf rfl rfl cg_3 rfl ?_
  refine r_gf rfl rfl cg_14 rfl ?_
  refine r_bi rfl (by decide) ?_
  refine r_cge rfl rfl (by omega) (by omega) (fun g0 => ?_) (fun g0 => ?_)
  · omega
  · refine r_al rfl rfl ?_
    refine r_ic rfl ?_
    refine r_v2s rfl rfl cg_3 rfl (c_nextIs hD hln hcp (by decide)) ?_
    refine r_zne rfl rfl (bi_r _) (fun g1 => ?_) (fun g1 => ?_)
    · have g1 := of_decide_eq_true (bi_1 g1)
      have b1 : bPer σ = true := decide_eq_true (by omega)
      obtain ⟨v1, T1, k1⟩ := st_y (b := bPer σ) hln hl hB hσ hT b1
      have w1 : cl_v bt ln cp = (pt_tv (bPer σ) σ) := by rw [v1]; omega
      obtain ⟨u0, u1, u2, u3⟩ := id T1
      have r2 : 0 ≤ (cl_e bt ln (cl_e bt ln cp)) ∧ (cl_e bt ln (cl_e bt ln cp)) ≤ ln := by rw [← u1]; exact k1.1
      unfold tkrel at u3
      refine r_al rfl rfl ?_
      refine r_gf rfl rfl cg_3 rfl ?_
      refine r_is (lv' := [(1, _), (0, _)]) rfl rfl rfl ?_
      refine r_al rfl rfl ?_
      refine r_ic rfl ?_
      refine r_v2s rfl rfl cg_3 rfl (c_nextIs hD hln r1 (by decide)) ?_
      refine r_zeq rfl rfl (bi_r _) (fun g2 => ?_) (fun g2 => ?_)
      · have g2 := of_decide_eq_false (bi_0 g2)
        have b2 : (bPer2 (pt_tv (bPer σ) σ) (pt_tk tx ln (bPer σ) σ)) = false := by unfold bPer2; rw [decide_eq_false (by omega)]; rfl
        have d := st_n (tx := tx) (b := (bPer2 (pt_tv (bPer σ) σ) (pt_tk tx ln (bPer σ) σ))) k1 T1 b2
        have eF : (pt_tk tx ln (bSto (rd_σ tx ln σ)) (rd_σ tx ln σ)).2.2.2.2 = ra_pl bt ln (cl_e bt ln cp) := by
          unfold rd_σ
          rw [tk_dead (σ := (pt_tk tx ln (bPer2 (pt_tv (bPer σ) σ) (pt_tk tx ln (bPer σ) σ)) (pt_tk tx ln (bPer σ) σ))) (by omega), tk_dead (σ := (pt_tk tx ln (bPer2 (pt_tv (bPer σ) σ) (pt_tk tx ln (bPer σ) σ)) (pt_tk tx ln (bPer σ) σ))) (by omega)]
          exact d.1
        replace d : ra_pl bt ln (cl_e bt ln cp) = ra_pl bt ln (cl_e bt ln cp) ∧ 0 ≤ ra_pl bt ln (cl_e bt ln cp) := ⟨rfl, d.2⟩
        refine r_ic rfl ?_
        exact r_retb rfl rfl (by omega) (Or.inr ⟨by rw [eF]; omega, _, _, _, _, rfl, eF.symm⟩)
      · have g2 := of_decide_eq_true (bi_1 g2)
        have vr := cl_v_r (B := bt) hln hcp
        have vr1 := cl_v_r (B := bt) hln r1
        refine r_al rfl rfl ?_
        refine r_gf rfl rfl cg_3 rfl ?_
        refine r_il rfl rfl ?_
        refine r_cne rfl rfl (by omega) (by omega) (fun g3 => ?_) (fun g3 => ?_)
        · have b2 : (bPer2 (pt_tv (bPer σ) σ) (pt_tk tx ln (bPer σ) σ)) = true := by unfold bPer2; rw [decide_eq_true (by omega), decide_eq_false (by omega)]; rfl
          obtain ⟨v2, T2, k2⟩ := st_y (b := (bPer2 (pt_tv (bPer σ) σ) (pt_tk tx ln (bPer σ) σ))) hln hl hB k1 T1 b2
          have w2 : cl_v bt ln (cl_e bt ln cp) = (pt_tv (bPer2 (pt_tv (bPer σ) σ) (pt_tk tx ln (bPer σ) σ)) (pt_tk tx ln (bPer σ) σ)) := by rw [v2]; omega
          obtain ⟨m0, m1, m2, m3⟩ := id T2
          have r3 : 0 ≤ (cl_e bt ln (cl_e bt ln (cl_e bt ln cp))) ∧ (cl_e bt ln (cl_e bt ln (cl_e bt ln cp))) ≤ ln := by rw [← m1]; exact k2.1
          unfold tkrel at m3
          refine r_al rfl rfl ?_
          refine r_gf rfl rfl cg_3 rfl ?_
          refine r_is (lv' := [(2, _), (1, _), (0, _)]) rfl rfl rfl ?_
          refine r_al rfl rfl ?_
          refine r_ic rfl ?_
          refine r_si rfl (by decide) ?_
          refine r_v3s rfl rfl cg_3 rfl (c_nextIsNumber hD hln r2 (by decide) (by decide)) ?_
          refine r_zne rfl rfl (bi_r _) (fun g4 => ?_) (fun g4 => ?_)
          · have g4 := Bool.and_eq_true_iff.mp (bi_1 g4)
            have g5 := of_decide_eq_true g4.1
            have b3 : (nb 1 999 (pt_tk tx ln (bPer2 (pt_tv (bPer σ) σ) (pt_tk tx ln (bPer σ) σ)) (pt_tk tx ln (bPer σ) σ))) = true := by
              unfold nb
              rw [decide_eq_true (by omega), show (pt_tk tx ln (bPer2 (pt_tv (bPer σ) σ) (pt_tk tx ln (bPer σ) σ)) (pt_tk tx ln (bPer σ) σ)).2.2.2.1 = cl_v bt ln (cl_e bt ln (cl_e bt ln cp)) by omega]
              exact g4.2
            obtain ⟨v3, T3, k3⟩ := st_y (b := (nb 1 999 (pt_tk tx ln (bPer2 (pt_tv (bPer σ) σ) (pt_tk tx ln (bPer σ) σ)) (pt_tk tx ln (bPer σ) σ)))) hln hl hB k2 T2 b3
            have w3 : cl_v bt ln (cl_e bt ln (cl_e bt ln cp)) = (pt_tv (nb 1 999 (pt_tk tx ln (bPer2 (pt_tv (bPer σ) σ) (pt_tk tx ln (bPer σ) σ)) (pt_tk tx ln (bPer σ) σ))) (pt_tk tx ln (bPer2 (pt_tv (bPer σ) σ) (pt_tk tx ln (bPer σ) σ)) (pt_tk tx ln (bPer σ) σ))) := by rw [v3]; omega
            obtain ⟨n0, n1, n2, n3⟩ := id T3
            have r4 : 0 ≤ (cl_e bt ln (cl_e bt ln (cl_e bt ln (cl_e bt ln cp)))) ∧ (cl_e bt ln (cl_e bt ln (cl_e bt ln (cl_e bt ln cp)))) ≤ ln := by rw [← n1]; exact k3.1
            have es : rd_σ tx ln σ = (pt_tk tx ln (nb 1 999 (pt_tk tx ln (bPer2 (pt_tv (bPer σ) σ) (pt_tk tx ln (bPer σ) σ)) (pt_tk tx ln (bPer σ) σ))) (pt_tk tx ln (bPer2 (pt_tv (bPer σ) σ) (pt_tk tx ln (bPer σ) σ)) (pt_tk tx ln (bPer σ) σ))) := rfl
            unfold tkrel at n3
            refine r_al rfl rfl ?_
            refine r_gf rfl rfl cg_3 rfl ?_
            refine r_is (lv' := [(3, _), (2, _), (1, _), (0, _)]) rfl rfl rfl ?_
            refine r_al rfl rfl ?_
            refine r_ic rfl ?_
            refine r_v2s rfl rfl cg_3 rfl (c_nextIs hD hln r3 (by decide)) ?_
            refine r_zne rfl rfl (bi_r _) (fun g6 => ?_) (fun g6 => ?_)
            · have g6 := of_decide_eq_true (bi_1 g6)
              have b4 : bSto (pt_tk tx ln (nb 1 999 (pt_tk tx ln (bPer2 (pt_tv (bPer σ) σ) (pt_tk tx ln (bPer σ) σ)) (pt_tk tx ln (bPer σ) σ))) (pt_tk tx ln (bPer2 (pt_tv (bPer σ) σ) (pt_tk tx ln (bPer σ) σ)) (pt_tk tx ln (bPer σ) σ))) = true := decide_eq_true (by omega)
              obtain ⟨-, T4, k4⟩ := st_y (b := bSto (pt_tk tx ln (nb 1 999 (pt_tk tx ln (bPer2 (pt_tv (bPer σ) σ) (pt_tk tx ln (bPer σ) σ)) (pt_tk tx ln (bPer σ) σ))) (pt_tk tx ln (bPer2 (pt_tv (bPer σ) σ) (pt_tk tx ln (bPer σ) σ)) (pt_tk tx ln (bPer σ) σ)))) hln hl hB k3 T3 b4
              refine r_al rfl rfl ?_
              refine r_gf rfl rfl cg_3 rfl ?_
              refine r_il rfl rfl ?_
              refine r_il rfl rfl ?_
              refine r_il rfl rfl ?_
              refine r_v4n rfl rfl cg_14 rfl (c_addDebt0 h) ?_
              refine r_ic rfl ?_
              rw [w1, w2, w3]
              exact r_retb rfl rfl (by omega) (Or.inl ⟨T4.1, _, _, _, _, rfl, T4, r4⟩)
            · have g6 := of_decide_eq_false (bi_0 g6)
              have b4 : bSto (pt_tk tx ln (nb 1 999 (pt_tk tx ln (bPer2 (pt_tv (bPer σ) σ) (pt_tk tx ln (bPer σ) σ)) (pt_tk tx ln (bPer σ) σ))) (pt_tk tx ln (bPer2 (pt_tv (bPer σ) σ) (pt_tk tx ln (bPer σ) σ)) (pt_tk tx ln (bPer σ) σ))) = false := decide_eq_false (by omega)
              have d := st_n (tx := tx) (b := bSto (pt_tk tx ln (nb 1 999 (pt_tk tx ln (bPer2 (pt_tv (bPer σ) σ) (pt_tk tx ln (bPer σ) σ)) (pt_tk tx ln (bPer σ) σ))) (pt_tk tx ln (bPer2 (pt_tv (bPer σ) σ) (pt_tk tx ln (bPer σ) σ)) (pt_tk tx ln (bPer σ) σ)))) k3 T3 b4
              have eF : (pt_tk tx ln (bSto (rd_σ tx ln σ)) (rd_σ tx ln σ)).2.2.2.2 = ra_pl bt ln (cl_e bt ln (cl_e bt ln (cl_e bt ln cp))) := d.1
              replace d : ra_pl bt ln (cl_e bt ln (cl_e bt ln (cl_e bt ln cp))) = ra_pl bt ln (cl_e bt ln (cl_e bt ln (cl_e bt ln cp))) ∧ 0 ≤ ra_pl bt ln (cl_e bt ln (cl_e bt ln (cl_e bt ln cp))) := ⟨rfl, d.2⟩
              refine r_ic rfl ?_
              exact r_retb rfl rfl (by omega) (Or.inr ⟨by rw [eF]; omega, _, _, _, _, rfl, eF.symm⟩)
          · have b3 : (nb 1 999 (pt_tk tx ln (bPer2 (pt_tv (bPer σ) σ) (pt_tk tx ln (bPer σ) σ)) (pt_tk tx ln (bPer σ) σ))) = false := by
              have g4 := bi_0 g4
              unfold nb
              unfold cl_nb at g4
              by_cases q : cl_t bt ln (cl_e bt ln (cl_e bt ln cp)) = 2
              · rw [decide_eq_true q] at g4
                rw [show (pt_tk tx ln (bPer2 (pt_tv (bPer σ) σ) (pt_tk tx ln (bPer σ) σ)) (pt_tk tx ln (bPer σ) σ)).2.2.2.1 = cl_v bt ln (cl_e bt ln (cl_e bt ln cp)) by omega, show i3 (cl_v bt ln (cl_e bt ln (cl_e bt ln cp))) 1 999 = false from g4, Bool.and_false]
              · rw [decide_eq_false (by omega)]; rfl
            have d := st_n (tx := tx) (b := (nb 1 999 (pt_tk tx ln (bPer2 (pt_tv (bPer σ) σ) (pt_tk tx ln (bPer σ) σ)) (pt_tk tx ln (bPer σ) σ)))) k2 T2 b3
            have eF : (pt_tk tx ln (bSto (rd_σ tx ln σ)) (rd_σ tx ln σ)).2.2.2.2 = ra_pl bt ln (cl_e bt ln (cl_e bt ln cp)) := by
              unfold rd_σ
              rw [tk_dead (σ := (pt_tk tx ln (nb 1 999 (pt_tk tx ln (bPer2 (pt_tv (bPer σ) σ) (pt_tk tx ln (bPer σ) σ)) (pt_tk tx ln (bPer σ) σ))) (pt_tk tx ln (bPer2 (pt_tv (bPer σ) σ) (pt_tk tx ln (bPer σ) σ)) (pt_tk tx ln (bPer σ) σ)))) (by omega)]
              exact d.1
            replace d : ra_pl bt ln (cl_e bt ln (cl_e bt ln cp)) = ra_pl bt ln (cl_e bt ln (cl_e bt ln cp)) ∧ 0 ≤ ra_pl bt ln (cl_e bt ln (cl_e bt ln cp)) := ⟨rfl, d.2⟩
            refine r_ic rfl ?_
            exact r_retb rfl rfl (by omega) (Or.inr ⟨by rw [eF]; omega, _, _, _, _, rfl, eF.symm⟩)
        · have b2 : (bPer2 (pt_tv (bPer σ) σ) (pt_tk tx ln (bPer σ) σ)) = false := by unfold bPer2; rw [decide_eq_true (by omega), decide_eq_true (by omega)]; rfl
          have d := st_n (tx := tx) (b := (bPer2 (pt_tv (bPer σ) σ) (pt_tk tx ln (bPer σ) σ))) k1 T1 b2
          have eF : (pt_tk tx ln (bSto (rd_σ tx ln σ)) (rd_σ tx ln σ)).2.2.2.2 = ra_pl bt ln (cl_e bt ln cp) := by
            unfold rd_σ
            rw [tk_dead (σ := (pt_tk tx ln (bPer2 (pt_tv (bPer σ) σ) (pt_tk tx ln (bPer σ) σ)) (pt_tk tx ln (bPer σ) σ))) (by omega), tk_dead (σ := (pt_tk tx ln (bPer2 (pt_tv (bPer σ) σ) (pt_tk tx ln (bPer σ) σ)) (pt_tk tx ln (bPer σ) σ))) (by omega)]
            exact d.1
          replace d : ra_pl bt ln (cl_e bt ln cp) = ra_pl bt ln (cl_e bt ln cp) ∧ 0 ≤ ra_pl bt ln (cl_e bt ln cp) := ⟨rfl, d.2⟩
          refine r_ic rfl ?_
          exact r_retb rfl rfl (by omega) (Or.inr ⟨by rw [eF]; omega, _, _, _, _, rfl, eF.symm⟩)
    · have g1 := of_decide_eq_false (bi_0 g1)
      have b1 : bPer σ = false := decide_eq_false (by omega)
      have d := st_n (tx := tx) (b := bPer σ) hσ hT b1
      have eF : (pt_tk tx ln (bSto (rd_σ tx ln σ)) (rd_σ tx ln σ)).2.2.2.2 = ra_pl bt ln cp := by
        unfold rd_σ
        rw [tk_dead (σ := (pt_tk tx ln (bPer σ) σ)) (by omega), tk_dead (σ := (pt_tk tx ln (bPer σ) σ)) (by omega), tk_dead (σ := (pt_tk tx ln (bPer σ) σ)) (by omega)]
        exact d.1
      replace d : ra_pl bt ln cp = ra_pl bt ln cp ∧ 0 ≤ ra_pl bt ln cp := ⟨rfl, d.2⟩
      refine r_ic rfl ?_
      exact r_retb rfl rfl (by omega) (Or.inr ⟨by rw [eF]; omega, _, _, _, _, rfl, eF.symm⟩)
theorem c_empty1  : sX8_empty [.ref 5] (cW ki ln bt rl cp cs ct cv rr dr ja ea ma a1 a2 a3 a4 a5 a6 a7 a8 jb eb mb b1 b2 b3 b4 b5 b6 b7 b8 re fl g1 g2 g3 g4 g5 D) = some (none, (cW ki ln bt rl cp cs ct cv rr dr (0 : Int) (0 : Int) (0 : Int) a1 a2 a3 a4 a5 a6 a7 a8 jb eb mb b1 b2 b3 b4 b5 b6 b7 b8 re fl g1 g2 g3 g4 g5 D)) := by
  have main : ∀ Q : mm_R → Prop, Q (none, (cW ki ln bt rl cp cs ct cv rr dr (0 : Int) (0 : Int) (0 : Int) a1 a2 a3 a4 a5 a6 a7 a8 jb eb mb b1 b2 b3 b4 b5 b6 b7 b8 re fl g1 g2 g3 g4 g5 D)) → rn_X8_empty (1000) (0, [(0, .ref 5)], [], (cW ki ln bt rl cp cs ct cv rr dr ja ea ma a1 a2 a3 a4 a5 a6 a7 a8 jb eb mb b1 b2 b3 b4 b5 b6 b7 b8 re fl g1 g2 g3 g4 g5 D)) Q := by
    intro Q hQ
    refine r_al rfl rfl ?_
    refine r_ic rfl ?_
    refine r_pf rfl rfl cg_5 rfl cp_ja ?_
    refine r_al rfl rfl ?_
    refine r_ic rfl ?_
    refine r_pf rfl rfl cg_5 rfl cp_ea ?_
    refine r_al rfl rfl ?_
    refine r_ic rfl ?_
    refine r_pf rfl rfl cg_5 rfl cp_ma ?_
    exact r_retv rfl rfl hQ
  obtain ⟨r, h1, h2⟩ := rn_S (vs := [.ref 5]) (Q := fun r => r = (none, (cW ki ln bt rl cp cs ct cv rr dr (0 : Int) (0 : Int) (0 : Int) a1 a2 a3 a4 a5 a6 a7 a8 jb eb mb b1 b2 b3 b4 b5 b6 b7 b8 re fl g1 g2 g3 g4 g5 D))) rfl (rn_up (N := 1000) (M := mm_fuel) (by decide) (main (fun r => r = (none, (cW ki ln bt rl cp cs ct cv rr dr (0 : Int) (0 : Int) (0 : Int) a1 a2 a3 a4 a5 a6 a7 a8 jb eb mb b1 b2 b3 b4 b5 b6 b7 b8 re fl g1 g2 g3 g4 g5 D))) rfl))
  have h1 : sX8_empty [.ref 5] (cW ki ln bt rl cp cs ct cv rr dr ja ea ma a1 a2 a3 a4 a5 a6 a7 a8 jb eb mb b1 b2 b3 b4 b5 b6 b7 b8 re fl g1 g2 g3 g4 g5 D) = some r := h1
  rw [h1, h2]
theorem c_addDebt1 (h : 0 ≤ ea ∧ ea ≤ 9) : sX8_addDebt [.ref 5, iv (x), iv (y), iv (z)] (cW ki ln bt rl cp cs ct cv rr dr ja ea ma a1 a2 a3 a4 a5 a6 a7 a8 jb eb mb b1 b2 b3 b4 b5 b6 b7 b8 re fl g1 g2 g3 g4 g5 D) = some (none, (cW ki ln bt rl cp cs ct cv rr dr ja (ea + 1) ma (upd a1 (Int.toNat ea) (Int32.ofInt x)) (upd a2 (Int.toNat ea) (Int32.ofInt y)) (upd a3 (Int.toNat ea) (Int32.ofInt z)) a4 a5 a6 a7 a8 jb eb mb b1 b2 b3 b4 b5 b6 b7 b8 re fl g1 g2 g3 g4 g5 D)) := by
  have main : ∀ Q : mm_R → Prop, Q (none, (cW ki ln bt rl cp cs ct cv rr dr ja (ea + 1) ma (upd a1 (Int.toNat ea) (Int32.ofInt x)) (upd a2 (Int.toNat ea) (Int32.ofInt y)) (upd a3 (Int.toNat ea) (Int32.ofInt z)) a4 a5 a6 a7 a8 jb eb mb b1 b2 b3 b4 b5 b6 b7 b8 re fl g1 g2 g3 g4 g5 D)) → rn_X8_addDebt (1000) (0, [(0, .ref 5), (1, iv (x)), (2, iv (y)), (3, iv (z))], [], (cW ki ln bt rl cp cs ct cv rr dr ja ea ma a1 a2 a3 a4 a5 a6 a7 a8 jb eb mb b1 b2 b3 b4 b5 b6 b7 b8 re fl g1 g2 g3 g4 g5 D)) Q := by
    intro Q hQ
    refine r_al rfl rfl ?_
    refine r_gf rfl rfl cg_5 rfl ?_
    refine r_bi rfl (by decide) ?_
    refine r_cge rfl rfl (by omega) (by omega) (fun g1 => ?_) (fun g1 => ?_)
    · omega
    · refine r_al rfl rfl ?_
      refine r_gf rfl rfl cg_5 rfl ?_
      refine r_al rfl rfl ?_
      refine r_gf rfl rfl cg_5 rfl ?_
      refine r_il rfl rfl ?_
      refine r_ias rfl cg_6 (by omega) (by omega) (by decide) cs_6 ?_
      refine r_al rfl rfl ?_
      refine r_gf rfl rfl cg_5 rfl ?_
      refine r_al rfl rfl ?_
      refine r_gf rfl rfl cg_5 rfl ?_
      refine r_il rfl rfl ?_
      refine r_ias rfl cg_7 (by omega) (by omega) (by decide) cs_7 ?_
      refine r_al rfl rfl ?_
      refine r_gf rfl rfl cg_5 rfl ?_
      refine r_al rfl rfl ?_
      refine r_gf rfl rfl cg_5 rfl ?_
      refine r_il rfl rfl ?_
      refine r_ias rfl cg_8 (by omega) (by omega) (by decide) cs_8 ?_
      refine r_al rfl rfl ?_
      refine r_dup rfl rfl ?_
      refine r_gf rfl rfl cg_5 rfl ?_
      refine r_ic rfl ?_
      refine r_add rfl ?_
      refine r_pf rfl rfl cg_5 rfl cp_ea ?_
      exact r_retv rfl rfl hQ
  obtain ⟨r, h1, h2⟩ := rn_S (vs := [.ref 5, iv (x), iv (y), iv (z)]) (Q := fun r => r = (none, (cW ki ln bt rl cp cs ct cv rr dr ja (ea + 1) ma (upd a1 (Int.toNat ea) (Int32.ofInt x)) (upd a2 (Int.toNat ea) (Int32.ofInt y)) (upd a3 (Int.toNat ea) (Int32.ofInt z)) a4 a5 a6 a7 a8 jb eb mb b1 b2 b3 b4 b5 b6 b7 b8 re fl g1 g2 g3 g4 g5 D))) rfl (rn_up (N := 1000) (M := mm_fuel) (by decide) (main (fun r => r = (none, (cW ki ln bt rl cp cs ct cv rr dr ja (ea + 1) ma (upd a1 (Int.toNat ea) (Int32.ofInt x)) (upd a2 (Int.toNat ea) (Int32.ofInt y)) (upd a3 (Int.toNat ea) (Int32.ofInt z)) a4 a5 a6 a7 a8 jb eb mb b1 b2 b3 b4 b5 b6 b7 b8 re fl g1 g2 g3 g4 g5 D))) rfl))
  have h1 : sX8_addDebt [.ref 5, iv (x), iv (y), iv (z)] (cW ki ln bt rl cp cs ct cv rr dr ja ea ma a1 a2 a3 a4 a5 a6 a7 a8 jb eb mb b1 b2 b3 b4 b5 b6 b7 b8 re fl g1 g2 g3 g4 g5 D) = some r := h1
  rw [h1, h2]
theorem c_addStanding1 (h : 0 ≤ ma ∧ ma ≤ 15) : sX8_addStanding [.ref 5, iv (x), iv (y), iv (z), iv (u)] (cW ki ln bt rl cp cs ct cv rr dr ja ea ma a1 a2 a3 a4 a5 a6 a7 a8 jb eb mb b1 b2 b3 b4 b5 b6 b7 b8 re fl g1 g2 g3 g4 g5 D) = some (none, (cW ki ln bt rl cp cs ct cv rr dr ja ea (ma + 1) a1 a2 a3 (upd a4 (Int.toNat ma) (Int32.ofInt x)) (upd a5 (Int.toNat ma) (Int32.ofInt y)) (upd a6 (Int.toNat ma) (Int32.ofInt z)) (upd a7 (Int.toNat ma) (Int32.ofInt (-9))) (upd a8 (Int.toNat ma) (Int32.ofInt u)) jb eb mb b1 b2 b3 b4 b5 b6 b7 b8 re fl g1 g2 g3 g4 g5 D)) := by
  have main : ∀ Q : mm_R → Prop, Q (none, (cW ki ln bt rl cp cs ct cv rr dr ja ea (ma + 1) a1 a2 a3 (upd a4 (Int.toNat ma) (Int32.ofInt x)) (upd a5 (Int.toNat ma) (Int32.ofInt y)) (upd a6 (Int.toNat ma) (Int32.ofInt z)) (upd a7 (Int.toNat ma) (Int32.ofInt (-9))) (upd a8 (Int.toNat ma) (Int32.ofInt u)) jb eb mb b1 b2 b3 b4 b5 b6 b7 b8 re fl g1 g2 g3 g4 g5 D)) → rn_X8_addStanding (1000) (0, [(0, .ref 5), (1, iv (x)), (2, iv (y)), (3, iv (z)), (4, iv (u))], [], (cW ki ln bt rl cp cs ct cv rr dr ja ea ma a1 a2 a3 a4 a5 a6 a7 a8 jb eb mb b1 b2 b3 b4 b5 b6 b7 b8 re fl g1 g2 g3 g4 g5 D)) Q := by
    intro Q hQ
    refine r_al rfl rfl ?_
    refine r_gf rfl rfl cg_5 rfl ?_
    refine r_bi rfl (by decide) ?_
    refine r_cge rfl rfl (by omega) (by omega) (fun g1 => ?_) (fun g1 => ?_)
    · omega
    · refine r_al rfl rfl ?_
      refine r_gf rfl rfl cg_5 rfl ?_
      refine r_al rfl rfl ?_
      refine r_gf rfl rfl cg_5 rfl ?_
      refine r_il rfl rfl ?_
      refine r_ias rfl cg_9 (by omega) (by omega) (by decide) cs_9 ?_
      refine r_al rfl rfl ?_
      refine r_gf rfl rfl cg_5 rfl ?_
      refine r_al rfl rfl ?_
      refine r_gf rfl rfl cg_5 rfl ?_
      refine r_il rfl rfl ?_
      refine r_ias rfl cg_10 (by omega) (by omega) (by decide) cs_10 ?_
      refine r_al rfl rfl ?_
      refine r_gf rfl rfl cg_5 rfl ?_
      refine r_al rfl rfl ?_
      refine r_gf rfl rfl cg_5 rfl ?_
      refine r_il rfl rfl ?_
      refine r_ias rfl cg_11 (by omega) (by omega) (by decide) cs_11 ?_
      refine r_al rfl rfl ?_
      refine r_gf rfl rfl cg_5 rfl ?_
      refine r_al rfl rfl ?_
      refine r_gf rfl rfl cg_5 rfl ?_
      refine r_bi rfl (by decide) ?_
      refine r_ias rfl cg_12 (by omega) (by omega) (by decide) cs_12 ?_
      refine r_al rfl rfl ?_
      refine r_gf rfl rfl cg_5 rfl ?_
      refine r_al rfl rfl ?_
      refine r_gf rfl rfl cg_5 rfl ?_
      refine r_ilw rfl rfl ?_
      refine r_ias rfl cg_13 (by omega) (by omega) (by decide) cs_13 ?_
      refine r_al rfl rfl ?_
      refine r_dup rfl rfl ?_
      refine r_gf rfl rfl cg_5 rfl ?_
      refine r_ic rfl ?_
      refine r_add rfl ?_
      refine r_pf rfl rfl cg_5 rfl cp_ma ?_
      exact r_retv rfl rfl hQ
  obtain ⟨r, h1, h2⟩ := rn_S (vs := [.ref 5, iv (x), iv (y), iv (z), iv (u)]) (Q := fun r => r = (none, (cW ki ln bt rl cp cs ct cv rr dr ja ea (ma + 1) a1 a2 a3 (upd a4 (Int.toNat ma) (Int32.ofInt x)) (upd a5 (Int.toNat ma) (Int32.ofInt y)) (upd a6 (Int.toNat ma) (Int32.ofInt z)) (upd a7 (Int.toNat ma) (Int32.ofInt (-9))) (upd a8 (Int.toNat ma) (Int32.ofInt u)) jb eb mb b1 b2 b3 b4 b5 b6 b7 b8 re fl g1 g2 g3 g4 g5 D))) rfl (rn_up (N := 1000) (M := mm_fuel) (by decide) (main (fun r => r = (none, (cW ki ln bt rl cp cs ct cv rr dr ja ea (ma + 1) a1 a2 a3 (upd a4 (Int.toNat ma) (Int32.ofInt x)) (upd a5 (Int.toNat ma) (Int32.ofInt y)) (upd a6 (Int.toNat ma) (Int32.ofInt z)) (upd a7 (Int.toNat ma) (Int32.ofInt (-9))) (upd a8 (Int.toNat ma) (Int32.ofInt u)) jb eb mb b1 b2 b3 b4 b5 b6 b7 b8 re fl g1 g2 g3 g4 g5 D))) rfl))
  have h1 : sX8_addStanding [.ref 5, iv (x), iv (y), iv (z), iv (u)] (cW ki ln bt rl cp cs ct cv rr dr ja ea ma a1 a2 a3 a4 a5 a6 a7 a8 jb eb mb b1 b2 b3 b4 b5 b6 b7 b8 re fl g1 g2 g3 g4 g5 D) = some r := h1
  rw [h1, h2]
theorem c_addOver1 (h : 0 ≤ ma ∧ ma ≤ 15) (hy : 0 ≤ y ∧ y ≤ 15) : sX8_addOver [.ref 5, iv (x), iv (y), iv (z)] (cW ki ln bt rl cp cs ct cv rr dr ja ea ma a1 a2 a3 a4 a5 a6 a7 a8 jb eb mb b1 b2 b3 b4 b5 b6 b7 b8 re fl g1 g2 g3 g4 g5 D) = some (none, (cW ki ln bt rl cp cs ct cv rr dr ja ea (ma + 1) a1 a2 a3 (upd a4 (Int.toNat ma) (Int32.ofInt x)) (upd a5 (Int.toNat ma) (Int32.ofInt (a5 (Int.toNat y)).toInt)) (upd a6 (Int.toNat ma) (Int32.ofInt 3)) (upd (upd a7 (Int.toNat ma) (Int32.ofInt (-9))) (Int.toNat (ma + 1 - 1)) (Int32.ofInt y)) (upd a8 (Int.toNat ma) (Int32.ofInt z)) jb eb mb b1 b2 b3 b4 b5 b6 b7 b8 re fl g1 g2 g3 g4 g5 D)) := by
  have main : ∀ Q : mm_R → Prop, Q (none, (cW ki ln bt rl cp cs ct cv rr dr ja ea (ma + 1) a1 a2 a3 (upd a4 (Int.toNat ma) (Int32.ofInt x)) (upd a5 (Int.toNat ma) (Int32.ofInt (a5 (Int.toNat y)).toInt)) (upd a6 (Int.toNat ma) (Int32.ofInt 3)) (upd (upd a7 (Int.toNat ma) (Int32.ofInt (-9))) (Int.toNat (ma + 1 - 1)) (Int32.ofInt y)) (upd a8 (Int.toNat ma) (Int32.ofInt z)) jb eb mb b1 b2 b3 b4 b5 b6 b7 b8 re fl g1 g2 g3 g4 g5 D)) → rn_X8_addOver (1000) (0, [(0, .ref 5), (1, iv (x)), (2, iv (y)), (3, iv (z))], [], (cW ki ln bt rl cp cs ct cv rr dr ja ea ma a1 a2 a3 a4 a5 a6 a7 a8 jb eb mb b1 b2 b3 b4 b5 b6 b7 b8 re fl g1 g2 g3 g4 g5 D)) Q := by
    intro Q hQ
    refine r_al rfl rfl ?_
    refine r_gf rfl rfl cg_5 rfl ?_
    refine r_bi rfl (by decide) ?_
    refine r_cge rfl rfl (by omega) (by omega) (fun g1 => ?_) (fun g1 => ?_)
    · omega
    · refine r_al rfl rfl ?_
      refine r_il rfl rfl ?_
      refine r_al rfl rfl ?_
      refine r_gf rfl rfl cg_5 rfl ?_
      refine r_il rfl rfl ?_
      refine r_ia rfl cg_10 (by omega) (by omega) (by decide) ?_
      refine r_ic rfl ?_
      refine r_il rfl rfl ?_
      refine r_v5n rfl rfl cg_5 rfl (c_addStanding1 h) ?_
      refine r_al rfl rfl ?_
      refine r_gf rfl rfl cg_5 rfl ?_
      refine r_al rfl rfl ?_
      refine r_gf rfl rfl cg_5 rfl ?_
      refine r_ic rfl ?_
      refine r_sub rfl ?_
      refine r_il rfl rfl ?_
      refine r_ias rfl cg_12 (by omega) (by omega) (by decide) cs_12 ?_
      exact r_retv rfl rfl hQ
  obtain ⟨r, h1, h2⟩ := rn_S (vs := [.ref 5, iv (x), iv (y), iv (z)]) (Q := fun r => r = (none, (cW ki ln bt rl cp cs ct cv rr dr ja ea (ma + 1) a1 a2 a3 (upd a4 (Int.toNat ma) (Int32.ofInt x)) (upd a5 (Int.toNat ma) (Int32.ofInt (a5 (Int.toNat y)).toInt)) (upd a6 (Int.toNat ma) (Int32.ofInt 3)) (upd (upd a7 (Int.toNat ma) (Int32.ofInt (-9))) (Int.toNat (ma + 1 - 1)) (Int32.ofInt y)) (upd a8 (Int.toNat ma) (Int32.ofInt z)) jb eb mb b1 b2 b3 b4 b5 b6 b7 b8 re fl g1 g2 g3 g4 g5 D))) rfl (rn_up (N := 1000) (M := mm_fuel) (by decide) (main (fun r => r = (none, (cW ki ln bt rl cp cs ct cv rr dr ja ea (ma + 1) a1 a2 a3 (upd a4 (Int.toNat ma) (Int32.ofInt x)) (upd a5 (Int.toNat ma) (Int32.ofInt (a5 (Int.toNat y)).toInt)) (upd a6 (Int.toNat ma) (Int32.ofInt 3)) (upd (upd a7 (Int.toNat ma) (Int32.ofInt (-9))) (Int.toNat (ma + 1 - 1)) (Int32.ofInt y)) (upd a8 (Int.toNat ma) (Int32.ofInt z)) jb eb mb b1 b2 b3 b4 b5 b6 b7 b8 re fl g1 g2 g3 g4 g5 D))) rfl))
  have h1 : sX8_addOver [.ref 5, iv (x), iv (y), iv (z)] (cW ki ln bt rl cp cs ct cv rr dr ja ea ma a1 a2 a3 a4 a5 a6 a7 a8 jb eb mb b1 b2 b3 b4 b5 b6 b7 b8 re fl g1 g2 g3 g4 g5 D) = some r := h1
  rw [h1, h2]
theorem c_readDebtF1 (h : 10 ≤ ea ∧ ea ≤ 100) : sX7_readDebt [.ref 3] (cW ki ln bt (.ref 5) cp cs ct cv rr dr ja ea ma a1 a2 a3 a4 a5 a6 a7 a8 jb eb mb b1 b2 b3 b4 b5 b6 b7 b8 re fl g1 g2 g3 g4 g5 D) = some (some (iv 0), (cW ki ln bt (.ref 5) cp cs ct cv rr dr ja ea ma a1 a2 a3 a4 a5 a6 a7 a8 jb eb mb b1 b2 b3 b4 b5 b6 b7 b8 re fl g1 g2 g3 g4 g5 D)) := by
  have main : ∀ Q : mm_R → Prop, Q (some (iv 0), (cW ki ln bt (.ref 5) cp cs ct cv rr dr ja ea ma a1 a2 a3 a4 a5 a6 a7 a8 jb eb mb b1 b2 b3 b4 b5 b6 b7 b8 re fl g1 g2 g3 g4 g5 D)) → rn_X7_readDebt (1000) (0, [(0, .ref 3)], [], (cW ki ln bt (.ref 5) cp cs ct cv rr dr ja ea ma a1 a2 a3 a4 a5 a6 a7 a8 jb eb mb b1 b2 b3 b4 b5 b6 b7 b8 re fl g1 g2 g3 g4 g5 D)) Q := by
    intro Q hQ
    refine r_al rfl rfl ?_
    refine r_gf rfl rfl cg_3 rfl ?_
    refine r_gf rfl rfl cg_5 rfl ?_
    refine r_bi rfl (by decide) ?_
    refine r_cge rfl rfl (by omega) (by omega) (fun g1 => ?_) (fun g1 => ?_)
    · refine r_ic rfl ?_
      exact r_retb rfl rfl (by omega) hQ
    · omega
  obtain ⟨r, h1, h2⟩ := rn_S (vs := [.ref 3]) (Q := fun r => r = (some (iv 0), (cW ki ln bt (.ref 5) cp cs ct cv rr dr ja ea ma a1 a2 a3 a4 a5 a6 a7 a8 jb eb mb b1 b2 b3 b4 b5 b6 b7 b8 re fl g1 g2 g3 g4 g5 D))) rfl (rn_up (N := 1000) (M := mm_fuel) (by decide) (main (fun r => r = (some (iv 0), (cW ki ln bt (.ref 5) cp cs ct cv rr dr ja ea ma a1 a2 a3 a4 a5 a6 a7 a8 jb eb mb b1 b2 b3 b4 b5 b6 b7 b8 re fl g1 g2 g3 g4 g5 D))) rfl))
  have h1 : sX7_readDebt [.ref 3] (cW ki ln bt (.ref 5) cp cs ct cv rr dr ja ea ma a1 a2 a3 a4 a5 a6 a7 a8 jb eb mb b1 b2 b3 b4 b5 b6 b7 b8 re fl g1 g2 g3 g4 g5 D) = some r := h1
  rw [h1, h2]
theorem c_readStandF1 (h : 16 ≤ ma ∧ ma ≤ 100) : sX7_readStand [.ref 3] (cW ki ln bt (.ref 5) cp cs ct cv rr dr ja ea ma a1 a2 a3 a4 a5 a6 a7 a8 jb eb mb b1 b2 b3 b4 b5 b6 b7 b8 re fl g1 g2 g3 g4 g5 D) = some (some (iv 0), (cW ki ln bt (.ref 5) cp cs ct cv rr dr ja ea ma a1 a2 a3 a4 a5 a6 a7 a8 jb eb mb b1 b2 b3 b4 b5 b6 b7 b8 re fl g1 g2 g3 g4 g5 D)) := by
  have main : ∀ Q : mm_R → Prop, Q (some (iv 0), (cW ki ln bt (.ref 5) cp cs ct cv rr dr ja ea ma a1 a2 a3 a4 a5 a6 a7 a8 jb eb mb b1 b2 b3 b4 b5 b6 b7 b8 re fl g1 g2 g3 g4 g5 D)) → rn_X7_readStand (1000) (0, [(0, .ref 3)], [], (cW ki ln bt (.ref 5) cp cs ct cv rr dr ja ea ma a1 a2 a3 a4 a5 a6 a7 a8 jb eb mb b1 b2 b3 b4 b5 b6 b7 b8 re fl g1 g2 g3 g4 g5 D)) Q := by
    intro Q hQ
    refine r_al rfl rfl ?_
    refine r_gf rfl rfl cg_3 rfl ?_
    refine r_gf rfl rfl cg_5 rfl ?_
    refine r_bi rfl (by decide) ?_
    refine r_cge rfl rfl (by omega) (by omega) (fun g1 => ?_) (fun g1 => ?_)
    · refine r_ic rfl ?_
      exact r_retb rfl rfl (by omega) hQ
    · omega
  obtain ⟨r, h1, h2⟩ := rn_S (vs := [.ref 3]) (Q := fun r => r = (some (iv 0), (cW ki ln bt (.ref 5) cp cs ct cv rr dr ja ea ma a1 a2 a3 a4 a5 a6 a7 a8 jb eb mb b1 b2 b3 b4 b5 b6 b7 b8 re fl g1 g2 g3 g4 g5 D))) rfl (rn_up (N := 1000) (M := mm_fuel) (by decide) (main (fun r => r = (some (iv 0), (cW ki ln bt (.ref 5) cp cs ct cv rr dr ja ea ma a1 a2 a3 a4 a5 a6 a7 a8 jb eb mb b1 b2 b3 b4 b5 b6 b7 b8 re fl g1 g2 g3 g4 g5 D))) rfl))
  have h1 : sX7_readStand [.ref 3] (cW ki ln bt (.ref 5) cp cs ct cv rr dr ja ea ma a1 a2 a3 a4 a5 a6 a7 a8 jb eb mb b1 b2 b3 b4 b5 b6 b7 b8 re fl g1 g2 g3 g4 g5 D) = some r := h1
  rw [h1, h2]
theorem c_readOverF1 (h : 16 ≤ ma ∧ ma ≤ 100) : sX7_readOver [.ref 3] (cW ki ln bt (.ref 5) cp cs ct cv rr dr ja ea ma a1 a2 a3 a4 a5 a6 a7 a8 jb eb mb b1 b2 b3 b4 b5 b6 b7 b8 re fl g1 g2 g3 g4 g5 D) = some (some (iv 0), (cW ki ln bt (.ref 5) cp cs ct cv rr dr ja ea ma a1 a2 a3 a4 a5 a6 a7 a8 jb eb mb b1 b2 b3 b4 b5 b6 b7 b8 re fl g1 g2 g3 g4 g5 D)) := by
  have main : ∀ Q : mm_R → Prop, Q (some (iv 0), (cW ki ln bt (.ref 5) cp cs ct cv rr dr ja ea ma a1 a2 a3 a4 a5 a6 a7 a8 jb eb mb b1 b2 b3 b4 b5 b6 b7 b8 re fl g1 g2 g3 g4 g5 D)) → rn_X7_readOver (1000) (0, [(0, .ref 3)], [], (cW ki ln bt (.ref 5) cp cs ct cv rr dr ja ea ma a1 a2 a3 a4 a5 a6 a7 a8 jb eb mb b1 b2 b3 b4 b5 b6 b7 b8 re fl g1 g2 g3 g4 g5 D)) Q := by
    intro Q hQ
    refine r_al rfl rfl ?_
    refine r_gf rfl rfl cg_3 rfl ?_
    refine r_gf rfl rfl cg_5 rfl ?_
    refine r_bi rfl (by decide) ?_
    refine r_cge rfl rfl (by omega) (by omega) (fun g1 => ?_) (fun g1 => ?_)
    · refine r_ic rfl ?_
      exact r_retb rfl rfl (by omega) hQ
    · omega
  obtain ⟨r, h1, h2⟩ := rn_S (vs := [.ref 3]) (Q := fun r => r = (some (iv 0), (cW ki ln bt (.ref 5) cp cs ct cv rr dr ja ea ma a1 a2 a3 a4 a5 a6 a7 a8 jb eb mb b1 b2 b3 b4 b5 b6 b7 b8 re fl g1 g2 g3 g4 g5 D))) rfl (rn_up (N := 1000) (M := mm_fuel) (by decide) (main (fun r => r = (some (iv 0), (cW ki ln bt (.ref 5) cp cs ct cv rr dr ja ea ma a1 a2 a3 a4 a5 a6 a7 a8 jb eb mb b1 b2 b3 b4 b5 b6 b7 b8 re fl g1 g2 g3 g4 g5 D))) rfl))
  have h1 : sX7_readOver [.ref 3] (cW ki ln bt (.ref 5) cp cs ct cv rr dr ja ea ma a1 a2 a3 a4 a5 a6 a7 a8 jb eb mb b1 b2 b3 b4 b5 b6 b7 b8 re fl g1 g2 g3 g4 g5 D) = some r := h1
  rw [h1, h2]
theorem c_readDebt1 (hD : D.length = 38) (hln : 0 ≤ ln ∧ ln ≤ 400) (hl : tx_like bt tx ln) (hB : ∀ k : Nat, (k : Int) < ln → 0 ≤ (tx k).toInt ∧ (tx k).toInt ≤ 255) (h : 0 ≤ ea ∧ ea ≤ 9) (hσ : pt_ok ln σ) (hT : TR bt ln cp σ) (hcp : 0 ≤ cp ∧ cp ≤ ln) : ∃ r, sX7_readDebt [.ref 3] (cW ki ln bt (.ref 5) cp cs ct cv rr dr ja ea ma a1 a2 a3 a4 a5 a6 a7 a8 jb eb mb b1 b2 b3 b4 b5 b6 b7 b8 re fl g1 g2 g3 g4 g5 D) = some r ∧ (fun r : mm_R => ((pt_tk tx ln (bSto (rd_σ tx ln σ)) (rd_σ tx ln σ)).2.2.2.2 < 0 ∧ ∃ y1 y2 y3 y4 : Int, r = (some (iv 1), (cW ki ln bt (.ref 5) y1 y2 y3 y4 rr dr ja (ea + 1) ma (upd a1 (Int.toNat ea) (Int32.ofInt (pt_tv (bPer σ) σ))) (upd a2 (Int.toNat ea) (Int32.ofInt (pt_tv (bPer2 (pt_tv (bPer σ) σ) (pt_tk tx ln (bPer σ) σ)) (pt_tk tx ln (bPer σ) σ)))) (upd a3 (Int.toNat ea) (Int32.ofInt (pt_tv (nb 1 999 (pt_tk tx ln (bPer2 (pt_tv (bPer σ) σ) (pt_tk tx ln (bPer σ) σ)) (pt_tk tx ln (bPer σ) σ))) (pt_tk tx ln (bPer2 (pt_tv (bPer σ) σ) (pt_tk tx ln (bPer σ) σ)) (pt_tk tx ln (bPer σ) σ))))) a4 a5 a6 a7 a8 jb eb mb b1 b2 b3 b4 b5 b6 b7 b8 re fl g1 g2 g3 g4 g5 D)) ∧ TR bt ln y1 (pt_tk tx ln (bSto (rd_σ tx ln σ)) (rd_σ tx ln σ)) ∧ (0 ≤ y1 ∧ y1 ≤ ln)) ∨ (0 ≤ (pt_tk tx ln (bSto (rd_σ tx ln σ)) (rd_σ tx ln σ)).2.2.2.2 ∧ ∃ y1 y2 y3 y4 : Int, r = (some (iv 0), (cW ki ln bt (.ref 5) y1 y2 y3 y4 rr dr ja ea ma a1 a2 a3 a4 a5 a6 a7 a8 jb eb mb b1 b2 b3 b4 b5 b6 b7 b8 re fl g1 g2 g3 g4 g5 D)) ∧ y2 = (pt_tk tx ln (bSto (rd_σ tx ln σ)) (rd_σ tx ln σ)).2.2.2.2)) r := by
  refine rn_S rfl ?_
  refine rn_up (N := 3000) (by decide) ?_
  obtain ⟨t0, t1, t2, t3⟩ := id hT
  have r1 : 0 ≤ cl_e bt ln cp ∧ cl_e bt ln cp ≤ ln := by rw [← t1]; exact hσ.1
  unfold tkrel at t3
  refine r_al rfl rfl ?_
  refine r_gf rfl rfl cg_3 rfl ?_
  refine r_gf rfl rfl cg_5 rfl ?_
  refine r_bi rfl (by decide) ?_
  refine r_cge rfl rfl (by omega) (by omega) (fun g0 => ?_) (fun g0 => ?_)
  · omega
  · refine r_al rfl rfl ?_
    refine r_ic rfl ?_
    refine r_v2s rfl rfl cg_3 rfl (c_nextIs hD hln hcp (by decide)) ?_
    refine r_zne rfl rfl (bi_r _) (fun g1 => ?_) (fun g1 => ?_)
    · have g1 := of_decide_eq_true (bi_1 g1)
      have b1 : bPer σ = true := decide_eq_true (by omega)
      obtain ⟨v1, T1, k1⟩ := st_y (b := bPer σ) hln hl hB hσ hT b1
      have w1 : cl_v bt ln cp = (pt_tv (bPer σ) σ) := by rw [v1]; omega
      obtain ⟨u0, u1, u2, u3⟩ := id T1
      have r2 : 0 ≤ (cl_e bt ln (cl_e bt ln cp)) ∧ (cl_e bt ln (cl_e bt ln cp)) ≤ ln := by rw [← u1]; exact k1.1
      unfold tkrel at u3
      refine r_al rfl rfl ?_
      refine r_gf rfl rfl cg_3 rfl ?_
      refine r_is (lv' := [(1, _), (0, _)]) rfl rfl rfl ?_
      refine r_al rfl rfl ?_
      refine r_ic rfl ?_
      refine r_v2s rfl rfl cg_3 rfl (c_nextIs hD hln r1 (by decide)) ?_
      refine r_zeq rfl rfl (bi_r _) (fun g2 => ?_) (fun g2 => ?_)
      · have g2 := of_decide_eq_false (bi_0 g2)
        have b2 : (bPer2 (pt_tv (bPer σ) σ) (pt_tk tx ln (bPer σ) σ)) = false := by unfold bPer2; rw [decide_eq_false (by omega)]; rfl
        have d := st_n (tx := tx) (b := (bPer2 (pt_tv (bPer σ) σ) (pt_tk tx ln (bPer σ) σ))) k1 T1 b2
        have eF : (pt_tk tx ln (bSto (rd_σ tx ln σ)) (rd_σ tx ln σ)).2.2.2.2 = ra_pl bt ln (cl_e bt ln cp) := by
          unfold rd_σ
          rw [tk_dead (σ := (pt_tk tx ln (bPer2 (pt_tv (bPer σ) σ) (pt_tk tx ln (bPer σ) σ)) (pt_tk tx ln (bPer σ) σ))) (by omega), tk_dead (σ := (pt_tk tx ln (bPer2 (pt_tv (bPer σ) σ) (pt_tk tx ln (bPer σ) σ)) (pt_tk tx ln (bPer σ) σ))) (by omega)]
          exact d.1
        replace d : ra_pl bt ln (cl_e bt ln cp) = ra_pl bt ln (cl_e bt ln cp) ∧ 0 ≤ ra_pl bt ln (cl_e bt ln cp) := ⟨rfl, d.2⟩
        refine r_ic rfl ?_
        exact r_retb rfl rfl (by omega) (Or.inr ⟨by rw [eF]; omega, _, _, _, _, rfl, eF.symm⟩)
      · have g2 := of_decide_eq_true (bi_1 g2)
        have vr := cl_v_r (B := bt) hln hcp
        have vr1 := cl_v_r (B := bt) hln r1
        refine r_al rfl rfl ?_
        refine r_gf rfl rfl cg_3 rfl ?_
        refine r_il rfl rfl ?_
        refine r_cne rfl rfl (by omega) (by omega) (fun g3 => ?_) (fun g3 => ?_)
        · have b2 : (bPer2 (pt_tv (bPer σ) σ) (pt_tk tx ln (bPer σ) σ)) = true := by unfold bPer2; rw [decide_eq_true (by omega), decide_eq_false (by omega)]; rfl
          obtain ⟨v2, T2, k2⟩ := st_y (b := (bPer2 (pt_tv (bPer σ) σ) (pt_tk tx ln (bPer σ) σ))) hln hl hB k1 T1 b2
          have w2 : cl_v bt ln (cl_e bt ln cp) = (pt_tv (bPer2 (pt_tv (bPer σ) σ) (pt_tk tx ln (bPer σ) σ)) (pt_tk tx ln (bPer σ) σ)) := by rw [v2]; omega
          obtain ⟨m0, m1, m2, m3⟩ := id T2
          have r3 : 0 ≤ (cl_e bt ln (cl_e bt ln (cl_e bt ln cp))) ∧ (cl_e bt ln (cl_e bt ln (cl_e bt ln cp))) ≤ ln := by rw [← m1]; exact k2.1
          unfold tkrel at m3
          refine r_al rfl rfl ?_
          refine r_gf rfl rfl cg_3 rfl ?_
          refine r_is (lv' := [(2, _), (1, _), (0, _)]) rfl rfl rfl ?_
          refine r_al rfl rfl ?_
          refine r_ic rfl ?_
          refine r_si rfl (by decide) ?_
          refine r_v3s rfl rfl cg_3 rfl (c_nextIsNumber hD hln r2 (by decide) (by decide)) ?_
          refine r_zne rfl rfl (bi_r _) (fun g4 => ?_) (fun g4 => ?_)
          · have g4 := Bool.and_eq_true_iff.mp (bi_1 g4)
            have g5 := of_decide_eq_true g4.1
            have b3 : (nb 1 999 (pt_tk tx ln (bPer2 (pt_tv (bPer σ) σ) (pt_tk tx ln (bPer σ) σ)) (pt_tk tx ln (bPer σ) σ))) = true := by
              unfold nb
              rw [decide_eq_true (by omega), show (pt_tk tx ln (bPer2 (pt_tv (bPer σ) σ) (pt_tk tx ln (bPer σ) σ)) (pt_tk tx ln (bPer σ) σ)).2.2.2.1 = cl_v bt ln (cl_e bt ln (cl_e bt ln cp)) by omega]
              exact g4.2
            obtain ⟨v3, T3, k3⟩ := st_y (b := (nb 1 999 (pt_tk tx ln (bPer2 (pt_tv (bPer σ) σ) (pt_tk tx ln (bPer σ) σ)) (pt_tk tx ln (bPer σ) σ)))) hln hl hB k2 T2 b3
            have w3 : cl_v bt ln (cl_e bt ln (cl_e bt ln cp)) = (pt_tv (nb 1 999 (pt_tk tx ln (bPer2 (pt_tv (bPer σ) σ) (pt_tk tx ln (bPer σ) σ)) (pt_tk tx ln (bPer σ) σ))) (pt_tk tx ln (bPer2 (pt_tv (bPer σ) σ) (pt_tk tx ln (bPer σ) σ)) (pt_tk tx ln (bPer σ) σ))) := by rw [v3]; omega
            obtain ⟨n0, n1, n2, n3⟩ := id T3
            have r4 : 0 ≤ (cl_e bt ln (cl_e bt ln (cl_e bt ln (cl_e bt ln cp)))) ∧ (cl_e bt ln (cl_e bt ln (cl_e bt ln (cl_e bt ln cp)))) ≤ ln := by rw [← n1]; exact k3.1
            have es : rd_σ tx ln σ = (pt_tk tx ln (nb 1 999 (pt_tk tx ln (bPer2 (pt_tv (bPer σ) σ) (pt_tk tx ln (bPer σ) σ)) (pt_tk tx ln (bPer σ) σ))) (pt_tk tx ln (bPer2 (pt_tv (bPer σ) σ) (pt_tk tx ln (bPer σ) σ)) (pt_tk tx ln (bPer σ) σ))) := rfl
            unfold tkrel at n3
            refine r_al rfl rfl ?_
            refine r_gf rfl rfl cg_3 rfl ?_
            refine r_is (lv' := [(3, _), (2, _), (1, _), (0, _)]) rfl rfl rfl ?_
            refine r_al rfl rfl ?_
            refine r_ic rfl ?_
            refine r_v2s rfl rfl cg_3 rfl (c_nextIs hD hln r3 (by decide)) ?_
            refine r_zne rfl rfl (bi_r _) (fun g6 => ?_) (fun g6 => ?_)
            · have g6 := of_decide_eq_true (bi_1 g6)
              have b4 : bSto (pt_tk tx ln (nb 1 999 (pt_tk tx ln (bPer2 (pt_tv (bPer σ) σ) (pt_tk tx ln (bPer σ) σ)) (pt_tk tx ln (bPer σ) σ))) (pt_tk tx ln (bPer2 (pt_tv (bPer σ) σ) (pt_tk tx ln (bPer σ) σ)) (pt_tk tx ln (bPer σ) σ))) = true := decide_eq_true (by omega)
              obtain ⟨-, T4, k4⟩ := st_y (b := bSto (pt_tk tx ln (nb 1 999 (pt_tk tx ln (bPer2 (pt_tv (bPer σ) σ) (pt_tk tx ln (bPer σ) σ)) (pt_tk tx ln (bPer σ) σ))) (pt_tk tx ln (bPer2 (pt_tv (bPer σ) σ) (pt_tk tx ln (bPer σ) σ)) (pt_tk tx ln (bPer σ) σ)))) hln hl hB k3 T3 b4
              refine r_al rfl rfl ?_
              refine r_gf rfl rfl cg_3 rfl ?_
              refine r_il rfl rfl ?_
              refine r_il rfl rfl ?_
              refine r_il rfl rfl ?_
              refine r_v4n rfl rfl cg_5 rfl (c_addDebt1 h) ?_
              refine r_ic rfl ?_
              rw [w1, w2, w3]
              exact r_retb rfl rfl (by omega) (Or.inl ⟨T4.1, _, _, _, _, rfl, T4, r4⟩)
            · have g6 := of_decide_eq_false (bi_0 g6)
              have b4 : bSto (pt_tk tx ln (nb 1 999 (pt_tk tx ln (bPer2 (pt_tv (bPer σ) σ) (pt_tk tx ln (bPer σ) σ)) (pt_tk tx ln (bPer σ) σ))) (pt_tk tx ln (bPer2 (pt_tv (bPer σ) σ) (pt_tk tx ln (bPer σ) σ)) (pt_tk tx ln (bPer σ) σ))) = false := decide_eq_false (by omega)
              have d := st_n (tx := tx) (b := bSto (pt_tk tx ln (nb 1 999 (pt_tk tx ln (bPer2 (pt_tv (bPer σ) σ) (pt_tk tx ln (bPer σ) σ)) (pt_tk tx ln (bPer σ) σ))) (pt_tk tx ln (bPer2 (pt_tv (bPer σ) σ) (pt_tk tx ln (bPer σ) σ)) (pt_tk tx ln (bPer σ) σ)))) k3 T3 b4
              have eF : (pt_tk tx ln (bSto (rd_σ tx ln σ)) (rd_σ tx ln σ)).2.2.2.2 = ra_pl bt ln (cl_e bt ln (cl_e bt ln (cl_e bt ln cp))) := d.1
              replace d : ra_pl bt ln (cl_e bt ln (cl_e bt ln (cl_e bt ln cp))) = ra_pl bt ln (cl_e bt ln (cl_e bt ln (cl_e bt ln cp))) ∧ 0 ≤ ra_pl bt ln (cl_e bt ln (cl_e bt ln (cl_e bt ln cp))) := ⟨rfl, d.2⟩
              refine r_ic rfl ?_
              exact r_retb rfl rfl (by omega) (Or.inr ⟨by rw [eF]; omega, _, _, _, _, rfl, eF.symm⟩)
          · have b3 : (nb 1 999 (pt_tk tx ln (bPer2 (pt_tv (bPer σ) σ) (pt_tk tx ln (bPer σ) σ)) (pt_tk tx ln (bPer σ) σ))) = false := by
              have g4 := bi_0 g4
              unfold nb
              unfold cl_nb at g4
              by_cases q : cl_t bt ln (cl_e bt ln (cl_e bt ln cp)) = 2
              · rw [decide_eq_true q] at g4
                rw [show (pt_tk tx ln (bPer2 (pt_tv (bPer σ) σ) (pt_tk tx ln (bPer σ) σ)) (pt_tk tx ln (bPer σ) σ)).2.2.2.1 = cl_v bt ln (cl_e bt ln (cl_e bt ln cp)) by omega, show i3 (cl_v bt ln (cl_e bt ln (cl_e bt ln cp))) 1 999 = false from g4, Bool.and_false]
              · rw [decide_eq_false (by omega)]; rfl
            have d := st_n (tx := tx) (b := (nb 1 999 (pt_tk tx ln (bPer2 (pt_tv (bPer σ) σ) (pt_tk tx ln (bPer σ) σ)) (pt_tk tx ln (bPer σ) σ)))) k2 T2 b3
            have eF : (pt_tk tx ln (bSto (rd_σ tx ln σ)) (rd_σ tx ln σ)).2.2.2.2 = ra_pl bt ln (cl_e bt ln (cl_e bt ln cp)) := by
              unfold rd_σ
              rw [tk_dead (σ := (pt_tk tx ln (nb 1 999 (pt_tk tx ln (bPer2 (pt_tv (bPer σ) σ) (pt_tk tx ln (bPer σ) σ)) (pt_tk tx ln (bPer σ) σ))) (pt_tk tx ln (bPer2 (pt_tv (bPer σ) σ) (pt_tk tx ln (bPer σ) σ)) (pt_tk tx ln (bPer σ) σ)))) (by omega)]
              exact d.1
            replace d : ra_pl bt ln (cl_e bt ln (cl_e bt ln cp)) = ra_pl bt ln (cl_e bt ln (cl_e bt ln cp)) ∧ 0 ≤ ra_pl bt ln (cl_e bt ln (cl_e bt ln cp)) := ⟨rfl, d.2⟩
            refine r_ic rfl ?_
            exact r_retb rfl rfl (by omega) (Or.inr ⟨by rw [eF]; omega, _, _, _, _, rfl, eF.symm⟩)
        · have b2 : (bPer2 (pt_tv (bPer σ) σ) (pt_tk tx ln (bPer σ) σ)) = false := by unfold bPer2; rw [decide_eq_true (by omega), decide_eq_true (by omega)]; rfl
          have d := st_n (tx := tx) (b := (bPer2 (pt_tv (bPer σ) σ) (pt_tk tx ln (bPer σ) σ))) k1 T1 b2
          have eF : (pt_tk tx ln (bSto (rd_σ tx ln σ)) (rd_σ tx ln σ)).2.2.2.2 = ra_pl bt ln (cl_e bt ln cp) := by
            unfold rd_σ
            rw [tk_dead (σ := (pt_tk tx ln (bPer2 (pt_tv (bPer σ) σ) (pt_tk tx ln (bPer σ) σ)) (pt_tk tx ln (bPer σ) σ))) (by omega), tk_dead (σ := (pt_tk tx ln (bPer2 (pt_tv (bPer σ) σ) (pt_tk tx ln (bPer σ) σ)) (pt_tk tx ln (bPer σ) σ))) (by omega)]
            exact d.1
          replace d : ra_pl bt ln (cl_e bt ln cp) = ra_pl bt ln (cl_e bt ln cp) ∧ 0 ≤ ra_pl bt ln (cl_e bt ln cp) := ⟨rfl, d.2⟩
          refine r_ic rfl ?_
          exact r_retb rfl rfl (by omega) (Or.inr ⟨by rw [eF]; omega, _, _, _, _, rfl, eF.symm⟩)
    · have g1 := of_decide_eq_false (bi_0 g1)
      have b1 : bPer σ = false := decide_eq_false (by omega)
      have d := st_n (tx := tx) (b := bPer σ) hσ hT b1
      have eF : (pt_tk tx ln (bSto (rd_σ tx ln σ)) (rd_σ tx ln σ)).2.2.2.2 = ra_pl bt ln cp := by
        unfold rd_σ
        rw [tk_dead (σ := (pt_tk tx ln (bPer σ) σ)) (by omega), tk_dead (σ := (pt_tk tx ln (bPer σ) σ)) (by omega), tk_dead (σ := (pt_tk tx ln (bPer σ) σ)) (by omega)]
        exact d.1
      replace d : ra_pl bt ln cp = ra_pl bt ln cp ∧ 0 ≤ ra_pl bt ln cp := ⟨rfl, d.2⟩
      refine r_ic rfl ?_
      exact r_retb rfl rfl (by omega) (Or.inr ⟨by rw [eF]; omega, _, _, _, _, rfl, eF.symm⟩)
end C4
