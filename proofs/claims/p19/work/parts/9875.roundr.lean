/-! ===== rounds: the reference ===== -/
section RN4
variable {gf : Nat → Option (Nat × Nat)} {pf : Nat → Option (Nat × Nat × FieldType)} {mv ms : Nat → Option (Nat × Option Nat × mm_F)} {kc : Nat → Option Value} {gs : Nat → Option Value} {rf : Nat → Nat → Option Value} {ro : Nat → Option (Nat × Nat × (Nat → Int32))} {rt : Option FieldType} {nL : Nat} {ins : Nat → Option Instr} {N pc : Nat} {lv : List (Nat × Value)} {st : List Value} {mw : List va_E} {Q : mm_R → Prop}
theorem r_ldq {d h a : Int} (h1 : ins pc = some .ldiv) (h2 : ins (pc + 1) = some .l2i) (hd : 0 ≤ d ∧ d ≤ 999) (hh : 0 ≤ h ∧ h ≤ 100000) (ha : 1 ≤ a ∧ a ≤ 100000) (k : rn gf pf mv ms kc gs rf ro rt nL ins N (pc + 2, lv, iv (d * h / a) :: st, mw) Q) : rn gf pf mv ms kc gs rf ro rt nL ins (N + 2) (pc, lv, .long ((Int32.ofInt a).toInt64) :: .long ((Int32.ofInt d).toInt64 * (Int32.ofInt h).toInt64) :: st, mw) Q := by
  have hz : ¬ (Int32.ofInt a).toInt64 = 0 := fun e => by
    have e := congrArg Int64.toInt e
    rw [Int32.toInt_toInt64, iv_to ⟨by omega, by omega⟩] at e
    have e : a = 0 := e
    omega
  exact rn_one h1 (by simp only [mm_ex, mm_l2, hz, decide_false, Bool.not_false, cond_true]) (r_l2i (x := (Int32.ofInt d).toInt64 * (Int32.ofInt h).toInt64 / (Int32.ofInt a).toInt64) (lv := lv) (st := st) (mw := mw) h2 (by rw [ld_q hd hh ha]; exact k))
end RN4
theorem rwO_st {R : Nat → Nat → Int} {n j : Nat} (h : ¬ rwO R n j = -9) : ∀ m : Nat, rwO R n (j + m) = rwO R n j
  | 0 => rfl
  | m + 1 => by
    have ih := rwO_st h m
    show (bif decide (rwO R n (j + m) = -9) then (bif rwS R (j + m) n 26 then (n : Int) - ((j + m : Nat) : Int) else -9) else rwO R n (j + m)) = rwO R n j
    rw [ih, decide_eq_false h]
    rfl
/-- the reference's first row below j -/
def rk0 (db : Int) (de s : Nat → Int32) (j : Nat) (pa : Nat → Int32) : Prop := (∀ i, i < 5226 → i7 (pa i) 0 999) ∧ ∀ k : Nat, k < j → pa k = Int32.ofInt (bif decide ((k : Int) < db) then fR de s (k : Int) else 0)
theorem rk0_s {db : Int} {de s pa : Nat → Int32} {j : Nat} {x : Int} (hx : 0 ≤ x ∧ x ≤ 999) (h : rk0 db de s j pa) (e : x = (bif decide ((j : Int) < db) then fR de s (j : Int) else 0)) : rk0 db de s (j + 1) (upd pa (Int.toNat (j : Int)) (Int32.ofInt x)) := by
  rw [show Int.toNat (j : Int) = j from rfl]
  refine ⟨fun i hi => ?_, fun k hk => ?_⟩
  · by_cases q : i = j
    · rw [q, upd_same]
      unfold i7
      rw [iv_to ⟨by omega, by omega⟩]
      exact hx
    · rw [upd_ne q]; exact h.1 i hi
  · by_cases q : k = j
    · rw [q, upd_same, e]
    · rw [upd_ne q]; exact h.2 k (by omega)
theorem rk0_e {db sn : Int} {de sd s pa : Nat → Int32} (h : rk0 db de s 26 pa) : rkI db sn de sd s 1 pa := ⟨h.1, fun a k ha hk hP => by
  have e : a = 0 := by omega
  subst e
  rw [show 26 * 0 + k = k by omega]
  exact h.2 k hk⟩
def rkE (db sn : Int) (de sd s : Nat → Int32) (n : Nat → Int) (p : Int) : Nat → Int
  | 0 => (s (Int.toNat (122 + p))).toInt
  | j + 1 => (rkE db sn de sd s n p j + (bif rkP db sn j && decide (rkT de sd j = p) then n j else 0)) - (bif rkP db sn j && decide (rkO de sd j = p) then n j else 0)
section RQ
variable {C : List va_E} {tr : Int64} {th db sn dm sm ty nx tk pl va fa lr ri : Int} {s kp ik tn de sd dd sr tx pa : Nat → Int32} {k r n : Nat} {p a b : Int} {R : Nat → Int} {Q : mm_R → Prop} {N : Nat}
abbrev rn_X12_isPaper (N : Nat) (c : mm_C) (Q : mm_R → Prop) : Prop := rn (mm_gf gLX12) (mm_pf pLX12) (mm_mv vX12_isPaper) (mm_mv zX12_isPaper) (mm_kc kLX12) mm_gs0 mm_rf0 mm_ro (some .boolean) 2 (mm_ins iX12_isPaper) N c Q
theorem c_isPaperR (hC : C.length = 56) (hk : k < 26) (hd : 0 ≤ db ∧ db ≤ 10) (hn : 0 ≤ sn ∧ sn ≤ 16) : sX12_isPaper [.ref 56, iv ((k : Int))] (C ++ rL (ro_ th tr db sn dm sm ty nx tk pl va fa lr ri) s kp ik tn de sd dd sr tx pa) = some (some (iv (bi (rkP db sn k))), (C ++ rL (ro_ th tr db sn dm sm ty nx tk pl va fa lr ri) s kp ik tn de sd dd sr tx pa)) := by
  have main : ∀ Q : mm_R → Prop, Q (some (iv (bi (rkP db sn k))), (C ++ rL (ro_ th tr db sn dm sm ty nx tk pl va fa lr ri) s kp ik tn de sd dd sr tx pa)) → rn_X12_isPaper (1000) (0, [(0, .ref 56), (1, iv ((k : Int)))], [], (C ++ rL (ro_ th tr db sn dm sm ty nx tk pl va fa lr ri) s kp ik tn de sd dd sr tx pa)) Q := by
    intro Q hQ
    refine r_il rfl rfl ?_
    refine r_bi rfl (by decide) ?_
    refine r_cge rfl rfl (by omega) (by omega) (fun g1 => ?_) (fun g1 => ?_)
    · refine r_il rfl rfl ?_
      refine r_bi rfl (by decide) ?_
      refine r_sub rfl ?_
      refine r_al rfl rfl ?_
      refine r_gf rfl rfl (rg_56 hC) rfl ?_
      refine r_cge rfl rfl (by omega) (by omega) (fun g2 => ?_) (fun g2 => ?_)
      · have e : rkP db sn k = false := by rw [rkP_s (by omega), decide_eq_false (by omega)]
        rw [e] at hQ
        refine r_ic rfl ?_
        exact r_retb rfl rfl (by omega) hQ
      · have e : rkP db sn k = true := by rw [rkP_s (by omega), decide_eq_true (by omega)]
        rw [e] at hQ
        refine r_ic rfl ?_
        refine r_goto rfl rfl ?_
        exact r_retb rfl rfl (by omega) hQ
    · refine r_il rfl rfl ?_
      refine r_al rfl rfl ?_
      refine r_gf rfl rfl (rg_56 hC) rfl ?_
      refine r_cge rfl rfl (by omega) (by omega) (fun g2 => ?_) (fun g2 => ?_)
      · have e : rkP db sn k = false := by rw [rkP_d (by omega), decide_eq_false (by omega)]
        rw [e] at hQ
        refine r_ic rfl ?_
        refine r_goto rfl rfl ?_
        exact r_retb rfl rfl (by omega) hQ
      · have e : rkP db sn k = true := by rw [rkP_d (by omega), decide_eq_true (by omega)]
        rw [e] at hQ
        refine r_ic rfl ?_
        refine r_goto rfl rfl ?_
        exact r_retb rfl rfl (by omega) hQ
  obtain ⟨rz, h1, h2⟩ := rn_S (vs := [.ref 56, iv ((k : Int))]) (Q := fun rz => rz = (some (iv (bi (rkP db sn k))), (C ++ rL (ro_ th tr db sn dm sm ty nx tk pl va fa lr ri) s kp ik tn de sd dd sr tx pa))) rfl (rn_up (N := 1000) (M := mm_fuel) (by decide) (main (fun rz => rz = (some (iv (bi (rkP db sn k))), (C ++ rL (ro_ th tr db sn dm sm ty nx tk pl va fa lr ri) s kp ik tn de sd dd sr tx pa))) rfl))
  have h1 : sX12_isPaper [.ref 56, iv ((k : Int))] (C ++ rL (ro_ th tr db sn dm sm ty nx tk pl va fa lr ri) s kp ik tn de sd dd sr tx pa) = some rz := h1
  rw [h1, h2]
abbrev rn_X12_toWhom (N : Nat) (c : mm_C) (Q : mm_R → Prop) : Prop := rn (mm_gf gLX12) (mm_pf pLX12) (mm_mv vX12_toWhom) (mm_mv zX12_toWhom) (mm_kc kLX12) mm_gs0 mm_rf0 mm_ro (some .int) 2 (mm_ins iX12_toWhom) N c Q
theorem c_toWhomR (hC : C.length = 56) (hk : k < 26) (hS : SDr sd) : sX12_toWhom [.ref 56, iv ((k : Int))] (C ++ rL (ro_ th tr db sn dm sm ty nx tk pl va fa lr ri) s kp ik tn de sd dd sr tx pa) = some (some (iv (rkT de sd k)), (C ++ rL (ro_ th tr db sn dm sm ty nx tk pl va fa lr ri) s kp ik tn de sd dd sr tx pa)) := by
  have main : ∀ Q : mm_R → Prop, Q (some (iv (rkT de sd k)), (C ++ rL (ro_ th tr db sn dm sm ty nx tk pl va fa lr ri) s kp ik tn de sd dd sr tx pa)) → rn_X12_toWhom (1000) (0, [(0, .ref 56), (1, iv ((k : Int)))], [], (C ++ rL (ro_ th tr db sn dm sm ty nx tk pl va fa lr ri) s kp ik tn de sd dd sr tx pa)) Q := by
    intro Q hQ
    refine r_al rfl rfl ?_
    refine r_gf rfl rfl (rg_56 hC) rfl ?_
    refine r_ic rfl ?_
    refine r_il rfl rfl ?_
    refine r_bi rfl (by decide) ?_
    refine r_cge rfl rfl (by omega) (by omega) (fun g1 => ?_) (fun g1 => ?_)
    · obtain ⟨-, a2, -⟩ := sd_r hS (i := (k : Int) - 10) ⟨by omega, by omega⟩
      have e : rkT de sd k = (de (Int.toNat (3 * (sd (Int.toNat (5 * ((k : Int) - 10) + 1))).toInt + 1))).toInt := by unfold rkT; rw [decide_eq_false (by omega)]; rfl
      rw [e] at hQ
      refine r_al rfl rfl ?_
      refine r_gf rfl rfl (rg_56 hC) rfl ?_
      refine r_ic rfl ?_
      refine r_il rfl rfl ?_
      refine r_bi rfl (by decide) ?_
      refine r_sub rfl ?_
      refine r_mul rfl ?_
      refine r_ic rfl ?_
      refine r_add rfl ?_
      refine r_ia rfl (rg_62 hC) (by omega) (by omega) (by decide) ?_
      refine r_mul rfl ?_
      refine r_ic rfl ?_
      refine r_add rfl ?_
      refine r_ia rfl (rg_61 hC) (by omega) (by omega) (by decide) ?_
      exact r_ret rfl rfl hQ
    · have e : rkT de sd k = (de (Int.toNat (3 * (k : Int) + 1))).toInt := by unfold rkT; rw [decide_eq_true (by omega)]; rfl
      rw [e] at hQ
      refine r_il rfl rfl ?_
      refine r_goto rfl rfl ?_
      refine r_mul rfl ?_
      refine r_ic rfl ?_
      refine r_add rfl ?_
      refine r_ia rfl (rg_61 hC) (by omega) (by omega) (by decide) ?_
      exact r_ret rfl rfl hQ
  obtain ⟨rz, h1, h2⟩ := rn_S (vs := [.ref 56, iv ((k : Int))]) (Q := fun rz => rz = (some (iv (rkT de sd k)), (C ++ rL (ro_ th tr db sn dm sm ty nx tk pl va fa lr ri) s kp ik tn de sd dd sr tx pa))) rfl (rn_up (N := 1000) (M := mm_fuel) (by decide) (main (fun rz => rz = (some (iv (rkT de sd k)), (C ++ rL (ro_ th tr db sn dm sm ty nx tk pl va fa lr ri) s kp ik tn de sd dd sr tx pa))) rfl))
  have h1 : sX12_toWhom [.ref 56, iv ((k : Int))] (C ++ rL (ro_ th tr db sn dm sm ty nx tk pl va fa lr ri) s kp ik tn de sd dd sr tx pa) = some rz := h1
  rw [h1, h2]
abbrev rn_X12_ofWhom (N : Nat) (c : mm_C) (Q : mm_R → Prop) : Prop := rn (mm_gf gLX12) (mm_pf pLX12) (mm_mv vX12_ofWhom) (mm_mv zX12_ofWhom) (mm_kc kLX12) mm_gs0 mm_rf0 mm_ro (some .int) 2 (mm_ins iX12_ofWhom) N c Q
theorem c_ofWhomR (hC : C.length = 56) (hk : k < 26) : sX12_ofWhom [.ref 56, iv ((k : Int))] (C ++ rL (ro_ th tr db sn dm sm ty nx tk pl va fa lr ri) s kp ik tn de sd dd sr tx pa) = some (some (iv (rkO de sd k)), (C ++ rL (ro_ th tr db sn dm sm ty nx tk pl va fa lr ri) s kp ik tn de sd dd sr tx pa)) := by
  have main : ∀ Q : mm_R → Prop, Q (some (iv (rkO de sd k)), (C ++ rL (ro_ th tr db sn dm sm ty nx tk pl va fa lr ri) s kp ik tn de sd dd sr tx pa)) → rn_X12_ofWhom (1000) (0, [(0, .ref 56), (1, iv ((k : Int)))], [], (C ++ rL (ro_ th tr db sn dm sm ty nx tk pl va fa lr ri) s kp ik tn de sd dd sr tx pa)) Q := by
    intro Q hQ
    refine r_il rfl rfl ?_
    refine r_bi rfl (by decide) ?_
    refine r_cge rfl rfl (by omega) (by omega) (fun g1 => ?_) (fun g1 => ?_)
    · have e : rkO de sd k = (sd (Int.toNat (5 * ((k : Int) - 10)))).toInt := by unfold rkO; rw [decide_eq_false (by omega)]; rfl
      rw [e] at hQ
      refine r_al rfl rfl ?_
      refine r_gf rfl rfl (rg_56 hC) rfl ?_
      refine r_ic rfl ?_
      refine r_il rfl rfl ?_
      refine r_bi rfl (by decide) ?_
      refine r_sub rfl ?_
      refine r_mul rfl ?_
      refine r_ia rfl (rg_62 hC) (by omega) (by omega) (by decide) ?_
      exact r_ret rfl rfl hQ
    · have e : rkO de sd k = (de (Int.toNat (3 * (k : Int)))).toInt := by unfold rkO; rw [decide_eq_true (by omega)]; rfl
      rw [e] at hQ
      refine r_al rfl rfl ?_
      refine r_gf rfl rfl (rg_56 hC) rfl ?_
      refine r_ic rfl ?_
      refine r_il rfl rfl ?_
      refine r_mul rfl ?_
      refine r_ia rfl (rg_61 hC) (by omega) (by omega) (by decide) ?_
      refine r_goto rfl rfl ?_
      exact r_ret rfl rfl hQ
  obtain ⟨rz, h1, h2⟩ := rn_S (vs := [.ref 56, iv ((k : Int))]) (Q := fun rz => rz = (some (iv (rkO de sd k)), (C ++ rL (ro_ th tr db sn dm sm ty nx tk pl va fa lr ri) s kp ik tn de sd dd sr tx pa))) rfl (rn_up (N := 1000) (M := mm_fuel) (by decide) (main (fun rz => rz = (some (iv (rkO de sd k)), (C ++ rL (ro_ th tr db sn dm sm ty nx tk pl va fa lr ri) s kp ik tn de sd dd sr tx pa))) rfl))
  have h1 : sX12_ofWhom [.ref 56, iv ((k : Int))] (C ++ rL (ro_ th tr db sn dm sm ty nx tk pl va fa lr ri) s kp ik tn de sd dd sr tx pa) = some rz := h1
  rw [h1, h2]
abbrev rn_X12_due (N : Nat) (c : mm_C) (Q : mm_R → Prop) : Prop := rn (mm_gf gLX12) (mm_pf pLX12) (mm_mv vX12_due) (mm_mv zX12_due) (mm_kc kLX12) mm_gs0 mm_rf0 mm_ro (some .int) 6 (mm_ins iX12_due) N c Q
theorem c_dueR (hC : C.length = 56) (hRS : RS s) (hE : DEr de) (hS : SDr sd) (hX : EXx s de sd) (hO : OVx db sn sd) (hd : 0 ≤ db ∧ db ≤ 10) (hn : 0 ≤ sn ∧ sn ≤ 16) (hk : k < 26) (hP : rkP db sn k = true) (hr : r < 200) (hR : ∀ k : Nat, k < 26 → 0 ≤ R k ∧ R k ≤ 999) (hrow : ∀ k : Nat, k < 26 → rkP db sn k = true → pa (26 * r + k) = Int32.ofInt (R k)) : sX12_due [.ref 56, iv ((r : Int) + 1), iv ((k : Int))] (C ++ rL (ro_ th tr db sn dm sm ty nx tk pl va fa lr ri) s kp ik tn de sd dd sr tx pa) = some (some (iv (rkD de sd s R k)), (C ++ rL (ro_ th tr db sn dm sm ty nx tk pl va fa lr ri) s kp ik tn de sd dd sr tx pa)) := by
  have main : ∀ Q : mm_R → Prop, Q (some (iv (rkD de sd s R k)), (C ++ rL (ro_ th tr db sn dm sm ty nx tk pl va fa lr ri) s kp ik tn de sd dd sr tx pa)) → rn_X12_due (1000) (0, [(0, .ref 56), (1, iv ((r : Int) + 1)), (2, iv ((k : Int)))], [], (C ++ rL (ro_ th tr db sn dm sm ty nx tk pl va fa lr ri) s kp ik tn de sd dd sr tx pa)) Q := by
    intro Q hQ
    refine r_il rfl rfl ?_
    refine r_bi rfl (by decide) ?_
    refine r_cge rfl rfl (by omega) (by omega) (fun g1 => ?_) (fun g1 => ?_)
    · rw [rkP_s (by omega)] at hP
      have hP := of_decide_eq_true hP
      obtain ⟨-, a2, -⟩ := sd_r hS (i := (k : Int) - 10) ⟨by omega, by omega⟩
      have hov := (hO (k - 10) (by omega)).1
      rw [show 5 * (k - 10) + 1 = Int.toNat (5 * ((k : Int) - 10) + 1) by omega] at hov
      have hf := fR_9 hRS hE hX a2
      have hl := fL_r s ((k : Int) - 10)
      have hRd := hR (Int.toNat (sd (Int.toNat (5 * ((k : Int) - 10) + 1))).toInt) (by omega)
      have hpv : (pa (Int.toNat (26 * ((r : Int) + 1 - 1) + (sd (Int.toNat (5 * ((k : Int) - 10) + 1))).toInt))).toInt = R (Int.toNat (sd (Int.toNat (5 * ((k : Int) - 10) + 1))).toInt) := by
        rw [show Int.toNat (26 * ((r : Int) + 1 - 1) + (sd (Int.toNat (5 * ((k : Int) - 10) + 1))).toInt) = 26 * r + Int.toNat (sd (Int.toNat (5 * ((k : Int) - 10) + 1))).toInt by omega, hrow _ (by omega) (by rw [rkP_d (by omega)]; exact decide_eq_true (by omega))]
        exact iv_to ⟨by omega, by omega⟩
      have eD : rkD de sd s R k = (bif decide ((sd (Int.toNat (5 * ((k : Int) - 10) + 2))).toInt = 3) then 0 else lsr (fL s ((k : Int) - 10)) (rkW (fR de s (sd (Int.toNat (5 * ((k : Int) - 10) + 1))).toInt - R (Int.toNat (sd (Int.toNat (5 * ((k : Int) - 10) + 1))).toInt)))) := by unfold rkD; rw [decide_eq_false (by omega)]; rfl
      rw [eD] at hQ
      refine r_il rfl rfl ?_
      refine r_bi rfl (by decide) ?_
      refine r_sub rfl ?_
      refine r_is (lv' := [(3, _), (0, _), (1, _), (2, _)]) rfl rfl rfl ?_
      refine r_al rfl rfl ?_
      refine r_gf rfl rfl (rg_56 hC) rfl ?_
      refine r_ic rfl ?_
      refine r_il rfl rfl ?_
      refine r_mul rfl ?_
      refine r_ic rfl ?_
      refine r_add rfl ?_
      refine r_ia rfl (rg_62 hC) (by omega) (by omega) (by decide) ?_
      refine r_isw (lv' := [(4, _), (3, _), (0, _), (1, _), (2, _)]) rfl rfl rfl ?_
      refine r_al rfl rfl ?_
      refine r_ilw rfl rfl ?_
      refine r_v2s rfl rfl (rg_56 hC) rfl (c_restR hC a2) ?_
      refine r_al rfl rfl ?_
      refine r_gf rfl rfl (rg_56 hC) rfl ?_
      refine r_bi rfl (by decide) ?_
      refine r_il rfl rfl ?_
      refine r_ic rfl ?_
      refine r_sub rfl ?_
      refine r_mul rfl ?_
      refine r_ilw rfl rfl ?_
      refine r_add rfl ?_
      refine r_ia rfl (rg_66 hC) (by omega) (by omega) (by decide) ?_
      refine r_eq hpv ?_
      refine r_sub rfl ?_
      refine r_isw (lv' := [(5, _), (4, _), (3, _), (0, _), (1, _), (2, _)]) rfl rfl rfl ?_
      refine r_al rfl rfl ?_
      refine r_gf rfl rfl (rg_56 hC) rfl ?_
      refine r_ic rfl ?_
      refine r_il rfl rfl ?_
      refine r_mul rfl ?_
      refine r_ic rfl ?_
      refine r_add rfl ?_
      refine r_ia rfl (rg_62 hC) (by omega) (by omega) (by decide) ?_
      refine r_ic rfl ?_
      refine r_cne rfl rfl (as_r _) (by decide) (fun g2 => ?_) (fun g2 => ?_)
      · rw [decide_eq_false g2, cond_false] at hQ
        refine r_al rfl rfl ?_
        refine r_il rfl rfl ?_
        refine r_v2s rfl rfl (rg_56 hC) rfl (c_leftR hC (by omega)) ?_
        refine r_ilw rfl rfl ?_
        have K : rn_X12_due 20 (86, [(5, iv ((fR de s (sd (Int.toNat (5 * ((k : Int) - 10) + 1))).toInt) - (R (Int.toNat (sd (Int.toNat (5 * ((k : Int) - 10) + 1))).toInt)))), (4, iv ((sd (Int.toNat (((5) * (((k : Int)) - (10))) + (1)))).toInt)), (3, iv (((k : Int)) - (10))), (0, .ref 56), (1, iv ((r : Int) + 1)), (2, iv ((k : Int)))], [iv (rkW (fR de s (sd (Int.toNat (5 * ((k : Int) - 10) + 1))).toInt - R (Int.toNat (sd (Int.toNat (5 * ((k : Int) - 10) + 1))).toInt))), iv (fL s ((k : Int) - 10))], (C ++ rL (ro_ th tr db sn dm sm ty nx tk pl va fa lr ri) s kp ik tn de sd dd sr tx pa)) Q := by
          refine r_s2s rfl rfl rfl (c_lesser (by omega) (by have := rkW_r (x := fR de s (sd (Int.toNat (5 * ((k : Int) - 10) + 1))).toInt - R (Int.toNat (sd (Int.toNat (5 * ((k : Int) - 10) + 1))).toInt)) (by omega); omega)) ?_
          exact r_ret rfl rfl hQ
        refine r_zge rfl rfl (by omega) (fun g3 => ?_) (fun g3 => ?_)
        · refine r_ilw rfl rfl ?_
          have e : rkW (fR de s (sd (Int.toNat (5 * ((k : Int) - 10) + 1))).toInt - R (Int.toNat (sd (Int.toNat (5 * ((k : Int) - 10) + 1))).toInt)) = fR de s (sd (Int.toNat (5 * ((k : Int) - 10) + 1))).toInt - R (Int.toNat (sd (Int.toNat (5 * ((k : Int) - 10) + 1))).toInt) := by unfold rkW; rw [decide_eq_false (by omega)]; rfl
          rw [e] at K
          exact rn_up (N := 20) (by decide) K
        · refine r_ic rfl ?_
          refine r_goto rfl rfl ?_
          have e : rkW (fR de s (sd (Int.toNat (5 * ((k : Int) - 10) + 1))).toInt - R (Int.toNat (sd (Int.toNat (5 * ((k : Int) - 10) + 1))).toInt)) = 0 := by unfold rkW; rw [decide_eq_true (by omega)]; rfl
          rw [e] at K
          exact rn_up (N := 20) (by decide) K
      · rw [decide_eq_true g2, cond_true] at hQ
        refine r_ic rfl ?_
        refine r_goto rfl rfl ?_
        exact r_ret rfl rfl hQ
    · have eD : rkD de sd s R k = fR de s (k : Int) := by unfold rkD; rw [decide_eq_true (by omega)]; rfl
      rw [eD] at hQ
      refine r_al rfl rfl ?_
      refine r_il rfl rfl ?_
      refine r_v2s rfl rfl (rg_56 hC) rfl (c_restR hC ⟨by omega, by omega⟩) ?_
      exact r_ret rfl rfl hQ
  obtain ⟨rz, h1, h2⟩ := rn_S (vs := [.ref 56, iv ((r : Int) + 1), iv ((k : Int))]) (Q := fun rz => rz = (some (iv (rkD de sd s R k)), (C ++ rL (ro_ th tr db sn dm sm ty nx tk pl va fa lr ri) s kp ik tn de sd dd sr tx pa))) rfl (rn_up (N := 1000) (M := mm_fuel) (by decide) (main (fun rz => rz = (some (iv (rkD de sd s R k)), (C ++ rL (ro_ th tr db sn dm sm ty nx tk pl va fa lr ri) s kp ik tn de sd dd sr tx pa))) rfl))
  have h1 : sX12_due [.ref 56, iv ((r : Int) + 1), iv ((k : Int))] (C ++ rL (ro_ th tr db sn dm sm ty nx tk pl va fa lr ri) s kp ik tn de sd dd sr tx pa) = some rz := h1
  rw [h1, h2]
abbrev rn_X12_pays (N : Nat) (c : mm_C) (Q : mm_R → Prop) : Prop := rn (mm_gf gLX12) (mm_pf pLX12) (mm_mv vX12_pays) (mm_mv zX12_pays) (mm_kc kLX12) mm_gs0 mm_rf0 mm_ro none 7 (mm_ins iX12_pays) N c Q
theorem py_in (hC : C.length = 56) (hRS : RS s) (hE : DEr de) (hS : SDr sd) (hX : EXx s de sd) (hO : OVx db sn sd) (hd : 0 ≤ db ∧ db ≤ 10) (hn : 0 ≤ sn ∧ sn ≤ 16) (hr : r < 200) {q : Nat} (hq : q < 8) (hrow : ∀ k : Nat, k < 26 → rkP db sn k = true → pa (26 * r + k) = Int32.ofInt ((rkR db sn de sd s r) k)) (k : rn_X12_pays N (112, [(5, iv (((26 : Nat) : Int))), (4, iv (rkA db sn de sd s (rkR db sn de sd s r) (q : Int) 26)), (3, iv (rkH db sn de sd s (rkR db sn de sd s r) (q : Int) 26)), (2, iv ((q : Int))), (0, .ref 56), (1, iv ((r : Int) + 1))], [], (C ++ rL (ro_ th tr db sn dm sm ty nx tk pl va fa lr ri) s kp ik tn de sd dd sr tx pa)) Q) : ∀ (m j : Nat), j + m = 26 → rn_X12_pays (N + 120 * m + 120) (24, [(5, iv ((j : Int))), (4, iv (rkA db sn de sd s (rkR db sn de sd s r) (q : Int) j)), (3, iv (rkH db sn de sd s (rkR db sn de sd s r) (q : Int) j)), (2, iv ((q : Int))), (0, .ref 56), (1, iv ((r : Int) + 1))], [], (C ++ rL (ro_ th tr db sn dm sm ty nx tk pl va fa lr ri) s kp ik tn de sd dd sr tx pa)) Q := by
  intro m
  induction m with
  | zero =>
    intro j hj
    have hj : j = 26 := by omega
    subst hj
    refine rn_up (N := N + 120) (by omega) ?_
    refine r_ilw rfl rfl ?_
    refine r_bi rfl (by decide) ?_
    refine r_cge rfl rfl (by omega) (by omega) (fun g1 => ?_) (fun g1 => ?_)
    · exact rn_up (by omega) k
    · omega
  | succ m ih =>
    intro j hj
    obtain ⟨M, hM⟩ : ∃ M, M = N + 120 * m + 120 := ⟨_, rfl⟩
    rw [← hM] at ih
    refine rn_up (N := M + 120) (by omega) ?_
    refine r_ilw rfl rfl ?_
    refine r_bi rfl (by decide) ?_
    refine r_cge rfl rfl (by omega) (by omega) (fun g1 => ?_) (fun g1 => ?_)
    · omega
    · have K2 : rn_X12_pays (M + 30) (103, [(3, iv (rkH db sn de sd s (rkR db sn de sd s r) (q : Int) j + (bif rkP db sn j && decide (rkT de sd j = (q : Int)) then (rkR db sn de sd s r) j else 0))), (5, iv ((j : Int))), (4, iv (rkA db sn de sd s (rkR db sn de sd s r) (q : Int) j)), (2, iv ((q : Int))), (0, .ref 56), (1, iv ((r : Int) + 1))], [iv ((bif rkP db sn j && decide (rkO de sd j = (q : Int)) then rkD de sd s (rkR db sn de sd s r) j else 0)), iv (rkA db sn de sd s (rkR db sn de sd s r) (q : Int) j)], (C ++ rL (ro_ th tr db sn dm sm ty nx tk pl va fa lr ri) s kp ik tn de sd dd sr tx pa)) Q := by
        refine r_add rfl ?_
        refine r_isw (lv' := [(4, _), (3, _), (5, _), (2, _), (0, _), (1, _)]) rfl rfl rfl ?_
        refine r_inc (lv' := [(5, _), (4, _), (3, _), (2, _), (0, _), (1, _)]) rfl rfl rfl rfl ?_
        refine r_goto rfl rfl ?_
        exact rn_up (by omega) (ih (j + 1) (by omega))
      have K1 : rn_X12_pays (M + 70) (69, [(5, iv ((j : Int))), (4, iv (rkA db sn de sd s (rkR db sn de sd s r) (q : Int) j)), (3, iv (rkH db sn de sd s (rkR db sn de sd s r) (q : Int) j)), (2, iv ((q : Int))), (0, .ref 56), (1, iv ((r : Int) + 1))], [iv ((bif rkP db sn j && decide (rkT de sd j = (q : Int)) then (rkR db sn de sd s r) j else 0)), iv (rkH db sn de sd s (rkR db sn de sd s r) (q : Int) j)], (C ++ rL (ro_ th tr db sn dm sm ty nx tk pl va fa lr ri) s kp ik tn de sd dd sr tx pa)) Q := by
        refine r_add rfl ?_
        refine r_is (lv' := [(3, _), (5, _), (4, _), (2, _), (0, _), (1, _)]) rfl rfl rfl ?_
        refine r_ilw rfl rfl ?_
        refine r_al rfl rfl ?_
        refine r_ilw rfl rfl ?_
        refine r_v2s rfl rfl (rg_56 hC) rfl (c_isPaperR hC (by omega) hd hn) ?_
        refine r_zeq rfl rfl (bi_r _) (fun g2 => ?_) (fun g2 => ?_)
        · refine r_ic rfl ?_
          have e : (bif rkP db sn j && decide (rkO de sd j = (q : Int)) then rkD de sd s (rkR db sn de sd s r) j else 0) = 0 := by rw [bi_0 g2, Bool.false_and]; rfl
          rw [e] at K2
          exact rn_up (N := M + 30) (by omega) K2
        · refine r_al rfl rfl ?_
          refine r_ilw rfl rfl ?_
          refine r_v2s rfl rfl (rg_56 hC) rfl (c_ofWhomR hC (by omega)) ?_
          refine r_il rfl rfl ?_
          refine r_cne rfl rfl (by have := rkO_r hE hS (show j < 26 by omega); omega) (by omega) (fun g3 => ?_) (fun g3 => ?_)
          · refine r_ic rfl ?_
            have e : (bif rkP db sn j && decide (rkO de sd j = (q : Int)) then rkD de sd s (rkR db sn de sd s r) j else 0) = 0 := by rw [decide_eq_false g3, Bool.and_false]; rfl
            rw [e] at K2
            exact rn_up (N := M + 30) (by omega) K2
          · have hpj : rkP db sn j = true := bi_1 g2
            refine r_al rfl rfl ?_
            refine r_il rfl rfl ?_
            refine r_ilw rfl rfl ?_
            refine r_v3s rfl rfl (rg_56 hC) rfl (c_dueR hC hRS hE hS hX hO hd hn (by omega) hpj hr (rkR_r hd.2 hRS hE hS hX r) hrow) ?_
            refine r_goto rfl rfl ?_
            have e : (bif rkP db sn j && decide (rkO de sd j = (q : Int)) then rkD de sd s (rkR db sn de sd s r) j else 0) = rkD de sd s (rkR db sn de sd s r) j := by rw [hpj, decide_eq_true g3]; rfl
            rw [e] at K2
            exact rn_up (N := M + 30) (by omega) K2
      refine r_il rfl rfl ?_
      refine r_al rfl rfl ?_
      refine r_ilw rfl rfl ?_
      refine r_v2s rfl rfl (rg_56 hC) rfl (c_isPaperR hC (by omega) hd hn) ?_
      refine r_zeq rfl rfl (bi_r _) (fun g2 => ?_) (fun g2 => ?_)
      · refine r_ic rfl ?_
        have e : (bif rkP db sn j && decide (rkT de sd j = (q : Int)) then (rkR db sn de sd s r) j else 0) = 0 := by rw [bi_0 g2, Bool.false_and]; rfl
        rw [e] at K1
        exact rn_up (N := M + 70) (by omega) K1
      · refine r_al rfl rfl ?_
        refine r_ilw rfl rfl ?_
        refine r_v2s rfl rfl (rg_56 hC) rfl (c_toWhomR hC (by omega) hS) ?_
        refine r_il rfl rfl ?_
        refine r_cne rfl rfl (as_r _) (by omega) (fun g3 => ?_) (fun g3 => ?_)
        · refine r_ic rfl ?_
          have e : (bif rkP db sn j && decide (rkT de sd j = (q : Int)) then (rkR db sn de sd s r) j else 0) = 0 := by rw [decide_eq_false g3, Bool.and_false]; rfl
          rw [e] at K1
          exact rn_up (N := M + 70) (by omega) K1
        · have hpj : rkP db sn j = true := bi_1 g2
          have hpv : (pa (Int.toNat (26 * ((r : Int) + 1 - 1) + (j : Int)))).toInt = (rkR db sn de sd s r) j := by
            rw [show Int.toNat (26 * ((r : Int) + 1 - 1) + (j : Int)) = 26 * r + j by omega, hrow j (by omega) hpj]
            have := rkR_r (sn := sn) hd.2 hRS hE hS hX r j (by omega)
            exact iv_to ⟨by omega, by omega⟩
          refine r_al rfl rfl ?_
          refine r_gf rfl rfl (rg_56 hC) rfl ?_
          refine r_bi rfl (by decide) ?_
          refine r_il rfl rfl ?_
          refine r_ic rfl ?_
          refine r_sub rfl ?_
          refine r_mul rfl ?_
          refine r_ilw rfl rfl ?_
          refine r_add rfl ?_
          refine r_ia rfl (rg_66 hC) (by omega) (by omega) (by decide) ?_
          refine r_eq hpv ?_
          refine r_goto rfl rfl ?_
          have e : (bif rkP db sn j && decide (rkT de sd j = (q : Int)) then (rkR db sn de sd s r) j else 0) = (rkR db sn de sd s r) j := by rw [hpj, decide_eq_true g3]; rfl
          rw [e] at K1
          exact rn_up (N := M + 70) (by omega) K1
theorem py_wr (hC : C.length = 56) (hRS : RS s) (hE : DEr de) (hS : SDr sd) (hX : EXx s de sd) (hO : OVx db sn sd) (hd : 0 ≤ db ∧ db ≤ 10) (hn : 0 ≤ sn ∧ sn ≤ 16) (hr : r < 200) {q : Nat} (hq : q < 8) (k : ∀ pa : Nat → Int32, rkJ db sn de sd s (r + 1) q 26 pa → rn_X12_pays N (190, [(5, iv (((26 : Nat) : Int))), (4, iv (rkA db sn de sd s (rkR db sn de sd s r) (q : Int) 26)), (3, iv (rkH db sn de sd s (rkR db sn de sd s r) (q : Int) 26)), (2, iv ((q : Int))), (0, .ref 56), (1, iv ((r : Int) + 1))], [], (C ++ rL (ro_ th tr db sn dm sm ty nx tk pl va fa lr ri) s kp ik tn de sd dd sr tx pa)) Q) : ∀ (m j : Nat) (pa : Nat → Int32), j + m = 26 → rkJ db sn de sd s (r + 1) q j pa → rn_X12_pays (N + 60 * m + 60) (115, [(5, iv ((j : Int))), (4, iv (rkA db sn de sd s (rkR db sn de sd s r) (q : Int) 26)), (3, iv (rkH db sn de sd s (rkR db sn de sd s r) (q : Int) 26)), (2, iv ((q : Int))), (0, .ref 56), (1, iv ((r : Int) + 1))], [], (C ++ rL (ro_ th tr db sn dm sm ty nx tk pl va fa lr ri) s kp ik tn de sd dd sr tx pa)) Q := by
  intro m
  induction m with
  | zero =>
    intro j pa hj hJ
    have hj : j = 26 := by omega
    subst hj
    refine rn_up (N := N + 60) (by omega) ?_
    refine r_ilw rfl rfl ?_
    refine r_bi rfl (by decide) ?_
    refine r_cge rfl rfl (by omega) (by omega) (fun g1 => ?_) (fun g1 => ?_)
    · exact rn_up (by omega) (k pa hJ)
    · omega
  | succ m ih =>
    intro j pa hj hJ
    obtain ⟨M, hM⟩ : ∃ M, M = N + 60 * m + 60 := ⟨_, rfl⟩
    rw [← hM] at ih
    refine rn_up (N := M + 60) (by omega) ?_
    refine r_ilw rfl rfl ?_
    refine r_bi rfl (by decide) ?_
    refine r_cge rfl rfl (by omega) (by omega) (fun g1 => ?_) (fun g1 => ?_)
    · omega
    · refine r_al rfl rfl ?_
      refine r_ilw rfl rfl ?_
      refine r_v2s rfl rfl (rg_56 hC) rfl (c_isPaperR hC (by omega) hd hn) ?_
      refine r_zeq rfl rfl (bi_r _) (fun g2 => ?_) (fun g2 => ?_)
      · refine r_inc (lv' := [(5, _), (4, _), (3, _), (2, _), (0, _), (1, _)]) rfl rfl rfl rfl ?_
        refine r_goto rfl rfl ?_
        exact rn_up (by omega) (ih (j + 1) pa (by omega) (rkJ_n hJ (Or.inl (bi_0 g2))))
      · refine r_al rfl rfl ?_
        refine r_ilw rfl rfl ?_
        refine r_v2s rfl rfl (rg_56 hC) rfl (c_ofWhomR hC (by omega)) ?_
        refine r_il rfl rfl ?_
        refine r_cne rfl rfl (by have := rkO_r hE hS (show j < 26 by omega); omega) (by omega) (fun g3 => ?_) (fun g3 => ?_)
        · refine r_inc (lv' := [(5, _), (4, _), (3, _), (2, _), (0, _), (1, _)]) rfl rfl rfl rfl ?_
          refine r_goto rfl rfl ?_
          exact rn_up (by omega) (ih (j + 1) pa (by omega) (rkJ_n hJ (Or.inr g3)))
        · have hpj : rkP db sn j = true := bi_1 g2
          have hR := rkR_r (sn := sn) hd.2 hRS hE hS hX r
          have hD := rkD_r hRS hE hS hX hR (show j < 26 by omega)
          have hH := rkH_r (db := db) (sn := sn) (de := de) (sd := sd) hRS hR (show 0 ≤ (q : Int) ∧ (q : Int) ≤ 7 by omega) 26 (Nat.le_refl _)
          have hA := rkA_r (db := db) (sn := sn) hRS hE hS hX hR (p := (q : Int)) 26 (Nat.le_refl _)
          have hV := rkV_r (a := rkA db sn de sd s (rkR db sn de sd s r) (q : Int) 26) hD hH.1
          have eV : rkV (rkD de sd s (rkR db sn de sd s r) j) (rkH db sn de sd s (rkR db sn de sd s r) (q : Int) 26) (rkA db sn de sd s (rkR db sn de sd s r) (q : Int) 26) = rkR db sn de sd s (r + 1) j := by
            show _ = rkY db sn de sd s (rkR db sn de sd s r) j
            unfold rkY
            rw [hpj, g3]
            rfl
          refine r_al rfl rfl ?_
          refine r_il rfl rfl ?_
          refine r_ilw rfl rfl ?_
          refine r_v3s rfl rfl (rg_56 hC) rfl (c_dueR hC hRS hE hS hX hO hd hn (by omega) hpj hr (rkR_r hd.2 hRS hE hS hX r) (fun k hk hP => hJ.1.2 r k (by omega) hk hP)) ?_
          refine r_isw (lv' := [(6, _), (5, _), (4, _), (3, _), (2, _), (0, _), (1, _)]) rfl rfl rfl ?_
          refine r_al rfl rfl ?_
          refine r_gf rfl rfl (rg_56 hC) rfl ?_
          refine r_bi rfl (by decide) ?_
          refine r_il rfl rfl ?_
          refine r_mul rfl ?_
          refine r_ilw rfl rfl ?_
          refine r_add rfl ?_
          refine r_il rfl rfl ?_
          refine r_ilw rfl rfl ?_
          have K : rn_X12_pays (M + 20) (183, [(6, iv (rkD de sd s (rkR db sn de sd s r) j)), (5, iv ((j : Int))), (4, iv (rkA db sn de sd s (rkR db sn de sd s r) (q : Int) 26)), (3, iv (rkH db sn de sd s (rkR db sn de sd s r) (q : Int) 26)), (2, iv ((q : Int))), (0, .ref 56), (1, iv ((r : Int) + 1))], [iv (rkV (rkD de sd s (rkR db sn de sd s r) j) (rkH db sn de sd s (rkR db sn de sd s r) (q : Int) 26) (rkA db sn de sd s (rkR db sn de sd s r) (q : Int) 26)), iv (((26) * ((r : Int) + 1)) + ((j : Int))), .ref 66], (C ++ rL (ro_ th tr db sn dm sm ty nx tk pl va fa lr ri) s kp ik tn de sd dd sr tx pa)) Q := by
            refine r_ias rfl (rg_66 hC) (by omega) (by omega) (by decide) (rs_66 hC) ?_
            refine r_inc (lv' := [(5, _), (6, _), (4, _), (3, _), (2, _), (0, _), (1, _)]) rfl rfl rfl rfl ?_
            refine r_goto rfl rfl ?_
            refine rn_LE (a := [(5, iv ((j : Int) + 1)), (4, iv (rkA db sn de sd s (rkR db sn de sd s r) (q : Int) 26)), (3, iv (rkH db sn de sd s (rkR db sn de sd s r) (q : Int) 26)), (2, iv ((q : Int))), (0, .ref 56), (1, iv ((r : Int) + 1))]) ⟨(List.forall_mem_cons.mpr ⟨List.mem_cons_self, (List.forall_mem_cons.mpr ⟨(List.mem_cons_of_mem _ (List.mem_cons_of_mem _ List.mem_cons_self)), (List.forall_mem_cons.mpr ⟨(List.mem_cons_of_mem _ (List.mem_cons_of_mem _ (List.mem_cons_of_mem _ List.mem_cons_self))), (List.forall_mem_cons.mpr ⟨(List.mem_cons_of_mem _ (List.mem_cons_of_mem _ (List.mem_cons_of_mem _ (List.mem_cons_of_mem _ List.mem_cons_self)))), (List.forall_mem_cons.mpr ⟨(List.mem_cons_of_mem _ (List.mem_cons_of_mem _ (List.mem_cons_of_mem _ (List.mem_cons_of_mem _ (List.mem_cons_of_mem _ List.mem_cons_self))))), (List.forall_mem_cons.mpr ⟨(List.mem_cons_of_mem _ (List.mem_cons_of_mem _ (List.mem_cons_of_mem _ (List.mem_cons_of_mem _ (List.mem_cons_of_mem _ (List.mem_cons_of_mem _ List.mem_cons_self)))))), (fun _ h => absurd h List.not_mem_nil)⟩)⟩)⟩)⟩)⟩)⟩), (by show List.Nodup [5, 4, 3, 2, 0, 1]; decide), (by show List.Nodup [5, 6, 4, 3, 2, 0, 1]; decide)⟩ ?_
            have hJ2 := rkJ_s (by omega) (by omega) hV hJ eV
            rw [show 26 * (r + 1) + j = Int.toNat (26 * ((r : Int) + 1) + (j : Int)) by omega] at hJ2
            exact rn_up (by omega) (ih (j + 1) _ (by omega) hJ2)
          refine r_clt rfl rfl (by omega) (by omega) (fun g4 => ?_) (fun g4 => ?_)
          · refine r_ilw rfl rfl ?_
            refine r_i2l rfl ?_
            refine r_il rfl rfl ?_
            refine r_i2l rfl ?_
            refine r_lmul rfl ?_
            refine r_ilw rfl rfl ?_
            refine r_i2l rfl ?_
            refine r_ldq rfl rfl hD (by omega) (by omega) ?_
            have e : rkV (rkD de sd s (rkR db sn de sd s r) j) (rkH db sn de sd s (rkR db sn de sd s r) (q : Int) 26) (rkA db sn de sd s (rkR db sn de sd s r) (q : Int) 26) = rkD de sd s (rkR db sn de sd s r) j * rkH db sn de sd s (rkR db sn de sd s r) (q : Int) 26 / rkA db sn de sd s (rkR db sn de sd s r) (q : Int) 26 := by unfold rkV; rw [decide_eq_false (by omega)]; rfl
            rw [e] at K
            exact rn_up (N := M + 20) (by omega) K
          · refine r_ilw rfl rfl ?_
            refine r_goto rfl rfl ?_
            have e : rkV (rkD de sd s (rkR db sn de sd s r) j) (rkH db sn de sd s (rkR db sn de sd s r) (q : Int) 26) (rkA db sn de sd s (rkR db sn de sd s r) (q : Int) 26) = rkD de sd s (rkR db sn de sd s r) j := by unfold rkV; rw [decide_eq_true (by omega)]; rfl
            rw [e] at K
            exact rn_up (N := M + 20) (by omega) K
theorem py_lp (hC : C.length = 56) (hRS : RS s) (hE : DEr de) (hS : SDr sd) (hX : EXx s de sd) (hO : OVx db sn sd) (hd : 0 ≤ db ∧ db ≤ 10) (hn : 0 ≤ sn ∧ sn ≤ 16) (hr : r < 200) (k : ∀ pa : Nat → Int32, rkJ db sn de sd s (r + 1) 8 0 pa → rn_X12_pays N (196, [(2, iv (((8 : Nat) : Int))), (0, .ref 56), (1, iv ((r : Int) + 1))], [], (C ++ rL (ro_ th tr db sn dm sm ty nx tk pl va fa lr ri) s kp ik tn de sd dd sr tx pa)) Q) : ∀ (m q : Nat) (pa : Nat → Int32), q + m = 8 → rkJ db sn de sd s (r + 1) q 0 pa → rn_X12_pays (N + 6000 * m + 6000) (2, [(2, iv ((q : Int))), (0, .ref 56), (1, iv ((r : Int) + 1))], [], (C ++ rL (ro_ th tr db sn dm sm ty nx tk pl va fa lr ri) s kp ik tn de sd dd sr tx pa)) Q := by
  intro m
  induction m with
  | zero =>
    intro q pa hj hJ
    have hj : q = 8 := by omega
    subst hj
    refine rn_up (N := N + 6000) (by omega) ?_
    refine r_il rfl rfl ?_
    refine r_bi rfl (by decide) ?_
    refine r_cge rfl rfl (by omega) (by omega) (fun g1 => ?_) (fun g1 => ?_)
    · exact rn_up (by omega) (k pa hJ)
    · omega
  | succ m ih =>
    intro q pa hj hJ
    obtain ⟨M, hM⟩ : ∃ M, M = N + 6000 * m + 6000 := ⟨_, rfl⟩
    rw [← hM] at ih
    refine rn_up (N := M + 6000) (by omega) ?_
    refine r_il rfl rfl ?_
    refine r_bi rfl (by decide) ?_
    refine r_cge rfl rfl (by omega) (by omega) (fun g1 => ?_) (fun g1 => ?_)
    · omega
    · refine r_al rfl rfl ?_
      refine r_gf rfl rfl (rg_56 hC) rfl ?_
      refine r_bi rfl (by decide) ?_
      refine r_il rfl rfl ?_
      refine r_add rfl ?_
      refine r_ia rfl (rg_57 hC) (by omega) (by omega) (by decide) ?_
      refine r_is (lv' := [(3, _), (2, _), (0, _), (1, _)]) rfl rfl rfl ?_
      refine r_ic rfl ?_
      refine r_isw (lv' := [(4, _), (3, _), (2, _), (0, _), (1, _)]) rfl rfl rfl ?_
      refine r_ic rfl ?_
      refine r_isw (lv' := [(5, _), (4, _), (3, _), (2, _), (0, _), (1, _)]) rfl rfl rfl ?_
      refine rn_up (N := (M + 1700) + 120 * 26 + 120) (by omega) (py_in (N := M + 1700) (q := q) hC hRS hE hS hX hO hd hn hr (by omega) (fun k hk hP => hJ.1.2 r k (by omega) hk hP) ?_ 26 0 rfl)
      refine r_ic rfl ?_
      refine r_isw (lv' := [(5, _), (4, _), (3, _), (2, _), (0, _), (1, _)]) rfl rfl rfl ?_
      refine rn_up (N := (M + 20) + 60 * 26 + 60) (by omega) (py_wr (N := M + 20) (q := q) hC hRS hE hS hX hO hd hn hr (by omega) (fun pa hJ => ?_) 26 0 pa rfl hJ)
      refine r_inc (lv' := [(2, _), (5, _), (4, _), (3, _), (0, _), (1, _)]) rfl rfl rfl rfl ?_
      refine r_goto rfl rfl ?_
      refine rn_LE (a := [(2, iv ((q : Int) + 1)), (0, .ref 56), (1, iv ((r : Int) + 1))]) ⟨(List.forall_mem_cons.mpr ⟨List.mem_cons_self, (List.forall_mem_cons.mpr ⟨(List.mem_cons_of_mem _ (List.mem_cons_of_mem _ (List.mem_cons_of_mem _ (List.mem_cons_of_mem _ List.mem_cons_self)))), (List.forall_mem_cons.mpr ⟨(List.mem_cons_of_mem _ (List.mem_cons_of_mem _ (List.mem_cons_of_mem _ (List.mem_cons_of_mem _ (List.mem_cons_of_mem _ List.mem_cons_self))))), (fun _ h => absurd h List.not_mem_nil)⟩)⟩)⟩), (by show List.Nodup [2, 0, 1]; decide), (by show List.Nodup [2, 5, 4, 3, 0, 1]; decide)⟩ ?_
      exact rn_up (by omega) (ih (q + 1) pa (by omega) (rkJ_p hJ))
theorem c_paysR (hC : C.length = 56) (hRS : RS s) (hE : DEr de) (hS : SDr sd) (hX : EXx s de sd) (hO : OVx db sn sd) (hd : 0 ≤ db ∧ db ≤ 10) (hn : 0 ≤ sn ∧ sn ≤ 16) (hr : r < 200) (hI : rkI db sn de sd s (r + 1) pa) : ∃ pa' : Nat → Int32, sX12_pays [.ref 56, iv ((r : Int) + 1)] (C ++ rL (ro_ th tr db sn dm sm ty nx tk pl va fa lr ri) s kp ik tn de sd dd sr tx pa) = some (none, (C ++ rL (ro_ th tr db sn dm sm ty nx tk pl va fa lr ri) s kp ik tn de sd dd sr tx pa')) ∧ rkI db sn de sd s (r + 2) pa' := by
  have main : rn_X12_pays (20 + 6000 * 8 + 6000 + 20) (0, [(0, .ref 56), (1, iv ((r : Int) + 1))], [], (C ++ rL (ro_ th tr db sn dm sm ty nx tk pl va fa lr ri) s kp ik tn de sd dd sr tx pa)) (fun x => ∃ pa' : Nat → Int32, x = (none, (C ++ rL (ro_ th tr db sn dm sm ty nx tk pl va fa lr ri) s kp ik tn de sd dd sr tx pa')) ∧ rkI db sn de sd s (r + 2) pa') := by
    refine r_ic rfl ?_
    refine r_is (lv' := [(2, _), (0, _), (1, _)]) rfl rfl rfl ?_
    refine rn_up (N := 20 + 6000 * 8 + 6000) (by decide) (py_lp (N := 20) hC hRS hE hS hX hO hd hn hr (fun pa hJ => ?_) 8 0 pa rfl (rkJ_0 hE hS hI))
    exact r_retv rfl rfl ⟨pa, rfl, rkJ_e hE hS hJ⟩
  obtain ⟨x, h1, pa', h2, h3⟩ := rn_S (vs := [.ref 56, iv ((r : Int) + 1)]) rfl (rn_up (N := 20 + 6000 * 8 + 6000 + 20) (M := mm_fuel) (by decide) main)
  have h1 : sX12_pays [.ref 56, iv ((r : Int) + 1)] (C ++ rL (ro_ th tr db sn dm sm ty nx tk pl va fa lr ri) s kp ik tn de sd dd sr tx pa) = some x := h1
  exact ⟨pa', by rw [h1, h2], h3⟩
abbrev rn_X12_isSame (N : Nat) (c : mm_C) (Q : mm_R → Prop) : Prop := rn (mm_gf gLX12) (mm_pf pLX12) (mm_mv vX12_isSame) (mm_mv zX12_isSame) (mm_kc kLX12) mm_gs0 mm_rf0 mm_ro (some .boolean) 4 (mm_ins iX12_isSame) N c Q
theorem sm_lp (hC : C.length = 56) (hRS : RS s) (hE : DEr de) (hS : SDr sd) (hX : EXx s de sd) (hO : OVx db sn sd) (hd : 0 ≤ db ∧ db ≤ 10) (hn : 0 ≤ sn ∧ sn ≤ 16) {a b n : Nat} (ha : a < n) (hb : b < n) (hn2 : n ≤ 201) (hI : rkI db sn de sd s n pa) (k : Q (some (iv (bi (rwS (rkR db sn de sd s) a b 26))), (C ++ rL (ro_ th tr db sn dm sm ty nx tk pl va fa lr ri) s kp ik tn de sd dd sr tx pa))) : ∀ (m j : Nat), j + m = 26 → rwS (rkR db sn de sd s) a b j = true → rn_X12_isSame (60 * m + 60) (2, [(3, iv ((j : Int))), (0, .ref 56), (1, iv ((a : Int))), (2, iv ((b : Int)))], [], (C ++ rL (ro_ th tr db sn dm sm ty nx tk pl va fa lr ri) s kp ik tn de sd dd sr tx pa)) Q := by
  intro m
  induction m with
  | zero =>
    intro j hj hs
    have hj : j = 26 := by omega
    subst hj
    rw [hs] at k
    refine rn_up (N := 60) (by omega) ?_
    refine r_il rfl rfl ?_
    refine r_bi rfl (by decide) ?_
    refine r_cge rfl rfl (by omega) (by omega) (fun g1 => ?_) (fun g1 => ?_)
    · refine r_ic rfl ?_
      exact r_retb rfl rfl (by omega) k
    · omega
  | succ m ih =>
    intro j hj hs
    refine rn_up (N := (60 * m + 60) + 60) (by omega) ?_
    refine r_il rfl rfl ?_
    refine r_bi rfl (by decide) ?_
    refine r_cge rfl rfl (by omega) (by omega) (fun g1 => ?_) (fun g1 => ?_)
    · omega
    · refine r_al rfl rfl ?_
      refine r_il rfl rfl ?_
      refine r_v2s rfl rfl (rg_56 hC) rfl (c_isPaperR hC (by omega) hd hn) ?_
      refine r_zeq rfl rfl (bi_r _) (fun g2 => ?_) (fun g2 => ?_)
      · have e : (rkR db sn de sd s) a j = (rkR db sn de sd s) b j := by rw [rkR_n hd.2 (bi_0 g2), rkR_n hd.2 (bi_0 g2)]
        refine r_inc (lv' := [(3, _), (0, _), (1, _), (2, _)]) rfl rfl rfl rfl ?_
        refine r_goto rfl rfl ?_
        exact rn_up (by omega) (ih (j + 1) (by omega) (rwS_s hs e))
      · have hpj : rkP db sn j = true := bi_1 g2
        have ra := rkR_r (sn := sn) hd.2 hRS hE hS hX a j (by omega)
        have rb := rkR_r (sn := sn) hd.2 hRS hE hS hX b j (by omega)
        have ea : (pa (Int.toNat (26 * (a : Int) + (j : Int)))).toInt = (rkR db sn de sd s) a j := by
          rw [show Int.toNat (26 * (a : Int) + (j : Int)) = 26 * a + j by omega, hI.2 a j ha (by omega) hpj]
          exact iv_to ⟨by omega, by omega⟩
        have eb : (pa (Int.toNat (26 * (b : Int) + (j : Int)))).toInt = (rkR db sn de sd s) b j := by
          rw [show Int.toNat (26 * (b : Int) + (j : Int)) = 26 * b + j by omega, hI.2 b j hb (by omega) hpj]
          exact iv_to ⟨by omega, by omega⟩
        refine r_al rfl rfl ?_
        refine r_gf rfl rfl (rg_56 hC) rfl ?_
        refine r_bi rfl (by decide) ?_
        refine r_il rfl rfl ?_
        refine r_mul rfl ?_
        refine r_il rfl rfl ?_
        refine r_add rfl ?_
        refine r_ia rfl (rg_66 hC) (by omega) (by omega) (by decide) ?_
        refine r_al rfl rfl ?_
        refine r_gf rfl rfl (rg_56 hC) rfl ?_
        refine r_bi rfl (by decide) ?_
        refine r_il rfl rfl ?_
        refine r_mul rfl ?_
        refine r_il rfl rfl ?_
        refine r_add rfl ?_
        refine r_ia rfl (rg_66 hC) (by omega) (by omega) (by decide) ?_
        refine r_ceq rfl rfl (as_r _) (as_r _) (fun g3 => ?_) (fun g3 => ?_)
        · rw [ea, eb] at g3
          refine r_inc (lv' := [(3, _), (0, _), (1, _), (2, _)]) rfl rfl rfl rfl ?_
          refine r_goto rfl rfl ?_
          exact rn_up (by omega) (ih (j + 1) (by omega) (rwS_s hs g3))
        · rw [ea, eb] at g3
          rw [rwS_f (k := j) (by omega) g3] at k
          refine r_ic rfl ?_
          exact r_retb rfl rfl (by omega) k
theorem c_isSameR (hC : C.length = 56) (hRS : RS s) (hE : DEr de) (hS : SDr sd) (hX : EXx s de sd) (hO : OVx db sn sd) (hd : 0 ≤ db ∧ db ≤ 10) (hn : 0 ≤ sn ∧ sn ≤ 16) {a b n : Nat} (ha : a < n) (hb : b < n) (hn2 : n ≤ 201) (hI : rkI db sn de sd s n pa) : sX12_isSame [.ref 56, iv (a : Int), iv (b : Int)] (C ++ rL (ro_ th tr db sn dm sm ty nx tk pl va fa lr ri) s kp ik tn de sd dd sr tx pa) = some (some (iv (bi (rwS (rkR db sn de sd s) a b 26))), (C ++ rL (ro_ th tr db sn dm sm ty nx tk pl va fa lr ri) s kp ik tn de sd dd sr tx pa)) := by
  have main : ∀ Q : mm_R → Prop, Q (some (iv (bi (rwS (rkR db sn de sd s) a b 26))), (C ++ rL (ro_ th tr db sn dm sm ty nx tk pl va fa lr ri) s kp ik tn de sd dd sr tx pa)) → rn_X12_isSame (60 * 26 + 60 + 20) (0, [(0, .ref 56), (1, iv ((a : Int))), (2, iv ((b : Int)))], [], (C ++ rL (ro_ th tr db sn dm sm ty nx tk pl va fa lr ri) s kp ik tn de sd dd sr tx pa)) Q := by
    intro Q hQ
    refine r_ic rfl ?_
    refine r_is (lv' := [(3, _), (0, _), (1, _), (2, _)]) rfl rfl rfl ?_
    exact rn_up (N := 60 * 26 + 60) (by decide) (sm_lp hC hRS hE hS hX hO hd hn ha hb hn2 hI hQ 26 0 rfl rfl)
  obtain ⟨x, h1, h2⟩ := rn_S (vs := [.ref 56, iv (a : Int), iv (b : Int)]) (Q := fun x => x = (some (iv (bi (rwS (rkR db sn de sd s) a b 26))), (C ++ rL (ro_ th tr db sn dm sm ty nx tk pl va fa lr ri) s kp ik tn de sd dd sr tx pa))) rfl (rn_up (N := 60 * 26 + 60 + 20) (M := mm_fuel) (by decide) (main (fun x => x = (some (iv (bi (rwS (rkR db sn de sd s) a b 26))), (C ++ rL (ro_ th tr db sn dm sm ty nx tk pl va fa lr ri) s kp ik tn de sd dd sr tx pa))) rfl))
  have h1 : sX12_isSame [.ref 56, iv (a : Int), iv (b : Int)] (C ++ rL (ro_ th tr db sn dm sm ty nx tk pl va fa lr ri) s kp ik tn de sd dd sr tx pa) = some x := h1
  rw [h1, h2]
abbrev rn_X12_goesRound (N : Nat) (c : mm_C) (Q : mm_R → Prop) : Prop := rn (mm_gf gLX12) (mm_pf pLX12) (mm_mv vX12_goesRound) (mm_mv zX12_goesRound) (mm_kc kLX12) mm_gs0 mm_rf0 mm_ro none 2 (mm_ins iX12_goesRound) N c Q
theorem go_0 (hC : C.length = 56) (hRS : RS s) (hE : DEr de) (hS : SDr sd) (hX : EXx s de sd) (hO : OVx db sn sd) (hd : 0 ≤ db ∧ db ≤ 10) (hn : 0 ≤ sn ∧ sn ≤ 16) (k : ∀ pa : Nat → Int32, rk0 db de s 26 pa → rn_X12_goesRound N (37, [(1, iv (((26 : Nat) : Int))), (0, .ref 56)], [], (C ++ rL (ro_ th tr db sn dm sm ty nx tk pl va fa lr ri) s kp ik tn de sd dd sr tx pa)) Q) : ∀ (m j : Nat) (pa : Nat → Int32), j + m = 26 → rk0 db de s j pa → rn_X12_goesRound (N + 40 * m + 40) (2, [(1, iv ((j : Int))), (0, .ref 56)], [], (C ++ rL (ro_ th tr db sn dm sm ty nx tk pl va fa lr ri) s kp ik tn de sd dd sr tx pa)) Q := by
  intro m
  induction m with
  | zero =>
    intro j pa hj hJ
    have hj : j = 26 := by omega
    subst hj
    refine rn_up (N := N + 40) (by omega) ?_
    refine r_il rfl rfl ?_
    refine r_bi rfl (by decide) ?_
    refine r_cge rfl rfl (by omega) (by omega) (fun g1 => ?_) (fun g1 => ?_)
    · exact rn_up (by omega) (k pa hJ)
    · omega
  | succ m ih =>
    intro j pa hj hJ
    obtain ⟨M, hM⟩ : ∃ M, M = N + 40 * m + 40 := ⟨_, rfl⟩
    rw [← hM] at ih
    refine rn_up (N := M + 40) (by omega) ?_
    refine r_il rfl rfl ?_
    refine r_bi rfl (by decide) ?_
    refine r_cge rfl rfl (by omega) (by omega) (fun g1 => ?_) (fun g1 => ?_)
    · omega
    · refine r_al rfl rfl ?_
      refine r_gf rfl rfl (rg_56 hC) rfl ?_
      refine r_il rfl rfl ?_
      refine r_il rfl rfl ?_
      refine r_al rfl rfl ?_
      refine r_gf rfl rfl (rg_56 hC) rfl ?_
      refine r_cge rfl rfl (by omega) (by omega) (fun g2 => ?_) (fun g2 => ?_)
      · refine r_ic rfl ?_
        refine r_ias rfl (rg_66 hC) (by omega) (by omega) (by decide) (rs_66 hC) ?_
        refine r_inc (lv' := [(1, _), (0, _)]) rfl rfl rfl rfl ?_
        refine r_goto rfl rfl ?_
        exact rn_up (by omega) (ih (j + 1) _ (by omega) (rk0_s (by decide) hJ (by rw [decide_eq_false (by omega)]; rfl)))
      · have hf := fR_9 hRS hE hX (show 0 ≤ (j : Int) ∧ (j : Int) ≤ 9 by omega)
        refine r_al rfl rfl ?_
        refine r_il rfl rfl ?_
        refine r_v2s rfl rfl (rg_56 hC) rfl (c_restR hC ⟨by omega, by omega⟩) ?_
        refine r_goto rfl rfl ?_
        refine r_ias rfl (rg_66 hC) (by omega) (by omega) (by decide) (rs_66 hC) ?_
        refine r_inc (lv' := [(1, _), (0, _)]) rfl rfl rfl rfl ?_
        refine r_goto rfl rfl ?_
        exact rn_up (by omega) (ih (j + 1) _ (by omega) (rk0_s hf hJ (by rw [decide_eq_true (by omega)]; rfl)))
theorem go_s (hC : C.length = 56) (hRS : RS s) (hE : DEr de) (hS : SDr sd) (hX : EXx s de sd) (hO : OVx db sn sd) (hd : 0 ≤ db ∧ db ≤ 10) (hn : 0 ≤ sn ∧ sn ≤ 16) (hn2 : n < 200) (hI : rkI db sn de sd s (n + 2) pa) (k : rn_X12_goesRound N (137, [(0, .ref 56)], [], (C ++ rL (ro_ th tr db sn dm sm ty nx tk pl va fa (((n : Int)) + (1)) (rwO (rkR db sn de sd s) (n + 1) (n + 1))) s kp ik tn de sd dd sr tx pa)) Q) : ∀ (m j : Nat), j + m = n + 1 → rn_X12_goesRound (N + 50 * m + 50) (87, [(1, iv ((j : Int))), (0, .ref 56)], [], (C ++ rL (ro_ th tr db sn dm sm ty nx tk pl va fa (((n : Int)) + (1)) (rwO (rkR db sn de sd s) (n + 1) j)) s kp ik tn de sd dd sr tx pa)) Q := by
  intro m
  induction m with
  | zero =>
    intro j hj
    have hj : j = n + 1 := by omega
    subst hj
    refine rn_up (N := N + 50) (by omega) ?_
    refine r_il rfl rfl ?_
    refine r_al rfl rfl ?_
    refine r_gf rfl rfl (rg_56 hC) rfl ?_
    refine r_cge rfl rfl (by omega) (by omega) (fun g1 => ?_) (fun g1 => ?_)
    · refine rn_LE (a := [(0, .ref 56)]) ⟨(List.forall_mem_cons.mpr ⟨(List.mem_cons_of_mem _ List.mem_cons_self), (fun _ h => absurd h List.not_mem_nil)⟩), (by show List.Nodup [0]; decide), (by show List.Nodup [1, 0]; decide)⟩ ?_
      exact rn_up (by omega) k
    · omega
  | succ m ih =>
    intro j hj
    obtain ⟨M, hM⟩ : ∃ M, M = N + 50 * m + 50 := ⟨_, rfl⟩
    rw [← hM] at ih
    have hMN : N ≤ M := by omega
    have hro := rwO_r (R := (rkR db sn de sd s)) (n := n + 1) j (by omega)
    refine rn_up (N := M + 50) (by omega) ?_
    refine r_il rfl rfl ?_
    refine r_al rfl rfl ?_
    refine r_gf rfl rfl (rg_56 hC) rfl ?_
    refine r_cge rfl rfl (by omega) (by omega) (fun g1 => ?_) (fun g1 => ?_)
    · omega
    · refine r_al rfl rfl ?_
      refine r_gf rfl rfl (rg_56 hC) rfl ?_
      refine r_bi rfl (by decide) ?_
      refine r_cne rfl rfl (by omega) (by decide) (fun g2 => ?_) (fun g2 => ?_)
      · refine rn_LE (a := [(0, .ref 56)]) ⟨(List.forall_mem_cons.mpr ⟨(List.mem_cons_of_mem _ List.mem_cons_self), (fun _ h => absurd h List.not_mem_nil)⟩), (by show List.Nodup [0]; decide), (by show List.Nodup [1, 0]; decide)⟩ ?_
        have e := rwO_st g2 (m + 1)
        rw [show j + (m + 1) = n + 1 by omega] at e
        rw [e] at k
        exact rn_up (by omega) k
      · refine r_al rfl rfl ?_
        refine r_al rfl rfl ?_
        refine r_il rfl rfl ?_
        refine r_al rfl rfl ?_
        refine r_gf rfl rfl (rg_56 hC) rfl ?_
        refine r_v3s rfl rfl (rg_56 hC) rfl (c_isSameR (a := j) (b := n + 1) (n := n + 2) hC hRS hE hS hX hO hd hn (by omega) (by omega) (by omega) hI) ?_
        refine r_zeq rfl rfl (bi_r _) (fun g3 => ?_) (fun g3 => ?_)
        · have ih := ih (j + 1) (by omega)
          refine r_bi rfl (by decide) ?_
          refine r_pf rfl rfl (rg_56 hC) rfl (rp_ri hC) ?_
          refine r_inc (lv' := [(1, _), (0, _)]) rfl rfl rfl rfl ?_
          refine r_goto rfl rfl ?_
          have e : rwO (rkR db sn de sd s) (n + 1) (j + 1) = -9 := by show (bif decide (rwO (rkR db sn de sd s) (n + 1) j = -9) then (bif rwS (rkR db sn de sd s) j (n + 1) 26 then ((n + 1 : Nat) : Int) - (j : Int) else -9) else rwO (rkR db sn de sd s) (n + 1) j) = _; rw [decide_eq_true g2, bi_0 g3]; rfl
          rw [e] at ih
          exact rn_up (by omega) ih
        · have ih := ih (j + 1) (by omega)
          refine r_al rfl rfl ?_
          refine r_gf rfl rfl (rg_56 hC) rfl ?_
          refine r_il rfl rfl ?_
          refine r_sub rfl ?_
          refine r_goto rfl rfl ?_
          refine r_pf rfl rfl (rg_56 hC) rfl (rp_ri hC) ?_
          refine r_inc (lv' := [(1, _), (0, _)]) rfl rfl rfl rfl ?_
          refine r_goto rfl rfl ?_
          have e : rwO (rkR db sn de sd s) (n + 1) (j + 1) = ((n : Int)) + (1) - (j : Int) := by show (bif decide (rwO (rkR db sn de sd s) (n + 1) j = -9) then (bif rwS (rkR db sn de sd s) j (n + 1) 26 then ((n + 1 : Nat) : Int) - (j : Int) else -9) else rwO (rkR db sn de sd s) (n + 1) j) = _; rw [decide_eq_true g2, bi_1 g3]; rfl
          rw [e] at ih
          exact rn_up (by omega) ih
theorem go_lp (hC : C.length = 56) (hRS : RS s) (hE : DEr de) (hS : SDr sd) (hX : EXx s de sd) (hO : OVx db sn sd) (hd : 0 ≤ db ∧ db ≤ 10) (hn : 0 ≤ sn ∧ sn ≤ 16) (k : ∀ pa : Nat → Int32, rkI db sn de sd s ((rgo (rkR db sn de sd s) 200 0).1 + 1) pa → rn_X12_goesRound N (140, [(0, .ref 56)], [], (C ++ rL (ro_ th tr db sn dm sm ty nx tk pl va fa ((((rgo (rkR db sn de sd s) 200 0).1 : Nat) : Int)) ((rgo (rkR db sn de sd s) 200 0).2)) s kp ik tn de sd dd sr tx pa)) Q) : ∀ (m n : Nat) (pa : Nat → Int32), n + m = 200 → rgo (rkR db sn de sd s) m n = (rgo (rkR db sn de sd s) 200 0) → rkI db sn de sd s (n + 1) pa → rn_X12_goesRound (N + 11000 * m + 11000) (48, [(0, .ref 56)], [], (C ++ rL (ro_ th tr db sn dm sm ty nx tk pl va fa ((n : Int)) (-9)) s kp ik tn de sd dd sr tx pa)) Q := by
  intro m
  induction m with
  | zero =>
    intro n pa hj hg hI
    have hj : n = 200 := by omega
    subst hj
    rw [← hg] at k
    refine rn_up (N := N + 11000) (by omega) ?_
    refine r_al rfl rfl ?_
    refine r_gf rfl rfl (rg_56 hC) rfl ?_
    refine r_bi rfl (by decide) ?_
    refine r_cne rfl rfl (by decide) (by decide) (fun g1 => ?_) (fun g1 => ?_)
    · exact absurd rfl g1
    · refine r_al rfl rfl ?_
      refine r_gf rfl rfl (rg_56 hC) rfl ?_
      refine r_si rfl (by decide) ?_
      refine r_cge rfl rfl (by decide) (by decide) (fun g2 => ?_) (fun g2 => ?_)
      · exact rn_up (by omega) (k pa hI)
      · exact absurd g2 (by decide)
  | succ m ih =>
    intro n pa hj hg hI
    obtain ⟨M, hM⟩ : ∃ M, M = N + 11000 * m + 11000 := ⟨_, rfl⟩
    rw [← hM] at ih
    have hMN : N ≤ M := by omega
    refine rn_up (N := M + 11000) (by omega) ?_
    refine r_al rfl rfl ?_
    refine r_gf rfl rfl (rg_56 hC) rfl ?_
    refine r_bi rfl (by decide) ?_
    refine r_cne rfl rfl (by decide) (by decide) (fun g1 => ?_) (fun g1 => ?_)
    · exact absurd rfl g1
    · refine r_al rfl rfl ?_
      refine r_gf rfl rfl (rg_56 hC) rfl ?_
      refine r_si rfl (by decide) ?_
      refine r_cge rfl rfl (by omega) (by decide) (fun g2 => ?_) (fun g2 => ?_)
      · omega
      · obtain ⟨pa1, hp1, hI1⟩ := c_paysR (r := n) (lr := ((n : Int)) + (1)) (ri := -9) (C := C) (tr := tr) (th := th) (db := db) (sn := sn) (dm := dm) (sm := sm) (ty := ty) (nx := nx) (tk := tk) (pl := pl) (va := va) (fa := fa) (s := s) (kp := kp) (ik := ik) (tn := tn) (de := de) (sd := sd) (dd := dd) (sr := sr) (tx := tx) (pa := pa) hC hRS hE hS hX hO hd hn (by omega) hI
        refine r_al rfl rfl ?_
        refine r_dup rfl rfl ?_
        refine r_gf rfl rfl (rg_56 hC) rfl ?_
        refine r_ic rfl ?_
        refine r_add rfl ?_
        refine r_pf rfl rfl (rg_56 hC) rfl (rp_lr hC) ?_
        refine r_al rfl rfl ?_
        refine r_al rfl rfl ?_
        refine r_gf rfl rfl (rg_56 hC) rfl ?_
        refine r_v2n rfl rfl (rg_56 hC) rfl hp1 ?_
        refine r_ic rfl ?_
        refine r_is (lv' := [(1, _), (0, _)]) rfl rfl rfl ?_
        refine rn_up (N := (M + 50) + 50 * (n + 1) + 50) (by omega) (go_s (N := M + 50) hC hRS hE hS hX hO hd hn (by omega) hI1 ?_ (n + 1) 0 (by omega))
        refine r_goto rfl rfl ?_
        by_cases q : rwO (rkR db sn de sd s) (n + 1) (n + 1) = -9
        · rw [q]
          exact rn_up (by omega) (ih (n + 1) pa1 (by omega) (by rw [← hg, rgo_n q]) hI1)
        · have hro := rwO_r (R := (rkR db sn de sd s)) (n := n + 1) (n + 1) (Nat.le_refl _)
          rw [← hg, rgo_y q] at k
          refine r_al rfl rfl ?_
          refine r_gf rfl rfl (rg_56 hC) rfl ?_
          refine r_bi rfl (by decide) ?_
          refine r_cne rfl rfl (by omega) (by decide) (fun g5 => ?_) (fun g5 => ?_)
          · exact rn_up (by omega) (k pa1 hI1)
          · exact absurd g5 q
theorem c_goesR (hC : C.length = 56) (hRS : RS s) (hE : DEr de) (hS : SDr sd) (hX : EXx s de sd) (hO : OVx db sn sd) (hd : 0 ≤ db ∧ db ≤ 10) (hn : 0 ≤ sn ∧ sn ≤ 16) (hPA : ∀ j, j < 5226 → i7 (pa j) 0 999) : ∃ pa' : Nat → Int32, sX12_goesRound [.ref 56] (C ++ rL (ro_ th tr db sn dm sm ty nx tk pl va fa lr ri) s kp ik tn de sd dd sr tx pa) = some (none, (C ++ rL (ro_ th tr db sn dm sm ty nx tk pl va fa ((((rgo (rkR db sn de sd s) 200 0).1 : Nat) : Int)) ((rgo (rkR db sn de sd s) 200 0).2)) s kp ik tn de sd dd sr tx pa')) ∧ rkI db sn de sd s ((rgo (rkR db sn de sd s) 200 0).1 + 1) pa' := by
  have main : rn_X12_goesRound (10 + 11000 * 200 + 11000 + 20 + 40 * 26 + 40 + 10) (0, [(0, .ref 56)], [], (C ++ rL (ro_ th tr db sn dm sm ty nx tk pl va fa lr ri) s kp ik tn de sd dd sr tx pa)) (fun x => ∃ pa' : Nat → Int32, x = (none, (C ++ rL (ro_ th tr db sn dm sm ty nx tk pl va fa ((((rgo (rkR db sn de sd s) 200 0).1 : Nat) : Int)) ((rgo (rkR db sn de sd s) 200 0).2)) s kp ik tn de sd dd sr tx pa')) ∧ rkI db sn de sd s ((rgo (rkR db sn de sd s) 200 0).1 + 1) pa') := by
    refine r_ic rfl ?_
    refine r_is (lv' := [(1, _), (0, _)]) rfl rfl rfl ?_
    refine rn_up (N := (10 + 11000 * 200 + 11000 + 20) + 40 * 26 + 40) (by decide) (go_0 (N := 10 + 11000 * 200 + 11000 + 20) hC hRS hE hS hX hO hd hn (fun pa h0 => ?_) 26 0 pa rfl ⟨hPA, fun k hk => by omega⟩)
    refine r_al rfl rfl ?_
    refine r_bi rfl (by decide) ?_
    refine r_pf rfl rfl (rg_56 hC) rfl (rp_ri hC) ?_
    refine r_al rfl rfl ?_
    refine r_ic rfl ?_
    refine r_pf rfl rfl (rg_56 hC) rfl (rp_lr hC) ?_
    refine rn_LE (a := [(0, .ref 56)]) ⟨(List.forall_mem_cons.mpr ⟨(List.mem_cons_of_mem _ List.mem_cons_self), (fun _ h => absurd h List.not_mem_nil)⟩), (by show List.Nodup [0]; decide), (by show List.Nodup [1, 0]; decide)⟩ ?_
    refine rn_up (N := 10 + 11000 * 200 + 11000) (by decide) (go_lp (N := 10) hC hRS hE hS hX hO hd hn (fun pa hI => ?_) 200 0 pa rfl rfl (rk0_e h0))
    exact r_retv rfl rfl ⟨pa, rfl, hI⟩
  obtain ⟨x, h1, pa', h2, h3⟩ := rn_S (vs := [.ref 56]) rfl (rn_up (N := 10 + 11000 * 200 + 11000 + 20 + 40 * 26 + 40 + 10) (M := mm_fuel) (by decide) main)
  have h1 : sX12_goesRound [.ref 56] (C ++ rL (ro_ th tr db sn dm sm ty nx tk pl va fa lr ri) s kp ik tn de sd dd sr tx pa) = some x := h1
  exact ⟨pa', by rw [h1, h2], h3⟩
abbrev rn_X12_rounds (N : Nat) (c : mm_C) (Q : mm_R → Prop) : Prop := rn (mm_gf gLX12) (mm_pf pLX12) (mm_mv vX12_rounds) (mm_mv zX12_rounds) (mm_kc kLX12) mm_gs0 mm_rf0 mm_ro (some .int) 2 (mm_ins iX12_rounds) N c Q
theorem c_roundsR1 (hC : C.length = 56) (hRS : RS s) (hE : DEr de) (hS : SDr sd) (hX : EXx s de sd) (hO : OVx db sn sd) (hd : 0 ≤ db ∧ db ≤ 10) (hn : 0 ≤ sn ∧ sn ≤ 16) (hPA : ∀ j, j < 5226 → i7 (pa j) 0 999) (hr : -2147483648 ≤ a ∧ a ≤ 2147483647) (ha : i3 a 0 1 = true) : ∃ pa' : Nat → Int32, sX12_rounds [.ref 56, iv (a)] (C ++ rL (ro_ th tr db sn dm sm ty nx tk pl va fa lr ri) s kp ik tn de sd dd sr tx pa) = some (some (iv (bif decide (a = 0) then (bif decide ((rgo (rkR db sn de sd s) 200 0).2 = 1) then (((rgo (rkR db sn de sd s) 200 0).1 : Nat) : Int) else -9) else (bif decide ((rgo (rkR db sn de sd s) 200 0).2 = 1) then 0 else (rgo (rkR db sn de sd s) 200 0).2))), (C ++ rL (ro_ (0 : Int) tr db sn dm sm ty nx tk pl va fa ((((rgo (rkR db sn de sd s) 200 0).1 : Nat) : Int)) ((rgo (rkR db sn de sd s) 200 0).2)) s kp ik tn de sd dd sr tx pa')) ∧ (∀ j, j < 5226 → i7 (pa' j) 0 999) := by
  obtain ⟨pa', hg, hI⟩ := c_goesR (C := C) (tr := tr) (th := 0) (db := db) (sn := sn) (dm := dm) (sm := sm) (ty := ty) (nx := nx) (tk := tk) (pl := pl) (va := va) (fa := fa) (lr := lr) (ri := ri) (s := s) (kp := kp) (ik := ik) (tn := tn) (de := de) (sd := sd) (dd := dd) (sr := sr) (tx := tx) (pa := pa) hC hRS hE hS hX hO hd hn hPA
  have hgr := rgo_r (R := (rkR db sn de sd s)) 200 0
  have main : ∀ Q : mm_R → Prop, Q (some (iv (bif decide (a = 0) then (bif decide ((rgo (rkR db sn de sd s) 200 0).2 = 1) then (((rgo (rkR db sn de sd s) 200 0).1 : Nat) : Int) else -9) else (bif decide ((rgo (rkR db sn de sd s) 200 0).2 = 1) then 0 else (rgo (rkR db sn de sd s) 200 0).2))), (C ++ rL (ro_ (0 : Int) tr db sn dm sm ty nx tk pl va fa ((((rgo (rkR db sn de sd s) 200 0).1 : Nat) : Int)) ((rgo (rkR db sn de sd s) 200 0).2)) s kp ik tn de sd dd sr tx pa')) → rn_X12_rounds 5000 (0, [(0, .ref 56), (1, iv (a))], [], (C ++ rL (ro_ th tr db sn dm sm ty nx tk pl va fa lr ri) s kp ik tn de sd dd sr tx pa)) Q := by
    intro Q hQ
    refine r_al rfl rfl ?_
    refine r_ic rfl ?_
    refine r_pf rfl rfl (rg_56 hC) rfl (rp_th hC) ?_
    refine r_il rfl rfl ?_
    refine r_ic rfl ?_
    refine r_ic rfl ?_
    refine r_s3s rfl rfl rfl (c_in (by omega) (by decide) (by decide)) ?_
    rw [ha]
    refine r_zne rfl rfl (bi_r _) (fun g1 => ?_) (fun g1 => ?_)
    · have ra := i3_t ha
      refine r_al rfl rfl ?_
      refine r_v1n rfl rfl (rg_56 hC) rfl hg ?_
      refine r_il rfl rfl ?_
      refine r_zne rfl rfl (by omega) (fun g2 => ?_) (fun g2 => ?_)
      · rw [decide_eq_false g2, cond_false] at hQ
        refine r_al rfl rfl ?_
        refine r_gf rfl rfl (rg_56 hC) rfl ?_
        refine r_ic rfl ?_
        refine r_cne rfl rfl (by omega) (by decide) (fun g3 => ?_) (fun g3 => ?_)
        · rw [decide_eq_false g3, cond_false] at hQ
          refine r_al rfl rfl ?_
          refine r_gf rfl rfl (rg_56 hC) rfl ?_
          exact r_ret rfl rfl hQ
        · rw [decide_eq_true g3, cond_true] at hQ
          refine r_ic rfl ?_
          refine r_goto rfl rfl ?_
          exact r_ret rfl rfl hQ
      · rw [decide_eq_true g2, cond_true] at hQ
        refine r_al rfl rfl ?_
        refine r_gf rfl rfl (rg_56 hC) rfl ?_
        refine r_ic rfl ?_
        refine r_cne rfl rfl (by omega) (by decide) (fun g3 => ?_) (fun g3 => ?_)
        · rw [decide_eq_false g3, cond_false] at hQ
          refine r_bi rfl (by decide) ?_
          refine r_goto rfl rfl ?_
          exact r_ret rfl rfl hQ
        · rw [decide_eq_true g3, cond_true] at hQ
          refine r_al rfl rfl ?_
          refine r_gf rfl rfl (rg_56 hC) rfl ?_
          refine r_goto rfl rfl ?_
          exact r_ret rfl rfl hQ
    · exact absurd g1 (by decide)
  obtain ⟨x, h1, h2⟩ := rn_S (vs := [.ref 56, iv (a)]) (Q := fun x => x = (some (iv (bif decide (a = 0) then (bif decide ((rgo (rkR db sn de sd s) 200 0).2 = 1) then (((rgo (rkR db sn de sd s) 200 0).1 : Nat) : Int) else -9) else (bif decide ((rgo (rkR db sn de sd s) 200 0).2 = 1) then 0 else (rgo (rkR db sn de sd s) 200 0).2))), (C ++ rL (ro_ (0 : Int) tr db sn dm sm ty nx tk pl va fa ((((rgo (rkR db sn de sd s) 200 0).1 : Nat) : Int)) ((rgo (rkR db sn de sd s) 200 0).2)) s kp ik tn de sd dd sr tx pa'))) rfl (rn_up (N := 5000) (M := mm_fuel) (by decide) (main _ rfl))
  have h1 : sX12_rounds [.ref 56, iv (a)] (C ++ rL (ro_ th tr db sn dm sm ty nx tk pl va fa lr ri) s kp ik tn de sd dd sr tx pa) = some x := h1
  exact ⟨pa', by rw [h1, h2], hI.1⟩
theorem c_roundsR0 (hC : C.length = 56) (hr : -2147483648 ≤ a ∧ a ≤ 2147483647) (ha : i3 a 0 1 = false) : sX12_rounds [.ref 56, iv (a)] (C ++ rL (ro_ th tr db sn dm sm ty nx tk pl va fa lr ri) s kp ik tn de sd dd sr tx pa) = some (some (iv (-1)), (C ++ rL (ro_ (0 : Int) tr db sn dm sm ty nx tk pl va fa lr ri) s kp ik tn de sd dd sr tx pa)) := by
  have main : ∀ Q : mm_R → Prop, Q (some (iv (-1)), (C ++ rL (ro_ (0 : Int) tr db sn dm sm ty nx tk pl va fa lr ri) s kp ik tn de sd dd sr tx pa)) → rn_X12_rounds (1000) (0, [(0, .ref 56), (1, iv (a))], [], (C ++ rL (ro_ th tr db sn dm sm ty nx tk pl va fa lr ri) s kp ik tn de sd dd sr tx pa)) Q := by
    intro Q hQ
    refine r_al rfl rfl ?_
    refine r_ic rfl ?_
    refine r_pf rfl rfl (rg_56 hC) rfl (rp_th hC) ?_
    refine r_il rfl rfl ?_
    refine r_ic rfl ?_
    refine r_ic rfl ?_
    refine r_s3s rfl rfl rfl (c_in (by omega) (by decide) (by decide)) ?_
    rw [ha]
    refine r_zne rfl rfl (bi_r _) (fun g1 => ?_) (fun g1 => ?_)
    · exact absurd rfl g1
    · refine r_ic rfl ?_
      exact r_ret rfl rfl hQ
  obtain ⟨rz, h1, h2⟩ := rn_S (vs := [.ref 56, iv (a)]) (Q := fun rz => rz = (some (iv (-1)), (C ++ rL (ro_ (0 : Int) tr db sn dm sm ty nx tk pl va fa lr ri) s kp ik tn de sd dd sr tx pa))) rfl (rn_up (N := 1000) (M := mm_fuel) (by decide) (main (fun rz => rz = (some (iv (-1)), (C ++ rL (ro_ (0 : Int) tr db sn dm sm ty nx tk pl va fa lr ri) s kp ik tn de sd dd sr tx pa))) rfl))
  have h1 : sX12_rounds [.ref 56, iv (a)] (C ++ rL (ro_ th tr db sn dm sm ty nx tk pl va fa lr ri) s kp ik tn de sd dd sr tx pa) = some rz := h1
  rw [h1, h2]
abbrev rn_X12_bears (N : Nat) (c : mm_C) (Q : mm_R → Prop) : Prop := rn (mm_gf gLX12) (mm_pf pLX12) (mm_mv vX12_bears) (mm_mv zX12_bears) (mm_kc kLX12) mm_gs0 mm_rf0 mm_ro (some .int) 3 (mm_ins iX12_bears) N c Q
theorem c_bearsR1 (hC : C.length = 56) (hRS : RS s) (hE : DEr de) (hS : SDr sd) (hX : EXx s de sd) (hO : OVx db sn sd) (hd : 0 ≤ db ∧ db ≤ 10) (hn : 0 ≤ sn ∧ sn ≤ 16) (hPA : ∀ j, j < 5226 → i7 (pa j) 0 999) (hr : -2147483648 ≤ a ∧ a ≤ 2147483647) (hb : -2147483648 ≤ b ∧ b ≤ 2147483647) (ht : fTH db sn a b = true) : ∃ pa' : Nat → Int32, sX12_bears [.ref 56, iv (a), iv (b)] (C ++ rL (ro_ th tr db sn dm sm ty nx tk pl va fa lr ri) s kp ik tn de sd dd sr tx pa) = some (some (iv ((rkR db sn de sd s) (rgo (rkR db sn de sd s) 200 0).1 (Int.toNat (bif decide (a = 1) then 10 + b else b)))), (C ++ rL (ro_ (0 : Int) tr db sn dm sm ty nx tk pl va fa ((((rgo (rkR db sn de sd s) 200 0).1 : Nat) : Int)) ((rgo (rkR db sn de sd s) 200 0).2)) s kp ik tn de sd dd sr tx pa')) ∧ (∀ j, j < 5226 → i7 (pa' j) 0 999) := by
  obtain ⟨pa', hg, hI⟩ := c_goesR (C := C) (tr := tr) (th := 0) (db := db) (sn := sn) (dm := dm) (sm := sm) (ty := ty) (nx := nx) (tk := tk) (pl := pl) (va := va) (fa := fa) (lr := lr) (ri := ri) (s := s) (kp := kp) (ik := ik) (tn := tn) (de := de) (sd := sd) (dd := dd) (sr := sr) (tx := tx) (pa := pa) hC hRS hE hS hX hO hd hn hPA
  have hgr := rgo_r (R := (rkR db sn de sd s)) 200 0
  have main : ∀ Q : mm_R → Prop, Q (some (iv ((rkR db sn de sd s) (rgo (rkR db sn de sd s) 200 0).1 (Int.toNat (bif decide (a = 1) then 10 + b else b)))), (C ++ rL (ro_ (0 : Int) tr db sn dm sm ty nx tk pl va fa ((((rgo (rkR db sn de sd s) 200 0).1 : Nat) : Int)) ((rgo (rkR db sn de sd s) 200 0).2)) s kp ik tn de sd dd sr tx pa')) → rn_X12_bears 5000 (0, [(0, .ref 56), (1, iv (a)), (2, iv (b))], [], (C ++ rL (ro_ th tr db sn dm sm ty nx tk pl va fa lr ri) s kp ik tn de sd dd sr tx pa)) Q := by
    intro Q hQ
    refine r_al rfl rfl ?_
    refine r_ic rfl ?_
    refine r_pf rfl rfl (rg_56 hC) rfl (rp_th hC) ?_
    refine r_al rfl rfl ?_
    refine r_il rfl rfl ?_
    refine r_il rfl rfl ?_
    refine r_v3s rfl rfl (rg_56 hC) rfl (c_isThereR hC hr hb hd hn) ?_
    rw [ht]
    refine r_zne rfl rfl (bi_r _) (fun g1 => ?_) (fun g1 => ?_)
    · have hq : (a = 1 ∧ 0 ≤ b ∧ b < sn) ∨ (a = 0 ∧ 0 ≤ b ∧ b < db) := by
        unfold fTH at ht
        rw [Bool.and_eq_true] at ht
        have h1 := i3_t ht.1
        by_cases e : a = 1
        · have h2 := ht.2
          rw [decide_eq_true e, cond_true] at h2
          have h2 := i3_t h2
          omega
        · have h2 := ht.2
          rw [decide_eq_false e, cond_false] at h2
          have h2 := i3_t h2
          omega
      have key : ∀ x : Nat, x < 26 → rkP db sn x = true → (pa' (26 * (rgo (rkR db sn de sd s) 200 0).1 + x)).toInt = (rkR db sn de sd s) (rgo (rkR db sn de sd s) 200 0).1 x := fun x hx hp => by
        rw [hI.2 _ x (by omega) hx hp]
        have := rkR_r (sn := sn) hd.2 hRS hE hS hX (rgo (rkR db sn de sd s) 200 0).1 x hx
        exact iv_to ⟨by omega, by omega⟩
      refine r_al rfl rfl ?_
      refine r_v1n rfl rfl (rg_56 hC) rfl hg ?_
      refine r_al rfl rfl ?_
      refine r_gf rfl rfl (rg_56 hC) rfl ?_
      refine r_bi rfl (by decide) ?_
      refine r_al rfl rfl ?_
      refine r_gf rfl rfl (rg_56 hC) rfl ?_
      refine r_mul rfl ?_
      refine r_il rfl rfl ?_
      refine r_ic rfl ?_
      refine r_cne rfl rfl (by omega) (by omega) (fun g2 => ?_) (fun g2 => ?_)
      · refine r_il rfl rfl ?_
        refine r_add rfl ?_
        refine r_ia rfl (rg_66 hC) (by omega) (by omega) (by decide) ?_
        have e : (pa' (Int.toNat (26 * (((rgo (rkR db sn de sd s) 200 0).1 : Nat) : Int) + (b)))).toInt = (rkR db sn de sd s) (rgo (rkR db sn de sd s) 200 0).1 (Int.toNat (bif decide (a = 1) then 10 + b else b)) := by
          rw [show Int.toNat (26 * (((rgo (rkR db sn de sd s) 200 0).1 : Nat) : Int) + (b)) = 26 * (rgo (rkR db sn de sd s) 200 0).1 + Int.toNat (b) by omega, decide_eq_false g2, cond_false]
          exact key _ (by omega) (by rw [rkP_d (by omega)]; exact decide_eq_true (by omega))
        rw [← e] at hQ
        exact r_ret rfl rfl hQ
      · refine r_bi rfl (by decide) ?_
        refine r_il rfl rfl ?_
        refine r_add rfl ?_
        refine r_goto rfl rfl ?_
        refine r_add rfl ?_
        refine r_ia rfl (rg_66 hC) (by omega) (by omega) (by decide) ?_
        have e : (pa' (Int.toNat (26 * (((rgo (rkR db sn de sd s) 200 0).1 : Nat) : Int) + (10 + b)))).toInt = (rkR db sn de sd s) (rgo (rkR db sn de sd s) 200 0).1 (Int.toNat (bif decide (a = 1) then 10 + b else b)) := by
          rw [show Int.toNat (26 * (((rgo (rkR db sn de sd s) 200 0).1 : Nat) : Int) + (10 + b)) = 26 * (rgo (rkR db sn de sd s) 200 0).1 + Int.toNat (10 + b) by omega, decide_eq_true g2, cond_true]
          exact key _ (by omega) (by rw [rkP_s (by omega)]; exact decide_eq_true (by omega))
        rw [← e] at hQ
        exact r_ret rfl rfl hQ
    · exact absurd g1 (by decide)
  obtain ⟨x, h1, h2⟩ := rn_S (vs := [.ref 56, iv (a), iv (b)]) (Q := fun x => x = (some (iv ((rkR db sn de sd s) (rgo (rkR db sn de sd s) 200 0).1 (Int.toNat (bif decide (a = 1) then 10 + b else b)))), (C ++ rL (ro_ (0 : Int) tr db sn dm sm ty nx tk pl va fa ((((rgo (rkR db sn de sd s) 200 0).1 : Nat) : Int)) ((rgo (rkR db sn de sd s) 200 0).2)) s kp ik tn de sd dd sr tx pa'))) rfl (rn_up (N := 5000) (M := mm_fuel) (by decide) (main _ rfl))
  have h1 : sX12_bears [.ref 56, iv (a), iv (b)] (C ++ rL (ro_ th tr db sn dm sm ty nx tk pl va fa lr ri) s kp ik tn de sd dd sr tx pa) = some x := h1
  exact ⟨pa', by rw [h1, h2], hI.1⟩
theorem c_bearsR0 (hC : C.length = 56) (hd : 0 ≤ db ∧ db ≤ 10) (hn : 0 ≤ sn ∧ sn ≤ 16) (hr : -2147483648 ≤ a ∧ a ≤ 2147483647) (hb : -2147483648 ≤ b ∧ b ≤ 2147483647) (ht : fTH db sn a b = false) : sX12_bears [.ref 56, iv (a), iv (b)] (C ++ rL (ro_ th tr db sn dm sm ty nx tk pl va fa lr ri) s kp ik tn de sd dd sr tx pa) = some (some (iv (-1)), (C ++ rL (ro_ (0 : Int) tr db sn dm sm ty nx tk pl va fa lr ri) s kp ik tn de sd dd sr tx pa)) := by
  have main : ∀ Q : mm_R → Prop, Q (some (iv (-1)), (C ++ rL (ro_ (0 : Int) tr db sn dm sm ty nx tk pl va fa lr ri) s kp ik tn de sd dd sr tx pa)) → rn_X12_bears (1000) (0, [(0, .ref 56), (1, iv (a)), (2, iv (b))], [], (C ++ rL (ro_ th tr db sn dm sm ty nx tk pl va fa lr ri) s kp ik tn de sd dd sr tx pa)) Q := by
    intro Q hQ
    refine r_al rfl rfl ?_
    refine r_ic rfl ?_
    refine r_pf rfl rfl (rg_56 hC) rfl (rp_th hC) ?_
    refine r_al rfl rfl ?_
    refine r_il rfl rfl ?_
    refine r_il rfl rfl ?_
    refine r_v3s rfl rfl (rg_56 hC) rfl (c_isThereR hC hr hb hd hn) ?_
    rw [ht]
    refine r_zne rfl rfl (bi_r _) (fun g1 => ?_) (fun g1 => ?_)
    · exact absurd rfl g1
    · refine r_ic rfl ?_
      exact r_ret rfl rfl hQ
  obtain ⟨rz, h1, h2⟩ := rn_S (vs := [.ref 56, iv (a), iv (b)]) (Q := fun rz => rz = (some (iv (-1)), (C ++ rL (ro_ (0 : Int) tr db sn dm sm ty nx tk pl va fa lr ri) s kp ik tn de sd dd sr tx pa))) rfl (rn_up (N := 1000) (M := mm_fuel) (by decide) (main (fun rz => rz = (some (iv (-1)), (C ++ rL (ro_ (0 : Int) tr db sn dm sm ty nx tk pl va fa lr ri) s kp ik tn de sd dd sr tx pa))) rfl))
  have h1 : sX12_bears [.ref 56, iv (a), iv (b)] (C ++ rL (ro_ th tr db sn dm sm ty nx tk pl va fa lr ri) s kp ik tn de sd dd sr tx pa) = some rz := h1
  rw [h1, h2]
abbrev rn_X12_end (N : Nat) (c : mm_C) (Q : mm_R → Prop) : Prop := rn (mm_gf gLX12) (mm_pf pLX12) (mm_mv vX12_end) (mm_mv zX12_end) (mm_kc kLX12) mm_gs0 mm_rf0 mm_ro (some .int) 5 (mm_ins iX12_end) N c Q
theorem en_lp (hC : C.length = 56) (hRS : RS s) (hE : DEr de) (hS : SDr sd) (hX : EXx s de sd) (hO : OVx db sn sd) (hd : 0 ≤ db ∧ db ≤ 10) (hn : 0 ≤ sn ∧ sn ≤ 16) {pa' : Nat → Int32} (hp : 0 ≤ p ∧ p ≤ 7) (hL : (rgo (rkR db sn de sd s) 200 0).1 ≤ 200) (hI : rkI db sn de sd s ((rgo (rkR db sn de sd s) 200 0).1 + 1) pa') (k : rn_X12_end N (123, [(3, iv (((26 : Nat) : Int))), (2, iv (rkE db sn de sd s ((rkR db sn de sd s) (rgo (rkR db sn de sd s) 200 0).1) p 26)), (0, .ref 56), (1, iv (p))], [], (C ++ rL (ro_ (0 : Int) tr db sn dm sm ty nx tk pl va fa ((((rgo (rkR db sn de sd s) 200 0).1 : Nat) : Int)) ((rgo (rkR db sn de sd s) 200 0).2)) s kp ik tn de sd dd sr tx pa')) Q) : ∀ (m j : Nat), j + m = 26 → rn_X12_end (N + 120 * m + 120) (31, [(3, iv ((j : Int))), (2, iv (rkE db sn de sd s ((rkR db sn de sd s) (rgo (rkR db sn de sd s) 200 0).1) p j)), (0, .ref 56), (1, iv (p))], [], (C ++ rL (ro_ (0 : Int) tr db sn dm sm ty nx tk pl va fa ((((rgo (rkR db sn de sd s) 200 0).1 : Nat) : Int)) ((rgo (rkR db sn de sd s) 200 0).2)) s kp ik tn de sd dd sr tx pa')) Q := by
  intro m
  induction m with
  | zero =>
    intro j hj
    have hj : j = 26 := by omega
    subst hj
    refine rn_up (N := N + 120) (by omega) ?_
    refine r_il rfl rfl ?_
    refine r_bi rfl (by decide) ?_
    refine r_cge rfl rfl (by omega) (by omega) (fun g1 => ?_) (fun g1 => ?_)
    · exact rn_up (by omega) k
    · omega
  | succ m ih =>
    intro j hj
    obtain ⟨M, hM⟩ : ∃ M, M = N + 120 * m + 120 := ⟨_, rfl⟩
    rw [← hM] at ih
    refine rn_up (N := M + 120) (by omega) ?_
    refine r_il rfl rfl ?_
    refine r_bi rfl (by decide) ?_
    refine r_cge rfl rfl (by omega) (by omega) (fun g1 => ?_) (fun g1 => ?_)
    · omega
    · have K3 : rn_X12_end (M + 20) (115, [(2, iv (rkE db sn de sd s ((rkR db sn de sd s) (rgo (rkR db sn de sd s) 200 0).1) p j + (bif rkP db sn j && decide (rkT de sd j = p) then ((rkR db sn de sd s) (rgo (rkR db sn de sd s) 200 0).1) j else 0))), (4, iv (((rkR db sn de sd s) (rgo (rkR db sn de sd s) 200 0).1) j)), (3, iv ((j : Int))), (0, .ref 56), (1, iv (p))], [iv ((bif rkP db sn j && decide (rkO de sd j = p) then ((rkR db sn de sd s) (rgo (rkR db sn de sd s) 200 0).1) j else 0)), iv (rkE db sn de sd s ((rkR db sn de sd s) (rgo (rkR db sn de sd s) 200 0).1) p j + (bif rkP db sn j && decide (rkT de sd j = p) then ((rkR db sn de sd s) (rgo (rkR db sn de sd s) 200 0).1) j else 0))], (C ++ rL (ro_ (0 : Int) tr db sn dm sm ty nx tk pl va fa ((((rgo (rkR db sn de sd s) 200 0).1 : Nat) : Int)) ((rgo (rkR db sn de sd s) 200 0).2)) s kp ik tn de sd dd sr tx pa')) Q := by
        refine r_sub rfl ?_
        refine r_is (lv' := [(2, _), (4, _), (3, _), (0, _), (1, _)]) rfl rfl rfl ?_
        refine r_inc (lv' := [(3, _), (2, _), (4, _), (0, _), (1, _)]) rfl rfl rfl rfl ?_
        refine r_goto rfl rfl ?_
        refine rn_LE (a := [(3, iv ((j : Int) + 1)), (2, iv ((rkE db sn de sd s ((rkR db sn de sd s) (rgo (rkR db sn de sd s) 200 0).1) p j + (bif rkP db sn j && decide (rkT de sd j = p) then ((rkR db sn de sd s) (rgo (rkR db sn de sd s) 200 0).1) j else 0)) - ((bif rkP db sn j && decide (rkO de sd j = p) then ((rkR db sn de sd s) (rgo (rkR db sn de sd s) 200 0).1) j else 0)))), (0, .ref 56), (1, iv (p))]) ⟨(List.forall_mem_cons.mpr ⟨List.mem_cons_self, (List.forall_mem_cons.mpr ⟨(List.mem_cons_of_mem _ List.mem_cons_self), (List.forall_mem_cons.mpr ⟨(List.mem_cons_of_mem _ (List.mem_cons_of_mem _ (List.mem_cons_of_mem _ List.mem_cons_self))), (List.forall_mem_cons.mpr ⟨(List.mem_cons_of_mem _ (List.mem_cons_of_mem _ (List.mem_cons_of_mem _ (List.mem_cons_of_mem _ List.mem_cons_self)))), (fun _ h => absurd h List.not_mem_nil)⟩)⟩)⟩)⟩), (by show List.Nodup [3, 2, 0, 1]; decide), (by show List.Nodup [3, 2, 4, 0, 1]; decide)⟩ ?_
        exact rn_up (by omega) (ih (j + 1) (by omega))
      have K2 : rn_X12_end (M + 50) (89, [(4, iv (((rkR db sn de sd s) (rgo (rkR db sn de sd s) 200 0).1) j)), (3, iv ((j : Int))), (2, iv (rkE db sn de sd s ((rkR db sn de sd s) (rgo (rkR db sn de sd s) 200 0).1) p j)), (0, .ref 56), (1, iv (p))], [iv ((bif rkP db sn j && decide (rkT de sd j = p) then ((rkR db sn de sd s) (rgo (rkR db sn de sd s) 200 0).1) j else 0)), iv (rkE db sn de sd s ((rkR db sn de sd s) (rgo (rkR db sn de sd s) 200 0).1) p j)], (C ++ rL (ro_ (0 : Int) tr db sn dm sm ty nx tk pl va fa ((((rgo (rkR db sn de sd s) 200 0).1 : Nat) : Int)) ((rgo (rkR db sn de sd s) 200 0).2)) s kp ik tn de sd dd sr tx pa')) Q := by
        refine r_add rfl ?_
        refine r_is (lv' := [(2, _), (4, _), (3, _), (0, _), (1, _)]) rfl rfl rfl ?_
        refine r_il rfl rfl ?_
        refine r_al rfl rfl ?_
        refine r_il rfl rfl ?_
        refine r_v2s rfl rfl (rg_56 hC) rfl (c_isPaperR hC (by omega) hd hn) ?_
        refine r_zeq rfl rfl (bi_r _) (fun g2 => ?_) (fun g2 => ?_)
        · refine r_ic rfl ?_
          have e : (bif rkP db sn j && decide (rkO de sd j = p) then ((rkR db sn de sd s) (rgo (rkR db sn de sd s) 200 0).1) j else 0) = 0 := by rw [bi_0 g2, Bool.false_and]; rfl
          rw [e] at K3
          exact rn_up (by omega) K3
        · refine r_al rfl rfl ?_
          refine r_il rfl rfl ?_
          refine r_v2s rfl rfl (rg_56 hC) rfl (c_ofWhomR hC (by omega)) ?_
          refine r_il rfl rfl ?_
          refine r_cne rfl rfl (by have := rkO_r hE hS (show j < 26 by omega); omega) (by omega) (fun g3 => ?_) (fun g3 => ?_)
          · refine r_ic rfl ?_
            have e : (bif rkP db sn j && decide (rkO de sd j = p) then ((rkR db sn de sd s) (rgo (rkR db sn de sd s) 200 0).1) j else 0) = 0 := by rw [decide_eq_false g3, Bool.and_false]; rfl
            rw [e] at K3
            exact rn_up (by omega) K3
          · refine r_ilw rfl rfl ?_
            refine r_goto rfl rfl ?_
            have e : (bif rkP db sn j && decide (rkO de sd j = p) then ((rkR db sn de sd s) (rgo (rkR db sn de sd s) 200 0).1) j else 0) = ((rkR db sn de sd s) (rgo (rkR db sn de sd s) 200 0).1) j := by rw [bi_1 g2, decide_eq_true g3]; rfl
            rw [e] at K3
            exact rn_up (by omega) K3
      have K1 : rn_X12_end (M + 80) (63, [(3, iv ((j : Int))), (2, iv (rkE db sn de sd s ((rkR db sn de sd s) (rgo (rkR db sn de sd s) 200 0).1) p j)), (0, .ref 56), (1, iv (p))], [iv (((rkR db sn de sd s) (rgo (rkR db sn de sd s) 200 0).1) j)], (C ++ rL (ro_ (0 : Int) tr db sn dm sm ty nx tk pl va fa ((((rgo (rkR db sn de sd s) 200 0).1 : Nat) : Int)) ((rgo (rkR db sn de sd s) 200 0).2)) s kp ik tn de sd dd sr tx pa')) Q := by
        refine r_isw (lv' := [(4, _), (3, _), (2, _), (0, _), (1, _)]) rfl rfl rfl ?_
        refine r_il rfl rfl ?_
        refine r_al rfl rfl ?_
        refine r_il rfl rfl ?_
        refine r_v2s rfl rfl (rg_56 hC) rfl (c_isPaperR hC (by omega) hd hn) ?_
        refine r_zeq rfl rfl (bi_r _) (fun g2 => ?_) (fun g2 => ?_)
        · refine r_ic rfl ?_
          have e : (bif rkP db sn j && decide (rkT de sd j = p) then ((rkR db sn de sd s) (rgo (rkR db sn de sd s) 200 0).1) j else 0) = 0 := by rw [bi_0 g2, Bool.false_and]; rfl
          rw [e] at K2
          exact rn_up (by omega) K2
        · refine r_al rfl rfl ?_
          refine r_il rfl rfl ?_
          refine r_v2s rfl rfl (rg_56 hC) rfl (c_toWhomR hC (by omega) hS) ?_
          refine r_il rfl rfl ?_
          refine r_cne rfl rfl (as_r _) (by omega) (fun g3 => ?_) (fun g3 => ?_)
          · refine r_ic rfl ?_
            have e : (bif rkP db sn j && decide (rkT de sd j = p) then ((rkR db sn de sd s) (rgo (rkR db sn de sd s) 200 0).1) j else 0) = 0 := by rw [decide_eq_false g3, Bool.and_false]; rfl
            rw [e] at K2
            exact rn_up (by omega) K2
          · refine r_ilw rfl rfl ?_
            refine r_goto rfl rfl ?_
            have e : (bif rkP db sn j && decide (rkT de sd j = p) then ((rkR db sn de sd s) (rgo (rkR db sn de sd s) 200 0).1) j else 0) = ((rkR db sn de sd s) (rgo (rkR db sn de sd s) 200 0).1) j := by rw [bi_1 g2, decide_eq_true g3]; rfl
            rw [e] at K2
            exact rn_up (by omega) K2
      refine r_al rfl rfl ?_
      refine r_il rfl rfl ?_
      refine r_v2s rfl rfl (rg_56 hC) rfl (c_isPaperR hC (by omega) hd hn) ?_
      refine r_zeq rfl rfl (bi_r _) (fun g2 => ?_) (fun g2 => ?_)
      · refine r_ic rfl ?_
        rw [rkR_n hd.2 (bi_0 g2)] at K1
        exact rn_up (by omega) K1
      · have e : (pa' (Int.toNat (26 * (((rgo (rkR db sn de sd s) 200 0).1 : Nat) : Int) + (j : Int)))).toInt = ((rkR db sn de sd s) (rgo (rkR db sn de sd s) 200 0).1) j := by
          rw [show Int.toNat (26 * (((rgo (rkR db sn de sd s) 200 0).1 : Nat) : Int) + (j : Int)) = 26 * (rgo (rkR db sn de sd s) 200 0).1 + j by omega, hI.2 _ j (by omega) (by omega) (bi_1 g2)]
          have := rkR_r (sn := sn) hd.2 hRS hE hS hX (rgo (rkR db sn de sd s) 200 0).1 j (by omega)
          exact iv_to ⟨by omega, by omega⟩
        refine r_al rfl rfl ?_
        refine r_gf rfl rfl (rg_56 hC) rfl ?_
        refine r_bi rfl (by decide) ?_
        refine r_al rfl rfl ?_
        refine r_gf rfl rfl (rg_56 hC) rfl ?_
        refine r_mul rfl ?_
        refine r_il rfl rfl ?_
        refine r_add rfl ?_
        refine r_ia rfl (rg_66 hC) (by omega) (by omega) (by decide) ?_
        refine r_eq e ?_
        refine r_goto rfl rfl ?_
        exact rn_up (by omega) K1
theorem c_endR1 (hC : C.length = 56) (hRS : RS s) (hE : DEr de) (hS : SDr sd) (hX : EXx s de sd) (hO : OVx db sn sd) (hd : 0 ≤ db ∧ db ≤ 10) (hn : 0 ≤ sn ∧ sn ≤ 16) (hPA : ∀ j, j < 5226 → i7 (pa j) 0 999) (hr : -2147483648 ≤ p ∧ p ≤ 2147483647) (ha : i3 p 0 7 = true) : ∃ pa' : Nat → Int32, sX12_end [.ref 56, iv (p)] (C ++ rL (ro_ th tr db sn dm sm ty nx tk pl va fa lr ri) s kp ik tn de sd dd sr tx pa) = some (some (iv (rkE db sn de sd s ((rkR db sn de sd s) (rgo (rkR db sn de sd s) 200 0).1) p 26)), (C ++ rL (ro_ (0 : Int) tr db sn dm sm ty nx tk pl va fa ((((rgo (rkR db sn de sd s) 200 0).1 : Nat) : Int)) ((rgo (rkR db sn de sd s) 200 0).2)) s kp ik tn de sd dd sr tx pa')) ∧ (∀ j, j < 5226 → i7 (pa' j) 0 999) := by
  obtain ⟨pa', hg, hI⟩ := c_goesR (C := C) (tr := tr) (th := 0) (db := db) (sn := sn) (dm := dm) (sm := sm) (ty := ty) (nx := nx) (tk := tk) (pl := pl) (va := va) (fa := fa) (lr := lr) (ri := ri) (s := s) (kp := kp) (ik := ik) (tn := tn) (de := de) (sd := sd) (dd := dd) (sr := sr) (tx := tx) (pa := pa) hC hRS hE hS hX hO hd hn hPA
  have hgr := rgo_r (R := (rkR db sn de sd s)) 200 0
  have main : ∀ Q : mm_R → Prop, Q (some (iv (rkE db sn de sd s ((rkR db sn de sd s) (rgo (rkR db sn de sd s) 200 0).1) p 26)), (C ++ rL (ro_ (0 : Int) tr db sn dm sm ty nx tk pl va fa ((((rgo (rkR db sn de sd s) 200 0).1 : Nat) : Int)) ((rgo (rkR db sn de sd s) 200 0).2)) s kp ik tn de sd dd sr tx pa')) → rn_X12_end 5000 (0, [(0, .ref 56), (1, iv (p))], [], (C ++ rL (ro_ th tr db sn dm sm ty nx tk pl va fa lr ri) s kp ik tn de sd dd sr tx pa)) Q := by
    intro Q hQ
    refine r_al rfl rfl ?_
    refine r_ic rfl ?_
    refine r_pf rfl rfl (rg_56 hC) rfl (rp_th hC) ?_
    refine r_il rfl rfl ?_
    refine r_s1s rfl rfl rfl (c_isPersonR hr) ?_
    rw [ha]
    refine r_zne rfl rfl (bi_r _) (fun g1 => ?_) (fun g1 => ?_)
    · have ra := i3_t ha
      have hL : (rgo (rkR db sn de sd s) 200 0).1 ≤ 200 := by omega
      refine r_al rfl rfl ?_
      refine r_v1n rfl rfl (rg_56 hC) rfl hg ?_
      refine r_al rfl rfl ?_
      refine r_gf rfl rfl (rg_56 hC) rfl ?_
      refine r_bi rfl (by decide) ?_
      refine r_il rfl rfl ?_
      refine r_add rfl ?_
      refine r_ia rfl (rg_57 hC) (by omega) (by omega) (by decide) ?_
      refine r_is (lv' := [(2, _), (0, _), (1, _)]) rfl rfl rfl ?_
      refine r_ic rfl ?_
      refine r_is (lv' := [(3, _), (2, _), (0, _), (1, _)]) rfl rfl rfl ?_
      refine rn_up (N := 20 + 120 * 26 + 120) (by decide) (en_lp (N := 20) hC hRS hE hS hX hO hd hn ra hL hI ?_ 26 0 rfl)
      refine r_il rfl rfl ?_
      exact r_ret rfl rfl hQ
    · exact absurd g1 (by decide)
  obtain ⟨x, h1, h2⟩ := rn_S (vs := [.ref 56, iv (p)]) (Q := fun x => x = (some (iv (rkE db sn de sd s ((rkR db sn de sd s) (rgo (rkR db sn de sd s) 200 0).1) p 26)), (C ++ rL (ro_ (0 : Int) tr db sn dm sm ty nx tk pl va fa ((((rgo (rkR db sn de sd s) 200 0).1 : Nat) : Int)) ((rgo (rkR db sn de sd s) 200 0).2)) s kp ik tn de sd dd sr tx pa'))) rfl (rn_up (N := 5000) (M := mm_fuel) (by decide) (main _ rfl))
  have h1 : sX12_end [.ref 56, iv (p)] (C ++ rL (ro_ th tr db sn dm sm ty nx tk pl va fa lr ri) s kp ik tn de sd dd sr tx pa) = some x := h1
  exact ⟨pa', by rw [h1, h2], hI.1⟩
theorem c_endR0 (hC : C.length = 56) (hr : -2147483648 ≤ p ∧ p ≤ 2147483647) (ha : i3 p 0 7 = false) : sX12_end [.ref 56, iv (p)] (C ++ rL (ro_ th tr db sn dm sm ty nx tk pl va fa lr ri) s kp ik tn de sd dd sr tx pa) = some (some (iv (-1000000)), (C ++ rL (ro_ (0 : Int) tr db sn dm sm ty nx tk pl va fa lr ri) s kp ik tn de sd dd sr tx pa)) := by
  have main : ∀ Q : mm_R → Prop, Q (some (iv (-1000000)), (C ++ rL (ro_ (0 : Int) tr db sn dm sm ty nx tk pl va fa lr ri) s kp ik tn de sd dd sr tx pa)) → rn_X12_end (1000) (0, [(0, .ref 56), (1, iv (p))], [], (C ++ rL (ro_ th tr db sn dm sm ty nx tk pl va fa lr ri) s kp ik tn de sd dd sr tx pa)) Q := by
    intro Q hQ
    refine r_al rfl rfl ?_
    refine r_ic rfl ?_
    refine r_pf rfl rfl (rg_56 hC) rfl (rp_th hC) ?_
    refine r_il rfl rfl ?_
    refine r_s1s rfl rfl rfl (c_isPersonR hr) ?_
    rw [ha]
    refine r_zne rfl rfl (bi_r _) (fun g1 => ?_) (fun g1 => ?_)
    · exact absurd rfl g1
    · refine r_ldc (v := iv (-1000000)) rfl rfl ?_
      exact r_ret rfl rfl hQ
  obtain ⟨rz, h1, h2⟩ := rn_S (vs := [.ref 56, iv (p)]) (Q := fun rz => rz = (some (iv (-1000000)), (C ++ rL (ro_ (0 : Int) tr db sn dm sm ty nx tk pl va fa lr ri) s kp ik tn de sd dd sr tx pa))) rfl (rn_up (N := 1000) (M := mm_fuel) (by decide) (main (fun rz => rz = (some (iv (-1000000)), (C ++ rL (ro_ (0 : Int) tr db sn dm sm ty nx tk pl va fa lr ri) s kp ik tn de sd dd sr tx pa))) rfl))
  have h1 : sX12_end [.ref 56, iv (p)] (C ++ rL (ro_ th tr db sn dm sm ty nx tk pl va fa lr ri) s kp ik tn de sd dd sr tx pa) = some rz := h1
  rw [h1, h2]
end RQ
