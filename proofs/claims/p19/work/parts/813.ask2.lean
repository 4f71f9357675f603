/-! ===== mayAsk, asked, pay: the reference ===== -/
section MA
variable {C : List va_E} {tr : Int64} {th db sn dm sm ty nx tk pl va fa lr ri : Int} {s kp ik tn de sd dd sr tx pa : Nat → Int32} {a d i k : Int} {Q : mm_R → Prop} {N : Nat}
abbrev rn_X12_mayAsk (N : Nat) (c : mm_C) (Q : mm_R → Prop) : Prop := rn (mm_gf gLX12) (mm_pf pLX12) (mm_mv vX12_mayAsk) (mm_mv zX12_mayAsk) (mm_kc kLX12) mm_gs0 mm_rf0 mm_ro (some .int) 6 (mm_ins iX12_mayAsk) N c Q
theorem c_mayAskR (hC : C.length = 56) (hi : 0 ≤ i ∧ i ≤ 15) (hS : SDr sd) (hE : DEr de) (hX : EXx s de sd) (hRS : RS s) (hn : 0 ≤ sn ∧ sn ≤ 16) : sX12_mayAsk [.ref 56, iv (i)] (C ++ rL (ro_ th tr db sn dm sm ty nx tk pl va fa lr ri) s kp ik tn de sd dd sr tx pa) = some (some (iv (fMA de sd s sn i)), (C ++ rL (ro_ th tr db sn dm sm ty nx tk pl va fa lr ri) s kp ik tn de sd dd sr tx pa)) := by
  have main : ∀ Q : mm_R → Prop, Q (some (iv (fMA de sd s sn i)), (C ++ rL (ro_ th tr db sn dm sm ty nx tk pl va fa lr ri) s kp ik tn de sd dd sr tx pa)) → rn_X12_mayAsk (1000) (0, [(0, .ref 56), (1, iv (i))], [], (C ++ rL (ro_ th tr db sn dm sm ty nx tk pl va fa lr ri) s kp ik tn de sd dd sr tx pa)) Q := by
    intro Q hQ
    have hd := (sd_r hS hi).2.1
    have hk := (sd_r hS hi).2.2
    have hp := (sd_r hS hi).1
    have hR := fR_r hRS hE hd
    refine r_al rfl rfl ?_
    refine r_gf rfl rfl (rg_56 hC) rfl ?_
    refine r_ic rfl ?_
    refine r_il rfl rfl ?_
    refine r_mul rfl ?_
    refine r_ic rfl ?_
    refine r_add rfl ?_
    refine r_ia rfl (rg_62 hC) (by omega) (by omega) (by decide) ?_
    refine r_is (lv' := [(2, _), (0, _), (1, _)]) rfl rfl rfl ?_
    refine r_al rfl rfl ?_
    refine r_gf rfl rfl (rg_56 hC) rfl ?_
    refine r_ic rfl ?_
    refine r_il rfl rfl ?_
    refine r_mul rfl ?_
    refine r_ic rfl ?_
    refine r_add rfl ?_
    refine r_ia rfl (rg_62 hC) (by omega) (by omega) (by decide) ?_
    refine r_is (lv' := [(3, _), (2, _), (0, _), (1, _)]) rfl rfl rfl ?_
    refine r_al rfl rfl ?_
    refine r_il rfl rfl ?_
    refine r_v2s rfl rfl (rg_56 hC) rfl (c_leftR hC hi) ?_
    refine r_al rfl rfl ?_
    refine r_il rfl rfl ?_
    refine r_v2s rfl rfl (rg_56 hC) rfl (c_restR hC hd) ?_
    refine r_s2s rfl rfl rfl (c_lesser (by have := fL_r s i; omega) (by omega)) ?_
    refine r_isw (lv' := [(4, _), (3, _), (2, _), (0, _), (1, _)]) rfl rfl rfl ?_
    refine r_al rfl rfl ?_
    refine r_al rfl rfl ?_
    refine r_gf rfl rfl (rg_56 hC) rfl ?_
    refine r_ic rfl ?_
    refine r_il rfl rfl ?_
    refine r_mul rfl ?_
    refine r_ia rfl (rg_62 hC) (by omega) (by omega) (by decide) ?_
    refine r_v2s rfl rfl (rg_56 hC) rfl (c_isFallenR hC hp) ?_
    refine r_zne rfl rfl (bi_r _) (fun g1 => ?_) (fun g1 => ?_)
    · have g1 := bi_1 g1
      have e : fMA de sd s sn i = 0 := by unfold fMA; rw [g1]; rfl
      rw [e] at hQ
      refine r_ic rfl ?_
      exact r_ret rfl rfl hQ
    · have g1 := bi_0 g1
      refine r_il rfl rfl ?_
      refine r_ic rfl ?_
      refine r_cne rfl rfl (as_r _) (by decide) (fun g2 => ?_) (fun g2 => ?_)
      · refine r_il rfl rfl ?_
        refine r_ic rfl ?_
        refine r_cne rfl rfl (as_r _) (by decide) (fun g5 => ?_) (fun g5 => ?_)
        · have e : fMA de sd s sn i = lsr (fL s i) (fR de s (sd (Int.toNat (5 * i + 1))).toInt) := by unfold fMA; rw [g1, decide_eq_false g2, decide_eq_false g5]; rfl
          rw [e] at hQ
          refine r_ilw rfl rfl ?_
          exact r_ret rfl rfl hQ
        · have ho := sd_3 hX hi g5
          refine r_al rfl rfl ?_
          refine r_gf rfl rfl (rg_56 hC) rfl ?_
          refine r_ic rfl ?_
          refine r_il rfl rfl ?_
          refine r_mul rfl ?_
          refine r_ic rfl ?_
          refine r_add rfl ?_
          refine r_ia rfl (rg_62 hC) (by omega) (by omega) (by decide) ?_
          refine r_isw (lv' := [(5, _), (4, _), (3, _), (2, _), (0, _), (1, _)]) rfl rfl rfl ?_
          refine r_al rfl rfl ?_
          refine r_al rfl rfl ?_
          refine r_gf rfl rfl (rg_56 hC) rfl ?_
          refine r_ic rfl ?_
          refine r_ilw rfl rfl ?_
          refine r_mul rfl ?_
          refine r_ia rfl (rg_62 hC) (by omega) (by omega) (by decide) ?_
          refine r_v2s rfl rfl (rg_56 hC) rfl (c_isFallenR hC (sd_r hS ho).1) ?_
          refine r_zeq rfl rfl (bi_r _) (fun g6 => ?_) (fun g6 => ?_)
          · have g6 := bi_0 g6
            have e : fMA de sd s sn i = 0 := by unfold fMA; rw [g1, decide_eq_false g2, decide_eq_true g5, g6]; rfl
            rw [e] at hQ
            refine r_ic rfl ?_
            exact r_ret rfl rfl hQ
          · have g6 := bi_1 g6
            have e : fMA de sd s sn i = lsr (lsr (fL s i) (fR de s (sd (Int.toNat (5 * i + 1))).toInt)) (fL s (sd (Int.toNat (5 * i + 3))).toInt) := by unfold fMA; rw [g1, decide_eq_false g2, decide_eq_true g5, g6]; rfl
            rw [e] at hQ
            refine r_ilw rfl rfl ?_
            refine r_al rfl rfl ?_
            refine r_ilw rfl rfl ?_
            refine r_v2s rfl rfl (rg_56 hC) rfl (c_leftR hC ho) ?_
            refine r_s2s rfl rfl rfl (c_lesser (show -2147483648 ≤ lsr (fL s i) (fR de s (sd (Int.toNat (5 * i + 1))).toInt) ∧ lsr (fL s i) (fR de s (sd (Int.toNat (5 * i + 1))).toInt) ≤ 2147483647 by have := lsr_or (fL s i) (fR de s (sd (Int.toNat (5 * i + 1))).toInt); have := fL_r s i; omega) (by have := fL_r s (sd (Int.toNat (5 * i + 3))).toInt; omega)) ?_
            refine r_goto rfl rfl ?_
            exact r_ret rfl rfl hQ
      · refine r_al rfl rfl ?_
        refine r_al rfl rfl ?_
        refine r_gf rfl rfl (rg_56 hC) rfl ?_
        refine r_ic rfl ?_
        refine r_il rfl rfl ?_
        refine r_mul rfl ?_
        refine r_ia rfl (rg_61 hC) (by omega) (by omega) (by decide) ?_
        refine r_v2s rfl rfl (rg_56 hC) rfl (c_isFallenR hC (de_r hE hd).1) ?_
        refine r_zeq rfl rfl (bi_r _) (fun g3 => ?_) (fun g3 => ?_)
        · have g3 := bi_0 g3
          have e : fMA de sd s sn i = 0 := by unfold fMA; rw [g1, decide_eq_true g2, g3]; rfl
          rw [e] at hQ
          refine r_ic rfl ?_
          exact r_ret rfl rfl hQ
        · have g3 := bi_1 g3
          refine r_al rfl rfl ?_
          refine r_il rfl rfl ?_
          refine r_v2s rfl rfl (rg_56 hC) rfl (c_isAloneR hC hd hS hn) ?_
          refine r_zne rfl rfl (bi_r _) (fun g4 => ?_) (fun g4 => ?_)
          · have g4 := bi_1 g4
            refine r_il rfl rfl ?_
            refine r_ic rfl ?_
            refine r_cne rfl rfl (as_r _) (by decide) (fun g5 => ?_) (fun g5 => ?_)
            · have e : fMA de sd s sn i = lsr (fL s i) (fR de s (sd (Int.toNat (5 * i + 1))).toInt) := by unfold fMA; rw [g1, decide_eq_true g2, g3, g4, decide_eq_false g5]; rfl
              rw [e] at hQ
              refine r_ilw rfl rfl ?_
              exact r_ret rfl rfl hQ
            · omega
          · have g4 := bi_0 g4
            have e : fMA de sd s sn i = 0 := by unfold fMA; rw [g1, decide_eq_true g2, g3, g4]; rfl
            rw [e] at hQ
            refine r_ic rfl ?_
            exact r_ret rfl rfl hQ
  obtain ⟨r, h1, h2⟩ := rn_S (vs := [.ref 56, iv (i)]) (Q := fun r => r = (some (iv (fMA de sd s sn i)), (C ++ rL (ro_ th tr db sn dm sm ty nx tk pl va fa lr ri) s kp ik tn de sd dd sr tx pa))) rfl (rn_up (N := 1000) (M := mm_fuel) (by decide) (main (fun r => r = (some (iv (fMA de sd s sn i)), (C ++ rL (ro_ th tr db sn dm sm ty nx tk pl va fa lr ri) s kp ik tn de sd dd sr tx pa))) rfl))
  have h1 : sX12_mayAsk [.ref 56, iv (i)] (C ++ rL (ro_ th tr db sn dm sm ty nx tk pl va fa lr ri) s kp ik tn de sd dd sr tx pa) = some r := h1
  rw [h1, h2]
abbrev rn_X12_asked (N : Nat) (c : mm_C) (Q : mm_R → Prop) : Prop := rn (mm_gf gLX12) (mm_pf pLX12) (mm_mv vX12_asked) (mm_mv zX12_asked) (mm_kc kLX12) mm_gs0 mm_rf0 mm_ro (some .int) 3 (mm_ins iX12_asked) N c Q
theorem c_askedR (hC : C.length = 56) (hk : k = 1 ∧ 0 ≤ i ∧ i ≤ 15 ∨ k = 0 ∧ 0 ≤ i ∧ i ≤ 9) (hS : SDr sd) (hE : DEr de) (hX : EXx s de sd) (hRS : RS s) (hn : 0 ≤ sn ∧ sn ≤ 16) : sX12_asked [.ref 56, iv (k), iv (i)] (C ++ rL (ro_ th tr db sn dm sm ty nx tk pl va fa lr ri) s kp ik tn de sd dd sr tx pa) = some (some (iv (fAS de sd s sn k i)), (C ++ rL (ro_ th tr db sn dm sm ty nx tk pl va fa lr ri) s kp ik tn de sd dd sr tx pa)) := by
  have main : ∀ Q : mm_R → Prop, Q (some (iv (fAS de sd s sn k i)), (C ++ rL (ro_ th tr db sn dm sm ty nx tk pl va fa lr ri) s kp ik tn de sd dd sr tx pa)) → rn_X12_asked (1000) (0, [(0, .ref 56), (1, iv (k)), (2, iv (i))], [], (C ++ rL (ro_ th tr db sn dm sm ty nx tk pl va fa lr ri) s kp ik tn de sd dd sr tx pa)) Q := by
    intro Q hQ
    refine r_il rfl rfl ?_
    refine r_ic rfl ?_
    refine r_cne rfl rfl (by omega) (by omega) (fun g1 => ?_) (fun g1 => ?_)
    · refine r_al rfl rfl ?_
      refine r_al rfl rfl ?_
      refine r_gf rfl rfl (rg_56 hC) rfl ?_
      refine r_ic rfl ?_
      refine r_il rfl rfl ?_
      refine r_mul rfl ?_
      refine r_ia rfl (rg_61 hC) (by omega) (by omega) (by decide) ?_
      refine r_v2s rfl rfl (rg_56 hC) rfl (c_isFallenR hC (de_r hE (by omega)).1) ?_
      refine r_zeq rfl rfl (bi_r _) (fun g2 => ?_) (fun g2 => ?_)
      · have g2 := bi_0 g2
        have e : fAS de sd s sn k i = fR de s i := by unfold fAS; rw [decide_eq_false g1, g2]; rfl
        rw [e] at hQ
        refine r_al rfl rfl ?_
        refine r_il rfl rfl ?_
        refine r_v2s rfl rfl (rg_56 hC) rfl (c_restR hC (by omega)) ?_
        exact r_ret rfl rfl hQ
      · have g2 := bi_1 g2
        have e : fAS de sd s sn k i = 0 := by unfold fAS; rw [decide_eq_false g1, g2]; rfl
        rw [e] at hQ
        refine r_ic rfl ?_
        refine r_goto rfl rfl ?_
        exact r_ret rfl rfl hQ
    · have e : fAS de sd s sn k i = fMA de sd s sn i := by unfold fAS; rw [decide_eq_true g1]; rfl
      rw [e] at hQ
      refine r_al rfl rfl ?_
      refine r_il rfl rfl ?_
      refine r_v2s rfl rfl (rg_56 hC) rfl (c_mayAskR hC (by omega) hS hE hX hRS hn) ?_
      refine r_goto rfl rfl ?_
      exact r_ret rfl rfl hQ
  obtain ⟨r, h1, h2⟩ := rn_S (vs := [.ref 56, iv (k), iv (i)]) (Q := fun r => r = (some (iv (fAS de sd s sn k i)), (C ++ rL (ro_ th tr db sn dm sm ty nx tk pl va fa lr ri) s kp ik tn de sd dd sr tx pa))) rfl (rn_up (N := 1000) (M := mm_fuel) (by decide) (main (fun r => r = (some (iv (fAS de sd s sn k i)), (C ++ rL (ro_ th tr db sn dm sm ty nx tk pl va fa lr ri) s kp ik tn de sd dd sr tx pa))) rfl))
  have h1 : sX12_asked [.ref 56, iv (k), iv (i)] (C ++ rL (ro_ th tr db sn dm sm ty nx tk pl va fa lr ri) s kp ik tn de sd dd sr tx pa) = some r := h1
  rw [h1, h2]
abbrev rn_X12_isThere (N : Nat) (c : mm_C) (Q : mm_R → Prop) : Prop := rn (mm_gf gLX12) (mm_pf pLX12) (mm_mv vX12_isThere) (mm_mv zX12_isThere) (mm_kc kLX12) mm_gs0 mm_rf0 mm_ro (some .boolean) 3 (mm_ins iX12_isThere) N c Q
theorem c_isThereR (hC : C.length = 56) (hk : -2147483648 ≤ k ∧ k ≤ 2147483647) (ha : -2147483648 ≤ a ∧ a ≤ 2147483647) (hd : 0 ≤ db ∧ db ≤ 10) (hn : 0 ≤ sn ∧ sn ≤ 16) : sX12_isThere [.ref 56, iv (k), iv (a)] (C ++ rL (ro_ th tr db sn dm sm ty nx tk pl va fa lr ri) s kp ik tn de sd dd sr tx pa) = some (some (iv (bi (fTH db sn k a))), (C ++ rL (ro_ th tr db sn dm sm ty nx tk pl va fa lr ri) s kp ik tn de sd dd sr tx pa)) := by
  have main : ∀ Q : mm_R → Prop, Q (some (iv (bi (fTH db sn k a))), (C ++ rL (ro_ th tr db sn dm sm ty nx tk pl va fa lr ri) s kp ik tn de sd dd sr tx pa)) → rn_X12_isThere (1000) (0, [(0, .ref 56), (1, iv (k)), (2, iv (a))], [], (C ++ rL (ro_ th tr db sn dm sm ty nx tk pl va fa lr ri) s kp ik tn de sd dd sr tx pa)) Q := by
    intro Q hQ
    refine r_il rfl rfl ?_
    refine r_ic rfl ?_
    refine r_ic rfl ?_
    refine r_s3s rfl rfl rfl (c_in hk (by decide) (by decide)) ?_
    refine r_zeq rfl rfl (bi_r _) (fun g1 => ?_) (fun g1 => ?_)
    · have g1 := bi_0 g1
      have e : fTH db sn k a = false := by unfold fTH; rw [g1]; rfl
      rw [e] at hQ
      refine r_ic rfl ?_
      exact r_retb rfl rfl (by omega) hQ
    · have g1 := bi_1 g1
      refine r_il rfl rfl ?_
      refine r_ic rfl ?_
      refine r_cne rfl rfl (by omega) (by omega) (fun g2 => ?_) (fun g2 => ?_)
      · refine r_al rfl rfl ?_
        refine r_il rfl rfl ?_
        refine r_v2s rfl rfl (rg_56 hC) rfl (c_isDebtR hC ha (by omega)) ?_
        refine r_zeq rfl rfl (bi_r _) (fun g3 => ?_) (fun g3 => ?_)
        · have g3 := bi_0 g3
          have e : fTH db sn k a = false := by unfold fTH; rw [g1, decide_eq_false g2, g3]; rfl
          rw [e] at hQ
          refine r_ic rfl ?_
          exact r_retb rfl rfl (by omega) hQ
        · have g3 := bi_1 g3
          have e : fTH db sn k a = true := by unfold fTH; rw [g1, decide_eq_false g2, g3]; rfl
          rw [e] at hQ
          refine r_ic rfl ?_
          refine r_goto rfl rfl ?_
          exact r_retb rfl rfl (by omega) hQ
      · refine r_al rfl rfl ?_
        refine r_il rfl rfl ?_
        refine r_v2s rfl rfl (rg_56 hC) rfl (c_isStandR hC ha hn) ?_
        refine r_zeq rfl rfl (bi_r _) (fun g3 => ?_) (fun g3 => ?_)
        · have g3 := bi_0 g3
          have e : fTH db sn k a = false := by unfold fTH; rw [g1, decide_eq_true g2, g3]; rfl
          rw [e] at hQ
          refine r_ic rfl ?_
          exact r_retb rfl rfl (by omega) hQ
        · have g3 := bi_1 g3
          have e : fTH db sn k a = true := by unfold fTH; rw [g1, decide_eq_true g2, g3]; rfl
          rw [e] at hQ
          refine r_goto rfl rfl ?_
          refine r_ic rfl ?_
          refine r_goto rfl rfl ?_
          exact r_retb rfl rfl (by omega) hQ
  obtain ⟨r, h1, h2⟩ := rn_S (vs := [.ref 56, iv (k), iv (a)]) (Q := fun r => r = (some (iv (bi (fTH db sn k a))), (C ++ rL (ro_ th tr db sn dm sm ty nx tk pl va fa lr ri) s kp ik tn de sd dd sr tx pa))) rfl (rn_up (N := 1000) (M := mm_fuel) (by decide) (main (fun r => r = (some (iv (bi (fTH db sn k a))), (C ++ rL (ro_ th tr db sn dm sm ty nx tk pl va fa lr ri) s kp ik tn de sd dd sr tx pa))) rfl))
  have h1 : sX12_isThere [.ref 56, iv (k), iv (a)] (C ++ rL (ro_ th tr db sn dm sm ty nx tk pl va fa lr ri) s kp ik tn de sd dd sr tx pa) = some r := h1
  rw [h1, h2]
end MA
