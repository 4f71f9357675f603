/-! ===== person and has: the reference; both keep the relation ===== -/
section PR
variable {C : List va_E} {tr : Int64} {th db sn dm sm ty nx tk pl va fa lr ri : Int} {s kp ik tn de sd dd sr tx pa : Nat → Int32} {a b v : Int} {Q : mm_R → Prop} {N : Nat}
def rVO (s tn : Nat → Int32) (a b : Int) : Int := bif i3 a 0 7 && i3 b 0 2 then (bif decide (b = 0) then (s (Int.toNat (122 + a))).toInt else bif decide (b = 1) then (tn (Int.toNat a)).toInt else bi (fF s a)) else (-1)
abbrev rn_X12_has (N : Nat) (c : mm_C) (Q : mm_R → Prop) : Prop := rn (mm_gf gLX12) (mm_pf pLX12) (mm_mv vX12_has) (mm_mv zX12_has) (mm_kc kLX12) mm_gs0 mm_rf0 mm_ro (some .int) 3 (mm_ins iX12_has) N c Q
theorem c_hasR (hC : C.length = 56) (ha : -2147483648 ≤ a ∧ a ≤ 2147483647) (hb : -2147483648 ≤ b ∧ b ≤ 2147483647) : sX12_has [.ref 56, iv (a), iv (b)] (C ++ rL (ro_ th tr db sn dm sm ty nx tk pl va fa lr ri) s kp ik tn de sd dd sr tx pa) = some (some (iv (rVO s tn a b)), (C ++ rL (ro_ (0 : Int) tr db sn dm sm ty nx tk pl va fa lr ri) s kp ik tn de sd dd sr tx pa)) := by
  have main : ∀ Q : mm_R → Prop, Q (some (iv (rVO s tn a b)), (C ++ rL (ro_ (0 : Int) tr db sn dm sm ty nx tk pl va fa lr ri) s kp ik tn de sd dd sr tx pa)) → rn_X12_has (1000) (0, [(0, .ref 56), (1, iv (a)), (2, iv (b))], [], (C ++ rL (ro_ th tr db sn dm sm ty nx tk pl va fa lr ri) s kp ik tn de sd dd sr tx pa)) Q := by
    intro Q hQ
    refine r_al rfl rfl ?_
    refine r_ic rfl ?_
    refine r_pf rfl rfl (rg_56 hC) rfl (rp_th hC) ?_
    refine r_il rfl rfl ?_
    refine r_s1s rfl rfl rfl (c_isPersonR ha) ?_
    refine r_zeq rfl rfl (bi_r _) (fun g1 => ?_) (fun g1 => ?_)
    · have g1 := bi_0 g1
      have e : rVO s tn a b = -1 := by unfold rVO; rw [g1]; rfl
      rw [e] at hQ
      refine r_ic rfl ?_
      refine r_goto rfl rfl ?_
      exact r_ret rfl rfl hQ
    · have g1 := bi_1 g1
      have ga := i3_t g1
      refine r_il rfl rfl ?_
      refine r_ic rfl ?_
      refine r_ic rfl ?_
      refine r_s3s rfl rfl rfl (c_in hb (by decide) (by decide)) ?_
      refine r_zne rfl rfl (bi_r _) (fun g2 => ?_) (fun g2 => ?_)
      · have g2 := bi_1 g2
        have gb := i3_t g2
        refine r_il rfl rfl ?_
        refine r_zne rfl rfl (by omega) (fun g3 => ?_) (fun g3 => ?_)
        · refine r_il rfl rfl ?_
          refine r_ic rfl ?_
          refine r_cne rfl rfl (by omega) (by omega) (fun g4 => ?_) (fun g4 => ?_)
          · refine r_al rfl rfl ?_
            refine r_il rfl rfl ?_
            refine r_v2s rfl rfl (rg_56 hC) rfl (c_isFallenR hC (by omega)) ?_
            refine r_zeq rfl rfl (bi_r _) (fun g5 => ?_) (fun g5 => ?_)
            · have e : rVO s tn a b = 0 := by unfold rVO; rw [g1, g2, decide_eq_false g3, decide_eq_false g4, bi_0 g5]; rfl
              rw [e] at hQ
              refine r_ic rfl ?_
              exact r_ret rfl rfl hQ
            · have e : rVO s tn a b = 1 := by unfold rVO; rw [g1, g2, decide_eq_false g3, decide_eq_false g4, bi_1 g5]; rfl
              rw [e] at hQ
              refine r_ic rfl ?_
              refine r_goto rfl rfl ?_
              exact r_ret rfl rfl hQ
          · have e : rVO s tn a b = (tn (Int.toNat a)).toInt := by unfold rVO; rw [g1, g2, decide_eq_false g3, decide_eq_true g4]; rfl
            rw [e] at hQ
            refine r_al rfl rfl ?_
            refine r_gf rfl rfl (rg_56 hC) rfl ?_
            refine r_il rfl rfl ?_
            refine r_ia rfl (rg_60 hC) (by omega) (by omega) (by decide) ?_
            refine r_goto rfl rfl ?_
            exact r_ret rfl rfl hQ
        · have e : rVO s tn a b = (s (Int.toNat (122 + a))).toInt := by unfold rVO; rw [g1, g2, decide_eq_true g3]; rfl
          rw [e] at hQ
          refine r_al rfl rfl ?_
          refine r_gf rfl rfl (rg_56 hC) rfl ?_
          refine r_bi rfl (by decide) ?_
          refine r_il rfl rfl ?_
          refine r_add rfl ?_
          refine r_ia rfl (rg_57 hC) (by omega) (by omega) (by decide) ?_
          refine r_goto rfl rfl ?_
          exact r_ret rfl rfl hQ
      · have g2 := bi_0 g2
        have e : rVO s tn a b = -1 := by unfold rVO; rw [g1, g2]; rfl
        rw [e] at hQ
        refine r_ic rfl ?_
        refine r_goto rfl rfl ?_
        exact r_ret rfl rfl hQ
  obtain ⟨r, h1, h2⟩ := rn_S (vs := [.ref 56, iv (a), iv (b)]) (Q := fun r => r = (some (iv (rVO s tn a b)), (C ++ rL (ro_ (0 : Int) tr db sn dm sm ty nx tk pl va fa lr ri) s kp ik tn de sd dd sr tx pa))) rfl (rn_up (N := 1000) (M := mm_fuel) (by decide) (main (fun r => r = (some (iv (rVO s tn a b)), (C ++ rL (ro_ (0 : Int) tr db sn dm sm ty nx tk pl va fa lr ri) s kp ik tn de sd dd sr tx pa))) rfl))
  have h1 : sX12_has [.ref 56, iv (a), iv (b)] (C ++ rL (ro_ th tr db sn dm sm ty nx tk pl va fa lr ri) s kp ik tn de sd dd sr tx pa) = some r := h1
  rw [h1, h2]
abbrev rn_X12_person (N : Nat) (c : mm_C) (Q : mm_R → Prop) : Prop := rn (mm_gf gLX12) (mm_pf pLX12) (mm_mv vX12_person) (mm_mv zX12_person) (mm_kc kLX12) mm_gs0 mm_rf0 mm_ro (some .int) 5 (mm_ins iX12_person) N c Q
theorem c_personRB (hC : C.length = 56) (ha : -2147483648 ≤ a ∧ a ≤ 2147483647) (hb : -2147483648 ≤ b ∧ b ≤ 2147483647) (hv : -2147483648 ≤ v ∧ v ≤ 2147483647) (hbad : (i3 a 0 7 && (i3 b 0 2 && i3 v 0 (mo b))) = false) : sX12_person [.ref 56, iv (a), iv (b), iv (v)] (C ++ rL (ro_ th tr db sn dm sm ty nx tk pl va fa lr ri) s kp ik tn de sd dd sr tx pa) = some (some (iv (-1)), (C ++ rL (ro_ (0 : Int) tr db sn dm sm ty nx tk pl va fa lr ri) s kp ik tn de sd dd sr tx pa)) := by
  have main : ∀ Q : mm_R → Prop, Q (some (iv (-1)), (C ++ rL (ro_ (0 : Int) tr db sn dm sm ty nx tk pl va fa lr ri) s kp ik tn de sd dd sr tx pa)) → rn_X12_person (1000) (0, [(0, .ref 56), (1, iv (a)), (2, iv (b)), (3, iv (v))], [], (C ++ rL (ro_ th tr db sn dm sm ty nx tk pl va fa lr ri) s kp ik tn de sd dd sr tx pa)) Q := by
    intro Q hQ
    refine r_al rfl rfl ?_
    refine r_ic rfl ?_
    refine r_pf rfl rfl (rg_56 hC) rfl (rp_th hC) ?_
    refine r_il rfl rfl ?_
    refine r_s1s rfl rfl rfl (c_isPersonR ha) ?_
    refine r_zeq rfl rfl (bi_r _) (fun g1 => ?_) (fun g1 => ?_)
    · refine r_ic rfl ?_
      exact r_ret rfl rfl hQ
    · have g1 := bi_1 g1
      have ga := i3_t g1
      refine r_il rfl rfl ?_
      refine r_ic rfl ?_
      refine r_ic rfl ?_
      refine r_s3s rfl rfl rfl (c_in hb (by decide) (by decide)) ?_
      refine r_zeq rfl rfl (bi_r _) (fun g2 => ?_) (fun g2 => ?_)
      · refine r_ic rfl ?_
        exact r_ret rfl rfl hQ
      · have g2 := bi_1 g2
        have gb := i3_t g2
        refine r_il rfl rfl ?_
        refine r_ic rfl ?_
        refine r_il rfl rfl ?_
        refine r_zne rfl rfl (by omega) (fun g3 => ?_) (fun g3 => ?_)
        · refine r_il rfl rfl ?_
          refine r_ic rfl ?_
          refine r_cne rfl rfl (by omega) (by omega) (fun g4 => ?_) (fun g4 => ?_)
          · refine r_ic rfl ?_
            refine r_s3s rfl rfl rfl (c_in hv (by decide) (by decide)) ?_
            refine r_zne rfl rfl (bi_r _) (fun g5 => ?_) (fun g5 => ?_)
            · have g5 := bi_1 g5
              have em : mo b = 1 := by unfold mo; rw [decide_eq_false g3, decide_eq_false g4]; rfl
              rw [g1, g2, em, g5] at hbad
              cases hbad
            · refine r_ic rfl ?_
              exact r_ret rfl rfl hQ
          · refine r_bi rfl (by decide) ?_
            refine r_goto rfl rfl ?_
            refine r_s3s rfl rfl rfl (c_in hv (by decide) (by decide)) ?_
            refine r_zne rfl rfl (bi_r _) (fun g5 => ?_) (fun g5 => ?_)
            · have g5 := bi_1 g5
              have em : mo b = 10 := by unfold mo; rw [decide_eq_false g3, decide_eq_true g4]; rfl
              rw [g1, g2, em, g5] at hbad
              cases hbad
            · refine r_ic rfl ?_
              exact r_ret rfl rfl hQ
        · refine r_si rfl (by decide) ?_
          refine r_goto rfl rfl ?_
          refine r_s3s rfl rfl rfl (c_in hv (by decide) (by decide)) ?_
          refine r_zne rfl rfl (bi_r _) (fun g5 => ?_) (fun g5 => ?_)
          · have g5 := bi_1 g5
            have em : mo b = 9999 := by unfold mo; rw [decide_eq_true g3]; rfl
            rw [g1, g2, em, g5] at hbad
            cases hbad
          · refine r_ic rfl ?_
            exact r_ret rfl rfl hQ
  obtain ⟨r, h1, h2⟩ := rn_S (vs := [.ref 56, iv (a), iv (b), iv (v)]) (Q := fun r => r = (some (iv (-1)), (C ++ rL (ro_ (0 : Int) tr db sn dm sm ty nx tk pl va fa lr ri) s kp ik tn de sd dd sr tx pa))) rfl (rn_up (N := 1000) (M := mm_fuel) (by decide) (main (fun r => r = (some (iv (-1)), (C ++ rL (ro_ (0 : Int) tr db sn dm sm ty nx tk pl va fa lr ri) s kp ik tn de sd dd sr tx pa))) rfl))
  have h1 : sX12_person [.ref 56, iv (a), iv (b), iv (v)] (C ++ rL (ro_ th tr db sn dm sm ty nx tk pl va fa lr ri) s kp ik tn de sd dd sr tx pa) = some r := h1
  rw [h1, h2]
theorem c_personRG0 (hC : C.length = 56) (ha : -2147483648 ≤ a ∧ a ≤ 2147483647) (hb : -2147483648 ≤ b ∧ b ≤ 2147483647) (hv : -2147483648 ≤ v ∧ v ≤ 2147483647) (hp : i3 a 0 7 = true) (hB : b = 0) (hV : i3 v 0 (mo b) = true) : sX12_person [.ref 56, iv (a), iv (b), iv (v)] (C ++ rL (ro_ th tr db sn dm sm ty nx tk pl va fa lr ri) s kp ik tn de sd dd sr tx pa) = some (some (iv (rVO s tn a b)), (C ++ rL (ro_ (0 : Int) tr db sn dm sm ty nx tk pl va fa lr ri) (upd s (Int.toNat (122 + a)) (Int32.ofInt v)) kp ik tn de sd dd sr tx pa)) := by
  have main : ∀ Q : mm_R → Prop, Q (some (iv (rVO s tn a b)), (C ++ rL (ro_ (0 : Int) tr db sn dm sm ty nx tk pl va fa lr ri) (upd s (Int.toNat (122 + a)) (Int32.ofInt v)) kp ik tn de sd dd sr tx pa)) → rn_X12_person (1000) (0, [(0, .ref 56), (1, iv (a)), (2, iv (b)), (3, iv (v))], [], (C ++ rL (ro_ th tr db sn dm sm ty nx tk pl va fa lr ri) s kp ik tn de sd dd sr tx pa)) Q := by
    intro Q hQ
    refine r_al rfl rfl ?_
    refine r_ic rfl ?_
    refine r_pf rfl rfl (rg_56 hC) rfl (rp_th hC) ?_
    refine r_il rfl rfl ?_
    refine r_s1s rfl rfl rfl (c_isPersonR ha) ?_
    refine r_zeq rfl rfl (bi_r _) (fun g1 => ?_) (fun g1 => ?_)
    · rw [hp] at g1
      exact absurd g1 (by decide)
    · have g1 := bi_1 g1
      have ga := i3_t g1
      refine r_il rfl rfl ?_
      refine r_ic rfl ?_
      refine r_ic rfl ?_
      refine r_s3s rfl rfl rfl (c_in hb (by decide) (by decide)) ?_
      refine r_zeq rfl rfl (bi_r _) (fun g2 => ?_) (fun g2 => ?_)
      · rw [hB] at g2
        exact absurd g2 (by decide)
      · have g2 := bi_1 g2
        have gb := i3_t g2
        refine r_il rfl rfl ?_
        refine r_ic rfl ?_
        refine r_il rfl rfl ?_
        refine r_zne rfl rfl (by omega) (fun g3 => ?_) (fun g3 => ?_)
        · exact absurd hB g3
        · refine r_si rfl (by decide) ?_
          refine r_goto rfl rfl ?_
          refine r_s3s rfl rfl rfl (c_in hv (by decide) (by decide)) ?_
          refine r_zne rfl rfl (bi_r _) (fun g5 => ?_) (fun g5 => ?_)
          · refine r_il rfl rfl ?_
            refine r_zne rfl rfl (by omega) (fun g6 => ?_) (fun g6 => ?_)
            · exact absurd hB g6
            · have e : rVO s tn a b = (s (Int.toNat (122 + a))).toInt := by unfold rVO; rw [g1, g2, decide_eq_true g6]; rfl
              rw [e] at hQ
              refine r_al rfl rfl ?_
              refine r_gf rfl rfl (rg_56 hC) rfl ?_
              refine r_bi rfl (by decide) ?_
              refine r_il rfl rfl ?_
              refine r_add rfl ?_
              refine r_ia rfl (rg_57 hC) (by omega) (by omega) (by decide) ?_
              refine r_goto rfl rfl ?_
              refine r_isw (lv' := [(4, _), (0, _), (1, _), (2, _), (3, _)]) rfl rfl rfl ?_
              refine r_il rfl rfl ?_
              refine r_zne rfl rfl (by omega) (fun g8 => ?_) (fun g8 => ?_)
              · exact absurd hB g8
              · refine r_al rfl rfl ?_
                refine r_gf rfl rfl (rg_56 hC) rfl ?_
                refine r_bi rfl (by decide) ?_
                refine r_il rfl rfl ?_
                refine r_add rfl ?_
                refine r_il rfl rfl ?_
                refine r_ias rfl (rg_57 hC) (by omega) (by omega) (by decide) (rs_57 hC) ?_
                refine r_goto rfl rfl ?_
                refine r_ilw rfl rfl ?_
                exact r_ret rfl rfl hQ
          · have g5 := bi_0 g5
            have em : mo b = 9999 := by unfold mo; rw [decide_eq_true g3]; rfl
            rw [em, g5] at hV
            cases hV
  obtain ⟨r, h1, h2⟩ := rn_S (vs := [.ref 56, iv (a), iv (b), iv (v)]) (Q := fun r => r = (some (iv (rVO s tn a b)), (C ++ rL (ro_ (0 : Int) tr db sn dm sm ty nx tk pl va fa lr ri) (upd s (Int.toNat (122 + a)) (Int32.ofInt v)) kp ik tn de sd dd sr tx pa))) rfl (rn_up (N := 1000) (M := mm_fuel) (by decide) (main (fun r => r = (some (iv (rVO s tn a b)), (C ++ rL (ro_ (0 : Int) tr db sn dm sm ty nx tk pl va fa lr ri) (upd s (Int.toNat (122 + a)) (Int32.ofInt v)) kp ik tn de sd dd sr tx pa))) rfl))
  have h1 : sX12_person [.ref 56, iv (a), iv (b), iv (v)] (C ++ rL (ro_ th tr db sn dm sm ty nx tk pl va fa lr ri) s kp ik tn de sd dd sr tx pa) = some r := h1
  rw [h1, h2]
theorem c_personRG1 (hC : C.length = 56) (ha : -2147483648 ≤ a ∧ a ≤ 2147483647) (hb : -2147483648 ≤ b ∧ b ≤ 2147483647) (hv : -2147483648 ≤ v ∧ v ≤ 2147483647) (hp : i3 a 0 7 = true) (hB : b = 1) (hV : i3 v 0 (mo b) = true) : sX12_person [.ref 56, iv (a), iv (b), iv (v)] (C ++ rL (ro_ th tr db sn dm sm ty nx tk pl va fa lr ri) s kp ik tn de sd dd sr tx pa) = some (some (iv (rVO s tn a b)), (C ++ rL (ro_ (0 : Int) tr db sn dm sm ty nx tk pl va fa lr ri) s kp ik (upd tn (Int.toNat a) (Int32.ofInt v)) de sd dd sr tx pa)) := by
  have main : ∀ Q : mm_R → Prop, Q (some (iv (rVO s tn a b)), (C ++ rL (ro_ (0 : Int) tr db sn dm sm ty nx tk pl va fa lr ri) s kp ik (upd tn (Int.toNat a) (Int32.ofInt v)) de sd dd sr tx pa)) → rn_X12_person (1000) (0, [(0, .ref 56), (1, iv (a)), (2, iv (b)), (3, iv (v))], [], (C ++ rL (ro_ th tr db sn dm sm ty nx tk pl va fa lr ri) s kp ik tn de sd dd sr tx pa)) Q := by
    intro Q hQ
    refine r_al rfl rfl ?_
    refine r_ic rfl ?_
    refine r_pf rfl rfl (rg_56 hC) rfl (rp_th hC) ?_
    refine r_il rfl rfl ?_
    refine r_s1s rfl rfl rfl (c_isPersonR ha) ?_
    refine r_zeq rfl rfl (bi_r _) (fun g1 => ?_) (fun g1 => ?_)
    · rw [hp] at g1
      exact absurd g1 (by decide)
    · have g1 := bi_1 g1
      have ga := i3_t g1
      refine r_il rfl rfl ?_
      refine r_ic rfl ?_
      refine r_ic rfl ?_
      refine r_s3s rfl rfl rfl (c_in hb (by decide) (by decide)) ?_
      refine r_zeq rfl rfl (bi_r _) (fun g2 => ?_) (fun g2 => ?_)
      · rw [hB] at g2
        exact absurd g2 (by decide)
      · have g2 := bi_1 g2
        have gb := i3_t g2
        refine r_il rfl rfl ?_
        refine r_ic rfl ?_
        refine r_il rfl rfl ?_
        refine r_zne rfl rfl (by omega) (fun g3 => ?_) (fun g3 => ?_)
        · refine r_il rfl rfl ?_
          refine r_ic rfl ?_
          refine r_cne rfl rfl (by omega) (by omega) (fun g4 => ?_) (fun g4 => ?_)
          · exact absurd hB g4
          · refine r_bi rfl (by decide) ?_
            refine r_goto rfl rfl ?_
            refine r_s3s rfl rfl rfl (c_in hv (by decide) (by decide)) ?_
            refine r_zne rfl rfl (bi_r _) (fun g5 => ?_) (fun g5 => ?_)
            · refine r_il rfl rfl ?_
              refine r_zne rfl rfl (by omega) (fun g6 => ?_) (fun g6 => ?_)
              · refine r_il rfl rfl ?_
                refine r_ic rfl ?_
                refine r_cne rfl rfl (by omega) (by omega) (fun g7 => ?_) (fun g7 => ?_)
                · exact absurd hB g7
                · have e : rVO s tn a b = (tn (Int.toNat a)).toInt := by unfold rVO; rw [g1, g2, decide_eq_false g6, decide_eq_true g7]; rfl
                  rw [e] at hQ
                  refine r_al rfl rfl ?_
                  refine r_gf rfl rfl (rg_56 hC) rfl ?_
                  refine r_il rfl rfl ?_
                  refine r_ia rfl (rg_60 hC) (by omega) (by omega) (by decide) ?_
                  refine r_goto rfl rfl ?_
                  refine r_isw (lv' := [(4, _), (0, _), (1, _), (2, _), (3, _)]) rfl rfl rfl ?_
                  refine r_il rfl rfl ?_
                  refine r_zne rfl rfl (by omega) (fun g8 => ?_) (fun g8 => ?_)
                  · refine r_il rfl rfl ?_
                    refine r_ic rfl ?_
                    refine r_cne rfl rfl (by omega) (by omega) (fun g9 => ?_) (fun g9 => ?_)
                    · exact absurd hB g9
                    · refine r_al rfl rfl ?_
                      refine r_gf rfl rfl (rg_56 hC) rfl ?_
                      refine r_il rfl rfl ?_
                      refine r_il rfl rfl ?_
                      refine r_ias rfl (rg_60 hC) (by omega) (by omega) (by decide) (rs_60 hC) ?_
                      refine r_goto rfl rfl ?_
                      refine r_ilw rfl rfl ?_
                      exact r_ret rfl rfl hQ
                  · omega
              · omega
            · have g5 := bi_0 g5
              have em : mo b = 10 := by unfold mo; rw [decide_eq_false g3, decide_eq_true g4]; rfl
              rw [em, g5] at hV
              cases hV
        · omega
  obtain ⟨r, h1, h2⟩ := rn_S (vs := [.ref 56, iv (a), iv (b), iv (v)]) (Q := fun r => r = (some (iv (rVO s tn a b)), (C ++ rL (ro_ (0 : Int) tr db sn dm sm ty nx tk pl va fa lr ri) s kp ik (upd tn (Int.toNat a) (Int32.ofInt v)) de sd dd sr tx pa))) rfl (rn_up (N := 1000) (M := mm_fuel) (by decide) (main (fun r => r = (some (iv (rVO s tn a b)), (C ++ rL (ro_ (0 : Int) tr db sn dm sm ty nx tk pl va fa lr ri) s kp ik (upd tn (Int.toNat a) (Int32.ofInt v)) de sd dd sr tx pa))) rfl))
  have h1 : sX12_person [.ref 56, iv (a), iv (b), iv (v)] (C ++ rL (ro_ th tr db sn dm sm ty nx tk pl va fa lr ri) s kp ik tn de sd dd sr tx pa) = some r := h1
  rw [h1, h2]
theorem c_personRG2 (hC : C.length = 56) (ha : -2147483648 ≤ a ∧ a ≤ 2147483647) (hb : -2147483648 ≤ b ∧ b ≤ 2147483647) (hv : -2147483648 ≤ v ∧ v ≤ 2147483647) (hp : i3 a 0 7 = true) (hB : b = 2) (hV : i3 v 0 (mo b) = true) : sX12_person [.ref 56, iv (a), iv (b), iv (v)] (C ++ rL (ro_ th tr db sn dm sm ty nx tk pl va fa lr ri) s kp ik tn de sd dd sr tx pa) = some (some (iv (rVO s tn a b)), (C ++ rL (ro_ (0 : Int) tr db sn dm sm ty nx tk pl va fa lr ri) (upd s (Int.toNat 130) (Int32.ofInt (oOr (oAnd (s (Int.toNat 130)).toInt (oXor (oShl 1 a) (-1))) (oShl v a)))) kp ik tn de sd dd sr tx pa)) := by
  have main : ∀ Q : mm_R → Prop, Q (some (iv (rVO s tn a b)), (C ++ rL (ro_ (0 : Int) tr db sn dm sm ty nx tk pl va fa lr ri) (upd s (Int.toNat 130) (Int32.ofInt (oOr (oAnd (s (Int.toNat 130)).toInt (oXor (oShl 1 a) (-1))) (oShl v a)))) kp ik tn de sd dd sr tx pa)) → rn_X12_person (1000) (0, [(0, .ref 56), (1, iv (a)), (2, iv (b)), (3, iv (v))], [], (C ++ rL (ro_ th tr db sn dm sm ty nx tk pl va fa lr ri) s kp ik tn de sd dd sr tx pa)) Q := by
    intro Q hQ
    refine r_al rfl rfl ?_
    refine r_ic rfl ?_
    refine r_pf rfl rfl (rg_56 hC) rfl (rp_th hC) ?_
    refine r_il rfl rfl ?_
    refine r_s1s rfl rfl rfl (c_isPersonR ha) ?_
    refine r_zeq rfl rfl (bi_r _) (fun g1 => ?_) (fun g1 => ?_)
    · rw [hp] at g1
      exact absurd g1 (by decide)
    · have g1 := bi_1 g1
      have ga := i3_t g1
      refine r_il rfl rfl ?_
      refine r_ic rfl ?_
      refine r_ic rfl ?_
      refine r_s3s rfl rfl rfl (c_in hb (by decide) (by decide)) ?_
      refine r_zeq rfl rfl (bi_r _) (fun g2 => ?_) (fun g2 => ?_)
      · rw [hB] at g2
        exact absurd g2 (by decide)
      · have g2 := bi_1 g2
        have gb := i3_t g2
        refine r_il rfl rfl ?_
        refine r_ic rfl ?_
        refine r_il rfl rfl ?_
        refine r_zne rfl rfl (by omega) (fun g3 => ?_) (fun g3 => ?_)
        · refine r_il rfl rfl ?_
          refine r_ic rfl ?_
          refine r_cne rfl rfl (by omega) (by omega) (fun g4 => ?_) (fun g4 => ?_)
          · refine r_ic rfl ?_
            refine r_s3s rfl rfl rfl (c_in hv (by decide) (by decide)) ?_
            refine r_zne rfl rfl (bi_r _) (fun g5 => ?_) (fun g5 => ?_)
            · refine r_il rfl rfl ?_
              refine r_zne rfl rfl (by omega) (fun g6 => ?_) (fun g6 => ?_)
              · refine r_il rfl rfl ?_
                refine r_ic rfl ?_
                refine r_cne rfl rfl (by omega) (by omega) (fun g7 => ?_) (fun g7 => ?_)
                · refine r_al rfl rfl ?_
                  refine r_il rfl rfl ?_
                  refine r_v2s rfl rfl (rg_56 hC) rfl (c_isFallenR hC (by omega)) ?_
                  refine r_zeq rfl rfl (bi_r _) (fun ga2 => ?_) (fun ga2 => ?_)
                  · have e : rVO s tn a b = 0 := by unfold rVO; rw [g1, g2, decide_eq_false g6, decide_eq_false g7, bi_0 ga2]; rfl
                    rw [e] at hQ
                    refine r_ic rfl ?_
                    refine r_isw (lv' := [(4, _), (0, _), (1, _), (2, _), (3, _)]) rfl rfl rfl ?_
                    refine r_il rfl rfl ?_
                    refine r_zne rfl rfl (by omega) (fun g8 => ?_) (fun g8 => ?_)
                    · refine r_il rfl rfl ?_
                      refine r_ic rfl ?_
                      refine r_cne rfl rfl (by omega) (by omega) (fun g9 => ?_) (fun g9 => ?_)
                      · refine r_al rfl rfl ?_
                        refine r_gf rfl rfl (rg_56 hC) rfl ?_
                        refine r_si rfl (by decide) ?_
                        refine r_al rfl rfl ?_
                        refine r_gf rfl rfl (rg_56 hC) rfl ?_
                        refine r_si rfl (by decide) ?_
                        refine r_ia rfl (rg_57 hC) (by omega) (by omega) (by decide) ?_
                        refine r_ic rfl ?_
                        refine r_il rfl rfl ?_
                        refine r_shl rfl ?_
                        refine r_ic rfl ?_
                        refine r_xor rfl ?_
                        refine r_and rfl ?_
                        refine r_il rfl rfl ?_
                        refine r_il rfl rfl ?_
                        refine r_shl rfl ?_
                        refine r_or rfl ?_
                        refine r_ias rfl (rg_57 hC) (by omega) (by omega) (by decide) (rs_57 hC) ?_
                        refine r_ilw rfl rfl ?_
                        exact r_ret rfl rfl hQ
                      · omega
                    · omega
                  · have e : rVO s tn a b = 1 := by unfold rVO; rw [g1, g2, decide_eq_false g6, decide_eq_false g7, bi_1 ga2]; rfl
                    rw [e] at hQ
                    refine r_ic rfl ?_
                    refine r_goto rfl rfl ?_
                    refine r_isw (lv' := [(4, _), (0, _), (1, _), (2, _), (3, _)]) rfl rfl rfl ?_
                    refine r_il rfl rfl ?_
                    refine r_zne rfl rfl (by omega) (fun g8 => ?_) (fun g8 => ?_)
                    · refine r_il rfl rfl ?_
                      refine r_ic rfl ?_
                      refine r_cne rfl rfl (by omega) (by omega) (fun g9 => ?_) (fun g9 => ?_)
                      · refine r_al rfl rfl ?_
                        refine r_gf rfl rfl (rg_56 hC) rfl ?_
                        refine r_si rfl (by decide) ?_
                        refine r_al rfl rfl ?_
                        refine r_gf rfl rfl (rg_56 hC) rfl ?_
                        refine r_si rfl (by decide) ?_
                        refine r_ia rfl (rg_57 hC) (by omega) (by omega) (by decide) ?_
                        refine r_ic rfl ?_
                        refine r_il rfl rfl ?_
                        refine r_shl rfl ?_
                        refine r_ic rfl ?_
                        refine r_xor rfl ?_
                        refine r_and rfl ?_
                        refine r_il rfl rfl ?_
                        refine r_il rfl rfl ?_
                        refine r_shl rfl ?_
                        refine r_or rfl ?_
                        refine r_ias rfl (rg_57 hC) (by omega) (by omega) (by decide) (rs_57 hC) ?_
                        refine r_ilw rfl rfl ?_
                        exact r_ret rfl rfl hQ
                      · omega
                    · omega
                · omega
              · omega
            · have g5 := bi_0 g5
              have em : mo b = 1 := by unfold mo; rw [decide_eq_false g3, decide_eq_false g4]; rfl
              rw [em, g5] at hV
              cases hV
          · omega
        · omega
  obtain ⟨r, h1, h2⟩ := rn_S (vs := [.ref 56, iv (a), iv (b), iv (v)]) (Q := fun r => r = (some (iv (rVO s tn a b)), (C ++ rL (ro_ (0 : Int) tr db sn dm sm ty nx tk pl va fa lr ri) (upd s (Int.toNat 130) (Int32.ofInt (oOr (oAnd (s (Int.toNat 130)).toInt (oXor (oShl 1 a) (-1))) (oShl v a)))) kp ik tn de sd dd sr tx pa))) rfl (rn_up (N := 1000) (M := mm_fuel) (by decide) (main (fun r => r = (some (iv (rVO s tn a b)), (C ++ rL (ro_ (0 : Int) tr db sn dm sm ty nx tk pl va fa lr ri) (upd s (Int.toNat 130) (Int32.ofInt (oOr (oAnd (s (Int.toNat 130)).toInt (oXor (oShl 1 a) (-1))) (oShl v a)))) kp ik tn de sd dd sr tx pa))) rfl))
  have h1 : sX12_person [.ref 56, iv (a), iv (b), iv (v)] (C ++ rL (ro_ th tr db sn dm sm ty nx tk pl va fa lr ri) s kp ik tn de sd dd sr tx pa) = some r := h1
  rw [h1, h2]
end PR
