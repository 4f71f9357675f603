/-! ===== the class reads a token ===== -/
def sp_0 (bt : Nat → Int32) (cs cp : Int) : Bool := decide (cp - cs = 4) && (decide ((bt (Int.toNat (cs + (0)))).toInt = 100) && (decide ((bt (Int.toNat (cs + (0 + 1)))).toInt = 101) && (decide ((bt (Int.toNat (cs + (0 + 1 + 1)))).toInt = 98) && (decide ((bt (Int.toNat (cs + (0 + 1 + 1 + 1)))).toInt = 116)))))
def sp_1 (bt : Nat → Int32) (cs cp : Int) : Bool := decide (cp - cs = 5) && (decide ((bt (Int.toNat (cs + (0)))).toInt = 115) && (decide ((bt (Int.toNat (cs + (0 + 1)))).toInt = 116) && (decide ((bt (Int.toNat (cs + (0 + 1 + 1)))).toInt = 97) && (decide ((bt (Int.toNat (cs + (0 + 1 + 1 + 1)))).toInt = 110) && (decide ((bt (Int.toNat (cs + (0 + 1 + 1 + 1 + 1)))).toInt = 100))))))
def sp_2 (bt : Nat → Int32) (cs cp : Int) : Bool := decide (cp - cs = 4) && (decide ((bt (Int.toNat (cs + (0)))).toInt = 111) && (decide ((bt (Int.toNat (cs + (0 + 1)))).toInt = 118) && (decide ((bt (Int.toNat (cs + (0 + 1 + 1)))).toInt = 101) && (decide ((bt (Int.toNat (cs + (0 + 1 + 1 + 1)))).toInt = 114)))))
def sp_3 (bt : Nat → Int32) (cs cp : Int) : Bool := decide (cp - cs = 5) && (decide ((bt (Int.toNat (cs + (0)))).toInt = 119) && (decide ((bt (Int.toNat (cs + (0 + 1)))).toInt = 104) && (decide ((bt (Int.toNat (cs + (0 + 1 + 1)))).toInt = 111) && (decide ((bt (Int.toNat (cs + (0 + 1 + 1 + 1)))).toInt = 108) && (decide ((bt (Int.toNat (cs + (0 + 1 + 1 + 1 + 1)))).toInt = 101))))))
def sp_4 (bt : Nat → Int32) (cs cp : Int) : Bool := decide (cp - cs = 4) && (decide ((bt (Int.toNat (cs + (0)))).toInt = 112) && (decide ((bt (Int.toNat (cs + (0 + 1)))).toInt = 97) && (decide ((bt (Int.toNat (cs + (0 + 1 + 1)))).toInt = 114) && (decide ((bt (Int.toNat (cs + (0 + 1 + 1 + 1)))).toInt = 116)))))
def sp_5 (bt : Nat → Int32) (cs cp : Int) : Bool := decide (cp - cs = 6) && (decide ((bt (Int.toNat (cs + (0)))).toInt = 98) && (decide ((bt (Int.toNat (cs + (0 + 1)))).toInt = 101) && (decide ((bt (Int.toNat (cs + (0 + 1 + 1)))).toInt = 104) && (decide ((bt (Int.toNat (cs + (0 + 1 + 1 + 1)))).toInt = 105) && (decide ((bt (Int.toNat (cs + (0 + 1 + 1 + 1 + 1)))).toInt = 110) && (decide ((bt (Int.toNat (cs + (0 + 1 + 1 + 1 + 1 + 1)))).toInt = 100)))))))
def cw_t (bt : Nat → Int32) (cs cp : Int) : Int := bif sp_0 bt cs cp then 6 else bif sp_1 bt cs cp then 7 else bif sp_2 bt cs cp then 8 else bif sp_3 bt cs cp then 9 else bif sp_4 bt cs cp then 10 else bif sp_5 bt cs cp then 11 else 1
section C2
variable {ki ln cp cs ct cv ja ea ma jb eb mb re fl : Int} {rr dr : Nat} {rl : Value} {bt a1 a2 a3 a4 a5 a6 a7 a8 b1 b2 b3 b4 b5 b6 b7 b8 g1 g2 g3 g4 g5 : Nat → Int32} {D : List va_E} {Q : mm_R → Prop} {N : Nat} {a : Int}
theorem cW_len (hD : D.length = 38) : (cW ki ln bt rl cp cs ct cv rr dr ja ea ma a1 a2 a3 a4 a5 a6 a7 a8 jb eb mb b1 b2 b3 b4 b5 b6 b7 b8 re fl g1 g2 g3 g4 g5 D).length = 67 := by show D.length + 29 = 67; omega
abbrev rn_X7_spells (N : Nat) (c : mm_C) (Q : mm_R → Prop) : Prop := rn (mm_gf gLX7) (mm_pf pLX7) (mm_mv vX7_spells) (mm_mv zX7_spells) (mm_kc kLX7) mm_gs0 mm_rf0 mm_ro (some .boolean) 3 (mm_ins iX7_spells) N c Q
theorem c_sp0 (hD : D.length = 38) (hln : 0 ≤ ln ∧ ln ≤ 400) (h1 : 0 ≤ cs ∧ cs ≤ cp) (h2 : cp ≤ ln) : sX7_spells [.ref 3, .ref 1000] (cW ki ln bt rl cp cs ct cv rr dr ja ea ma a1 a2 a3 a4 a5 a6 a7 a8 jb eb mb b1 b2 b3 b4 b5 b6 b7 b8 re fl g1 g2 g3 g4 g5 D) = some (some (iv (bi (sp_0 bt cs cp))), (cW ki ln bt rl cp cs ct cv rr dr ja ea ma a1 a2 a3 a4 a5 a6 a7 a8 jb eb mb b1 b2 b3 b4 b5 b6 b7 b8 re fl g1 g2 g3 g4 g5 D)) := by
  have main : ∀ Q : mm_R → Prop, Q (some (iv (bi (sp_0 bt cs cp))), (cW ki ln bt rl cp cs ct cv rr dr ja ea ma a1 a2 a3 a4 a5 a6 a7 a8 jb eb mb b1 b2 b3 b4 b5 b6 b7 b8 re fl g1 g2 g3 g4 g5 D)) → rn_X7_spells (1000) (0, [(0, .ref 3), (1, .ref 1000)], [], (cW ki ln bt rl cp cs ct cv rr dr ja ea ma a1 a2 a3 a4 a5 a6 a7 a8 jb eb mb b1 b2 b3 b4 b5 b6 b7 b8 re fl g1 g2 g3 g4 g5 D)) Q := by
    intro Q hQ
    refine r_al rfl rfl ?_
    refine r_gf rfl rfl cg_3 rfl ?_
    refine r_al rfl rfl ?_
    refine r_gf rfl rfl cg_3 rfl ?_
    refine r_sub rfl ?_
    refine r_al rfl rfl ?_
    refine r_o1s rfl rfl (cg_out hD (by decide)) rfl rfl (c_len0 (cW_len hD)) ?_
    refine r_ceq rfl rfl (by omega) (by omega) (fun g0 => ?_) (fun g0 => ?_)
    · refine r_ic rfl ?_
      refine r_is (lv' := [(2, _), (0, _), (1, _)]) rfl rfl rfl ?_
      refine r_il rfl rfl ?_
      refine r_al rfl rfl ?_
      refine r_o1s rfl rfl (cg_out hD (by decide)) rfl rfl (c_len0 (cW_len hD)) ?_
      refine r_cge rfl rfl (by decide) (by decide) (fun q0 => ?_) (fun q0 => ?_)
      · exact absurd q0 (by decide)
      · refine r_al rfl rfl ?_
        refine r_gf rfl rfl cg_3 rfl ?_
        refine r_gf rfl rfl cg_1 rfl ?_
        refine r_al rfl rfl ?_
        refine r_gf rfl rfl cg_3 rfl ?_
        refine r_il rfl rfl ?_
        refine r_add rfl ?_
        refine r_ba rfl cg_2 (by omega) (by omega) (by decide) ?_
        refine r_al rfl rfl ?_
        refine r_il rfl rfl ?_
        refine r_o2s rfl rfl (cg_out hD (by decide)) rfl rfl (c_chr00 (cW_len hD)) ?_
        refine r_ceq rfl rfl (⟨as_lo _, as_hi _⟩) (by decide) (fun e0 => ?_) (fun e0 => ?_)
        · refine r_inc (lv' := [(2, _), (0, _), (1, _)]) rfl rfl rfl rfl ?_
          refine r_goto rfl rfl ?_
          refine r_il rfl rfl ?_
          refine r_al rfl rfl ?_
          refine r_o1s rfl rfl (cg_out hD (by decide)) rfl rfl (c_len0 (cW_len hD)) ?_
          refine r_cge rfl rfl (by decide) (by decide) (fun q1 => ?_) (fun q1 => ?_)
          · exact absurd q1 (by decide)
          · refine r_al rfl rfl ?_
            refine r_gf rfl rfl cg_3 rfl ?_
            refine r_gf rfl rfl cg_1 rfl ?_
            refine r_al rfl rfl ?_
            refine r_gf rfl rfl cg_3 rfl ?_
            refine r_il rfl rfl ?_
            refine r_add rfl ?_
            refine r_ba rfl cg_2 (by omega) (by omega) (by decide) ?_
            refine r_al rfl rfl ?_
            refine r_il rfl rfl ?_
            refine r_o2s rfl rfl (cg_out hD (by decide)) rfl rfl (c_chr01 (cW_len hD)) ?_
            refine r_ceq rfl rfl (⟨as_lo _, as_hi _⟩) (by decide) (fun e1 => ?_) (fun e1 => ?_)
            · refine r_inc (lv' := [(2, _), (0, _), (1, _)]) rfl rfl rfl rfl ?_
              refine r_goto rfl rfl ?_
              refine r_il rfl rfl ?_
              refine r_al rfl rfl ?_
              refine r_o1s rfl rfl (cg_out hD (by decide)) rfl rfl (c_len0 (cW_len hD)) ?_
              refine r_cge rfl rfl (by decide) (by decide) (fun q2 => ?_) (fun q2 => ?_)
              · exact absurd q2 (by decide)
              · refine r_al rfl rfl ?_
                refine r_gf rfl rfl cg_3 rfl ?_
                refine r_gf rfl rfl cg_1 rfl ?_
                refine r_al rfl rfl ?_
                refine r_gf rfl rfl cg_3 rfl ?_
                refine r_il rfl rfl ?_
                refine r_add rfl ?_
                refine r_ba rfl cg_2 (by omega) (by omega) (by decide) ?_
                refine r_al rfl rfl ?_
                refine r_il rfl rfl ?_
                refine r_o2s rfl rfl (cg_out hD (by decide)) rfl rfl (c_chr02 (cW_len hD)) ?_
                refine r_ceq rfl rfl (⟨as_lo _, as_hi _⟩) (by decide) (fun e2 => ?_) (fun e2 => ?_)
                · refine r_inc (lv' := [(2, _), (0, _), (1, _)]) rfl rfl rfl rfl ?_
                  refine r_goto rfl rfl ?_
                  refine r_il rfl rfl ?_
                  refine r_al rfl rfl ?_
                  refine r_o1s rfl rfl (cg_out hD (by decide)) rfl rfl (c_len0 (cW_len hD)) ?_
                  refine r_cge rfl rfl (by decide) (by decide) (fun q3 => ?_) (fun q3 => ?_)
                  · exact absurd q3 (by decide)
                  · refine r_al rfl rfl ?_
                    refine r_gf rfl rfl cg_3 rfl ?_
                    refine r_gf rfl rfl cg_1 rfl ?_
                    refine r_al rfl rfl ?_
                    refine r_gf rfl rfl cg_3 rfl ?_
                    refine r_il rfl rfl ?_
                    refine r_add rfl ?_
                    refine r_ba rfl cg_2 (by omega) (by omega) (by decide) ?_
                    refine r_al rfl rfl ?_
                    refine r_il rfl rfl ?_
                    refine r_o2s rfl rfl (cg_out hD (by decide)) rfl rfl (c_chr03 (cW_len hD)) ?_
                    refine r_ceq rfl rfl (⟨as_lo _, as_hi _⟩) (by decide) (fun e3 => ?_) (fun e3 => ?_)
                    · refine r_inc (lv' := [(2, _), (0, _), (1, _)]) rfl rfl rfl rfl ?_
                      refine r_goto rfl rfl ?_
                      refine r_il rfl rfl ?_
                      refine r_al rfl rfl ?_
                      refine r_o1s rfl rfl (cg_out hD (by decide)) rfl rfl (c_len0 (cW_len hD)) ?_
                      refine r_cge rfl rfl (by decide) (by decide) (fun q4 => ?_) (fun q4 => ?_)
                      · have e : sp_0 bt cs cp = true := by unfold sp_0; rw [decide_eq_true g0, decide_eq_true e0, decide_eq_true e1, decide_eq_true e2, decide_eq_true e3]; rfl
                        rw [e] at hQ
                        refine r_ic rfl ?_
                        exact r_retb rfl rfl (by omega) hQ
                      · exact absurd q4 (by decide)
                    · have e : sp_0 bt cs cp = false := by unfold sp_0; rw [decide_eq_true g0, decide_eq_true e0, decide_eq_true e1, decide_eq_true e2, decide_eq_false e3]; rfl
                      rw [e] at hQ
                      refine r_ic rfl ?_
                      exact r_retb rfl rfl (by omega) hQ
                · have e : sp_0 bt cs cp = false := by unfold sp_0; rw [decide_eq_true g0, decide_eq_true e0, decide_eq_true e1, decide_eq_false e2]; rfl
                  rw [e] at hQ
                  refine r_ic rfl ?_
                  exact r_retb rfl rfl (by omega) hQ
            · have e : sp_0 bt cs cp = false := by unfold sp_0; rw [decide_eq_true g0, decide_eq_true e0, decide_eq_false e1]; rfl
              rw [e] at hQ
              refine r_ic rfl ?_
              exact r_retb rfl rfl (by omega) hQ
        · have e : sp_0 bt cs cp = false := by unfold sp_0; rw [decide_eq_true g0, decide_eq_false e0]; rfl
          rw [e] at hQ
          refine r_ic rfl ?_
          exact r_retb rfl rfl (by omega) hQ
    · have e : sp_0 bt cs cp = false := by unfold sp_0; rw [decide_eq_false g0]; rfl
      rw [e] at hQ
      refine r_ic rfl ?_
      exact r_retb rfl rfl (by omega) hQ
  obtain ⟨r, h1, h2⟩ := rn_S (vs := [.ref 3, .ref 1000]) (Q := fun r => r = (some (iv (bi (sp_0 bt cs cp))), (cW ki ln bt rl cp cs ct cv rr dr ja ea ma a1 a2 a3 a4 a5 a6 a7 a8 jb eb mb b1 b2 b3 b4 b5 b6 b7 b8 re fl g1 g2 g3 g4 g5 D))) rfl (rn_up (N := 1000) (M := mm_fuel) (by decide) (main (fun r => r = (some (iv (bi (sp_0 bt cs cp))), (cW ki ln bt rl cp cs ct cv rr dr ja ea ma a1 a2 a3 a4 a5 a6 a7 a8 jb eb mb b1 b2 b3 b4 b5 b6 b7 b8 re fl g1 g2 g3 g4 g5 D))) rfl))
  have h1 : sX7_spells [.ref 3, .ref 1000] (cW ki ln bt rl cp cs ct cv rr dr ja ea ma a1 a2 a3 a4 a5 a6 a7 a8 jb eb mb b1 b2 b3 b4 b5 b6 b7 b8 re fl g1 g2 g3 g4 g5 D) = some r := h1
  rw [h1, h2]
theorem c_sp1 (hD : D.length = 38) (hln : 0 ≤ ln ∧ ln ≤ 400) (h1 : 0 ≤ cs ∧ cs ≤ cp) (h2 : cp ≤ ln) : sX7_spells [.ref 3, .ref 1001] (cW ki ln bt rl cp cs ct cv rr dr ja ea ma a1 a2 a3 a4 a5 a6 a7 a8 jb eb mb b1 b2 b3 b4 b5 b6 b7 b8 re fl g1 g2 g3 g4 g5 D) = some (some (iv (bi (sp_1 bt cs cp))), (cW ki ln bt rl cp cs ct cv rr dr ja ea ma a1 a2 a3 a4 a5 a6 a7 a8 jb eb mb b1 b2 b3 b4 b5 b6 b7 b8 re fl g1 g2 g3 g4 g5 D)) := by
  have main : ∀ Q : mm_R → Prop, Q (some (iv (bi (sp_1 bt cs cp))), (cW ki ln bt rl cp cs ct cv rr dr ja ea ma a1 a2 a3 a4 a5 a6 a7 a8 jb eb mb b1 b2 b3 b4 b5 b6 b7 b8 re fl g1 g2 g3 g4 g5 D)) → rn_X7_spells (1000) (0, [(0, .ref 3), (1, .ref 1001)], [], (cW ki ln bt rl cp cs ct cv rr dr ja ea ma a1 a2 a3 a4 a5 a6 a7 a8 jb eb mb b1 b2 b3 b4 b5 b6 b7 b8 re fl g1 g2 g3 g4 g5 D)) Q := by
    intro Q hQ
    refine r_al rfl rfl ?_
    refine r_gf rfl rfl cg_3 rfl ?_
    refine r_al rfl rfl ?_
    refine r_gf rfl rfl cg_3 rfl ?_
    refine r_sub rfl ?_
    refine r_al rfl rfl ?_
    refine r_o1s rfl rfl (cg_out hD (by decide)) rfl rfl (c_len1 (cW_len hD)) ?_
    refine r_ceq rfl rfl (by omega) (by omega) (fun g0 => ?_) (fun g0 => ?_)
    · refine r_ic rfl ?_
      refine r_is (lv' := [(2, _), (0, _), (1, _)]) rfl rfl rfl ?_
      refine r_il rfl rfl ?_
      refine r_al rfl rfl ?_
      refine r_o1s rfl rfl (cg_out hD (by decide)) rfl rfl (c_len1 (cW_len hD)) ?_
      refine r_cge rfl rfl (by decide) (by decide) (fun q0 => ?_) (fun q0 => ?_)
      · exact absurd q0 (by decide)
      · refine r_al rfl rfl ?_
        refine r_gf rfl rfl cg_3 rfl ?_
        refine r_gf rfl rfl cg_1 rfl ?_
        refine r_al rfl rfl ?_
        refine r_gf rfl rfl cg_3 rfl ?_
        refine r_il rfl rfl ?_
        refine r_add rfl ?_
        refine r_ba rfl cg_2 (by omega) (by omega) (by decide) ?_
        refine r_al rfl rfl ?_
        refine r_il rfl rfl ?_
        refine r_o2s rfl rfl (cg_out hD (by decide)) rfl rfl (c_chr10 (cW_len hD)) ?_
        refine r_ceq rfl rfl (⟨as_lo _, as_hi _⟩) (by decide) (fun e0 => ?_) (fun e0 => ?_)
        · refine r_inc (lv' := [(2, _), (0, _), (1, _)]) rfl rfl rfl rfl ?_
          refine r_goto rfl rfl ?_
          refine r_il rfl rfl ?_
          refine r_al rfl rfl ?_
          refine r_o1s rfl rfl (cg_out hD (by decide)) rfl rfl (c_len1 (cW_len hD)) ?_
          refine r_cge rfl rfl (by decide) (by decide) (fun q1 => ?_) (fun q1 => ?_)
          · exact absurd q1 (by decide)
          · refine r_al rfl rfl ?_
            refine r_gf rfl rfl cg_3 rfl ?_
            refine r_gf rfl rfl cg_1 rfl ?_
            refine r_al rfl rfl ?_
            refine r_gf rfl rfl cg_3 rfl ?_
            refine r_il rfl rfl ?_
            refine r_add rfl ?_
            refine r_ba rfl cg_2 (by omega) (by omega) (by decide) ?_
            refine r_al rfl rfl ?_
            refine r_il rfl rfl ?_
            refine r_o2s rfl rfl (cg_out hD (by decide)) rfl rfl (c_chr11 (cW_len hD)) ?_
            refine r_ceq rfl rfl (⟨as_lo _, as_hi _⟩) (by decide) (fun e1 => ?_) (fun e1 => ?_)
            · refine r_inc (lv' := [(2, _), (0, _), (1, _)]) rfl rfl rfl rfl ?_
              refine r_goto rfl rfl ?_
              refine r_il rfl rfl ?_
              refine r_al rfl rfl ?_
              refine r_o1s rfl rfl (cg_out hD (by decide)) rfl rfl (c_len1 (cW_len hD)) ?_
              refine r_cge rfl rfl (by decide) (by decide) (fun q2 => ?_) (fun q2 => ?_)
              · exact absurd q2 (by decide)
              · refine r_al rfl rfl ?_
                refine r_gf rfl rfl cg_3 rfl ?_
                refine r_gf rfl rfl cg_1 rfl ?_
                refine r_al rfl rfl ?_
                refine r_gf rfl rfl cg_3 rfl ?_
                refine r_il rfl rfl ?_
                refine r_add rfl ?_
                refine r_ba rfl cg_2 (by omega) (by omega) (by decide) ?_
                refine r_al rfl rfl ?_
                refine r_il rfl rfl ?_
                refine r_o2s rfl rfl (cg_out hD (by decide)) rfl rfl (c_chr12 (cW_len hD)) ?_
                refine r_ceq rfl rfl (⟨as_lo _, as_hi _⟩) (by decide) (fun e2 => ?_) (fun e2 => ?_)
                · refine r_inc (lv' := [(2, _), (0, _), (1, _)]) rfl rfl rfl rfl ?_
                  refine r_goto rfl rfl ?_
                  refine r_il rfl rfl ?_
                  refine r_al rfl rfl ?_
                  refine r_o1s rfl rfl (cg_out hD (by decide)) rfl rfl (c_len1 (cW_len hD)) ?_
                  refine r_cge rfl rfl (by decide) (by decide) (fun q3 => ?_) (fun q3 => ?_)
                  · exact absurd q3 (by decide)
                  · refine r_al rfl rfl ?_
                    refine r_gf rfl rfl cg_3 rfl ?_
                    refine r_gf rfl rfl cg_1 rfl ?_
                    refine r_al rfl rfl ?_
                    refine r_gf rfl rfl cg_3 rfl ?_
                    refine r_il rfl rfl ?_
                    refine r_add rfl ?_
                    refine r_ba rfl cg_2 (by omega) (by omega) (by decide) ?_
                    refine r_al rfl rfl ?_
                    refine r_il rfl rfl ?_
                    refine r_o2s rfl rfl (cg_out hD (by decide)) rfl rfl (c_chr13 (cW_len hD)) ?_
                    refine r_ceq rfl rfl (⟨as_lo _, as_hi _⟩) (by decide) (fun e3 => ?_) (fun e3 => ?_)
                    · refine r_inc (lv' := [(2, _), (0, _), (1, _)]) rfl rfl rfl rfl ?_
                      refine r_goto rfl rfl ?_
                      refine r_il rfl rfl ?_
                      refine r_al rfl rfl ?_
                      refine r_o1s rfl rfl (cg_out hD (by decide)) rfl rfl (c_len1 (cW_len hD)) ?_
                      refine r_cge rfl rfl (by decide) (by decide) (fun q4 => ?_) (fun q4 => ?_)
                      · exact absurd q4 (by decide)
                      · refine r_al rfl rfl ?_
                        refine r_gf rfl rfl cg_3 rfl ?_
                        refine r_gf rfl rfl cg_1 rfl ?_
                        refine r_al rfl rfl ?_
                        refine r_gf rfl rfl cg_3 rfl ?_
                        refine r_il rfl rfl ?_
                        refine r_add rfl ?_
                        refine r_ba rfl cg_2 (by omega) (by omega) (by decide) ?_
                        refine r_al rfl rfl ?_
                        refine r_il rfl rfl ?_
                        refine r_o2s rfl rfl (cg_out hD (by decide)) rfl rfl (c_chr14 (cW_len hD)) ?_
                        refine r_ceq rfl rfl (⟨as_lo _, as_hi _⟩) (by decide) (fun e4 => ?_) (fun e4 => ?_)
                        · refine r_inc (lv' := [(2, _), (0, _), (1, _)]) rfl rfl rfl rfl ?_
                          refine r_goto rfl rfl ?_
                          refine r_il rfl rfl ?_
                          refine r_al rfl rfl ?_
                          refine r_o1s rfl rfl (cg_out hD (by decide)) rfl rfl (c_len1 (cW_len hD)) ?_
                          refine r_cge rfl rfl (by decide) (by decide) (fun q5 => ?_) (fun q5 => ?_)
                          · have e : sp_1 bt cs cp = true := by unfold sp_1; rw [decide_eq_true g0, decide_eq_true e0, decide_eq_true e1, decide_eq_true e2, decide_eq_true e3, decide_eq_true e4]; rfl
                            rw [e] at hQ
                            refine r_ic rfl ?_
                            exact r_retb rfl rfl (by omega) hQ
                          · exact absurd q5 (by decide)
                        · have e : sp_1 bt cs cp = false := by unfold sp_1; rw [decide_eq_true g0, decide_eq_true e0, decide_eq_true e1, decide_eq_true e2, decide_eq_true e3, decide_eq_false e4]; rfl
                          rw [e] at hQ
                          refine r_ic rfl ?_
                          exact r_retb rfl rfl (by omega) hQ
                    · have e : sp_1 bt cs cp = false := by unfold sp_1; rw [decide_eq_true g0, decide_eq_true e0, decide_eq_true e1, decide_eq_true e2, decide_eq_false e3]; rfl
                      rw [e] at hQ
                      refine r_ic rfl ?_
                      exact r_retb rfl rfl (by omega) hQ
                · have e : sp_1 bt cs cp = false := by unfold sp_1; rw [decide_eq_true g0, decide_eq_true e0, decide_eq_true e1, decide_eq_false e2]; rfl
                  rw [e] at hQ
                  refine r_ic rfl ?_
                  exact r_retb rfl rfl (by omega) hQ
            · have e : sp_1 bt cs cp = false := by unfold sp_1; rw [decide_eq_true g0, decide_eq_true e0, decide_eq_false e1]; rfl
              rw [e] at hQ
              refine r_ic rfl ?_
              exact r_retb rfl rfl (by omega) hQ
        · have e : sp_1 bt cs cp = false := by unfold sp_1; rw [decide_eq_true g0, decide_eq_false e0]; rfl
          rw [e] at hQ
          refine r_ic rfl ?_
          exact r_retb rfl rfl (by omega) hQ
    · have e : sp_1 bt cs cp = false := by unfold sp_1; rw [decide_eq_false g0]; rfl
      rw [e] at hQ
      refine r_ic rfl ?_
      exact r_retb rfl rfl (by omega) hQ
  obtain ⟨r, h1, h2⟩ := rn_S (vs := [.ref 3, .ref 1001]) (Q := fun r => r = (some (iv (bi (sp_1 bt cs cp))), (cW ki ln bt rl cp cs ct cv rr dr ja ea ma a1 a2 a3 a4 a5 a6 a7 a8 jb eb mb b1 b2 b3 b4 b5 b6 b7 b8 re fl g1 g2 g3 g4 g5 D))) rfl (rn_up (N := 1000) (M := mm_fuel) (by decide) (main (fun r => r = (some (iv (bi (sp_1 bt cs cp))), (cW ki ln bt rl cp cs ct cv rr dr ja ea ma a1 a2 a3 a4 a5 a6 a7 a8 jb eb mb b1 b2 b3 b4 b5 b6 b7 b8 re fl g1 g2 g3 g4 g5 D))) rfl))
  have h1 : sX7_spells [.ref 3, .ref 1001] (cW ki ln bt rl cp cs ct cv rr dr ja ea ma a1 a2 a3 a4 a5 a6 a7 a8 jb eb mb b1 b2 b3 b4 b5 b6 b7 b8 re fl g1 g2 g3 g4 g5 D) = some r := h1
  rw [h1, h2]
theorem c_sp2 (hD : D.length = 38) (hln : 0 ≤ ln ∧ ln ≤ 400) (h1 : 0 ≤ cs ∧ cs ≤ cp) (h2 : cp ≤ ln) : sX7_spells [.ref 3, .ref 1002] (cW ki ln bt rl cp cs ct cv rr dr ja ea ma a1 a2 a3 a4 a5 a6 a7 a8 jb eb mb b1 b2 b3 b4 b5 b6 b7 b8 re fl g1 g2 g3 g4 g5 D) = some (some (iv (bi (sp_2 bt cs cp))), (cW ki ln bt rl cp cs ct cv rr dr ja ea ma a1 a2 a3 a4 a5 a6 a7 a8 jb eb mb b1 b2 b3 b4 b5 b6 b7 b8 re fl g1 g2 g3 g4 g5 D)) := by
  have main : ∀ Q : mm_R → Prop, Q (some (iv (bi (sp_2 bt cs cp))), (cW ki ln bt rl cp cs ct cv rr dr ja ea ma a1 a2 a3 a4 a5 a6 a7 a8 jb eb mb b1 b2 b3 b4 b5 b6 b7 b8 re fl g1 g2 g3 g4 g5 D)) → rn_X7_spells (1000) (0, [(0, .ref 3), (1, .ref 1002)], [], (cW ki ln bt rl cp cs ct cv rr dr ja ea ma a1 a2 a3 a4 a5 a6 a7 a8 jb eb mb b1 b2 b3 b4 b5 b6 b7 b8 re fl g1 g2 g3 g4 g5 D)) Q := by
    intro Q hQ
    refine r_al rfl rfl ?_
    refine r_gf rfl rfl cg_3 rfl ?_
    refine r_al rfl rfl ?_
    refine r_gf rfl rfl cg_3 rfl ?_
    refine r_sub rfl ?_
    refine r_al rfl rfl ?_
    refine r_o1s rfl rfl (cg_out hD (by decide)) rfl rfl (c_len2 (cW_len hD)) ?_
    refine r_ceq rfl rfl (by omega) (by omega) (fun g0 => ?_) (fun g0 => ?_)
    · refine r_ic rfl ?_
      refine r_is (lv' := [(2, _), (0, _), (1, _)]) rfl rfl rfl ?_
      refine r_il rfl rfl ?_
      refine r_al rfl rfl ?_
      refine r_o1s rfl rfl (cg_out hD (by decide)) rfl rfl (c_len2 (cW_len hD)) ?_
      refine r_cge rfl rfl (by decide) (by decide) (fun q0 => ?_) (fun q0 => ?_)
      · exact absurd q0 (by decide)
      · refine r_al rfl rfl ?_
        refine r_gf rfl rfl cg_3 rfl ?_
        refine r_gf rfl rfl cg_1 rfl ?_
        refine r_al rfl rfl ?_
        refine r_gf rfl rfl cg_3 rfl ?_
        refine r_il rfl rfl ?_
        refine r_add rfl ?_
        refine r_ba rfl cg_2 (by omega) (by omega) (by decide) ?_
        refine r_al rfl rfl ?_
        refine r_il rfl rfl ?_
        refine r_o2s rfl rfl (cg_out hD (by decide)) rfl rfl (c_chr20 (cW_len hD)) ?_
        refine r_ceq rfl rfl (⟨as_lo _, as_hi _⟩) (by decide) (fun e0 => ?_) (fun e0 => ?_)
        · refine r_inc (lv' := [(2, _), (0, _), (1, _)]) rfl rfl rfl rfl ?_
          refine r_goto rfl rfl ?_
          refine r_il rfl rfl ?_
          refine r_al rfl rfl ?_
          refine r_o1s rfl rfl (cg_out hD (by decide)) rfl rfl (c_len2 (cW_len hD)) ?_
          refine r_cge rfl rfl (by decide) (by decide) (fun q1 => ?_) (fun q1 => ?_)
          · exact absurd q1 (by decide)
          · refine r_al rfl rfl ?_
            refine r_gf rfl rfl cg_3 rfl ?_
            refine r_gf rfl rfl cg_1 rfl ?_
            refine r_al rfl rfl ?_
            refine r_gf rfl rfl cg_3 rfl ?_
            refine r_il rfl rfl ?_
            refine r_add rfl ?_
            refine r_ba rfl cg_2 (by omega) (by omega) (by decide) ?_
            refine r_al rfl rfl ?_
            refine r_il rfl rfl ?_
            refine r_o2s rfl rfl (cg_out hD (by decide)) rfl rfl (c_chr21 (cW_len hD)) ?_
            refine r_ceq rfl rfl (⟨as_lo _, as_hi _⟩) (by decide) (fun e1 => ?_) (fun e1 => ?_)
            · refine r_inc (lv' := [(2, _), (0, _), (1, _)]) rfl rfl rfl rfl ?_
              refine r_goto rfl rfl ?_
              refine r_il rfl rfl ?_
              refine r_al rfl rfl ?_
              refine r_o1s rfl rfl (cg_out hD (by decide)) rfl rfl (c_len2 (cW_len hD)) ?_
              refine r_cge rfl rfl (by decide) (by decide) (fun q2 => ?_) (fun q2 => ?_)
              · exact absurd q2 (by decide)
              · refine r_al rfl rfl ?_
                refine r_gf rfl rfl cg_3 rfl ?_
                refine r_gf rfl rfl cg_1 rfl ?_
                refine r_al rfl rfl ?_
                refine r_gf rfl rfl cg_3 rfl ?_
                refine r_il rfl rfl ?_
                refine r_add rfl ?_
                refine r_ba rfl cg_2 (by omega) (by omega) (by decide) ?_
                refine r_al rfl rfl ?_
                refine r_il rfl rfl ?_
                refine r_o2s rfl rfl (cg_out hD (by decide)) rfl rfl (c_chr22 (cW_len hD)) ?_
                refine r_ceq rfl rfl (⟨as_lo _, as_hi _⟩) (by decide) (fun e2 => ?_) (fun e2 => ?_)
                · refine r_inc (lv' := [(2, _), (0, _), (1, _)]) rfl rfl rfl rfl ?_
                  refine r_goto rfl rfl ?_
                  refine r_il rfl rfl ?_
                  refine r_al rfl rfl ?_
                  refine r_o1s rfl rfl (cg_out hD (by decide)) rfl rfl (c_len2 (cW_len hD)) ?_
                  refine r_cge rfl rfl (by decide) (by decide) (fun q3 => ?_) (fun q3 => ?_)
                  · exact absurd q3 (by decide)
                  · refine r_al rfl rfl ?_
                    refine r_gf rfl rfl cg_3 rfl ?_
                    refine r_gf rfl rfl cg_1 rfl ?_
                    refine r_al rfl rfl ?_
                    refine r_gf rfl rfl cg_3 rfl ?_
                    refine r_il rfl rfl ?_
                    refine r_add rfl ?_
                    refine r_ba rfl cg_2 (by omega) (by omega) (by decide) ?_
                    refine r_al rfl rfl ?_
                    refine r_il rfl rfl ?_
                    refine r_o2s rfl rfl (cg_out hD (by decide)) rfl rfl (c_chr23 (cW_len hD)) ?_
                    refine r_ceq rfl rfl (⟨as_lo _, as_hi _⟩) (by decide) (fun e3 => ?_) (fun e3 => ?_)
                    · refine r_inc (lv' := [(2, _), (0, _), (1, _)]) rfl rfl rfl rfl ?_
                      refine r_goto rfl rfl ?_
                      refine r_il rfl rfl ?_
                      refine r_al rfl rfl ?_
                      refine r_o1s rfl rfl (cg_out hD (by decide)) rfl rfl (c_len2 (cW_len hD)) ?_
                      refine r_cge rfl rfl (by decide) (by decide) (fun q4 => ?_) (fun q4 => ?_)
                      · have e : sp_2 bt cs cp = true := by unfold sp_2; rw [decide_eq_true g0, decide_eq_true e0, decide_eq_true e1, decide_eq_true e2, decide_eq_true e3]; rfl
                        rw [e] at hQ
                        refine r_ic rfl ?_
                        exact r_retb rfl rfl (by omega) hQ
                      · exact absurd q4 (by decide)
                    · have e : sp_2 bt cs cp = false := by unfold sp_2; rw [decide_eq_true g0, decide_eq_true e0, decide_eq_true e1, decide_eq_true e2, decide_eq_false e3]; rfl
                      rw [e] at hQ
                      refine r_ic rfl ?_
                      exact r_retb rfl rfl (by omega) hQ
                · have e : sp_2 bt cs cp = false := by unfold sp_2; rw [decide_eq_true g0, decide_eq_true e0, decide_eq_true e1, decide_eq_false e2]; rfl
                  rw [e] at hQ
                  refine r_ic rfl ?_
                  exact r_retb rfl rfl (by omega) hQ
            · have e : sp_2 bt cs cp = false := by unfold sp_2; rw [decide_eq_true g0, decide_eq_true e0, decide_eq_false e1]; rfl
              rw [e] at hQ
              refine r_ic rfl ?_
              exact r_retb rfl rfl (by omega) hQ
        · have e : sp_2 bt cs cp = false := by unfold sp_2; rw [decide_eq_true g0, decide_eq_false e0]; rfl
          rw [e] at hQ
          refine r_ic rfl ?_
          exact r_retb rfl rfl (by omega) hQ
    · have e : sp_2 bt cs cp = false := by unfold sp_2; rw [decide_eq_false g0]; rfl
      rw [e] at hQ
      refine r_ic rfl ?_
      exact r_retb rfl rfl (by omega) hQ
  obtain ⟨r, h1, h2⟩ := rn_S (vs := [.ref 3, .ref 1002]) (Q := fun r => r = (some (iv (bi (sp_2 bt cs cp))), (cW ki ln bt rl cp cs ct cv rr dr ja ea ma a1 a2 a3 a4 a5 a6 a7 a8 jb eb mb b1 b2 b3 b4 b5 b6 b7 b8 re fl g1 g2 g3 g4 g5 D))) rfl (rn_up (N := 1000) (M := mm_fuel) (by decide) (main (fun r => r = (some (iv (bi (sp_2 bt cs cp))), (cW ki ln bt rl cp cs ct cv rr dr ja ea ma a1 a2 a3 a4 a5 a6 a7 a8 jb eb mb b1 b2 b3 b4 b5 b6 b7 b8 re fl g1 g2 g3 g4 g5 D))) rfl))
  have h1 : sX7_spells [.ref 3, .ref 1002] (cW ki ln bt rl cp cs ct cv rr dr ja ea ma a1 a2 a3 a4 a5 a6 a7 a8 jb eb mb b1 b2 b3 b4 b5 b6 b7 b8 re fl g1 g2 g3 g4 g5 D) = some r := h1
  rw [h1, h2]
theorem c_sp3 (hD : D.length = 38) (hln : 0 ≤ ln ∧ ln ≤ 400) (h1 : 0 ≤ cs ∧ cs ≤ cp) (h2 : cp ≤ ln) : sX7_spells [.ref 3, .ref 1003] (cW ki ln bt rl cp cs ct cv rr dr ja ea ma a1 a2 a3 a4 a5 a6 a7 a8 jb eb mb b1 b2 b3 b4 b5 b6 b7 b8 re fl g1 g2 g3 g4 g5 D) = some (some (iv (bi (sp_3 bt cs cp))), (cW ki ln bt rl cp cs ct cv rr dr ja ea ma a1 a2 a3 a4 a5 a6 a7 a8 jb eb mb b1 b2 b3 b4 b5 b6 b7 b8 re fl g1 g2 g3 g4 g5 D)) := by
  have main : ∀ Q : mm_R → Prop, Q (some (iv (bi (sp_3 bt cs cp))), (cW ki ln bt rl cp cs ct cv rr dr ja ea ma a1 a2 a3 a4 a5 a6 a7 a8 jb eb mb b1 b2 b3 b4 b5 b6 b7 b8 re fl g1 g2 g3 g4 g5 D)) → rn_X7_spells (1000) (0, [(0, .ref 3), (1, .ref 1003)], [], (cW ki ln bt rl cp cs ct cv rr dr ja ea ma a1 a2 a3 a4 a5 a6 a7 a8 jb eb mb b1 b2 b3 b4 b5 b6 b7 b8 re fl g1 g2 g3 g4 g5 D)) Q := by
    intro Q hQ
    refine r_al rfl rfl ?_
    refine r_gf rfl rfl cg_3 rfl ?_
    refine r_al rfl rfl ?_
    refine r_gf rfl rfl cg_3 rfl ?_
    refine r_sub rfl ?_
    refine r_al rfl rfl ?_
    refine r_o1s rfl rfl (cg_out hD (by decide)) rfl rfl (c_len3 (cW_len hD)) ?_
    refine r_ceq rfl rfl (by omega) (by omega) (fun g0 => ?_) (fun g0 => ?_)
    · refine r_ic rfl ?_
      refine r_is (lv' := [(2, _), (0, _), (1, _)]) rfl rfl rfl ?_
      refine r_il rfl rfl ?_
      refine r_al rfl rfl ?_
      refine r_o1s rfl rfl (cg_out hD (by decide)) rfl rfl (c_len3 (cW_len hD)) ?_
      refine r_cge rfl rfl (by decide) (by decide) (fun q0 => ?_) (fun q0 => ?_)
      · exact absurd q0 (by decide)
      · refine r_al rfl rfl ?_
        refine r_gf rfl rfl cg_3 rfl ?_
        refine r_gf rfl rfl cg_1 rfl ?_
        refine r_al rfl rfl ?_
        refine r_gf rfl rfl cg_3 rfl ?_
        refine r_il rfl rfl ?_
        refine r_add rfl ?_
        refine r_ba rfl cg_2 (by omega) (by omega) (by decide) ?_
        refine r_al rfl rfl ?_
        refine r_il rfl rfl ?_
        refine r_o2s rfl rfl (cg_out hD (by decide)) rfl rfl (c_chr30 (cW_len hD)) ?_
        refine r_ceq rfl rfl (⟨as_lo _, as_hi _⟩) (by decide) (fun e0 => ?_) (fun e0 => ?_)
        · refine r_inc (lv' := [(2, _), (0, _), (1, _)]) rfl rfl rfl rfl ?_
          refine r_goto rfl rfl ?_
          refine r_il rfl rfl ?_
          refine r_al rfl rfl ?_
          refine r_o1s rfl rfl (cg_out hD (by decide)) rfl rfl (c_len3 (cW_len hD)) ?_
          refine r_cge rfl rfl (by decide) (by decide) (fun q1 => ?_) (fun q1 => ?_)
          · exact absurd q1 (by decide)
          · refine r_al rfl rfl ?_
            refine r_gf rfl rfl cg_3 rfl ?_
            refine r_gf rfl rfl cg_1 rfl ?_
            refine r_al rfl rfl ?_
            refine r_gf rfl rfl cg_3 rfl ?_
            refine r_il rfl rfl ?_
            refine r_add rfl ?_
            refine r_ba rfl cg_2 (by omega) (by omega) (by decide) ?_
            refine r_al rfl rfl ?_
            refine r_il rfl rfl ?_
            refine r_o2s rfl rfl (cg_out hD (by decide)) rfl rfl (c_chr31 (cW_len hD)) ?_
            refine r_ceq rfl rfl (⟨as_lo _, as_hi _⟩) (by decide) (fun e1 => ?_) (fun e1 => ?_)
            · refine r_inc (lv' := [(2, _), (0, _), (1, _)]) rfl rfl rfl rfl ?_
              refine r_goto rfl rfl ?_
              refine r_il rfl rfl ?_
              refine r_al rfl rfl ?_
              refine r_o1s rfl rfl (cg_out hD (by decide)) rfl rfl (c_len3 (cW_len hD)) ?_
              refine r_cge rfl rfl (by decide) (by decide) (fun q2 => ?_) (fun q2 => ?_)
              · exact absurd q2 (by decide)
              · refine r_al rfl rfl ?_
                refine r_gf rfl rfl cg_3 rfl ?_
                refine r_gf rfl rfl cg_1 rfl ?_
                refine r_al rfl rfl ?_
                refine r_gf rfl rfl cg_3 rfl ?_
                refine r_il rfl rfl ?_
                refine r_add rfl ?_
                refine r_ba rfl cg_2 (by omega) (by omega) (by decide) ?_
                refine r_al rfl rfl ?_
                refine r_il rfl rfl ?_
                refine r_o2s rfl rfl (cg_out hD (by decide)) rfl rfl (c_chr32 (cW_len hD)) ?_
                refine r_ceq rfl rfl (⟨as_lo _, as_hi _⟩) (by decide) (fun e2 => ?_) (fun e2 => ?_)
                · refine r_inc (lv' := [(2, _), (0, _), (1, _)]) rfl rfl rfl rfl ?_
                  refine r_goto rfl rfl ?_
                  refine r_il rfl rfl ?_
                  refine r_al rfl rfl ?_
                  refine r_o1s rfl rfl (cg_out hD (by decide)) rfl rfl (c_len3 (cW_len hD)) ?_
                  refine r_cge rfl rfl (by decide) (by decide) (fun q3 => ?_) (fun q3 => ?_)
                  · exact absurd q3 (by decide)
                  · refine r_al rfl rfl ?_
                    refine r_gf rfl rfl cg_3 rfl ?_
                    refine r_gf rfl rfl cg_1 rfl ?_
                    refine r_al rfl rfl ?_
                    refine r_gf rfl rfl cg_3 rfl ?_
                    refine r_il rfl rfl ?_
                    refine r_add rfl ?_
                    refine r_ba rfl cg_2 (by omega) (by omega) (by decide) ?_
                    refine r_al rfl rfl ?_
                    refine r_il rfl rfl ?_
                    refine r_o2s rfl rfl (cg_out hD (by decide)) rfl rfl (c_chr33 (cW_len hD)) ?_
                    refine r_ceq rfl rfl (⟨as_lo _, as_hi _⟩) (by decide) (fun e3 => ?_) (fun e3 => ?_)
                    · refine r_inc (lv' := [(2, _), (0, _), (1, _)]) rfl rfl rfl rfl ?_
                      refine r_goto rfl rfl ?_
                      refine r_il rfl rfl ?_
                      refine r_al rfl rfl ?_
                      refine r_o1s rfl rfl (cg_out hD (by decide)) rfl rfl (c_len3 (cW_len hD)) ?_
                      refine r_cge rfl rfl (by decide) (by decide) (fun q4 => ?_) (fun q4 => ?_)
                      · exact absurd q4 (by decide)
                      · refine r_al rfl rfl ?_
                        refine r_gf rfl rfl cg_3 rfl ?_
                        refine r_gf rfl rfl cg_1 rfl ?_
                        refine r_al rfl rfl ?_
                        refine r_gf rfl rfl cg_3 rfl ?_
                        refine r_il rfl rfl ?_
                        refine r_add rfl ?_
                        refine r_ba rfl cg_2 (by omega) (by omega) (by decide) ?_
                        refine r_al rfl rfl ?_
                        refine r_il rfl rfl ?_
                        refine r_o2s rfl rfl (cg_out hD (by decide)) rfl rfl (c_chr34 (cW_len hD)) ?_
                        refine r_ceq rfl rfl (⟨as_lo _, as_hi _⟩) (by decide) (fun e4 => ?_) (fun e4 => ?_)
                        · refine r_inc (lv' := [(2, _), (0, _), (1, _)]) rfl rfl rfl rfl ?_
                          refine r_goto rfl rfl ?_
                          refine r_il rfl rfl ?_
                          refine r_al rfl rfl ?_
                          refine r_o1s rfl rfl (cg_out hD (by decide)) rfl rfl (c_len3 (cW_len hD)) ?_
                          refine r_cge rfl rfl (by decide) (by decide) (fun q5 => ?_) (fun q5 => ?_)
                          · have e : sp_3 bt cs cp = true := by unfold sp_3; rw [decide_eq_true g0, decide_eq_true e0, decide_eq_true e1, decide_eq_true e2, decide_eq_true e3, decide_eq_true e4]; rfl
                            rw [e] at hQ
                            refine r_ic rfl ?_
                            exact r_retb rfl rfl (by omega) hQ
                          · exact absurd q5 (by decide)
                        · have e : sp_3 bt cs cp = false := by unfold sp_3; rw [decide_eq_true g0, decide_eq_true e0, decide_eq_true e1, decide_eq_true e2, decide_eq_true e3, decide_eq_false e4]; rfl
                          rw [e] at hQ
                          refine r_ic rfl ?_
                          exact r_retb rfl rfl (by omega) hQ
                    · have e : sp_3 bt cs cp = false := by unfold sp_3; rw [decide_eq_true g0, decide_eq_true e0, decide_eq_true e1, decide_eq_true e2, decide_eq_false e3]; rfl
                      rw [e] at hQ
                      refine r_ic rfl ?_
                      exact r_retb rfl rfl (by omega) hQ
                · have e : sp_3 bt cs cp = false := by unfold sp_3; rw [decide_eq_true g0, decide_eq_true e0, decide_eq_true e1, decide_eq_false e2]; rfl
                  rw [e] at hQ
                  refine r_ic rfl ?_
                  exact r_retb rfl rfl (by omega) hQ
            · have e : sp_3 bt cs cp = false := by unfold sp_3; rw [decide_eq_true g0, decide_eq_true e0, decide_eq_false e1]; rfl
              rw [e] at hQ
              refine r_ic rfl ?_
              exact r_retb rfl rfl (by omega) hQ
        · have e : sp_3 bt cs cp = false := by unfold sp_3; rw [decide_eq_true g0, decide_eq_false e0]; rfl
          rw [e] at hQ
          refine r_ic rfl ?_
          exact r_retb rfl rfl (by omega) hQ
    · have e : sp_3 bt cs cp = false := by unfold sp_3; rw [decide_eq_false g0]; rfl
      rw [e] at hQ
      refine r_ic rfl ?_
      exact r_retb rfl rfl (by omega) hQ
  obtain ⟨r, h1, h2⟩ := rn_S (vs := [.ref 3, .ref 1003]) (Q := fun r => r = (some (iv (bi (sp_3 bt cs cp))), (cW ki ln bt rl cp cs ct cv rr dr ja ea ma a1 a2 a3 a4 a5 a6 a7 a8 jb eb mb b1 b2 b3 b4 b5 b6 b7 b8 re fl g1 g2 g3 g4 g5 D))) rfl (rn_up (N := 1000) (M := mm_fuel) (by decide) (main (fun r => r = (some (iv (bi (sp_3 bt cs cp))), (cW ki ln bt rl cp cs ct cv rr dr ja ea ma a1 a2 a3 a4 a5 a6 a7 a8 jb eb mb b1 b2 b3 b4 b5 b6 b7 b8 re fl g1 g2 g3 g4 g5 D))) rfl))
  have h1 : sX7_spells [.ref 3, .ref 1003] (cW ki ln bt rl cp cs ct cv rr dr ja ea ma a1 a2 a3 a4 a5 a6 a7 a8 jb eb mb b1 b2 b3 b4 b5 b6 b7 b8 re fl g1 g2 g3 g4 g5 D) = some r := h1
  rw [h1, h2]
theorem c_sp4 (hD : D.length = 38) (hln : 0 ≤ ln ∧ ln ≤ 400) (h1 : 0 ≤ cs ∧ cs ≤ cp) (h2 : cp ≤ ln) : sX7_spells [.ref 3, .ref 1004] (cW ki ln bt rl cp cs ct cv rr dr ja ea ma a1 a2 a3 a4 a5 a6 a7 a8 jb eb mb b1 b2 b3 b4 b5 b6 b7 b8 re fl g1 g2 g3 g4 g5 D) = some (some (iv (bi (sp_4 bt cs cp))), (cW ki ln bt rl cp cs ct cv rr dr ja ea ma a1 a2 a3 a4 a5 a6 a7 a8 jb eb mb b1 b2 b3 b4 b5 b6 b7 b8 re fl g1 g2 g3 g4 g5 D)) := by
  have main : ∀ Q : mm_R → Prop, Q (some (iv (bi (sp_4 bt cs cp))), (cW ki ln bt rl cp cs ct cv rr dr ja ea ma a1 a2 a3 a4 a5 a6 a7 a8 jb eb mb b1 b2 b3 b4 b5 b6 b7 b8 re fl g1 g2 g3 g4 g5 D)) → rn_X7_spells (1000) (0, [(0, .ref 3), (1, .ref 1004)], [], (cW ki ln bt rl cp cs ct cv rr dr ja ea ma a1 a2 a3 a4 a5 a6 a7 a8 jb eb mb b1 b2 b3 b4 b5 b6 b7 b8 re fl g1 g2 g3 g4 g5 D)) Q := by
    intro Q hQ
    refine r_al rfl rfl ?_
    refine r_gf rfl rfl cg_3 rfl ?_
    refine r_al rfl rfl ?_
    refine r_gf rfl rfl cg_3 rfl ?_
    refine r_sub rfl ?_
    refine r_al rfl rfl ?_
    refine r_o1s rfl rfl (cg_out hD (by decide)) rfl rfl (c_len4 (cW_len hD)) ?_
    refine r_ceq rfl rfl (by omega) (by omega) (fun g0 => ?_) (fun g0 => ?_)
    · refine r_ic rfl ?_
      refine r_is (lv' := [(2, _), (0, _), (1, _)]) rfl rfl rfl ?_
      refine r_il rfl rfl ?_
      refine r_al rfl rfl ?_
      refine r_o1s rfl rfl (cg_out hD (by decide)) rfl rfl (c_len4 (cW_len hD)) ?_
      refine r_cge rfl rfl (by decide) (by decide) (fun q0 => ?_) (fun q0 => ?_)
      · exact absurd q0 (by decide)
      · refine r_al rfl rfl ?_
        refine r_gf rfl rfl cg_3 rfl ?_
        refine r_gf rfl rfl cg_1 rfl ?_
        refine r_al rfl rfl ?_
        refine r_gf rfl rfl cg_3 rfl ?_
        refine r_il rfl rfl ?_
        refine r_add rfl ?_
        refine r_ba rfl cg_2 (by omega) (by omega) (by decide) ?_
        refine r_al rfl rfl ?_
        refine r_il rfl rfl ?_
        refine r_o2s rfl rfl (cg_out hD (by decide)) rfl rfl (c_chr40 (cW_len hD)) ?_
        refine r_ceq rfl rfl (⟨as_lo _, as_hi _⟩) (by decide) (fun e0 => ?_) (fun e0 => ?_)
        · refine r_inc (lv' := [(2, _), (0, _), (1, _)]) rfl rfl rfl rfl ?_
          refine r_goto rfl rfl ?_
          refine r_il rfl rfl ?_
          refine r_al rfl rfl ?_
          refine r_o1s rfl rfl (cg_out hD (by decide)) rfl rfl (c_len4 (cW_len hD)) ?_
          refine r_cge rfl rfl (by decide) (by decide) (fun q1 => ?_) (fun q1 => ?_)
          · exact absurd q1 (by decide)
          · refine r_al rfl rfl ?_
            refine r_gf rfl rfl cg_3 rfl ?_
            refine r_gf rfl rfl cg_1 rfl ?_
            refine r_al rfl rfl ?_
            refine r_gf rfl rfl cg_3 rfl ?_
            refine r_il rfl rfl ?_
            refine r_add rfl ?_
            refine r_ba rfl cg_2 (by omega) (by omega) (by decide) ?_
            refine r_al rfl rfl ?_
            refine r_il rfl rfl ?_
            refine r_o2s rfl rfl (cg_out hD (by decide)) rfl rfl (c_chr41 (cW_len hD)) ?_
            refine r_ceq rfl rfl (⟨as_lo _, as_hi _⟩) (by decide) (fun e1 => ?_) (fun e1 => ?_)
            · refine r_inc (lv' := [(2, _), (0, _), (1, _)]) rfl rfl rfl rfl ?_
              refine r_goto rfl rfl ?_
              refine r_il rfl rfl ?_
              refine r_al rfl rfl ?_
              refine r_o1s rfl rfl (cg_out hD (by decide)) rfl rfl (c_len4 (cW_len hD)) ?_
              refine r_cge rfl rfl (by decide) (by decide) (fun q2 => ?_) (fun q2 => ?_)
              · exact absurd q2 (by decide)
              · refine r_al rfl rfl ?_
                refine r_gf rfl rfl cg_3 rfl ?_
                refine r_gf rfl rfl cg_1 rfl ?_
                refine r_al rfl rfl ?_
                refine r_gf rfl rfl cg_3 rfl ?_
                refine r_il rfl rfl ?_
                refine r_add rfl ?_
                refine r_ba rfl cg_2 (by omega) (by omega) (by decide) ?_
                refine r_al rfl rfl ?_
                refine r_il rfl rfl ?_
                refine r_o2s rfl rfl (cg_out hD (by decide)) rfl rfl (c_chr42 (cW_len hD)) ?_
                refine r_ceq rfl rfl (⟨as_lo _, as_hi _⟩) (by decide) (fun e2 => ?_) (fun e2 => ?_)
                · refine r_inc (lv' := [(2, _), (0, _), (1, _)]) rfl rfl rfl rfl ?_
                  refine r_goto rfl rfl ?_
                  refine r_il rfl rfl ?_
                  refine r_al rfl rfl ?_
                  refine r_o1s rfl rfl (cg_out hD (by decide)) rfl rfl (c_len4 (cW_len hD)) ?_
                  refine r_cge rfl rfl (by decide) (by decide) (fun q3 => ?_) (fun q3 => ?_)
                  · exact absurd q3 (by decide)
                  · refine r_al rfl rfl ?_
                    refine r_gf rfl rfl cg_3 rfl ?_
                    refine r_gf rfl rfl cg_1 rfl ?_
                    refine r_al rfl rfl ?_
                    refine r_gf rfl rfl cg_3 rfl ?_
                    refine r_il rfl rfl ?_
                    refine r_add rfl ?_
                    refine r_ba rfl cg_2 (by omega) (by omega) (by decide) ?_
                    refine r_al rfl rfl ?_
                    refine r_il rfl rfl ?_
                    refine r_o2s rfl rfl (cg_out hD (by decide)) rfl rfl (c_chr43 (cW_len hD)) ?_
                    refine r_ceq rfl rfl (⟨as_lo _, as_hi _⟩) (by decide) (fun e3 => ?_) (fun e3 => ?_)
                    · refine r_inc (lv' := [(2, _), (0, _), (1, _)]) rfl rfl rfl rfl ?_
                      refine r_goto rfl rfl ?_
                      refine r_il rfl rfl ?_
                      refine r_al rfl rfl ?_
                      refine r_o1s rfl rfl (cg_out hD (by decide)) rfl rfl (c_len4 (cW_len hD)) ?_
                      refine r_cge rfl rfl (by decide) (by decide) (fun q4 => ?_) (fun q4 => ?_)
                      · have e : sp_4 bt cs cp = true := by unfold sp_4; rw [decide_eq_true g0, decide_eq_true e0, decide_eq_true e1, decide_eq_true e2, decide_eq_true e3]; rfl
                        rw [e] at hQ
                        refine r_ic rfl ?_
                        exact r_retb rfl rfl (by omega) hQ
                      · exact absurd q4 (by decide)
                    · have e : sp_4 bt cs cp = false := by unfold sp_4; rw [decide_eq_true g0, decide_eq_true e0, decide_eq_true e1, decide_eq_true e2, decide_eq_false e3]; rfl
                      rw [e] at hQ
                      refine r_ic rfl ?_
                      exact r_retb rfl rfl (by omega) hQ
                · have e : sp_4 bt cs cp = false := by unfold sp_4; rw [decide_eq_true g0, decide_eq_true e0, decide_eq_true e1, decide_eq_false e2]; rfl
                  rw [e] at hQ
                  refine r_ic rfl ?_
                  exact r_retb rfl rfl (by omega) hQ
            · have e : sp_4 bt cs cp = false := by unfold sp_4; rw [decide_eq_true g0, decide_eq_true e0, decide_eq_false e1]; rfl
              rw [e] at hQ
              refine r_ic rfl ?_
              exact r_retb rfl rfl (by omega) hQ
        · have e : sp_4 bt cs cp = false := by unfold sp_4; rw [decide_eq_true g0, decide_eq_false e0]; rfl
          rw [e] at hQ
          refine r_ic rfl ?_
          exact r_retb rfl rfl (by omega) hQ
    · have e : sp_4 bt cs cp = false := by unfold sp_4; rw [decide_eq_false g0]; rfl
      rw [e] at hQ
      refine r_ic rfl ?_
      exact r_retb rfl rfl (by omega) hQ
  obtain ⟨r, h1, h2⟩ := rn_S (vs := [.ref 3, .ref 1004]) (Q := fun r => r = (some (iv (bi (sp_4 bt cs cp))), (cW ki ln bt rl cp cs ct cv rr dr ja ea ma a1 a2 a3 a4 a5 a6 a7 a8 jb eb mb b1 b2 b3 b4 b5 b6 b7 b8 re fl g1 g2 g3 g4 g5 D))) rfl (rn_up (N := 1000) (M := mm_fuel) (by decide) (main (fun r => r = (some (iv (bi (sp_4 bt cs cp))), (cW ki ln bt rl cp cs ct cv rr dr ja ea ma a1 a2 a3 a4 a5 a6 a7 a8 jb eb mb b1 b2 b3 b4 b5 b6 b7 b8 re fl g1 g2 g3 g4 g5 D))) rfl))
  have h1 : sX7_spells [.ref 3, .ref 1004] (cW ki ln bt rl cp cs ct cv rr dr ja ea ma a1 a2 a3 a4 a5 a6 a7 a8 jb eb mb b1 b2 b3 b4 b5 b6 b7 b8 re fl g1 g2 g3 g4 g5 D) = some r := h1
  rw [h1, h2]
theorem c_sp5 (hD : D.length = 38) (hln : 0 ≤ ln ∧ ln ≤ 400) (h1 : 0 ≤ cs ∧ cs ≤ cp) (h2 : cp ≤ ln) : sX7_spells [.ref 3, .ref 1005] (cW ki ln bt rl cp cs ct cv rr dr ja ea ma a1 a2 a3 a4 a5 a6 a7 a8 jb eb mb b1 b2 b3 b4 b5 b6 b7 b8 re fl g1 g2 g3 g4 g5 D) = some (some (iv (bi (sp_5 bt cs cp))), (cW ki ln bt rl cp cs ct cv rr dr ja ea ma a1 a2 a3 a4 a5 a6 a7 a8 jb eb mb b1 b2 b3 b4 b5 b6 b7 b8 re fl g1 g2 g3 g4 g5 D)) := by
  have main : ∀ Q : mm_R → Prop, Q (some (iv (bi (sp_5 bt cs cp))), (cW ki ln bt rl cp cs ct cv rr dr ja ea ma a1 a2 a3 a4 a5 a6 a7 a8 jb eb mb b1 b2 b3 b4 b5 b6 b7 b8 re fl g1 g2 g3 g4 g5 D)) → rn_X7_spells (1000) (0, [(0, .ref 3), (1, .ref 1005)], [], (cW ki ln bt rl cp cs ct cv rr dr ja ea ma a1 a2 a3 a4 a5 a6 a7 a8 jb eb mb b1 b2 b3 b4 b5 b6 b7 b8 re fl g1 g2 g3 g4 g5 D)) Q := by
    intro Q hQ
    refine r_al rfl rfl ?_
    refine r_gf rfl rfl cg_3 rfl ?_
    refine r_al rfl rfl ?_
    refine r_gf rfl rfl cg_3 rfl ?_
    refine r_sub rfl ?_
    refine r_al rfl rfl ?_
    refine r_o1s rfl rfl (cg_out hD (by decide)) rfl rfl (c_len5 (cW_len hD)) ?_
    refine r_ceq rfl rfl (by omega) (by omega) (fun g0 => ?_) (fun g0 => ?_)
    · refine r_ic rfl ?_
      refine r_is (lv' := [(2, _), (0, _), (1, _)]) rfl rfl rfl ?_
      refine r_il rfl rfl ?_
      refine r_al rfl rfl ?_
      refine r_o1s rfl rfl (cg_out hD (by decide)) rfl rfl (c_len5 (cW_len hD)) ?_
      refine r_cge rfl rfl (by decide) (by decide) (fun q0 => ?_) (fun q0 => ?_)
      · exact absurd q0 (by decide)
      · refine r_al rfl rfl ?_
        refine r_gf rfl rfl cg_3 rfl ?_
        refine r_gf rfl rfl cg_1 rfl ?_
        refine r_al rfl rfl ?_
        refine r_gf rfl rfl cg_3 rfl ?_
        refine r_il rfl rfl ?_
        refine r_add rfl ?_
        refine r_ba rfl cg_2 (by omega) (by omega) (by decide) ?_
        refine r_al rfl rfl ?_
        refine r_il rfl rfl ?_
        refine r_o2s rfl rfl (cg_out hD (by decide)) rfl rfl (c_chr50 (cW_len hD)) ?_
        refine r_ceq rfl rfl (⟨as_lo _, as_hi _⟩) (by decide) (fun e0 => ?_) (fun e0 => ?_)
        · refine r_inc (lv' := [(2, _), (0, _), (1, _)]) rfl rfl rfl rfl ?_
          refine r_goto rfl rfl ?_
          refine r_il rfl rfl ?_
          refine r_al rfl rfl ?_
          refine r_o1s rfl rfl (cg_out hD (by decide)) rfl rfl (c_len5 (cW_len hD)) ?_
          refine r_cge rfl rfl (by decide) (by decide) (fun q1 => ?_) (fun q1 => ?_)
          · exact absurd q1 (by decide)
          · refine r_al rfl rfl ?_
            refine r_gf rfl rfl cg_3 rfl ?_
            refine r_gf rfl rfl cg_1 rfl ?_
            refine r_al rfl rfl ?_
            refine r_gf rfl rfl cg_3 rfl ?_
            refine r_il rfl rfl ?_
            refine r_add rfl ?_
            refine r_ba rfl cg_2 (by omega) (by omega) (by decide) ?_
            refine r_al rfl rfl ?_
            refine r_il rfl rfl ?_
            refine r_o2s rfl rfl (cg_out hD (by decide)) rfl rfl (c_chr51 (cW_len hD)) ?_
            refine r_ceq rfl rfl (⟨as_lo _, as_hi _⟩) (by decide) (fun e1 => ?_) (fun e1 => ?_)
            · refine r_inc (lv' := [(2, _), (0, _), (1, _)]) rfl rfl rfl rfl ?_
              refine r_goto rfl rfl ?_
              refine r_il rfl rfl ?_
              refine r_al rfl rfl ?_
              refine r_o1s rfl rfl (cg_out hD (by decide)) rfl rfl (c_len5 (cW_len hD)) ?_
              refine r_cge rfl rfl (by decide) (by decide) (fun q2 => ?_) (fun q2 => ?_)
              · exact absurd q2 (by decide)
              · refine r_al rfl rfl ?_
                refine r_gf rfl rfl cg_3 rfl ?_
                refine r_gf rfl rfl cg_1 rfl ?_
                refine r_al rfl rfl ?_
                refine r_gf rfl rfl cg_3 rfl ?_
                refine r_il rfl rfl ?_
                refine r_add rfl ?_
                refine r_ba rfl cg_2 (by omega) (by omega) (by decide) ?_
                refine r_al rfl rfl ?_
                refine r_il rfl rfl ?_
                refine r_o2s rfl rfl (cg_out hD (by decide)) rfl rfl (c_chr52 (cW_len hD)) ?_
                refine r_ceq rfl rfl (⟨as_lo _, as_hi _⟩) (by decide) (fun e2 => ?_) (fun e2 => ?_)
                · refine r_inc (lv' := [(2, _), (0, _), (1, _)]) rfl rfl rfl rfl ?_
                  refine r_goto rfl rfl ?_
                  refine r_il rfl rfl ?_
                  refine r_al rfl rfl ?_
                  refine r_o1s rfl rfl (cg_out hD (by decide)) rfl rfl (c_len5 (cW_len hD)) ?_
                  refine r_cge rfl rfl (by decide) (by decide) (fun q3 => ?_) (fun q3 => ?_)
                  · exact absurd q3 (by decide)
                  · refine r_al rfl rfl ?_
                    refine r_gf rfl rfl cg_3 rfl ?_
                    refine r_gf rfl rfl cg_1 rfl ?_
                    refine r_al rfl rfl ?_
                    refine r_gf rfl rfl cg_3 rfl ?_
                    refine r_il rfl rfl ?_
                    refine r_add rfl ?_
                    refine r_ba rfl cg_2 (by omega) (by omega) (by decide) ?_
                    refine r_al rfl rfl ?_
                    refine r_il rfl rfl ?_
                    refine r_o2s rfl rfl (cg_out hD (by decide)) rfl rfl (c_chr53 (cW_len hD)) ?_
                    refine r_ceq rfl rfl (⟨as_lo _, as_hi _⟩) (by decide) (fun e3 => ?_) (fun e3 => ?_)
                    · refine r_inc (lv' := [(2, _), (0, _), (1, _)]) rfl rfl rfl rfl ?_
                      refine r_goto rfl rfl ?_
                      refine r_il rfl rfl ?_
                      refine r_al rfl rfl ?_
                      refine r_o1s rfl rfl (cg_out hD (by decide)) rfl rfl (c_len5 (cW_len hD)) ?_
                      refine r_cge rfl rfl (by decide) (by decide) (fun q4 => ?_) (fun q4 => ?_)
                      · exact absurd q4 (by decide)
                      · refine r_al rfl rfl ?_
                        refine r_gf rfl rfl cg_3 rfl ?_
                        refine r_gf rfl rfl cg_1 rfl ?_
                        refine r_al rfl rfl ?_
                        refine r_gf rfl rfl cg_3 rfl ?_
                        refine r_il rfl rfl ?_
                        refine r_add rfl ?_
                        refine r_ba rfl cg_2 (by omega) (by omega) (by decide) ?_
                        refine r_al rfl rfl ?_
                        refine r_il rfl rfl ?_
                        refine r_o2s rfl rfl (cg_out hD (by decide)) rfl rfl (c_chr54 (cW_len hD)) ?_
                        refine r_ceq rfl rfl (⟨as_lo _, as_hi _⟩) (by decide) (fun e4 => ?_) (fun e4 => ?_)
                        · refine r_inc (lv' := [(2, _), (0, _), (1, _)]) rfl rfl rfl rfl ?_
                          refine r_goto rfl rfl ?_
                          refine r_il rfl rfl ?_
                          refine r_al rfl rfl ?_
                          refine r_o1s rfl rfl (cg_out hD (by decide)) rfl rfl (c_len5 (cW_len hD)) ?_
                          refine r_cge rfl rfl (by decide) (by decide) (fun q5 => ?_) (fun q5 => ?_)
                          · exact absurd q5 (by decide)
                          · refine r_al rfl rfl ?_
                            refine r_gf rfl rfl cg_3 rfl ?_
                            refine r_gf rfl rfl cg_1 rfl ?_
                            refine r_al rfl rfl ?_
                            refine r_gf rfl rfl cg_3 rfl ?_
                            refine r_il rfl rfl ?_
                            refine r_add rfl ?_
                            refine r_ba rfl cg_2 (by omega) (by omega) (by decide) ?_
                            refine r_al rfl rfl ?_
                            refine r_il rfl rfl ?_
                            refine r_o2s rfl rfl (cg_out hD (by decide)) rfl rfl (c_chr55 (cW_len hD)) ?_
                            refine r_ceq rfl rfl (⟨as_lo _, as_hi _⟩) (by decide) (fun e5 => ?_) (fun e5 => ?_)
                            · refine r_inc (lv' := [(2, _), (0, _), (1, _)]) rfl rfl rfl rfl ?_
                              refine r_goto rfl rfl ?_
                              refine r_il rfl rfl ?_
                              refine r_al rfl rfl ?_
                              refine r_o1s rfl rfl (cg_out hD (by decide)) rfl rfl (c_len5 (cW_len hD)) ?_
                              refine r_cge rfl rfl (by decide) (by decide) (fun q6 => ?_) (fun q6 => ?_)
                              · have e : sp_5 bt cs cp = true := by unfold sp_5; rw [decide_eq_true g0, decide_eq_true e0, decide_eq_true e1, decide_eq_true e2, decide_eq_true e3, decide_eq_true e4, decide_eq_true e5]; rfl
                                rw [e] at hQ
                                refine r_ic rfl ?_
                                exact r_retb rfl rfl (by omega) hQ
                              · exact absurd q6 (by decide)
                            · have e : sp_5 bt cs cp = false := by unfold sp_5; rw [decide_eq_true g0, decide_eq_true e0, decide_eq_true e1, decide_eq_true e2, decide_eq_true e3, decide_eq_true e4, decide_eq_false e5]; rfl
                              rw [e] at hQ
                              refine r_ic rfl ?_
                              exact r_retb rfl rfl (by omega) hQ
                        · have e : sp_5 bt cs cp = false := by unfold sp_5; rw [decide_eq_true g0, decide_eq_true e0, decide_eq_true e1, decide_eq_true e2, decide_eq_true e3, decide_eq_false e4]; rfl
                          rw [e] at hQ
                          refine r_ic rfl ?_
                          exact r_retb rfl rfl (by omega) hQ
                    · have e : sp_5 bt cs cp = false := by unfold sp_5; rw [decide_eq_true g0, decide_eq_true e0, decide_eq_true e1, decide_eq_true e2, decide_eq_false e3]; rfl
                      rw [e] at hQ
                      refine r_ic rfl ?_
                      exact r_retb rfl rfl (by omega) hQ
                · have e : sp_5 bt cs cp = false := by unfold sp_5; rw [decide_eq_true g0, decide_eq_true e0, decide_eq_true e1, decide_eq_false e2]; rfl
                  rw [e] at hQ
                  refine r_ic rfl ?_
                  exact r_retb rfl rfl (by omega) hQ
            · have e : sp_5 bt cs cp = false := by unfold sp_5; rw [decide_eq_true g0, decide_eq_true e0, decide_eq_false e1]; rfl
              rw [e] at hQ
              refine r_ic rfl ?_
              exact r_retb rfl rfl (by omega) hQ
        · have e : sp_5 bt cs cp = false := by unfold sp_5; rw [decide_eq_true g0, decide_eq_false e0]; rfl
          rw [e] at hQ
          refine r_ic rfl ?_
          exact r_retb rfl rfl (by omega) hQ
    · have e : sp_5 bt cs cp = false := by unfold sp_5; rw [decide_eq_false g0]; rfl
      rw [e] at hQ
      refine r_ic rfl ?_
      exact r_retb rfl rfl (by omega) hQ
  obtain ⟨r, h1, h2⟩ := rn_S (vs := [.ref 3, .ref 1005]) (Q := fun r => r = (some (iv (bi (sp_5 bt cs cp))), (cW ki ln bt rl cp cs ct cv rr dr ja ea ma a1 a2 a3 a4 a5 a6 a7 a8 jb eb mb b1 b2 b3 b4 b5 b6 b7 b8 re fl g1 g2 g3 g4 g5 D))) rfl (rn_up (N := 1000) (M := mm_fuel) (by decide) (main (fun r => r = (some (iv (bi (sp_5 bt cs cp))), (cW ki ln bt rl cp cs ct cv rr dr ja ea ma a1 a2 a3 a4 a5 a6 a7 a8 jb eb mb b1 b2 b3 b4 b5 b6 b7 b8 re fl g1 g2 g3 g4 g5 D))) rfl))
  have h1 : sX7_spells [.ref 3, .ref 1005] (cW ki ln bt rl cp cs ct cv rr dr ja ea ma a1 a2 a3 a4 a5 a6 a7 a8 jb eb mb b1 b2 b3 b4 b5 b6 b7 b8 re fl g1 g2 g3 g4 g5 D) = some r := h1
  rw [h1, h2]
abbrev rn_X7_readWord (N : Nat) (c : mm_C) (Q : mm_R → Prop) : Prop := rn (mm_gf gLX7) (mm_pf pLX7) (mm_mv vX7_readWord) (mm_mv zX7_readWord) (mm_kc kLX7) mm_gs0 mm_rf0 mm_ro none 1 (mm_ins iX7_readWord) N c Q
theorem cl_lo (hln : 0 ≤ ln ∧ ln ≤ 400) (k : rn_X7_readWord N (45, [(0, .ref 3)], [], (cW ki ln bt rl (pt_skip pt_low bt ln cp) cs ct cv rr dr ja ea ma a1 a2 a3 a4 a5 a6 a7 a8 jb eb mb b1 b2 b3 b4 b5 b6 b7 b8 re fl g1 g2 g3 g4 g5 D)) Q) (h0 : 0 ≤ cp) (h1 : cp ≤ ln) : ∀ m : Nat, (ln - cp).toNat ≤ m → rn_X7_readWord (N + 40 * m + 40) (0, [(0, .ref 3)], [], (cW ki ln bt rl cp cs ct cv rr dr ja ea ma a1 a2 a3 a4 a5 a6 a7 a8 jb eb mb b1 b2 b3 b4 b5 b6 b7 b8 re fl g1 g2 g3 g4 g5 D)) Q := by
  intro m
  induction m generalizing cp with
  | zero =>
    intro hm
    refine rn_up (N := N + 40) (by omega) ?_
    refine r_al rfl rfl ?_
    refine r_gf rfl rfl cg_3 rfl ?_
    refine r_al rfl rfl ?_
    refine r_gf rfl rfl cg_3 rfl ?_
    refine r_gf rfl rfl cg_1 rfl ?_
    refine r_cge rfl rfl (by omega) (by omega) (fun g1 => ?_) (fun g1 => ?_)
    · have e : pt_skip pt_low bt ln cp = cp := pt_skip_n (by rw [pt_at_ge g1]; rfl)
      rw [e] at k
      exact rn_up (by omega) k
    · omega
  | succ m ih =>
    intro hm
    refine rn_up (N := N + 40 * m + 40 + 40) (by omega) ?_
    refine r_al rfl rfl ?_
    refine r_gf rfl rfl cg_3 rfl ?_
    refine r_al rfl rfl ?_
    refine r_gf rfl rfl cg_3 rfl ?_
    refine r_gf rfl rfl cg_1 rfl ?_
    refine r_cge rfl rfl (by omega) (by omega) (fun g1 => ?_) (fun g1 => ?_)
    · have e : pt_skip pt_low bt ln cp = cp := pt_skip_n (by rw [pt_at_ge g1]; rfl)
      rw [e] at k
      exact rn_up (by omega) k
    · have ea := pt_at_lt (B := bt) g1
      refine r_al rfl rfl ?_
      refine r_gf rfl rfl cg_3 rfl ?_
      refine r_gf rfl rfl cg_1 rfl ?_
      refine r_al rfl rfl ?_
      refine r_gf rfl rfl cg_3 rfl ?_
      refine r_ba rfl cg_2 (by omega) (by omega) (by decide) ?_
      refine r_s1s rfl rfl rfl (c_isSmall ⟨as_lo _, as_hi _⟩) ?_
      refine r_zeq rfl rfl (bi_r _) (fun g2 => ?_) (fun g2 => ?_)
      · have e : pt_skip pt_low bt ln cp = cp := pt_skip_n (by rw [ea]; exact bi_0 g2)
        rw [e] at k
        exact rn_up (by omega) k
      · obtain ⟨e, e2⟩ := pt_skip_y (f := pt_low) (B := bt) (n := ln) (p := cp) rfl (by rw [ea]; exact bi_1 g2)
        rw [e] at k
        refine r_al rfl rfl ?_
        refine r_dup rfl rfl ?_
        refine r_gf rfl rfl cg_3 rfl ?_
        refine r_ic rfl ?_
        refine r_add rfl ?_
        refine r_pf rfl rfl cg_3 rfl cp_cp ?_
        refine r_goto rfl rfl ?_
        exact rn_up (by omega) (ih k (by omega) (by omega) (by omega))
abbrev rn_X7_readNumber (N : Nat) (c : mm_C) (Q : mm_R → Prop) : Prop := rn (mm_gf gLX7) (mm_pf pLX7) (mm_mv vX7_readNumber) (mm_mv zX7_readNumber) (mm_kc kLX7) mm_gs0 mm_rf0 mm_ro none 2 (mm_ins iX7_readNumber) N c Q
theorem cl_di (hln : 0 ≤ ln ∧ ln ≤ 400) (k : rn_X7_readNumber N (45, [(0, .ref 3)], [], (cW ki ln bt rl (pt_skip pt_dig bt ln cp) cs ct cv rr dr ja ea ma a1 a2 a3 a4 a5 a6 a7 a8 jb eb mb b1 b2 b3 b4 b5 b6 b7 b8 re fl g1 g2 g3 g4 g5 D)) Q) (h0 : 0 ≤ cp) (h1 : cp ≤ ln) : ∀ m : Nat, (ln - cp).toNat ≤ m → rn_X7_readNumber (N + 40 * m + 40) (0, [(0, .ref 3)], [], (cW ki ln bt rl cp cs ct cv rr dr ja ea ma a1 a2 a3 a4 a5 a6 a7 a8 jb eb mb b1 b2 b3 b4 b5 b6 b7 b8 re fl g1 g2 g3 g4 g5 D)) Q := by
  intro m
  induction m generalizing cp with
  | zero =>
    intro hm
    refine rn_up (N := N + 40) (by omega) ?_
    refine r_al rfl rfl ?_
    refine r_gf rfl rfl cg_3 rfl ?_
    refine r_al rfl rfl ?_
    refine r_gf rfl rfl cg_3 rfl ?_
    refine r_gf rfl rfl cg_1 rfl ?_
    refine r_cge rfl rfl (by omega) (by omega) (fun g1 => ?_) (fun g1 => ?_)
    · have e : pt_skip pt_dig bt ln cp = cp := pt_skip_n (by rw [pt_at_ge g1]; rfl)
      rw [e] at k
      exact rn_up (by omega) k
    · omega
  | succ m ih =>
    intro hm
    refine rn_up (N := N + 40 * m + 40 + 40) (by omega) ?_
    refine r_al rfl rfl ?_
    refine r_gf rfl rfl cg_3 rfl ?_
    refine r_al rfl rfl ?_
    refine r_gf rfl rfl cg_3 rfl ?_
    refine r_gf rfl rfl cg_1 rfl ?_
    refine r_cge rfl rfl (by omega) (by omega) (fun g1 => ?_) (fun g1 => ?_)
    · have e : pt_skip pt_dig bt ln cp = cp := pt_skip_n (by rw [pt_at_ge g1]; rfl)
      rw [e] at k
      exact rn_up (by omega) k
    · have ea := pt_at_lt (B := bt) g1
      refine r_al rfl rfl ?_
      refine r_gf rfl rfl cg_3 rfl ?_
      refine r_gf rfl rfl cg_1 rfl ?_
      refine r_al rfl rfl ?_
      refine r_gf rfl rfl cg_3 rfl ?_
      refine r_ba rfl cg_2 (by omega) (by omega) (by decide) ?_
      refine r_s1s rfl rfl rfl (c_isDig ⟨as_lo _, as_hi _⟩) ?_
      refine r_zeq rfl rfl (bi_r _) (fun g2 => ?_) (fun g2 => ?_)
      · have e : pt_skip pt_dig bt ln cp = cp := pt_skip_n (by rw [ea]; exact bi_0 g2)
        rw [e] at k
        exact rn_up (by omega) k
      · obtain ⟨e, e2⟩ := pt_skip_y (f := pt_dig) (B := bt) (n := ln) (p := cp) rfl (by rw [ea]; exact bi_1 g2)
        rw [e] at k
        refine r_al rfl rfl ?_
        refine r_dup rfl rfl ?_
        refine r_gf rfl rfl cg_3 rfl ?_
        refine r_ic rfl ?_
        refine r_add rfl ?_
        refine r_pf rfl rfl cg_3 rfl cp_cp ?_
        refine r_goto rfl rfl ?_
        exact rn_up (by omega) (ih k (by omega) (by omega) (by omega))
abbrev rn_X7_readToken (N : Nat) (c : mm_C) (Q : mm_R → Prop) : Prop := rn (mm_gf gLX7) (mm_pf pLX7) (mm_mv vX7_readToken) (mm_mv zX7_readToken) (mm_kc kLX7) mm_gs0 mm_rf0 mm_ro none 2 (mm_ins iX7_readToken) N c Q
theorem cl_sp (hln : 0 ≤ ln ∧ ln ≤ 400) (k : rn_X7_readToken N (44, [(0, .ref 3)], [], (cW ki ln bt rl (pt_skip pt_spc bt ln cp) cs ct cv rr dr ja ea ma a1 a2 a3 a4 a5 a6 a7 a8 jb eb mb b1 b2 b3 b4 b5 b6 b7 b8 re fl g1 g2 g3 g4 g5 D)) Q) (h0 : 0 ≤ cp) (h1 : cp ≤ ln) : ∀ m : Nat, (ln - cp).toNat ≤ m → rn_X7_readToken (N + 40 * m + 40) (0, [(0, .ref 3)], [], (cW ki ln bt rl cp cs ct cv rr dr ja ea ma a1 a2 a3 a4 a5 a6 a7 a8 jb eb mb b1 b2 b3 b4 b5 b6 b7 b8 re fl g1 g2 g3 g4 g5 D)) Q := by
  intro m
  induction m generalizing cp with
  | zero =>
    intro hm
    refine rn_up (N := N + 40) (by omega) ?_
    refine r_al rfl rfl ?_
    refine r_gf rfl rfl cg_3 rfl ?_
    refine r_al rfl rfl ?_
    refine r_gf rfl rfl cg_3 rfl ?_
    refine r_gf rfl rfl cg_1 rfl ?_
    refine r_cge rfl rfl (by omega) (by omega) (fun g1 => ?_) (fun g1 => ?_)
    · have e : pt_skip pt_spc bt ln cp = cp := pt_skip_n (by rw [pt_at_ge g1]; rfl)
      rw [e] at k
      exact rn_up (by omega) k
    · omega
  | succ m ih =>
    intro hm
    refine rn_up (N := N + 40 * m + 40 + 40) (by omega) ?_
    refine r_al rfl rfl ?_
    refine r_gf rfl rfl cg_3 rfl ?_
    refine r_al rfl rfl ?_
    refine r_gf rfl rfl cg_3 rfl ?_
    refine r_gf rfl rfl cg_1 rfl ?_
    refine r_cge rfl rfl (by omega) (by omega) (fun g1 => ?_) (fun g1 => ?_)
    · have e : pt_skip pt_spc bt ln cp = cp := pt_skip_n (by rw [pt_at_ge g1]; rfl)
      rw [e] at k
      exact rn_up (by omega) k
    · have ea := pt_at_lt (B := bt) g1
      refine r_al rfl rfl ?_
      refine r_gf rfl rfl cg_3 rfl ?_
      refine r_gf rfl rfl cg_1 rfl ?_
      refine r_al rfl rfl ?_
      refine r_gf rfl rfl cg_3 rfl ?_
      refine r_ba rfl cg_2 (by omega) (by omega) (by decide) ?_
      refine r_bi rfl (by decide) ?_
      refine r_cne rfl rfl ⟨as_lo _, as_hi _⟩ (by decide) (fun g2 => ?_) (fun g2 => ?_)
      · have e : pt_skip pt_spc bt ln cp = cp := pt_skip_n (by rw [ea]; exact decide_eq_false g2)
        rw [e] at k
        exact rn_up (by omega) k
      · obtain ⟨e, e2⟩ := pt_skip_y (f := pt_spc) (B := bt) (n := ln) (p := cp) rfl (by rw [ea]; exact decide_eq_true g2)
        rw [e] at k
        refine r_al rfl rfl ?_
        refine r_dup rfl rfl ?_
        refine r_gf rfl rfl cg_3 rfl ?_
        refine r_ic rfl ?_
        refine r_add rfl ?_
        refine r_pf rfl rfl cg_3 rfl cp_cp ?_
        refine r_goto rfl rfl ?_
        exact rn_up (by omega) (ih k (by omega) (by omega) (by omega))
theorem c_readWord (hD : D.length = 38) (hln : 0 ≤ ln ∧ ln ≤ 400) (h1 : 0 ≤ cs ∧ cs ≤ cp) (h2 : cp ≤ ln) : sX7_readWord [.ref 3] (cW ki ln bt rl cp cs ct cv rr dr ja ea ma a1 a2 a3 a4 a5 a6 a7 a8 jb eb mb b1 b2 b3 b4 b5 b6 b7 b8 re fl g1 g2 g3 g4 g5 D) = some (none, (cW ki ln bt rl (pt_skip pt_low bt ln cp) cs (cw_t bt cs (pt_skip pt_low bt ln cp)) cv rr dr ja ea ma a1 a2 a3 a4 a5 a6 a7 a8 jb eb mb b1 b2 b3 b4 b5 b6 b7 b8 re fl g1 g2 g3 g4 g5 D)) := by
  have main : ∀ Q : mm_R → Prop, Q (none, (cW ki ln bt rl (pt_skip pt_low bt ln cp) cs (cw_t bt cs (pt_skip pt_low bt ln cp)) cv rr dr ja ea ma a1 a2 a3 a4 a5 a6 a7 a8 jb eb mb b1 b2 b3 b4 b5 b6 b7 b8 re fl g1 g2 g3 g4 g5 D)) → rn_X7_readWord (2000 + 40 * 400 + 40) (0, [(0, .ref 3)], [], (cW ki ln bt rl cp cs ct cv rr dr ja ea ma a1 a2 a3 a4 a5 a6 a7 a8 jb eb mb b1 b2 b3 b4 b5 b6 b7 b8 re fl g1 g2 g3 g4 g5 D)) Q := by
    intro Q hQ
    have hs := pt_skip_r (f := pt_low) (B := bt) (n := ln) rfl 400 (p := cp) h2 (by omega)
    refine cl_lo hln ?_ (by omega) h2 400 (by omega)
    unfold cw_t at hQ
    generalize (pt_skip pt_low bt ln cp) = e0 at hQ hs ⊢
    refine r_al rfl rfl ?_
    refine r_ldc rfl rfl ?_
    refine r_v2s rfl rfl cg_3 rfl (c_sp0 hD hln (by omega) (by omega)) ?_
    refine r_zeq rfl rfl (bi_r _) (fun g0 => ?_) (fun g0 => ?_)
    · rw [bi_0 g0] at hQ
      refine r_al rfl rfl ?_
      refine r_ldc rfl rfl ?_
      refine r_v2s rfl rfl cg_3 rfl (c_sp1 hD hln (by omega) (by omega)) ?_
      refine r_zeq rfl rfl (bi_r _) (fun g1 => ?_) (fun g1 => ?_)
      · rw [bi_0 g1] at hQ
        refine r_al rfl rfl ?_
        refine r_ldc rfl rfl ?_
        refine r_v2s rfl rfl cg_3 rfl (c_sp2 hD hln (by omega) (by omega)) ?_
        refine r_zeq rfl rfl (bi_r _) (fun g2 => ?_) (fun g2 => ?_)
        · rw [bi_0 g2] at hQ
          refine r_al rfl rfl ?_
          refine r_ldc rfl rfl ?_
          refine r_v2s rfl rfl cg_3 rfl (c_sp3 hD hln (by omega) (by omega)) ?_
          refine r_zeq rfl rfl (bi_r _) (fun g3 => ?_) (fun g3 => ?_)
          · rw [bi_0 g3] at hQ
            refine r_al rfl rfl ?_
            refine r_ldc rfl rfl ?_
            refine r_v2s rfl rfl cg_3 rfl (c_sp4 hD hln (by omega) (by omega)) ?_
            refine r_zeq rfl rfl (bi_r _) (fun g4 => ?_) (fun g4 => ?_)
            · rw [bi_0 g4] at hQ
              refine r_al rfl rfl ?_
              refine r_al rfl rfl ?_
              refine r_ldc rfl rfl ?_
              refine r_v2s rfl rfl cg_3 rfl (c_sp5 hD hln (by omega) (by omega)) ?_
              refine r_zeq rfl rfl (bi_r _) (fun g5 => ?_) (fun g5 => ?_)
              · rw [bi_0 g5] at hQ
                refine r_ic rfl ?_
                refine r_pf rfl rfl cg_3 rfl cp_ct ?_
                exact r_retv rfl rfl hQ
              · rw [bi_1 g5] at hQ
                refine r_bi rfl (by decide) ?_
                refine r_goto rfl rfl ?_
                refine r_pf rfl rfl cg_3 rfl cp_ct ?_
                exact r_retv rfl rfl hQ
            · rw [bi_1 g4] at hQ
              refine r_al rfl rfl ?_
              refine r_bi rfl (by decide) ?_
              refine r_pf rfl rfl cg_3 rfl cp_ct ?_
              refine r_goto rfl rfl ?_
              exact r_retv rfl rfl hQ
          · rw [bi_1 g3] at hQ
            refine r_al rfl rfl ?_
            refine r_bi rfl (by decide) ?_
            refine r_pf rfl rfl cg_3 rfl cp_ct ?_
            refine r_goto rfl rfl ?_
            exact r_retv rfl rfl hQ
        · rw [bi_1 g2] at hQ
          refine r_al rfl rfl ?_
          refine r_bi rfl (by decide) ?_
          refine r_pf rfl rfl cg_3 rfl cp_ct ?_
          refine r_goto rfl rfl ?_
          exact r_retv rfl rfl hQ
      · rw [bi_1 g1] at hQ
        refine r_al rfl rfl ?_
        refine r_bi rfl (by decide) ?_
        refine r_pf rfl rfl cg_3 rfl cp_ct ?_
        refine r_goto rfl rfl ?_
        exact r_retv rfl rfl hQ
    · rw [bi_1 g0] at hQ
      refine r_al rfl rfl ?_
      refine r_bi rfl (by decide) ?_
      refine r_pf rfl rfl cg_3 rfl cp_ct ?_
      refine r_goto rfl rfl ?_
      exact r_retv rfl rfl hQ
  obtain ⟨r, h1, h2⟩ := rn_S (vs := [.ref 3]) (Q := fun r => r = (none, (cW ki ln bt rl (pt_skip pt_low bt ln cp) cs (cw_t bt cs (pt_skip pt_low bt ln cp)) cv rr dr ja ea ma a1 a2 a3 a4 a5 a6 a7 a8 jb eb mb b1 b2 b3 b4 b5 b6 b7 b8 re fl g1 g2 g3 g4 g5 D))) rfl (rn_up (N := 2000 + 40 * 400 + 40) (M := mm_fuel) (by decide) (main (fun r => r = (none, (cW ki ln bt rl (pt_skip pt_low bt ln cp) cs (cw_t bt cs (pt_skip pt_low bt ln cp)) cv rr dr ja ea ma a1 a2 a3 a4 a5 a6 a7 a8 jb eb mb b1 b2 b3 b4 b5 b6 b7 b8 re fl g1 g2 g3 g4 g5 D))) rfl))
  have h1 : sX7_readWord [.ref 3] (cW ki ln bt rl cp cs ct cv rr dr ja ea ma a1 a2 a3 a4 a5 a6 a7 a8 jb eb mb b1 b2 b3 b4 b5 b6 b7 b8 re fl g1 g2 g3 g4 g5 D) = some r := h1
  rw [h1, h2]
theorem pt_num_st {B : Nat → Int32} {n : Int} : ∀ (m : Nat) {q v : Int}, 999 < v → pt_num B n m q v = v
  | 0, _, _, _ => rfl
  | m + 1, q, v, h => by
    show pt_num B n m (q + 1) (bif decide (999 < v) then v else 10 * v + pt_at B n q - 48) = v
    rw [decide_eq_true h]
    exact pt_num_st m h
theorem cl_nu (hln : 0 ≤ ln ∧ ln ≤ 400) (hcp : cp ≤ ln) (hv : 0 ≤ cv ∧ cv ≤ 9999) (hd : ∀ q : Int, a ≤ q → q < cp → 48 ≤ pt_at bt ln q ∧ pt_at bt ln q ≤ 57) (k : ∀ z : Int, rn_X7_readNumber N (98, [(1, iv (z)), (0, .ref 3)], [], (cW ki ln bt rl cp cs ct (pt_num bt ln (cp - a).toNat a cv) rr dr ja ea ma a1 a2 a3 a4 a5 a6 a7 a8 jb eb mb b1 b2 b3 b4 b5 b6 b7 b8 re fl g1 g2 g3 g4 g5 D)) Q) (h0 : 0 ≤ a) (h1 : a ≤ cp) : ∀ m : Nat, (cp - a).toNat ≤ m → rn_X7_readNumber (N + 40 * m + 40) (50, [(1, iv (a)), (0, .ref 3)], [], (cW ki ln bt rl cp cs ct cv rr dr ja ea ma a1 a2 a3 a4 a5 a6 a7 a8 jb eb mb b1 b2 b3 b4 b5 b6 b7 b8 re fl g1 g2 g3 g4 g5 D)) Q := by
  intro m
  induction m generalizing a cv with
  | zero =>
    intro hm
    refine rn_up (N := N + 40) (by omega) ?_
    refine r_il rfl rfl ?_
    refine r_al rfl rfl ?_
    refine r_gf rfl rfl cg_3 rfl ?_
    refine r_cge rfl rfl (by omega) (by omega) (fun g1 => ?_) (fun g1 => ?_)
    · have e : (pt_num bt ln (cp - a).toNat a cv) = cv := by rw [show (cp - a).toNat = 0 by omega]; rfl
      rw [e] at k
      exact rn_up (by omega) (k a)
    · omega
  | succ m ih =>
    intro hm
    refine rn_up (N := N + 40 * m + 40 + 40) (by omega) ?_
    refine r_il rfl rfl ?_
    refine r_al rfl rfl ?_
    refine r_gf rfl rfl cg_3 rfl ?_
    refine r_cge rfl rfl (by omega) (by omega) (fun g1 => ?_) (fun g1 => ?_)
    · have e : (pt_num bt ln (cp - a).toNat a cv) = cv := by rw [show (cp - a).toNat = 0 by omega]; rfl
      rw [e] at k
      exact rn_up (by omega) (k a)
    · refine r_al rfl rfl ?_
      refine r_gf rfl rfl cg_3 rfl ?_
      refine r_si rfl (by decide) ?_
      refine r_cgt rfl rfl (by omega) (by omega) (fun g2 => ?_) (fun g2 => ?_)
      · have e : (pt_num bt ln (cp - a).toNat a cv) = cv := pt_num_st _ g2
        rw [e] at k
        exact rn_up (by omega) (k a)
      · have hb := hd a (Int.le_refl _) g1
        have ea := pt_at_lt (B := bt) (show a < ln by omega)
        rw [ea] at hb
        have e : (pt_num bt ln (cp - a).toNat a cv) = pt_num bt ln (cp - (a + 1)).toNat (a + 1) (cv * 10 + (bt (Int.toNat a)).toInt - 48) := by
          rw [show (cp - a).toNat = (cp - (a + 1)).toNat + 1 by omega]
          show pt_num bt ln _ (a + 1) (bif decide (999 < cv) then cv else 10 * cv + pt_at bt ln a - 48) = _
          rw [decide_eq_false (show ¬ 999 < cv by omega), ea, Int.mul_comm 10 cv]
          rfl
        rw [e] at k
        refine r_al rfl rfl ?_
        refine r_al rfl rfl ?_
        refine r_gf rfl rfl cg_3 rfl ?_
        refine r_bi rfl (by decide) ?_
        refine r_mul rfl ?_
        refine r_al rfl rfl ?_
        refine r_gf rfl rfl cg_3 rfl ?_
        refine r_gf rfl rfl cg_1 rfl ?_
        refine r_il rfl rfl ?_
        refine r_ba rfl cg_2 (by omega) (by omega) (by decide) ?_
        refine r_add rfl ?_
        refine r_bi rfl (by decide) ?_
        refine r_sub rfl ?_
        refine r_pf rfl rfl cg_3 rfl cp_cv ?_
        refine r_inc (lv' := [(1, _), (0, _)]) rfl rfl rfl rfl ?_
        refine r_goto rfl rfl ?_
        exact rn_up (by omega) (ih (by omega) (fun q b1 b2 => hd q (by omega) b2) k (by omega) (by omega) (by omega))
theorem c_readNumber (hD : D.length = 38) (hln : 0 ≤ ln ∧ ln ≤ 400) (h1 : 0 ≤ cs ∧ cs + 1 = cp) (h2 : cp ≤ ln) (h3 : pt_dig (pt_at bt ln cs) = true) : sX7_readNumber [.ref 3] (cW ki ln bt rl cp cs ct (0 : Int) rr dr ja ea ma a1 a2 a3 a4 a5 a6 a7 a8 jb eb mb b1 b2 b3 b4 b5 b6 b7 b8 re fl g1 g2 g3 g4 g5 D) = some (none, (cW ki ln bt rl (pt_skip pt_dig bt ln cp) cs (bif (decide ((bt (Int.toNat cs)).toInt = 48) && decide (1 < (pt_skip pt_dig bt ln cp) - cs)) || decide (999 < (pt_num bt ln ((pt_skip pt_dig bt ln cp) - cs).toNat cs 0)) then 1 else 2) (pt_num bt ln ((pt_skip pt_dig bt ln cp) - cs).toNat cs 0) rr dr ja ea ma a1 a2 a3 a4 a5 a6 a7 a8 jb eb mb b1 b2 b3 b4 b5 b6 b7 b8 re fl g1 g2 g3 g4 g5 D)) := by
  have main : ∀ Q : mm_R → Prop, Q (none, (cW ki ln bt rl (pt_skip pt_dig bt ln cp) cs (bif (decide ((bt (Int.toNat cs)).toInt = 48) && decide (1 < (pt_skip pt_dig bt ln cp) - cs)) || decide (999 < (pt_num bt ln ((pt_skip pt_dig bt ln cp) - cs).toNat cs 0)) then 1 else 2) (pt_num bt ln ((pt_skip pt_dig bt ln cp) - cs).toNat cs 0) rr dr ja ea ma a1 a2 a3 a4 a5 a6 a7 a8 jb eb mb b1 b2 b3 b4 b5 b6 b7 b8 re fl g1 g2 g3 g4 g5 D)) → rn_X7_readNumber (20000 + 40 * 400 + 40) (0, [(0, .ref 3)], [], (cW ki ln bt rl cp cs ct (0 : Int) rr dr ja ea ma a1 a2 a3 a4 a5 a6 a7 a8 jb eb mb b1 b2 b3 b4 b5 b6 b7 b8 re fl g1 g2 g3 g4 g5 D)) Q := by
    intro Q hQ
    have hs := pt_skip_r (f := pt_dig) (B := bt) (n := ln) rfl 400 (p := cp) h2 (by omega)
    have hd : ∀ q : Int, cs ≤ q → q < (pt_skip pt_dig bt ln cp) → 48 ≤ pt_at bt ln q ∧ pt_at bt ln q ≤ 57 := by
      intro q b1 b2
      by_cases hq : q = cs
      · rw [hq]; exact i3_t h3
      · exact i3_t (pt_skip_in (f := pt_dig) rfl 400 (p := cp) (by omega) q (by omega) b2)
    have hv := pt_num_r (B := bt) (n := ln) ((pt_skip pt_dig bt ln cp) - cs).toNat (q := cs) (v := 0) (fun q b1 b2 => hd q b1 (by omega)) (by omega) (by omega)
    refine cl_di hln ?_ (by omega) h2 400 (by omega)
    refine r_al rfl rfl ?_
    refine r_gf rfl rfl cg_3 rfl ?_
    refine r_is (lv' := [(1, _), (0, _)]) rfl rfl rfl ?_
    refine rn_up (N := 1000 + 40 * 400 + 40) (by omega) (cl_nu hln (by omega) (by omega) hd (fun z => ?_) (by omega) (by omega) 400 (by omega))
    generalize (pt_num bt ln ((pt_skip pt_dig bt ln cp) - cs).toNat cs 0) = v0 at hQ hv ⊢
    generalize (pt_skip pt_dig bt ln cp) = e0 at hQ hs ⊢
    have K : rn_X7_readNumber (500) (133, [(1, iv (z)), (0, .ref 3)], [iv (bi (decide ((bt (Int.toNat cs)).toInt = 48) && decide (1 < e0 - cs)))], (cW ki ln bt rl e0 cs ct v0 rr dr ja ea ma a1 a2 a3 a4 a5 a6 a7 a8 jb eb mb b1 b2 b3 b4 b5 b6 b7 b8 re fl g1 g2 g3 g4 g5 D)) Q := by
      refine r_is (lv' := [(1, _), (0, _)]) rfl rfl rfl ?_
      refine r_al rfl rfl ?_
      refine r_il rfl rfl ?_
      refine r_zne rfl rfl (bi_r _) (fun g1 => ?_) (fun g1 => ?_)
      · rw [bi_1 g1] at hQ
        refine r_ic rfl ?_
        refine r_goto rfl rfl ?_
        refine r_pf rfl rfl cg_3 rfl cp_ct ?_
        exact r_retv rfl rfl hQ
      · rw [bi_0 g1] at hQ
        refine r_al rfl rfl ?_
        refine r_gf rfl rfl cg_3 rfl ?_
        refine r_si rfl (by decide) ?_
        refine r_cle rfl rfl (by omega) (by omega) (fun g2 => ?_) (fun g2 => ?_)
        · rw [decide_eq_false (show ¬ 999 < v0 by omega)] at hQ
          refine r_ic rfl ?_
          refine r_pf rfl rfl cg_3 rfl cp_ct ?_
          exact r_retv rfl rfl hQ
        · rw [decide_eq_true g2] at hQ
          refine r_ic rfl ?_
          refine r_goto rfl rfl ?_
          refine r_pf rfl rfl cg_3 rfl cp_ct ?_
          exact r_retv rfl rfl hQ
    refine r_al rfl rfl ?_
    refine r_gf rfl rfl cg_3 rfl ?_
    refine r_gf rfl rfl cg_1 rfl ?_
    refine r_al rfl rfl ?_
    refine r_gf rfl rfl cg_3 rfl ?_
    refine r_ba rfl cg_2 (by omega) (by omega) (by decide) ?_
    refine r_bi rfl (by decide) ?_
    refine r_cne rfl rfl ⟨as_lo _, as_hi _⟩ (by decide) (fun g1 => ?_) (fun g1 => ?_)
    · refine r_ic rfl ?_
      have e : (decide ((bt (Int.toNat cs)).toInt = 48) && decide (1 < e0 - cs)) = false := by rw [decide_eq_false g1]; rfl
      rw [e] at K
      exact rn_up (by decide) K
    · refine r_al rfl rfl ?_
      refine r_gf rfl rfl cg_3 rfl ?_
      refine r_al rfl rfl ?_
      refine r_gf rfl rfl cg_3 rfl ?_
      refine r_sub rfl ?_
      refine r_ic rfl ?_
      refine r_cle rfl rfl (by omega) (by omega) (fun g2 => ?_) (fun g2 => ?_)
      · refine r_ic rfl ?_
        have e : (decide ((bt (Int.toNat cs)).toInt = 48) && decide (1 < e0 - cs)) = false := by rw [decide_eq_false (show ¬ 1 < e0 - cs by omega), Bool.and_false]
        rw [e] at K
        exact rn_up (by decide) K
      · refine r_ic rfl ?_
        refine r_goto rfl rfl ?_
        have e : (decide ((bt (Int.toNat cs)).toInt = 48) && decide (1 < e0 - cs)) = true := by rw [decide_eq_true g1, decide_eq_true g2]; rfl
        rw [e] at K
        exact rn_up (by decide) K
  obtain ⟨r, h1, h2⟩ := rn_S (vs := [.ref 3]) (Q := fun r => r = (none, (cW ki ln bt rl (pt_skip pt_dig bt ln cp) cs (bif (decide ((bt (Int.toNat cs)).toInt = 48) && decide (1 < (pt_skip pt_dig bt ln cp) - cs)) || decide (999 < (pt_num bt ln ((pt_skip pt_dig bt ln cp) - cs).toNat cs 0)) then 1 else 2) (pt_num bt ln ((pt_skip pt_dig bt ln cp) - cs).toNat cs 0) rr dr ja ea ma a1 a2 a3 a4 a5 a6 a7 a8 jb eb mb b1 b2 b3 b4 b5 b6 b7 b8 re fl g1 g2 g3 g4 g5 D))) rfl (rn_up (N := 20000 + 40 * 400 + 40) (M := mm_fuel) (by decide) (main (fun r => r = (none, (cW ki ln bt rl (pt_skip pt_dig bt ln cp) cs (bif (decide ((bt (Int.toNat cs)).toInt = 48) && decide (1 < (pt_skip pt_dig bt ln cp) - cs)) || decide (999 < (pt_num bt ln ((pt_skip pt_dig bt ln cp) - cs).toNat cs 0)) then 1 else 2) (pt_num bt ln ((pt_skip pt_dig bt ln cp) - cs).toNat cs 0) rr dr ja ea ma a1 a2 a3 a4 a5 a6 a7 a8 jb eb mb b1 b2 b3 b4 b5 b6 b7 b8 re fl g1 g2 g3 g4 g5 D))) rfl))
  have h1 : sX7_readNumber [.ref 3] (cW ki ln bt rl cp cs ct (0 : Int) rr dr ja ea ma a1 a2 a3 a4 a5 a6 a7 a8 jb eb mb b1 b2 b3 b4 b5 b6 b7 b8 re fl g1 g2 g3 g4 g5 D) = some r := h1
  rw [h1, h2]
abbrev rn_X7_tokenOfOneByte (N : Nat) (c : mm_C) (Q : mm_R → Prop) : Prop := rn (mm_gf gLX7) (mm_pf pLX7) (mm_mv vX7_tokenOfOneByte) (mm_mv zX7_tokenOfOneByte) (mm_kc kLX7) mm_gs0 mm_rf0 mm_ro (some .int) 2 (mm_ins iX7_tokenOfOneByte) N c Q
theorem c_oneByte (ha : -2147483648 ≤ a ∧ a ≤ 2147483647) : sX7_tokenOfOneByte [.ref 3, iv (a)] (cW ki ln bt rl cp cs ct cv rr dr ja ea ma a1 a2 a3 a4 a5 a6 a7 a8 jb eb mb b1 b2 b3 b4 b5 b6 b7 b8 re fl g1 g2 g3 g4 g5 D) = some (some (iv (bif i3 a 65 72 then 3 else bif decide (a = 47) then 4 else bif decide (a = 59) then 5 else 1)), (cW ki ln bt rl cp cs ct (bif i3 a 65 72 then a - 65 else cv) rr dr ja ea ma a1 a2 a3 a4 a5 a6 a7 a8 jb eb mb b1 b2 b3 b4 b5 b6 b7 b8 re fl g1 g2 g3 g4 g5 D)) := by
  have main : ∀ Q : mm_R → Prop, Q (some (iv (bif i3 a 65 72 then 3 else bif decide (a = 47) then 4 else bif decide (a = 59) then 5 else 1)), (cW ki ln bt rl cp cs ct (bif i3 a 65 72 then a - 65 else cv) rr dr ja ea ma a1 a2 a3 a4 a5 a6 a7 a8 jb eb mb b1 b2 b3 b4 b5 b6 b7 b8 re fl g1 g2 g3 g4 g5 D)) → rn_X7_tokenOfOneByte (1000) (0, [(0, .ref 3), (1, iv (a))], [], (cW ki ln bt rl cp cs ct cv rr dr ja ea ma a1 a2 a3 a4 a5 a6 a7 a8 jb eb mb b1 b2 b3 b4 b5 b6 b7 b8 re fl g1 g2 g3 g4 g5 D)) Q := by
    intro Q hQ
    refine r_il rfl rfl ?_
    refine r_bi rfl (by decide) ?_
    refine r_clt rfl rfl (by omega) (by omega) (fun g1 => ?_) (fun g1 => ?_)
    · have e : i3 a 65 72 = false := by simp [i3]; omega
      rw [e] at hQ
      refine r_il rfl rfl ?_
      refine r_bi rfl (by decide) ?_
      refine r_cne rfl rfl (by omega) (by omega) (fun g3 => ?_) (fun g3 => ?_)
      · rw [decide_eq_false g3] at hQ
        refine r_il rfl rfl ?_
        refine r_bi rfl (by decide) ?_
        refine r_cne rfl rfl (by omega) (by omega) (fun g4 => ?_) (fun g4 => ?_)
        · rw [decide_eq_false g4] at hQ
          refine r_ic rfl ?_
          exact r_ret rfl rfl hQ
        · rw [decide_eq_true g4] at hQ
          refine r_ic rfl ?_
          refine r_goto rfl rfl ?_
          exact r_ret rfl rfl hQ
      · rw [decide_eq_true g3] at hQ
        refine r_ic rfl ?_
        exact r_ret rfl rfl hQ
    · refine r_il rfl rfl ?_
      refine r_bi rfl (by decide) ?_
      refine r_cgt rfl rfl (by omega) (by omega) (fun g2 => ?_) (fun g2 => ?_)
      · have e : i3 a 65 72 = false := by simp [i3]; omega
        rw [e] at hQ
        refine r_il rfl rfl ?_
        refine r_bi rfl (by decide) ?_
        refine r_cne rfl rfl (by omega) (by omega) (fun g3 => ?_) (fun g3 => ?_)
        · rw [decide_eq_false g3] at hQ
          refine r_il rfl rfl ?_
          refine r_bi rfl (by decide) ?_
          refine r_cne rfl rfl (by omega) (by omega) (fun g4 => ?_) (fun g4 => ?_)
          · rw [decide_eq_false g4] at hQ
            refine r_ic rfl ?_
            exact r_ret rfl rfl hQ
          · rw [decide_eq_true g4] at hQ
            refine r_ic rfl ?_
            refine r_goto rfl rfl ?_
            exact r_ret rfl rfl hQ
        · rw [decide_eq_true g3] at hQ
          refine r_ic rfl ?_
          exact r_ret rfl rfl hQ
      · have e : i3 a 65 72 = true := by simp [i3]; omega
        rw [e] at hQ
        refine r_al rfl rfl ?_
        refine r_il rfl rfl ?_
        refine r_bi rfl (by decide) ?_
        refine r_sub rfl ?_
        refine r_pf rfl rfl cg_3 rfl cp_cv ?_
        refine r_ic rfl ?_
        exact r_ret rfl rfl hQ
  obtain ⟨r, h1, h2⟩ := rn_S (vs := [.ref 3, iv (a)]) (Q := fun r => r = (some (iv (bif i3 a 65 72 then 3 else bif decide (a = 47) then 4 else bif decide (a = 59) then 5 else 1)), (cW ki ln bt rl cp cs ct (bif i3 a 65 72 then a - 65 else cv) rr dr ja ea ma a1 a2 a3 a4 a5 a6 a7 a8 jb eb mb b1 b2 b3 b4 b5 b6 b7 b8 re fl g1 g2 g3 g4 g5 D))) rfl (rn_up (N := 1000) (M := mm_fuel) (by decide) (main (fun r => r = (some (iv (bif i3 a 65 72 then 3 else bif decide (a = 47) then 4 else bif decide (a = 59) then 5 else 1)), (cW ki ln bt rl cp cs ct (bif i3 a 65 72 then a - 65 else cv) rr dr ja ea ma a1 a2 a3 a4 a5 a6 a7 a8 jb eb mb b1 b2 b3 b4 b5 b6 b7 b8 re fl g1 g2 g3 g4 g5 D))) rfl))
  have h1 : sX7_tokenOfOneByte [.ref 3, iv (a)] (cW ki ln bt rl cp cs ct cv rr dr ja ea ma a1 a2 a3 a4 a5 a6 a7 a8 jb eb mb b1 b2 b3 b4 b5 b6 b7 b8 re fl g1 g2 g3 g4 g5 D) = some r := h1
  rw [h1, h2]
end C2
def cl_e (B : Nat → Int32) (n p : Int) : Int := bif decide (n ≤ ra_pl B n p) then ra_pl B n p else bif pt_low (ra_c B n p) then pt_skip pt_low B n (ra_pl B n p + 1) else bif pt_dig (ra_c B n p) then pt_skip pt_dig B n (ra_pl B n p + 1) else ra_pl B n p + 1
def cl_n (B : Nat → Int32) (n p : Int) : Int := pt_num B n (pt_skip pt_dig B n (ra_pl B n p + 1) - ra_pl B n p).toNat (ra_pl B n p) 0
def cl_v (B : Nat → Int32) (n p : Int) : Int := bif decide (n ≤ ra_pl B n p) then 0 else bif pt_low (ra_c B n p) then 0 else bif pt_dig (ra_c B n p) then cl_n B n p else bif i3 (ra_c B n p) 65 72 then ra_c B n p - 65 else 0
def cl_t (B : Nat → Int32) (n p : Int) : Int := bif decide (n ≤ ra_pl B n p) then 0 else bif pt_low (ra_c B n p) then cw_t B (ra_pl B n p) (pt_skip pt_low B n (ra_pl B n p + 1)) else bif pt_dig (ra_c B n p) then (bif (decide (ra_c B n p = 48) && decide (1 < pt_skip pt_dig B n (ra_pl B n p + 1) - ra_pl B n p)) || decide (999 < cl_n B n p) then 1 else 2) else bif i3 (ra_c B n p) 65 72 then 3 else bif decide (ra_c B n p = 47) then 4 else bif decide (ra_c B n p = 59) then 5 else 1
section C3
variable {ki ln cp cs ct cv ja ea ma jb eb mb re fl : Int} {rr dr : Nat} {rl : Value} {bt a1 a2 a3 a4 a5 a6 a7 a8 b1 b2 b3 b4 b5 b6 b7 b8 g1 g2 g3 g4 g5 : Nat → Int32} {D : List va_E} {Q : mm_R → Prop} {N : Nat} {a : Int}
theorem c_readToken (hD : D.length = 38) (hln : 0 ≤ ln ∧ ln ≤ 400) (h1 : 0 ≤ cp ∧ cp ≤ ln) : sX7_readToken [.ref 3] (cW ki ln bt rl cp cs ct cv rr dr ja ea ma a1 a2 a3 a4 a5 a6 a7 a8 jb eb mb b1 b2 b3 b4 b5 b6 b7 b8 re fl g1 g2 g3 g4 g5 D) = some (none, (cW ki ln bt rl (cl_e bt ln cp) (ra_pl bt ln cp) (cl_t bt ln cp) (cl_v bt ln cp) rr dr ja ea ma a1 a2 a3 a4 a5 a6 a7 a8 jb eb mb b1 b2 b3 b4 b5 b6 b7 b8 re fl g1 g2 g3 g4 g5 D)) := by
  have main : ∀ Q : mm_R → Prop, Q (none, (cW ki ln bt rl (cl_e bt ln cp) (ra_pl bt ln cp) (cl_t bt ln cp) (cl_v bt ln cp) rr dr ja ea ma a1 a2 a3 a4 a5 a6 a7 a8 jb eb mb b1 b2 b3 b4 b5 b6 b7 b8 re fl g1 g2 g3 g4 g5 D)) → rn_X7_readToken (2000 + 40 * 400 + 40) (0, [(0, .ref 3)], [], (cW ki ln bt rl cp cs ct cv rr dr ja ea ma a1 a2 a3 a4 a5 a6 a7 a8 jb eb mb b1 b2 b3 b4 b5 b6 b7 b8 re fl g1 g2 g3 g4 g5 D)) Q := by
    intro Q hQ
    have hs := pt_skip_r (f := pt_spc) (B := bt) (n := ln) rfl 400 (p := cp) h1.2 (by omega)
    refine cl_sp hln ?_ h1.1 h1.2 400 (by omega)
    have hp0 : ra_pl bt ln cp = pt_skip pt_spc bt ln cp := rfl
    have hc0 : ra_c bt ln cp = pt_at bt ln (pt_skip pt_spc bt ln cp) := rfl
    unfold cl_e cl_t cl_v cl_n at hQ
    rw [hc0, hp0] at hQ
    generalize pt_skip pt_spc bt ln cp = p0 at hQ hs ⊢
    refine r_al rfl rfl ?_
    refine r_al rfl rfl ?_
    refine r_gf rfl rfl cg_3 rfl ?_
    refine r_pf rfl rfl cg_3 rfl cp_cs ?_
    refine r_al rfl rfl ?_
    refine r_ic rfl ?_
    refine r_pf rfl rfl cg_3 rfl cp_cv ?_
    refine r_al rfl rfl ?_
    refine r_gf rfl rfl cg_3 rfl ?_
    refine r_al rfl rfl ?_
    refine r_gf rfl rfl cg_3 rfl ?_
    refine r_gf rfl rfl cg_1 rfl ?_
    refine r_clt rfl rfl (by omega) (by omega) (fun g1 => ?_) (fun g1 => ?_)
    · rw [decide_eq_false (show ¬ ln ≤ p0 by omega)] at hQ
      have ea := pt_at_lt (B := bt) g1
      have hcr := pt_at_r bt ln p0
      generalize hc : pt_at bt ln p0 = c0 at hQ ea hcr
      refine r_al rfl rfl ?_
      refine r_gf rfl rfl cg_3 rfl ?_
      refine r_gf rfl rfl cg_1 rfl ?_
      refine r_al rfl rfl ?_
      refine r_gf rfl rfl cg_3 rfl ?_
      refine r_ba rfl cg_2 (by omega) (by omega) (by decide) ?_
      rw [← ea]
      refine r_is (lv' := [(1, _), (0, _)]) rfl rfl rfl ?_
      refine r_al rfl rfl ?_
      refine r_dup rfl rfl ?_
      refine r_gf rfl rfl cg_3 rfl ?_
      refine r_ic rfl ?_
      refine r_add rfl ?_
      refine r_pf rfl rfl cg_3 rfl cp_cp ?_
      refine r_il rfl rfl ?_
      refine r_s1s rfl rfl rfl (c_isSmall hcr) ?_
      refine r_zeq rfl rfl (bi_r _) (fun g2 => ?_) (fun g2 => ?_)
      · rw [bi_0 g2] at hQ
        refine r_il rfl rfl ?_
        refine r_s1s rfl rfl rfl (c_isDig hcr) ?_
        refine r_zeq rfl rfl (bi_r _) (fun g3 => ?_) (fun g3 => ?_)
        · rw [bi_0 g3] at hQ
          refine r_al rfl rfl ?_
          refine r_al rfl rfl ?_
          refine r_il rfl rfl ?_
          refine r_v2s rfl rfl cg_3 rfl (c_oneByte hcr) ?_
          refine r_pf rfl rfl cg_3 rfl cp_ct ?_
          exact r_retv rfl rfl hQ
        · rw [bi_1 g3] at hQ
          refine r_al rfl rfl ?_
          refine r_v1n rfl rfl cg_3 rfl (c_readNumber hD hln (by omega) (by omega) (by rw [hc]; exact bi_1 g3)) ?_
          refine r_goto rfl rfl ?_
          rw [← ea]
          exact r_retv rfl rfl hQ
      · rw [bi_1 g2] at hQ
        refine r_al rfl rfl ?_
        refine r_v1n rfl rfl cg_3 rfl (c_readWord hD hln (by omega) (by omega)) ?_
        refine r_goto rfl rfl ?_
        exact r_retv rfl rfl hQ
    · rw [decide_eq_true g1] at hQ
      refine r_al rfl rfl ?_
      refine r_ic rfl ?_
      refine r_pf rfl rfl cg_3 rfl cp_ct ?_
      exact r_retv rfl rfl hQ
  obtain ⟨r, h1, h2⟩ := rn_S (vs := [.ref 3]) (Q := fun r => r = (none, (cW ki ln bt rl (cl_e bt ln cp) (ra_pl bt ln cp) (cl_t bt ln cp) (cl_v bt ln cp) rr dr ja ea ma a1 a2 a3 a4 a5 a6 a7 a8 jb eb mb b1 b2 b3 b4 b5 b6 b7 b8 re fl g1 g2 g3 g4 g5 D))) rfl (rn_up (N := 2000 + 40 * 400 + 40) (M := mm_fuel) (by decide) (main (fun r => r = (none, (cW ki ln bt rl (cl_e bt ln cp) (ra_pl bt ln cp) (cl_t bt ln cp) (cl_v bt ln cp) rr dr ja ea ma a1 a2 a3 a4 a5 a6 a7 a8 jb eb mb b1 b2 b3 b4 b5 b6 b7 b8 re fl g1 g2 g3 g4 g5 D))) rfl))
  have h1 : sX7_readToken [.ref 3] (cW ki ln bt rl cp cs ct cv rr dr ja ea ma a1 a2 a3 a4 a5 a6 a7 a8 jb eb mb b1 b2 b3 b4 b5 b6 b7 b8 re fl g1 g2 g3 g4 g5 D) = some r := h1
  rw [h1, h2]
theorem cl_t_r (B : Nat → Int32) (n p : Int) : 0 ≤ cl_t B n p ∧ cl_t B n p ≤ 11 := by
  unfold cl_t cw_t
  repeat (first | (refine bif_P (P := fun x : Int => 0 ≤ x ∧ x ≤ 11) ?_ ?_) | decide)
abbrev rn_X7_nextIs (N : Nat) (c : mm_C) (Q : mm_R → Prop) : Prop := rn (mm_gf gLX7) (mm_pf pLX7) (mm_mv vX7_nextIs) (mm_mv zX7_nextIs) (mm_kc kLX7) mm_gs0 mm_rf0 mm_ro (some .boolean) 2 (mm_ins iX7_nextIs) N c Q
theorem c_nextIs (hD : D.length = 38) (hln : 0 ≤ ln ∧ ln ≤ 400) (h1 : 0 ≤ cp ∧ cp ≤ ln) (ha : -2147483648 ≤ a ∧ a ≤ 2147483647) : sX7_nextIs [.ref 3, iv (a)] (cW ki ln bt rl cp cs ct cv rr dr ja ea ma a1 a2 a3 a4 a5 a6 a7 a8 jb eb mb b1 b2 b3 b4 b5 b6 b7 b8 re fl g1 g2 g3 g4 g5 D) = some (some (iv (bi (decide (cl_t bt ln cp = a)))), (cW ki ln bt rl (cl_e bt ln cp) (ra_pl bt ln cp) (cl_t bt ln cp) (cl_v bt ln cp) rr dr ja ea ma a1 a2 a3 a4 a5 a6 a7 a8 jb eb mb b1 b2 b3 b4 b5 b6 b7 b8 re fl g1 g2 g3 g4 g5 D)) := by
  have main : ∀ Q : mm_R → Prop, Q (some (iv (bi (decide (cl_t bt ln cp = a)))), (cW ki ln bt rl (cl_e bt ln cp) (ra_pl bt ln cp) (cl_t bt ln cp) (cl_v bt ln cp) rr dr ja ea ma a1 a2 a3 a4 a5 a6 a7 a8 jb eb mb b1 b2 b3 b4 b5 b6 b7 b8 re fl g1 g2 g3 g4 g5 D)) → rn_X7_nextIs (1000) (0, [(0, .ref 3), (1, iv (a))], [], (cW ki ln bt rl cp cs ct cv rr dr ja ea ma a1 a2 a3 a4 a5 a6 a7 a8 jb eb mb b1 b2 b3 b4 b5 b6 b7 b8 re fl g1 g2 g3 g4 g5 D)) Q := by
    intro Q hQ
    have ht := cl_t_r bt ln cp
    refine r_al rfl rfl ?_
    refine r_v1n rfl rfl cg_3 rfl (c_readToken hD hln h1) ?_
    refine r_al rfl rfl ?_
    refine r_gf rfl rfl cg_3 rfl ?_
    refine r_il rfl rfl ?_
    refine r_cne rfl rfl (by omega) (by omega) (fun g1 => ?_) (fun g1 => ?_)
    · rw [decide_eq_false g1] at hQ
      refine r_ic rfl ?_
      exact r_retb rfl rfl (by omega) hQ
    · rw [decide_eq_true g1] at hQ
      refine r_ic rfl ?_
      refine r_goto rfl rfl ?_
      exact r_retb rfl rfl (by omega) hQ
  obtain ⟨r, h1, h2⟩ := rn_S (vs := [.ref 3, iv (a)]) (Q := fun r => r = (some (iv (bi (decide (cl_t bt ln cp = a)))), (cW ki ln bt rl (cl_e bt ln cp) (ra_pl bt ln cp) (cl_t bt ln cp) (cl_v bt ln cp) rr dr ja ea ma a1 a2 a3 a4 a5 a6 a7 a8 jb eb mb b1 b2 b3 b4 b5 b6 b7 b8 re fl g1 g2 g3 g4 g5 D))) rfl (rn_up (N := 1000) (M := mm_fuel) (by decide) (main (fun r => r = (some (iv (bi (decide (cl_t bt ln cp = a)))), (cW ki ln bt rl (cl_e bt ln cp) (ra_pl bt ln cp) (cl_t bt ln cp) (cl_v bt ln cp) rr dr ja ea ma a1 a2 a3 a4 a5 a6 a7 a8 jb eb mb b1 b2 b3 b4 b5 b6 b7 b8 re fl g1 g2 g3 g4 g5 D))) rfl))
  have h1 : sX7_nextIs [.ref 3, iv (a)] (cW ki ln bt rl cp cs ct cv rr dr ja ea ma a1 a2 a3 a4 a5 a6 a7 a8 jb eb mb b1 b2 b3 b4 b5 b6 b7 b8 re fl g1 g2 g3 g4 g5 D) = some r := h1
  rw [h1, h2]
theorem cl_v_r {B : Nat → Int32} {n p : Int} (hn : 0 ≤ n ∧ n ≤ 400) (hp : 0 ≤ p ∧ p ≤ n) : 0 ≤ cl_v B n p ∧ cl_v B n p ≤ 9999 := by
  unfold cl_v
  have hs := pt_skip_r (f := pt_spc) (B := B) (n := n) rfl 400 (p := p) hp.2 (by omega)
  have hs : p ≤ ra_pl B n p ∧ ra_pl B n p ≤ n := hs
  by_cases g1 : n ≤ ra_pl B n p
  · rw [decide_eq_true g1]
    show 0 ≤ (0 : Int) ∧ (0 : Int) ≤ 9999
    decide
  · rw [decide_eq_false g1]
    cases pt_low (ra_c B n p) with
    | true => show 0 ≤ (0 : Int) ∧ (0 : Int) ≤ 9999; decide
    | false =>
      cases g3 : pt_dig (ra_c B n p) with
      | true =>
        have hd := pt_skip_r (f := pt_dig) (B := B) (n := n) rfl 400 (p := ra_pl B n p + 1) (by omega) (by omega)
        refine pt_num_r _ (fun q b1 b2 => ?_) (by omega) (by omega)
        by_cases hq : q = ra_pl B n p
        · rw [hq]; exact i3_t g3
        · exact i3_t (pt_skip_in (f := pt_dig) rfl 400 (p := ra_pl B n p + 1) (by omega) q (by omega) (by omega))
      | false =>
        cases g4 : i3 (ra_c B n p) 65 72 with
        | true =>
          have := i3_t g4
          show 0 ≤ ra_c B n p - 65 ∧ ra_c B n p - 65 ≤ 9999
          omega
        | false => show 0 ≤ (0 : Int) ∧ (0 : Int) ≤ 9999; decide
def cl_nb (B : Nat → Int32) (n p l m : Int) : Bool := decide (cl_t B n p = 2) && i3 (cl_v B n p) l m
abbrev rn_X7_nextIsNumber (N : Nat) (c : mm_C) (Q : mm_R → Prop) : Prop := rn (mm_gf gLX7) (mm_pf pLX7) (mm_mv vX7_nextIsNumber) (mm_mv zX7_nextIsNumber) (mm_kc kLX7) mm_gs0 mm_rf0 mm_ro (some .boolean) 3 (mm_ins iX7_nextIsNumber) N c Q
theorem c_nextIsNumber (hD : D.length = 38) (hln : 0 ≤ ln ∧ ln ≤ 400) (h1 : 0 ≤ cp ∧ cp ≤ ln) {l m : Int} (hl : -2147483648 ≤ l ∧ l ≤ 2147483647) (hm : -2147483648 ≤ m ∧ m ≤ 2147483647) : sX7_nextIsNumber [.ref 3, iv (l), iv (m)] (cW ki ln bt rl cp cs ct cv rr dr ja ea ma a1 a2 a3 a4 a5 a6 a7 a8 jb eb mb b1 b2 b3 b4 b5 b6 b7 b8 re fl g1 g2 g3 g4 g5 D) = some (some (iv (bi (cl_nb bt ln cp l m))), (cW ki ln bt rl (cl_e bt ln cp) (ra_pl bt ln cp) (cl_t bt ln cp) (cl_v bt ln cp) rr dr ja ea ma a1 a2 a3 a4 a5 a6 a7 a8 jb eb mb b1 b2 b3 b4 b5 b6 b7 b8 re fl g1 g2 g3 g4 g5 D)) := by
  have main : ∀ Q : mm_R → Prop, Q (some (iv (bi (cl_nb bt ln cp l m))), (cW ki ln bt rl (cl_e bt ln cp) (ra_pl bt ln cp) (cl_t bt ln cp) (cl_v bt ln cp) rr dr ja ea ma a1 a2 a3 a4 a5 a6 a7 a8 jb eb mb b1 b2 b3 b4 b5 b6 b7 b8 re fl g1 g2 g3 g4 g5 D)) → rn_X7_nextIsNumber (1000) (0, [(0, .ref 3), (1, iv (l)), (2, iv (m))], [], (cW ki ln bt rl cp cs ct cv rr dr ja ea ma a1 a2 a3 a4 a5 a6 a7 a8 jb eb mb b1 b2 b3 b4 b5 b6 b7 b8 re fl g1 g2 g3 g4 g5 D)) Q := by
    intro Q hQ
    have ht := cl_t_r bt ln cp
    have hv := cl_v_r (B := bt) hln h1
    refine r_al rfl rfl ?_
    refine r_v1n rfl rfl cg_3 rfl (c_readToken hD hln h1) ?_
    refine r_al rfl rfl ?_
    refine r_gf rfl rfl cg_3 rfl ?_
    refine r_ic rfl ?_
    refine r_cne rfl rfl (by omega) (by omega) (fun g1 => ?_) (fun g1 => ?_)
    · rw [show cl_nb bt ln cp l m = false by unfold cl_nb i3; rw [decide_eq_false g1]; rfl] at hQ
      refine r_ic rfl ?_
      exact r_retb rfl rfl (by omega) hQ
    · refine r_al rfl rfl ?_
      refine r_gf rfl rfl cg_3 rfl ?_
      refine r_il rfl rfl ?_
      refine r_clt rfl rfl (by omega) (by omega) (fun g2 => ?_) (fun g2 => ?_)
      · rw [show cl_nb bt ln cp l m = false by unfold cl_nb i3; rw [decide_eq_true g1, decide_eq_false (Int.not_le.mpr g2)]; rfl] at hQ
        refine r_ic rfl ?_
        exact r_retb rfl rfl (by omega) hQ
      · refine r_al rfl rfl ?_
        refine r_gf rfl rfl cg_3 rfl ?_
        refine r_il rfl rfl ?_
        refine r_cgt rfl rfl (by omega) (by omega) (fun g3 => ?_) (fun g3 => ?_)
        · rw [show cl_nb bt ln cp l m = false by unfold cl_nb i3; rw [decide_eq_true g1, decide_eq_true g2, decide_eq_false (Int.not_le.mpr g3)]; rfl] at hQ
          refine r_ic rfl ?_
          exact r_retb rfl rfl (by omega) hQ
        · rw [show cl_nb bt ln cp l m = true by unfold cl_nb i3; rw [decide_eq_true g1, decide_eq_true g2, decide_eq_true g3]; rfl] at hQ
          refine r_ic rfl ?_
          refine r_goto rfl rfl ?_
          exact r_retb rfl rfl (by omega) hQ
  obtain ⟨r, h1, h2⟩ := rn_S (vs := [.ref 3, iv (l), iv (m)]) (Q := fun r => r = (some (iv (bi (cl_nb bt ln cp l m))), (cW ki ln bt rl (cl_e bt ln cp) (ra_pl bt ln cp) (cl_t bt ln cp) (cl_v bt ln cp) rr dr ja ea ma a1 a2 a3 a4 a5 a6 a7 a8 jb eb mb b1 b2 b3 b4 b5 b6 b7 b8 re fl g1 g2 g3 g4 g5 D))) rfl (rn_up (N := 1000) (M := mm_fuel) (by decide) (main (fun r => r = (some (iv (bi (cl_nb bt ln cp l m))), (cW ki ln bt rl (cl_e bt ln cp) (ra_pl bt ln cp) (cl_t bt ln cp) (cl_v bt ln cp) rr dr ja ea ma a1 a2 a3 a4 a5 a6 a7 a8 jb eb mb b1 b2 b3 b4 b5 b6 b7 b8 re fl g1 g2 g3 g4 g5 D))) rfl))
  have h1 : sX7_nextIsNumber [.ref 3, iv (l), iv (m)] (cW ki ln bt rl cp cs ct cv rr dr ja ea ma a1 a2 a3 a4 a5 a6 a7 a8 jb eb mb b1 b2 b3 b4 b5 b6 b7 b8 re fl g1 g2 g3 g4 g5 D) = some r := h1
  rw [h1, h2]
end C3
