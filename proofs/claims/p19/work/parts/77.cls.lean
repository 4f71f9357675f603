/-! ===== the class reads papers: the whole call ===== -/
section C7
variable {ki ln cp cs ct cv ja ea ma jb eb mb re fl : Int} {rr dr : Nat} {rl : Value} {bt a1 a2 a3 a4 a5 a6 a7 a8 b1 b2 b3 b4 b5 b6 b7 b8 g1 g2 g3 g4 g5 : Nat → Int32} {D : List va_E} {tx dd sr : Nat → Int32} {va : Int} {Q : mm_R → Prop} {N : Nat}
def zz : Nat → Int32 := fun _ => Int32.ofInt 0
abbrev rn_J7_fill_53178 (N : Nat) (c : mm_C) (Q : mm_R → Prop) : Prop := rn (mm_gf gLJ7) (mm_pf pLJ7) (mm_mv vJ7_fill_53178) (mm_mv zJ7_fill_53178) (mm_kc kLJ7) mm_gs0 mm_rf0 mm_ro none 4 (mm_ins iJ7_fill_53178) N c Q
theorem fl_24 (k : rn_J7_fill_53178 N (20, [(2, iv (((10 : Nat) : Int))), (3, iv (((10 : Nat) : Int))), (0, .ref 24), (1, iv (0))], [], (cW ki ln bt rl cp cs ct cv rr dr ja ea ma a1 a2 a3 a4 a5 a6 a7 a8 jb eb mb b1 b2 b3 b4 b5 b6 b7 b8 re fl (cpy 10 g1 zz) g2 g3 g4 g5 D)) Q) : ∀ (m j : Nat), j + m = 10 → rn_J7_fill_53178 (N + 20 * m + 20) (5, [(2, iv ((j : Int))), (3, iv (((10 : Nat) : Int))), (0, .ref 24), (1, iv (0))], [], (cW ki ln bt rl cp cs ct cv rr dr ja ea ma a1 a2 a3 a4 a5 a6 a7 a8 jb eb mb b1 b2 b3 b4 b5 b6 b7 b8 re fl (cpy j g1 zz) g2 g3 g4 g5 D)) Q := by
  intro m
  induction m with
  | zero =>
    intro j hj
    have hj : j = 10 := by omega
    subst hj
    refine rn_up (N := N + 20) (by omega) ?_
    refine r_il rfl rfl ?_
    refine r_il rfl rfl ?_
    refine r_cge rfl rfl (by omega) (by omega) (fun g1 => ?_) (fun g1 => ?_)
    · exact rn_up (by omega) k
    · omega
  | succ m ih =>
    intro j hj
    refine rn_up (N := N + 20 * m + 20 + 20) (by omega) ?_
    refine r_il rfl rfl ?_
    refine r_il rfl rfl ?_
    refine r_cge rfl rfl (by omega) (by omega) (fun g1 => ?_) (fun g1 => ?_)
    · omega
    · refine r_al rfl rfl ?_
      refine r_il rfl rfl ?_
      refine r_il rfl rfl ?_
      refine r_ias rfl cg_24 (by omega) (by omega) (by decide) cs_24 ?_
      refine r_inc (lv' := [(2, _), (3, _), (0, _), (1, _)]) rfl rfl rfl rfl ?_
      refine r_goto rfl rfl ?_
      rw [show Int.toNat (j : Int) = j from rfl, cpy_s (show Int32.ofInt 0 = zz j from rfl)]
      exact rn_up (by omega) (ih (j + 1) (by omega))
theorem c_fill24  : sJ7_fill_53178 [.ref 24, iv (0)] (cW ki ln bt rl cp cs ct cv rr dr ja ea ma a1 a2 a3 a4 a5 a6 a7 a8 jb eb mb b1 b2 b3 b4 b5 b6 b7 b8 re fl g1 g2 g3 g4 g5 D) = some (none, (cW ki ln bt rl cp cs ct cv rr dr ja ea ma a1 a2 a3 a4 a5 a6 a7 a8 jb eb mb b1 b2 b3 b4 b5 b6 b7 b8 re fl (cpy 10 g1 zz) g2 g3 g4 g5 D)) := by
  have main : ∀ Q : mm_R → Prop, Q (none, (cW ki ln bt rl cp cs ct cv rr dr ja ea ma a1 a2 a3 a4 a5 a6 a7 a8 jb eb mb b1 b2 b3 b4 b5 b6 b7 b8 re fl (cpy 10 g1 zz) g2 g3 g4 g5 D)) → rn_J7_fill_53178 (3000) (0, [(0, .ref 24), (1, iv (0))], [], (cW ki ln bt rl cp cs ct cv rr dr ja ea ma a1 a2 a3 a4 a5 a6 a7 a8 jb eb mb b1 b2 b3 b4 b5 b6 b7 b8 re fl g1 g2 g3 g4 g5 D)) Q := by
    intro Q hQ
    refine r_ic rfl ?_
    refine r_is (lv' := [(2, _), (0, _), (1, _)]) rfl rfl rfl ?_
    refine r_al rfl rfl ?_
    refine r_al1 rfl cg_24 rfl ?_
    refine r_is (lv' := [(3, _), (2, _), (0, _), (1, _)]) rfl rfl rfl ?_
    rw [← cpy_0 g1 zz]
    refine rn_up (N := 10 + 20 * 10 + 20) (by decide) (fl_24 ?_ 10 0 rfl)
    exact r_retv rfl rfl hQ
  obtain ⟨r, h1, h2⟩ := rn_S (vs := [.ref 24, iv (0)]) (Q := fun r => r = (none, (cW ki ln bt rl cp cs ct cv rr dr ja ea ma a1 a2 a3 a4 a5 a6 a7 a8 jb eb mb b1 b2 b3 b4 b5 b6 b7 b8 re fl (cpy 10 g1 zz) g2 g3 g4 g5 D))) rfl (rn_up (N := 3000) (M := mm_fuel) (by decide) (main (fun r => r = (none, (cW ki ln bt rl cp cs ct cv rr dr ja ea ma a1 a2 a3 a4 a5 a6 a7 a8 jb eb mb b1 b2 b3 b4 b5 b6 b7 b8 re fl (cpy 10 g1 zz) g2 g3 g4 g5 D))) rfl))
  have h1 : sJ7_fill_53178 [.ref 24, iv (0)] (cW ki ln bt rl cp cs ct cv rr dr ja ea ma a1 a2 a3 a4 a5 a6 a7 a8 jb eb mb b1 b2 b3 b4 b5 b6 b7 b8 re fl g1 g2 g3 g4 g5 D) = some r := h1
  rw [h1, h2]
theorem fl_25 (k : rn_J7_fill_53178 N (20, [(2, iv (((16 : Nat) : Int))), (3, iv (((16 : Nat) : Int))), (0, .ref 25), (1, iv (0))], [], (cW ki ln bt rl cp cs ct cv rr dr ja ea ma a1 a2 a3 a4 a5 a6 a7 a8 jb eb mb b1 b2 b3 b4 b5 b6 b7 b8 re fl g1 (cpy 16 g2 zz) g3 g4 g5 D)) Q) : ∀ (m j : Nat), j + m = 16 → rn_J7_fill_53178 (N + 20 * m + 20) (5, [(2, iv ((j : Int))), (3, iv (((16 : Nat) : Int))), (0, .ref 25), (1, iv (0))], [], (cW ki ln bt rl cp cs ct cv rr dr ja ea ma a1 a2 a3 a4 a5 a6 a7 a8 jb eb mb b1 b2 b3 b4 b5 b6 b7 b8 re fl g1 (cpy j g2 zz) g3 g4 g5 D)) Q := by
  intro m
  induction m with
  | zero =>
    intro j hj
    have hj : j = 16 := by omega
    subst hj
    refine rn_up (N := N + 20) (by omega) ?_
    refine r_il rfl rfl ?_
    refine r_il rfl rfl ?_
    refine r_cge rfl rfl (by omega) (by omega) (fun g1 => ?_) (fun g1 => ?_)
    · exact rn_up (by omega) k
    · omega
  | succ m ih =>
    intro j hj
    refine rn_up (N := N + 20 * m + 20 + 20) (by omega) ?_
    refine r_il rfl rfl ?_
    refine r_il rfl rfl ?_
    refine r_cge rfl rfl (by omega) (by omega) (fun g1 => ?_) (fun g1 => ?_)
    · omega
    · refine r_al rfl rfl ?_
      refine r_il rfl rfl ?_
      refine r_il rfl rfl ?_
      refine r_ias rfl cg_25 (by omega) (by omega) (by decide) cs_25 ?_
      refine r_inc (lv' := [(2, _), (3, _), (0, _), (1, _)]) rfl rfl rfl rfl ?_
      refine r_goto rfl rfl ?_
      rw [show Int.toNat (j : Int) = j from rfl, cpy_s (show Int32.ofInt 0 = zz j from rfl)]
      exact rn_up (by omega) (ih (j + 1) (by omega))
theorem c_fill25  : sJ7_fill_53178 [.ref 25, iv (0)] (cW ki ln bt rl cp cs ct cv rr dr ja ea ma a1 a2 a3 a4 a5 a6 a7 a8 jb eb mb b1 b2 b3 b4 b5 b6 b7 b8 re fl g1 g2 g3 g4 g5 D) = some (none, (cW ki ln bt rl cp cs ct cv rr dr ja ea ma a1 a2 a3 a4 a5 a6 a7 a8 jb eb mb b1 b2 b3 b4 b5 b6 b7 b8 re fl g1 (cpy 16 g2 zz) g3 g4 g5 D)) := by
  have main : ∀ Q : mm_R → Prop, Q (none, (cW ki ln bt rl cp cs ct cv rr dr ja ea ma a1 a2 a3 a4 a5 a6 a7 a8 jb eb mb b1 b2 b3 b4 b5 b6 b7 b8 re fl g1 (cpy 16 g2 zz) g3 g4 g5 D)) → rn_J7_fill_53178 (3000) (0, [(0, .ref 25), (1, iv (0))], [], (cW ki ln bt rl cp cs ct cv rr dr ja ea ma a1 a2 a3 a4 a5 a6 a7 a8 jb eb mb b1 b2 b3 b4 b5 b6 b7 b8 re fl g1 g2 g3 g4 g5 D)) Q := by
    intro Q hQ
    refine r_ic rfl ?_
    refine r_is (lv' := [(2, _), (0, _), (1, _)]) rfl rfl rfl ?_
    refine r_al rfl rfl ?_
    refine r_al1 rfl cg_25 rfl ?_
    refine r_is (lv' := [(3, _), (2, _), (0, _), (1, _)]) rfl rfl rfl ?_
    rw [← cpy_0 g2 zz]
    refine rn_up (N := 10 + 20 * 16 + 20) (by decide) (fl_25 ?_ 16 0 rfl)
    exact r_retv rfl rfl hQ
  obtain ⟨r, h1, h2⟩ := rn_S (vs := [.ref 25, iv (0)]) (Q := fun r => r = (none, (cW ki ln bt rl cp cs ct cv rr dr ja ea ma a1 a2 a3 a4 a5 a6 a7 a8 jb eb mb b1 b2 b3 b4 b5 b6 b7 b8 re fl g1 (cpy 16 g2 zz) g3 g4 g5 D))) rfl (rn_up (N := 3000) (M := mm_fuel) (by decide) (main (fun r => r = (none, (cW ki ln bt rl cp cs ct cv rr dr ja ea ma a1 a2 a3 a4 a5 a6 a7 a8 jb eb mb b1 b2 b3 b4 b5 b6 b7 b8 re fl g1 (cpy 16 g2 zz) g3 g4 g5 D))) rfl))
  have h1 : sJ7_fill_53178 [.ref 25, iv (0)] (cW ki ln bt rl cp cs ct cv rr dr ja ea ma a1 a2 a3 a4 a5 a6 a7 a8 jb eb mb b1 b2 b3 b4 b5 b6 b7 b8 re fl g1 g2 g3 g4 g5 D) = some r := h1
  rw [h1, h2]
theorem fl_27 (k : rn_J7_fill_53178 N (20, [(2, iv (((64 : Nat) : Int))), (3, iv (((64 : Nat) : Int))), (0, .ref 27), (1, iv (0))], [], (cW ki ln bt rl cp cs ct cv rr dr ja ea ma a1 a2 a3 a4 a5 a6 a7 a8 jb eb mb b1 b2 b3 b4 b5 b6 b7 b8 re fl g1 g2 g3 (cpy 64 g4 zz) g5 D)) Q) : ∀ (m j : Nat), j + m = 64 → rn_J7_fill_53178 (N + 20 * m + 20) (5, [(2, iv ((j : Int))), (3, iv (((64 : Nat) : Int))), (0, .ref 27), (1, iv (0))], [], (cW ki ln bt rl cp cs ct cv rr dr ja ea ma a1 a2 a3 a4 a5 a6 a7 a8 jb eb mb b1 b2 b3 b4 b5 b6 b7 b8 re fl g1 g2 g3 (cpy j g4 zz) g5 D)) Q := by
  intro m
  induction m with
  | zero =>
    intro j hj
    have hj : j = 64 := by omega
    subst hj
    refine rn_up (N := N + 20) (by omega) ?_
    refine r_il rfl rfl ?_
    refine r_il rfl rfl ?_
    refine r_cge rfl rfl (by omega) (by omega) (fun g1 => ?_) (fun g1 => ?_)
    · exact rn_up (by omega) k
    · omega
  | succ m ih =>
    intro j hj
    refine rn_up (N := N + 20 * m + 20 + 20) (by omega) ?_
    refine r_il rfl rfl ?_
    refine r_il rfl rfl ?_
    refine r_cge rfl rfl (by omega) (by omega) (fun g1 => ?_) (fun g1 => ?_)
    · omega
    · refine r_al rfl rfl ?_
      refine r_il rfl rfl ?_
      refine r_il rfl rfl ?_
      refine r_ias rfl cg_27 (by omega) (by omega) (by decide) cs_27 ?_
      refine r_inc (lv' := [(2, _), (3, _), (0, _), (1, _)]) rfl rfl rfl rfl ?_
      refine r_goto rfl rfl ?_
      rw [show Int.toNat (j : Int) = j from rfl, cpy_s (show Int32.ofInt 0 = zz j from rfl)]
      exact rn_up (by omega) (ih (j + 1) (by omega))
theorem c_fill27  : sJ7_fill_53178 [.ref 27, iv (0)] (cW ki ln bt rl cp cs ct cv rr dr ja ea ma a1 a2 a3 a4 a5 a6 a7 a8 jb eb mb b1 b2 b3 b4 b5 b6 b7 b8 re fl g1 g2 g3 g4 g5 D) = some (none, (cW ki ln bt rl cp cs ct cv rr dr ja ea ma a1 a2 a3 a4 a5 a6 a7 a8 jb eb mb b1 b2 b3 b4 b5 b6 b7 b8 re fl g1 g2 g3 (cpy 64 g4 zz) g5 D)) := by
  have main : ∀ Q : mm_R → Prop, Q (none, (cW ki ln bt rl cp cs ct cv rr dr ja ea ma a1 a2 a3 a4 a5 a6 a7 a8 jb eb mb b1 b2 b3 b4 b5 b6 b7 b8 re fl g1 g2 g3 (cpy 64 g4 zz) g5 D)) → rn_J7_fill_53178 (3000) (0, [(0, .ref 27), (1, iv (0))], [], (cW ki ln bt rl cp cs ct cv rr dr ja ea ma a1 a2 a3 a4 a5 a6 a7 a8 jb eb mb b1 b2 b3 b4 b5 b6 b7 b8 re fl g1 g2 g3 g4 g5 D)) Q := by
    intro Q hQ
    refine r_ic rfl ?_
    refine r_is (lv' := [(2, _), (0, _), (1, _)]) rfl rfl rfl ?_
    refine r_al rfl rfl ?_
    refine r_al1 rfl cg_27 rfl ?_
    refine r_is (lv' := [(3, _), (2, _), (0, _), (1, _)]) rfl rfl rfl ?_
    rw [← cpy_0 g4 zz]
    refine rn_up (N := 10 + 20 * 64 + 20) (by decide) (fl_27 ?_ 64 0 rfl)
    exact r_retv rfl rfl hQ
  obtain ⟨r, h1, h2⟩ := rn_S (vs := [.ref 27, iv (0)]) (Q := fun r => r = (none, (cW ki ln bt rl cp cs ct cv rr dr ja ea ma a1 a2 a3 a4 a5 a6 a7 a8 jb eb mb b1 b2 b3 b4 b5 b6 b7 b8 re fl g1 g2 g3 (cpy 64 g4 zz) g5 D))) rfl (rn_up (N := 3000) (M := mm_fuel) (by decide) (main (fun r => r = (none, (cW ki ln bt rl cp cs ct cv rr dr ja ea ma a1 a2 a3 a4 a5 a6 a7 a8 jb eb mb b1 b2 b3 b4 b5 b6 b7 b8 re fl g1 g2 g3 (cpy 64 g4 zz) g5 D))) rfl))
  have h1 : sJ7_fill_53178 [.ref 27, iv (0)] (cW ki ln bt rl cp cs ct cv rr dr ja ea ma a1 a2 a3 a4 a5 a6 a7 a8 jb eb mb b1 b2 b3 b4 b5 b6 b7 b8 re fl g1 g2 g3 g4 g5 D) = some r := h1
  rw [h1, h2]
theorem c_acp0 : mm_acp [.ref 22, iv 0, .ref 26, iv 0, iv 16] (cW ki ln bt rl cp cs ct cv rr dr ja ea ma a1 a2 a3 a4 a5 a6 a7 a8 jb eb mb b1 b2 b3 b4 b5 b6 b7 b8 re fl g1 g2 g3 g4 g5 D) = some (none, (cW ki ln bt rl cp cs ct cv rr dr ja ea ma a1 a2 a3 a4 a5 a6 a7 a8 jb eb mb b1 b2 b3 b4 b5 b6 b7 b8 re fl g1 g2 (va_cpy b8 g3 0 0 16) g4 g5 D)) := rfl
abbrev rn_X5_startOn (N : Nat) (c : mm_C) (Q : mm_R → Prop) : Prop := rn (mm_gf gLX5) (mm_pf pLX5) (mm_mv vX5_startOn) (mm_mv zX5_startOn) (mm_kc kLX5) mm_gs0 mm_rf0 mm_ro none 2 (mm_ins iX5_startOn) N c Q
theorem c_startOn0  : sX5_startOn [.ref 23, .ref 14] (cW ki ln bt rl cp cs ct cv rr dr ja ea ma a1 a2 a3 a4 a5 a6 a7 a8 jb eb mb b1 b2 b3 b4 b5 b6 b7 b8 re fl g1 g2 g3 g4 g5 D) = some (none, (cW ki ln bt rl cp cs ct cv rr dr ja ea ma a1 a2 a3 a4 a5 a6 a7 a8 jb eb mb b1 b2 b3 b4 b5 b6 b7 b8 (0 : Int) (0 : Int) (cpy 10 g1 zz) (cpy 16 g2 zz) (va_cpy b8 g3 0 0 16) (cpy 64 g4 zz) g5 D)) := by
  have main : ∀ Q : mm_R → Prop, Q (none, (cW ki ln bt rl cp cs ct cv rr dr ja ea ma a1 a2 a3 a4 a5 a6 a7 a8 jb eb mb b1 b2 b3 b4 b5 b6 b7 b8 (0 : Int) (0 : Int) (cpy 10 g1 zz) (cpy 16 g2 zz) (va_cpy b8 g3 0 0 16) (cpy 64 g4 zz) g5 D)) → rn_X5_startOn (1000) (0, [(0, .ref 23), (1, .ref 14)], [], (cW ki ln bt rl cp cs ct cv rr dr ja ea ma a1 a2 a3 a4 a5 a6 a7 a8 jb eb mb b1 b2 b3 b4 b5 b6 b7 b8 re fl g1 g2 g3 g4 g5 D)) Q := by
    intro Q hQ
    refine r_al rfl rfl ?_
    refine r_gf rfl rfl cg_23 rfl ?_
    refine r_ic rfl ?_
    refine r_s2n rfl rfl rfl c_fill24 ?_
    refine r_al rfl rfl ?_
    refine r_gf rfl rfl cg_23 rfl ?_
    refine r_ic rfl ?_
    refine r_s2n rfl rfl rfl c_fill25 ?_
    refine r_al rfl rfl ?_
    refine r_gf rfl rfl cg_23 rfl ?_
    refine r_ic rfl ?_
    refine r_s2n rfl rfl rfl c_fill27 ?_
    refine r_al rfl rfl ?_
    refine r_gf rfl rfl cg_14 rfl ?_
    refine r_ic rfl ?_
    refine r_al rfl rfl ?_
    refine r_gf rfl rfl cg_23 rfl ?_
    refine r_ic rfl ?_
    refine r_bi rfl (by decide) ?_
    refine r_s5n rfl rfl rfl c_acp0 ?_
    refine r_al rfl rfl ?_
    refine r_ic rfl ?_
    refine r_pf rfl rfl cg_23 rfl cp_re ?_
    refine r_al rfl rfl ?_
    refine r_ic rfl ?_
    refine r_pf rfl rfl cg_23 rfl cp_fl ?_
    exact r_retv rfl rfl hQ
  obtain ⟨r, h1, h2⟩ := rn_S (vs := [.ref 23, .ref 14]) (Q := fun r => r = (none, (cW ki ln bt rl cp cs ct cv rr dr ja ea ma a1 a2 a3 a4 a5 a6 a7 a8 jb eb mb b1 b2 b3 b4 b5 b6 b7 b8 (0 : Int) (0 : Int) (cpy 10 g1 zz) (cpy 16 g2 zz) (va_cpy b8 g3 0 0 16) (cpy 64 g4 zz) g5 D))) rfl (rn_up (N := 1000) (M := mm_fuel) (by decide) (main (fun r => r = (none, (cW ki ln bt rl cp cs ct cv rr dr ja ea ma a1 a2 a3 a4 a5 a6 a7 a8 jb eb mb b1 b2 b3 b4 b5 b6 b7 b8 (0 : Int) (0 : Int) (cpy 10 g1 zz) (cpy 16 g2 zz) (va_cpy b8 g3 0 0 16) (cpy 64 g4 zz) g5 D))) rfl))
  have h1 : sX5_startOn [.ref 23, .ref 14] (cW ki ln bt rl cp cs ct cv rr dr ja ea ma a1 a2 a3 a4 a5 a6 a7 a8 jb eb mb b1 b2 b3 b4 b5 b6 b7 b8 re fl g1 g2 g3 g4 g5 D) = some r := h1
  rw [h1, h2]
abbrev rn_X0_takeDraft (N : Nat) (c : mm_C) (Q : mm_R → Prop) : Prop := rn (mm_gf gLX0) (mm_pf pLX0) (mm_mv vX0_takeDraft) (mm_mv zX0_takeDraft) (mm_kc kLX0) mm_gs0 mm_rf0 mm_ro none 2 (mm_ins iX0_takeDraft) N c Q
theorem c_takeDraft0  : sX0_takeDraft [.ref 4] (cW ki ln bt rl cp cs ct cv 5 14 ja ea ma a1 a2 a3 a4 a5 a6 a7 a8 jb eb mb b1 b2 b3 b4 b5 b6 b7 b8 re fl g1 g2 g3 g4 g5 D) = some (none, (cW ki ln bt rl cp cs ct cv 14 5 ja ea ma a1 a2 a3 a4 a5 a6 a7 a8 jb eb mb b1 b2 b3 b4 b5 b6 b7 b8 (0 : Int) (0 : Int) (cpy 10 g1 zz) (cpy 16 g2 zz) (va_cpy b8 g3 0 0 16) (cpy 64 g4 zz) g5 D)) := by
  have main : ∀ Q : mm_R → Prop, Q (none, (cW ki ln bt rl cp cs ct cv 14 5 ja ea ma a1 a2 a3 a4 a5 a6 a7 a8 jb eb mb b1 b2 b3 b4 b5 b6 b7 b8 (0 : Int) (0 : Int) (cpy 10 g1 zz) (cpy 16 g2 zz) (va_cpy b8 g3 0 0 16) (cpy 64 g4 zz) g5 D)) → rn_X0_takeDraft (1000) (0, [(0, .ref 4)], [], (cW ki ln bt rl cp cs ct cv 5 14 ja ea ma a1 a2 a3 a4 a5 a6 a7 a8 jb eb mb b1 b2 b3 b4 b5 b6 b7 b8 re fl g1 g2 g3 g4 g5 D)) Q := by
    intro Q hQ
    refine r_al rfl rfl ?_
    refine r_gf rfl rfl cg_4 rfl ?_
    refine r_as (lv' := [(1, _), (0, _)]) rfl rfl rfl ?_
    refine r_al rfl rfl ?_
    refine r_al rfl rfl ?_
    refine r_gf rfl rfl cg_4 rfl ?_
    refine r_pfr rfl rfl cg_4 rfl rfl rfl cp_rr ?_
    refine r_al rfl rfl ?_
    refine r_al rfl rfl ?_
    refine r_pfr rfl rfl cg_4 rfl rfl rfl cp_dr ?_
    refine r_al rfl rfl ?_
    refine r_gf rfl rfl cg_4 rfl ?_
    refine r_al rfl rfl ?_
    refine r_gf rfl rfl cg_4 rfl ?_
    refine r_v2n rfl rfl cg_23 rfl c_startOn0 ?_
    exact r_retv rfl rfl hQ
  obtain ⟨r, h1, h2⟩ := rn_S (vs := [.ref 4]) (Q := fun r => r = (none, (cW ki ln bt rl cp cs ct cv 14 5 ja ea ma a1 a2 a3 a4 a5 a6 a7 a8 jb eb mb b1 b2 b3 b4 b5 b6 b7 b8 (0 : Int) (0 : Int) (cpy 10 g1 zz) (cpy 16 g2 zz) (va_cpy b8 g3 0 0 16) (cpy 64 g4 zz) g5 D))) rfl (rn_up (N := 1000) (M := mm_fuel) (by decide) (main (fun r => r = (none, (cW ki ln bt rl cp cs ct cv 14 5 ja ea ma a1 a2 a3 a4 a5 a6 a7 a8 jb eb mb b1 b2 b3 b4 b5 b6 b7 b8 (0 : Int) (0 : Int) (cpy 10 g1 zz) (cpy 16 g2 zz) (va_cpy b8 g3 0 0 16) (cpy 64 g4 zz) g5 D))) rfl))
  have h1 : sX0_takeDraft [.ref 4] (cW ki ln bt rl cp cs ct cv 5 14 ja ea ma a1 a2 a3 a4 a5 a6 a7 a8 jb eb mb b1 b2 b3 b4 b5 b6 b7 b8 re fl g1 g2 g3 g4 g5 D) = some r := h1
  rw [h1, h2]
abbrev rn_X7_tokenPlace (N : Nat) (c : mm_C) (Q : mm_R → Prop) : Prop := rn (mm_gf gLX7) (mm_pf pLX7) (mm_mv vX7_tokenPlace) (mm_mv zX7_tokenPlace) (mm_kc kLX7) mm_gs0 mm_rf0 mm_ro (some .int) 1 (mm_ins iX7_tokenPlace) N c Q
theorem c_tokenPlace  : sX7_tokenPlace [.ref 3] (cW ki ln bt rl cp cs ct cv rr dr ja ea ma a1 a2 a3 a4 a5 a6 a7 a8 jb eb mb b1 b2 b3 b4 b5 b6 b7 b8 re fl g1 g2 g3 g4 g5 D) = some (some (iv cs), (cW ki ln bt rl cp cs ct cv rr dr ja ea ma a1 a2 a3 a4 a5 a6 a7 a8 jb eb mb b1 b2 b3 b4 b5 b6 b7 b8 re fl g1 g2 g3 g4 g5 D)) := by
  have main : ∀ Q : mm_R → Prop, Q (some (iv cs), (cW ki ln bt rl cp cs ct cv rr dr ja ea ma a1 a2 a3 a4 a5 a6 a7 a8 jb eb mb b1 b2 b3 b4 b5 b6 b7 b8 re fl g1 g2 g3 g4 g5 D)) → rn_X7_tokenPlace (1000) (0, [(0, .ref 3)], [], (cW ki ln bt rl cp cs ct cv rr dr ja ea ma a1 a2 a3 a4 a5 a6 a7 a8 jb eb mb b1 b2 b3 b4 b5 b6 b7 b8 re fl g1 g2 g3 g4 g5 D)) Q := by
    intro Q hQ
    refine r_al rfl rfl ?_
    refine r_gf rfl rfl cg_3 rfl ?_
    exact r_ret rfl rfl hQ
  obtain ⟨r, h1, h2⟩ := rn_S (vs := [.ref 3]) (Q := fun r => r = (some (iv cs), (cW ki ln bt rl cp cs ct cv rr dr ja ea ma a1 a2 a3 a4 a5 a6 a7 a8 jb eb mb b1 b2 b3 b4 b5 b6 b7 b8 re fl g1 g2 g3 g4 g5 D))) rfl (rn_up (N := 1000) (M := mm_fuel) (by decide) (main (fun r => r = (some (iv cs), (cW ki ln bt rl cp cs ct cv rr dr ja ea ma a1 a2 a3 a4 a5 a6 a7 a8 jb eb mb b1 b2 b3 b4 b5 b6 b7 b8 re fl g1 g2 g3 g4 g5 D))) rfl))
  have h1 : sX7_tokenPlace [.ref 3] (cW ki ln bt rl cp cs ct cv rr dr ja ea ma a1 a2 a3 a4 a5 a6 a7 a8 jb eb mb b1 b2 b3 b4 b5 b6 b7 b8 re fl g1 g2 g3 g4 g5 D) = some r := h1
  rw [h1, h2]
theorem c_read0 (hD : D.length = 38) (hln : 0 ≤ ln ∧ ln ≤ 400) (hl : tx_like bt tx ln) (hB : ∀ k : Nat, (k : Int) < ln → 0 ≤ (tx k).toInt ∧ (tx k).toInt ≤ 255) (hva : -2147483648 ≤ va ∧ va ≤ 2147483647) (hAd : ARd b1 b2 b3) (hAs : ARs b4 b5 b6 b7) : ∃ r, sX7_read [.ref 3, .ref 14] (cW ki ln bt rl cp cs ct cv rr dr ja ea ma a1 a2 a3 a4 a5 a6 a7 a8 jb eb mb b1 b2 b3 b4 b5 b6 b7 b8 re fl g1 g2 g3 g4 g5 D) = some r ∧ ((∃ (y1 y2 y3 y4 : Int) (k1 k2 k3 k4 k5 k6 k7 k8 : Nat → Int32), r = (some (iv 1), (cW ki ln bt (.ref 14) y1 y2 y3 y4 rr dr ja ea ma a1 a2 a3 a4 a5 a6 a7 a8 (rp_end tx ln va dd sr).2.2.2.2.2 (rp_end tx ln va dd sr).2.1 (rp_end tx ln va dd sr).2.2.1 k1 k2 k3 k4 k5 k6 k7 k8 re fl g1 g2 g3 g4 g5 D)) ∧ (rp_end tx ln va dd sr).1.2.2.2.2 < 0 ∧ RRd (rp_end tx ln va dd sr).2.1 k1 k2 k3 (rp_end tx ln va dd sr).2.2.2.1 ∧ RRs (rp_end tx ln va dd sr).2.2.1 k4 k5 k6 k7 k8 (rp_end tx ln va dd sr).2.2.2.2.1 ∧ DWd (rp_end tx ln va dd sr).2.1 (rp_end tx ln va dd sr).2.2.2.1 ∧ DWs (rp_end tx ln va dd sr).2.2.1 (rp_end tx ln va dd sr).2.2.2.2.1 ∧ ARd k1 k2 k3 ∧ ARs k4 k5 k6 k7) ∨ (∃ (y1 y2 y3 y4 : Int) (k1 k2 k3 k4 k5 k6 k7 k8 : Nat → Int32) (z1 z2 z3 : Int), r = (some (iv 0), (cW ki ln bt (.ref 14) y1 y2 y3 y4 rr dr ja ea ma a1 a2 a3 a4 a5 a6 a7 a8 z1 z2 z3 k1 k2 k3 k4 k5 k6 k7 k8 re fl g1 g2 g3 g4 g5 D)) ∧ y2 = (rp_end tx ln va dd sr).1.2.2.2.2 ∧ 0 ≤ (rp_end tx ln va dd sr).1.2.2.2.2 ∧ (0 ≤ z2 ∧ z2 ≤ 10) ∧ (0 ≤ z3 ∧ z3 ≤ 16) ∧ ARd k1 k2 k3 ∧ ARs k4 k5 k6 k7)) := by
  refine rn_S rfl ?_
  refine rn_up (N := 5000) (by decide) ?_
  refine r_al rfl rfl ?_
  refine r_al rfl rfl ?_
  refine r_pfr rfl rfl cg_3 rfl rfl rfl cp_rl ?_
  refine r_al rfl rfl ?_
  refine r_gf rfl rfl cg_3 rfl ?_
  refine r_v1n rfl rfl cg_14 rfl c_empty0 ?_
  refine r_al rfl rfl ?_
  refine r_ic rfl ?_
  refine r_pf rfl rfl cg_3 rfl cp_cp ?_
  refine r_ic rfl ?_
  refine r_is (lv' := [(2, _), (0, _), (1, _)]) rfl rfl rfl ?_
  have hok := rp_t0_ok (dd := dd) (sr := sr) hln hB hva
  have hT : TR bt ln 0 (rp_t0 tx ln va dd sr).1 := TR_adv (σ := (0, 0, 0, va, -1)) hln hl ⟨Int.le_refl _, hln.1⟩ (by show (-1 : Int) < 0; decide)
  refine rn_up (N := 100 * 26 + 300) (by decide) (c_loopA0 hD hln hl hB 26 (rp_t0 tx ln va dd sr) hok hT ⟨Int.le_refl _, hln.1⟩ (fun i hi => ?_) (fun i hi => ?_) (fun i hi => ?_) (fun i hi => ?_) hAd hAs (fun _ => ?_) ?_ ?_ ?_)
  · have hi : (i : Int) < 0 := hi
    omega
  · have hi : (i : Int) < 0 := hi
    omega
  · have hi : (i : Int) < 0 := hi
    omega
  · have hi : (i : Int) < 0 := hi
    omega
  · show 26 < (0 : Int) + 0 + ((26 + 1 : Nat) : Int)
    decide
  · show (0 : Int) + ((26 + 1 : Nat) : Int) ≤ 300
    decide
  · intro y1 y2 y3 y4 k1 k2 k3 k4 k5 k6 k7 k8 q1 q2 q3 q4 q5 q6 q7
    exact Or.inl ⟨y1, y2, y3, y4, k1, k2, k3, k4, k5, k6, k7, k8, rfl, q1, q2, q3, q4, q5, q6, q7⟩
  · intro y1 y2 y3 y4 k1 k2 k3 k4 k5 k6 k7 k8 z1 z2 z3 q1 q2 q3 q4 q5 q6
    exact Or.inr ⟨y1, y2, y3, y4, k1, k2, k3, k4, k5, k6, k7, k8, z1, z2, z3, rfl, q2, q1, q3, q4, q5, q6⟩
abbrev rn_X11_papers (N : Nat) (c : mm_C) (Q : mm_R → Prop) : Prop := rn (mm_gf gLX11) (mm_pf pLX11) (mm_mv vX11_papers) (mm_mv zX11_papers) (mm_kc kLX11) mm_gs0 mm_rf0 mm_ro (some .int) 1 (mm_ins iX11_papers) N c Q
theorem c_papersC0 (hD : D.length = 38) (hln : 0 ≤ ln ∧ ln ≤ 400) (hl : tx_like bt tx ln) (hB : ∀ k : Nat, (k : Int) < ln → 0 ≤ (tx k).toInt ∧ (tx k).toInt ≤ 255) (hva : -2147483648 ≤ va ∧ va ≤ 2147483647) (hAd : ARd b1 b2 b3) (hAs : ARs b4 b5 b6 b7) : ∃ r, sX11_papers [.ref 0] (cW ki ln bt rl cp cs ct cv 5 14 ja ea ma a1 a2 a3 a4 a5 a6 a7 a8 jb eb mb b1 b2 b3 b4 b5 b6 b7 b8 re fl g1 g2 g3 g4 g5 D) = some r ∧ ((∃ (y1 y2 y3 y4 : Int) (k1 k2 k3 k4 k5 k6 k7 k8 : Nat → Int32), r = (some (iv (rp_end tx ln va dd sr).2.2.2.2.2), (cW (0 : Int) (0 : Int) bt (.ref 14) y1 y2 y3 y4 14 5 ja ea ma a1 a2 a3 a4 a5 a6 a7 a8 (rp_end tx ln va dd sr).2.2.2.2.2 (rp_end tx ln va dd sr).2.1 (rp_end tx ln va dd sr).2.2.1 k1 k2 k3 k4 k5 k6 k7 k8 (0 : Int) (0 : Int) (cpy 10 g1 zz) (cpy 16 g2 zz) (va_cpy k8 g3 0 0 16) (cpy 64 g4 zz) g5 D)) ∧ (rp_end tx ln va dd sr).1.2.2.2.2 < 0 ∧ RRd (rp_end tx ln va dd sr).2.1 k1 k2 k3 (rp_end tx ln va dd sr).2.2.2.1 ∧ RRs (rp_end tx ln va dd sr).2.2.1 k4 k5 k6 k7 k8 (rp_end tx ln va dd sr).2.2.2.2.1 ∧ DWd (rp_end tx ln va dd sr).2.1 (rp_end tx ln va dd sr).2.2.2.1 ∧ DWs (rp_end tx ln va dd sr).2.2.1 (rp_end tx ln va dd sr).2.2.2.2.1 ∧ ARd k1 k2 k3 ∧ ARs k4 k5 k6 k7) ∨ (∃ (y1 y2 y3 y4 : Int) (k1 k2 k3 k4 k5 k6 k7 k8 : Nat → Int32) (z1 z2 z3 : Int), r = (some (iv ((-10) - (rp_end tx ln va dd sr).1.2.2.2.2)), (cW ki ln bt (.ref 14) y1 y2 y3 y4 5 14 ja ea ma a1 a2 a3 a4 a5 a6 a7 a8 z1 z2 z3 k1 k2 k3 k4 k5 k6 k7 k8 re fl g1 g2 g3 g4 g5 D)) ∧ 0 ≤ (rp_end tx ln va dd sr).1.2.2.2.2 ∧ (0 ≤ z2 ∧ z2 ≤ 10) ∧ (0 ≤ z3 ∧ z3 ≤ 16) ∧ ARd k1 k2 k3 ∧ ARs k4 k5 k6 k7)) := by
  obtain ⟨r, hr, hc⟩ := c_read0 (ki := ki) (ln := ln) (bt := bt) (rl := rl) (cp := cp) (cs := cs) (ct := ct) (cv := cv) (rr := 5) (dr := 14) (ja := ja) (ea := ea) (ma := ma) (a1 := a1) (a2 := a2) (a3 := a3) (a4 := a4) (a5 := a5) (a6 := a6) (a7 := a7) (a8 := a8) (jb := jb) (eb := eb) (mb := mb) (b1 := b1) (b2 := b2) (b3 := b3) (b4 := b4) (b5 := b5) (b6 := b6) (b7 := b7) (b8 := b8) (re := re) (fl := fl) (g1 := g1) (g2 := g2) (g3 := g3) (g4 := g4) (g5 := g5) (D := D) (tx := tx) (dd := dd) (sr := sr) (va := va) hD hln hl hB hva hAd hAs
  refine rn_S rfl ?_
  refine rn_up (N := 5000) (by decide) ?_
  rcases hc with ⟨y1, y2, y3, y4, k1, k2, k3, k4, k5, k6, k7, k8, e, q⟩ | ⟨y1, y2, y3, y4, k1, k2, k3, k4, k5, k6, k7, k8, z1, z2, z3, e, q2, q⟩
  · subst e
    refine r_al rfl rfl ?_
    refine r_gf rfl rfl cg_0 rfl ?_
    refine r_al rfl rfl ?_
    refine r_gf rfl rfl cg_0 rfl ?_
    refine r_gf rfl rfl cg_4 rfl ?_
    refine r_v2s rfl rfl cg_3 rfl hr ?_
    refine r_zne rfl rfl (by decide) (fun gz => ?_) (fun gz => ?_)
    · refine r_al rfl rfl ?_
      refine r_gf rfl rfl cg_0 rfl ?_
      refine r_v1n rfl rfl cg_4 rfl c_takeDraft0 ?_
      refine r_al rfl rfl ?_
      refine r_gf rfl rfl cg_0 rfl ?_
      refine r_ic rfl ?_
      refine r_pf rfl rfl cg_1 rfl cp_ln ?_
      refine r_al rfl rfl ?_
      refine r_ic rfl ?_
      refine r_pf rfl rfl cg_0 rfl cp_ki ?_
      refine r_al rfl rfl ?_
      refine r_gf rfl rfl cg_0 rfl ?_
      refine r_gf rfl rfl cg_4 rfl ?_
      refine r_gf rfl rfl cg_14 rfl ?_
      exact r_ret rfl rfl (Or.inl ⟨y1, y2, y3, y4, k1, k2, k3, k4, k5, k6, k7, k8, rfl, q⟩)
    · exact absurd gz (by decide)
  · subst e
    refine r_al rfl rfl ?_
    refine r_gf rfl rfl cg_0 rfl ?_
    refine r_al rfl rfl ?_
    refine r_gf rfl rfl cg_0 rfl ?_
    refine r_gf rfl rfl cg_4 rfl ?_
    refine r_v2s rfl rfl cg_3 rfl hr ?_
    refine r_zne rfl rfl (by decide) (fun gz => ?_) (fun gz => ?_)
    · exact absurd rfl gz
    · refine r_bi rfl (by decide) ?_
      refine r_al rfl rfl ?_
      refine r_gf rfl rfl cg_0 rfl ?_
      refine r_v1s rfl rfl cg_3 rfl c_tokenPlace ?_
      refine r_sub rfl ?_
      exact r_ret rfl rfl (Or.inr ⟨y1, y2, y3, y4, k1, k2, k3, k4, k5, k6, k7, k8, z1, z2, z3, by rw [q2], q⟩)
theorem c_acp1 : mm_acp [.ref 13, iv 0, .ref 26, iv 0, iv 16] (cW ki ln bt rl cp cs ct cv rr dr ja ea ma a1 a2 a3 a4 a5 a6 a7 a8 jb eb mb b1 b2 b3 b4 b5 b6 b7 b8 re fl g1 g2 g3 g4 g5 D) = some (none, (cW ki ln bt rl cp cs ct cv rr dr ja ea ma a1 a2 a3 a4 a5 a6 a7 a8 jb eb mb b1 b2 b3 b4 b5 b6 b7 b8 re fl g1 g2 (va_cpy a8 g3 0 0 16) g4 g5 D)) := rfl
theorem c_startOn1  : sX5_startOn [.ref 23, .ref 5] (cW ki ln bt rl cp cs ct cv rr dr ja ea ma a1 a2 a3 a4 a5 a6 a7 a8 jb eb mb b1 b2 b3 b4 b5 b6 b7 b8 re fl g1 g2 g3 g4 g5 D) = some (none, (cW ki ln bt rl cp cs ct cv rr dr ja ea ma a1 a2 a3 a4 a5 a6 a7 a8 jb eb mb b1 b2 b3 b4 b5 b6 b7 b8 (0 : Int) (0 : Int) (cpy 10 g1 zz) (cpy 16 g2 zz) (va_cpy a8 g3 0 0 16) (cpy 64 g4 zz) g5 D)) := by
  have main : ∀ Q : mm_R → Prop, Q (none, (cW ki ln bt rl cp cs ct cv rr dr ja ea ma a1 a2 a3 a4 a5 a6 a7 a8 jb eb mb b1 b2 b3 b4 b5 b6 b7 b8 (0 : Int) (0 : Int) (cpy 10 g1 zz) (cpy 16 g2 zz) (va_cpy a8 g3 0 0 16) (cpy 64 g4 zz) g5 D)) → rn_X5_startOn (1000) (0, [(0, .ref 23), (1, .ref 5)], [], (cW ki ln bt rl cp cs ct cv rr dr ja ea ma a1 a2 a3 a4 a5 a6 a7 a8 jb eb mb b1 b2 b3 b4 b5 b6 b7 b8 re fl g1 g2 g3 g4 g5 D)) Q := by
    intro Q hQ
    refine r_al rfl rfl ?_
    refine r_gf rfl rfl cg_23 rfl ?_
    refine r_ic rfl ?_
    refine r_s2n rfl rfl rfl c_fill24 ?_
    refine r_al rfl rfl ?_
    refine r_gf rfl rfl cg_23 rfl ?_
    refine r_ic rfl ?_
    refine r_s2n rfl rfl rfl c_fill25 ?_
    refine r_al rfl rfl ?_
    refine r_gf rfl rfl cg_23 rfl ?_
    refine r_ic rfl ?_
    refine r_s2n rfl rfl rfl c_fill27 ?_
    refine r_al rfl rfl ?_
    refine r_gf rfl rfl cg_5 rfl ?_
    refine r_ic rfl ?_
    refine r_al rfl rfl ?_
    refine r_gf rfl rfl cg_23 rfl ?_
    refine r_ic rfl ?_
    refine r_bi rfl (by decide) ?_
    refine r_s5n rfl rfl rfl c_acp1 ?_
    refine r_al rfl rfl ?_
    refine r_ic rfl ?_
    refine r_pf rfl rfl cg_23 rfl cp_re ?_
    refine r_al rfl rfl ?_
    refine r_ic rfl ?_
    refine r_pf rfl rfl cg_23 rfl cp_fl ?_
    exact r_retv rfl rfl hQ
  obtain ⟨r, h1, h2⟩ := rn_S (vs := [.ref 23, .ref 5]) (Q := fun r => r = (none, (cW ki ln bt rl cp cs ct cv rr dr ja ea ma a1 a2 a3 a4 a5 a6 a7 a8 jb eb mb b1 b2 b3 b4 b5 b6 b7 b8 (0 : Int) (0 : Int) (cpy 10 g1 zz) (cpy 16 g2 zz) (va_cpy a8 g3 0 0 16) (cpy 64 g4 zz) g5 D))) rfl (rn_up (N := 1000) (M := mm_fuel) (by decide) (main (fun r => r = (none, (cW ki ln bt rl cp cs ct cv rr dr ja ea ma a1 a2 a3 a4 a5 a6 a7 a8 jb eb mb b1 b2 b3 b4 b5 b6 b7 b8 (0 : Int) (0 : Int) (cpy 10 g1 zz) (cpy 16 g2 zz) (va_cpy a8 g3 0 0 16) (cpy 64 g4 zz) g5 D))) rfl))
  have h1 : sX5_startOn [.ref 23, .ref 5] (cW ki ln bt rl cp cs ct cv rr dr ja ea ma a1 a2 a3 a4 a5 a6 a7 a8 jb eb mb b1 b2 b3 b4 b5 b6 b7 b8 re fl g1 g2 g3 g4 g5 D) = some r := h1
  rw [h1, h2]
theorem c_takeDraft1  : sX0_takeDraft [.ref 4] (cW ki ln bt rl cp cs ct cv 14 5 ja ea ma a1 a2 a3 a4 a5 a6 a7 a8 jb eb mb b1 b2 b3 b4 b5 b6 b7 b8 re fl g1 g2 g3 g4 g5 D) = some (none, (cW ki ln bt rl cp cs ct cv 5 14 ja ea ma a1 a2 a3 a4 a5 a6 a7 a8 jb eb mb b1 b2 b3 b4 b5 b6 b7 b8 (0 : Int) (0 : Int) (cpy 10 g1 zz) (cpy 16 g2 zz) (va_cpy a8 g3 0 0 16) (cpy 64 g4 zz) g5 D)) := by
  have main : ∀ Q : mm_R → Prop, Q (none, (cW ki ln bt rl cp cs ct cv 5 14 ja ea ma a1 a2 a3 a4 a5 a6 a7 a8 jb eb mb b1 b2 b3 b4 b5 b6 b7 b8 (0 : Int) (0 : Int) (cpy 10 g1 zz) (cpy 16 g2 zz) (va_cpy a8 g3 0 0 16) (cpy 64 g4 zz) g5 D)) → rn_X0_takeDraft (1000) (0, [(0, .ref 4)], [], (cW ki ln bt rl cp cs ct cv 14 5 ja ea ma a1 a2 a3 a4 a5 a6 a7 a8 jb eb mb b1 b2 b3 b4 b5 b6 b7 b8 re fl g1 g2 g3 g4 g5 D)) Q := by
    intro Q hQ
    refine r_al rfl rfl ?_
    refine r_gf rfl rfl cg_4 rfl ?_
    refine r_as (lv' := [(1, _), (0, _)]) rfl rfl rfl ?_
    refine r_al rfl rfl ?_
    refine r_al rfl rfl ?_
    refine r_gf rfl rfl cg_4 rfl ?_
    refine r_pfr rfl rfl cg_4 rfl rfl rfl cp_rr ?_
    refine r_al rfl rfl ?_
    refine r_al rfl rfl ?_
    refine r_pfr rfl rfl cg_4 rfl rfl rfl cp_dr ?_
    refine r_al rfl rfl ?_
    refine r_gf rfl rfl cg_4 rfl ?_
    refine r_al rfl rfl ?_
    refine r_gf rfl rfl cg_4 rfl ?_
    refine r_v2n rfl rfl cg_23 rfl c_startOn1 ?_
    exact r_retv rfl rfl hQ
  obtain ⟨r, h1, h2⟩ := rn_S (vs := [.ref 4]) (Q := fun r => r = (none, (cW ki ln bt rl cp cs ct cv 5 14 ja ea ma a1 a2 a3 a4 a5 a6 a7 a8 jb eb mb b1 b2 b3 b4 b5 b6 b7 b8 (0 : Int) (0 : Int) (cpy 10 g1 zz) (cpy 16 g2 zz) (va_cpy a8 g3 0 0 16) (cpy 64 g4 zz) g5 D))) rfl (rn_up (N := 1000) (M := mm_fuel) (by decide) (main (fun r => r = (none, (cW ki ln bt rl cp cs ct cv 5 14 ja ea ma a1 a2 a3 a4 a5 a6 a7 a8 jb eb mb b1 b2 b3 b4 b5 b6 b7 b8 (0 : Int) (0 : Int) (cpy 10 g1 zz) (cpy 16 g2 zz) (va_cpy a8 g3 0 0 16) (cpy 64 g4 zz) g5 D))) rfl))
  have h1 : sX0_takeDraft [.ref 4] (cW ki ln bt rl cp cs ct cv 14 5 ja ea ma a1 a2 a3 a4 a5 a6 a7 a8 jb eb mb b1 b2 b3 b4 b5 b6 b7 b8 re fl g1 g2 g3 g4 g5 D) = some r := h1
  rw [h1, h2]
theorem c_read1 (hD : D.length = 38) (hln : 0 ≤ ln ∧ ln ≤ 400) (hl : tx_like bt tx ln) (hB : ∀ k : Nat, (k : Int) < ln → 0 ≤ (tx k).toInt ∧ (tx k).toInt ≤ 255) (hva : -2147483648 ≤ va ∧ va ≤ 2147483647) (hAd : ARd a1 a2 a3) (hAs : ARs a4 a5 a6 a7) : ∃ r, sX7_read [.ref 3, .ref 5] (cW ki ln bt rl cp cs ct cv rr dr ja ea ma a1 a2 a3 a4 a5 a6 a7 a8 jb eb mb b1 b2 b3 b4 b5 b6 b7 b8 re fl g1 g2 g3 g4 g5 D) = some r ∧ ((∃ (y1 y2 y3 y4 : Int) (k1 k2 k3 k4 k5 k6 k7 k8 : Nat → Int32), r = (some (iv 1), (cW ki ln bt (.ref 5) y1 y2 y3 y4 rr dr (rp_end tx ln va dd sr).2.2.2.2.2 (rp_end tx ln va dd sr).2.1 (rp_end tx ln va dd sr).2.2.1 k1 k2 k3 k4 k5 k6 k7 k8 jb eb mb b1 b2 b3 b4 b5 b6 b7 b8 re fl g1 g2 g3 g4 g5 D)) ∧ (rp_end tx ln va dd sr).1.2.2.2.2 < 0 ∧ RRd (rp_end tx ln va dd sr).2.1 k1 k2 k3 (rp_end tx ln va dd sr).2.2.2.1 ∧ RRs (rp_end tx ln va dd sr).2.2.1 k4 k5 k6 k7 k8 (rp_end tx ln va dd sr).2.2.2.2.1 ∧ DWd (rp_end tx ln va dd sr).2.1 (rp_end tx ln va dd sr).2.2.2.1 ∧ DWs (rp_end tx ln va dd sr).2.2.1 (rp_end tx ln va dd sr).2.2.2.2.1 ∧ ARd k1 k2 k3 ∧ ARs k4 k5 k6 k7) ∨ (∃ (y1 y2 y3 y4 : Int) (k1 k2 k3 k4 k5 k6 k7 k8 : Nat → Int32) (z1 z2 z3 : Int), r = (some (iv 0), (cW ki ln bt (.ref 5) y1 y2 y3 y4 rr dr z1 z2 z3 k1 k2 k3 k4 k5 k6 k7 k8 jb eb mb b1 b2 b3 b4 b5 b6 b7 b8 re fl g1 g2 g3 g4 g5 D)) ∧ y2 = (rp_end tx ln va dd sr).1.2.2.2.2 ∧ 0 ≤ (rp_end tx ln va dd sr).1.2.2.2.2 ∧ (0 ≤ z2 ∧ z2 ≤ 10) ∧ (0 ≤ z3 ∧ z3 ≤ 16) ∧ ARd k1 k2 k3 ∧ ARs k4 k5 k6 k7)) := by
  refine rn_S rfl ?_
  refine rn_up (N := 5000) (by decide) ?_
  refine r_al rfl rfl ?_
  refine r_al rfl rfl ?_
  refine r_pfr rfl rfl cg_3 rfl rfl rfl cp_rl ?_
  refine r_al rfl rfl ?_
  refine r_gf rfl rfl cg_3 rfl ?_
  refine r_v1n rfl rfl cg_5 rfl c_empty1 ?_
  refine r_al rfl rfl ?_
  refine r_ic rfl ?_
  refine r_pf rfl rfl cg_3 rfl cp_cp ?_
  refine r_ic rfl ?_
  refine r_is (lv' := [(2, _), (0, _), (1, _)]) rfl rfl rfl ?_
  have hok := rp_t0_ok (dd := dd) (sr := sr) hln hB hva
  have hT : TR bt ln 0 (rp_t0 tx ln va dd sr).1 := TR_adv (σ := (0, 0, 0, va, -1)) hln hl ⟨Int.le_refl _, hln.1⟩ (by show (-1 : Int) < 0; decide)
  refine rn_up (N := 100 * 26 + 300) (by decide) (c_loopA1 hD hln hl hB 26 (rp_t0 tx ln va dd sr) hok hT ⟨Int.le_refl _, hln.1⟩ (fun i hi => ?_) (fun i hi => ?_) (fun i hi => ?_) (fun i hi => ?_) hAd hAs (fun _ => ?_) ?_ ?_ ?_)
  · have hi : (i : Int) < 0 := hi
    omega
  · have hi : (i : Int) < 0 := hi
    omega
  · have hi : (i : Int) < 0 := hi
    omega
  · have hi : (i : Int) < 0 := hi
    omega
  · show 26 < (0 : Int) + 0 + ((26 + 1 : Nat) : Int)
    decide
  · show (0 : Int) + ((26 + 1 : Nat) : Int) ≤ 300
    decide
  · intro y1 y2 y3 y4 k1 k2 k3 k4 k5 k6 k7 k8 q1 q2 q3 q4 q5 q6 q7
    exact Or.inl ⟨y1, y2, y3, y4, k1, k2, k3, k4, k5, k6, k7, k8, rfl, q1, q2, q3, q4, q5, q6, q7⟩
  · intro y1 y2 y3 y4 k1 k2 k3 k4 k5 k6 k7 k8 z1 z2 z3 q1 q2 q3 q4 q5 q6
    exact Or.inr ⟨y1, y2, y3, y4, k1, k2, k3, k4, k5, k6, k7, k8, z1, z2, z3, rfl, q2, q1, q3, q4, q5, q6⟩
theorem c_papersC1 (hD : D.length = 38) (hln : 0 ≤ ln ∧ ln ≤ 400) (hl : tx_like bt tx ln) (hB : ∀ k : Nat, (k : Int) < ln → 0 ≤ (tx k).toInt ∧ (tx k).toInt ≤ 255) (hva : -2147483648 ≤ va ∧ va ≤ 2147483647) (hAd : ARd a1 a2 a3) (hAs : ARs a4 a5 a6 a7) : ∃ r, sX11_papers [.ref 0] (cW ki ln bt rl cp cs ct cv 14 5 ja ea ma a1 a2 a3 a4 a5 a6 a7 a8 jb eb mb b1 b2 b3 b4 b5 b6 b7 b8 re fl g1 g2 g3 g4 g5 D) = some r ∧ ((∃ (y1 y2 y3 y4 : Int) (k1 k2 k3 k4 k5 k6 k7 k8 : Nat → Int32), r = (some (iv (rp_end tx ln va dd sr).2.2.2.2.2), (cW (0 : Int) (0 : Int) bt (.ref 5) y1 y2 y3 y4 5 14 (rp_end tx ln va dd sr).2.2.2.2.2 (rp_end tx ln va dd sr).2.1 (rp_end tx ln va dd sr).2.2.1 k1 k2 k3 k4 k5 k6 k7 k8 jb eb mb b1 b2 b3 b4 b5 b6 b7 b8 (0 : Int) (0 : Int) (cpy 10 g1 zz) (cpy 16 g2 zz) (va_cpy k8 g3 0 0 16) (cpy 64 g4 zz) g5 D)) ∧ (rp_end tx ln va dd sr).1.2.2.2.2 < 0 ∧ RRd (rp_end tx ln va dd sr).2.1 k1 k2 k3 (rp_end tx ln va dd sr).2.2.2.1 ∧ RRs (rp_end tx ln va dd sr).2.2.1 k4 k5 k6 k7 k8 (rp_end tx ln va dd sr).2.2.2.2.1 ∧ DWd (rp_end tx ln va dd sr).2.1 (rp_end tx ln va dd sr).2.2.2.1 ∧ DWs (rp_end tx ln va dd sr).2.2.1 (rp_end tx ln va dd sr).2.2.2.2.1 ∧ ARd k1 k2 k3 ∧ ARs k4 k5 k6 k7) ∨ (∃ (y1 y2 y3 y4 : Int) (k1 k2 k3 k4 k5 k6 k7 k8 : Nat → Int32) (z1 z2 z3 : Int), r = (some (iv ((-10) - (rp_end tx ln va dd sr).1.2.2.2.2)), (cW ki ln bt (.ref 5) y1 y2 y3 y4 14 5 z1 z2 z3 k1 k2 k3 k4 k5 k6 k7 k8 jb eb mb b1 b2 b3 b4 b5 b6 b7 b8 re fl g1 g2 g3 g4 g5 D)) ∧ 0 ≤ (rp_end tx ln va dd sr).1.2.2.2.2 ∧ (0 ≤ z2 ∧ z2 ≤ 10) ∧ (0 ≤ z3 ∧ z3 ≤ 16) ∧ ARd k1 k2 k3 ∧ ARs k4 k5 k6 k7)) := by
  obtain ⟨r, hr, hc⟩ := c_read1 (ki := ki) (ln := ln) (bt := bt) (rl := rl) (cp := cp) (cs := cs) (ct := ct) (cv := cv) (rr := 14) (dr := 5) (ja := ja) (ea := ea) (ma := ma) (a1 := a1) (a2 := a2) (a3 := a3) (a4 := a4) (a5 := a5) (a6 := a6) (a7 := a7) (a8 := a8) (jb := jb) (eb := eb) (mb := mb) (b1 := b1) (b2 := b2) (b3 := b3) (b4 := b4) (b5 := b5) (b6 := b6) (b7 := b7) (b8 := b8) (re := re) (fl := fl) (g1 := g1) (g2 := g2) (g3 := g3) (g4 := g4) (g5 := g5) (D := D) (tx := tx) (dd := dd) (sr := sr) (va := va) hD hln hl hB hva hAd hAs
  refine rn_S rfl ?_
  refine rn_up (N := 5000) (by decide) ?_
  rcases hc with ⟨y1, y2, y3, y4, k1, k2, k3, k4, k5, k6, k7, k8, e, q⟩ | ⟨y1, y2, y3, y4, k1, k2, k3, k4, k5, k6, k7, k8, z1, z2, z3, e, q2, q⟩
  · subst e
    refine r_al rfl rfl ?_
    refine r_gf rfl rfl cg_0 rfl ?_
    refine r_al rfl rfl ?_
    refine r_gf rfl rfl cg_0 rfl ?_
    refine r_gf rfl rfl cg_4 rfl ?_
    refine r_v2s rfl rfl cg_3 rfl hr ?_
    refine r_zne rfl rfl (by decide) (fun gz => ?_) (fun gz => ?_)
    · refine r_al rfl rfl ?_
      refine r_gf rfl rfl cg_0 rfl ?_
      refine r_v1n rfl rfl cg_4 rfl c_takeDraft1 ?_
      refine r_al rfl rfl ?_
      refine r_gf rfl rfl cg_0 rfl ?_
      refine r_ic rfl ?_
      refine r_pf rfl rfl cg_1 rfl cp_ln ?_
      refine r_al rfl rfl ?_
      refine r_ic rfl ?_
      refine r_pf rfl rfl cg_0 rfl cp_ki ?_
      refine r_al rfl rfl ?_
      refine r_gf rfl rfl cg_0 rfl ?_
      refine r_gf rfl rfl cg_4 rfl ?_
      refine r_gf rfl rfl cg_5 rfl ?_
      exact r_ret rfl rfl (Or.inl ⟨y1, y2, y3, y4, k1, k2, k3, k4, k5, k6, k7, k8, rfl, q⟩)
    · exact absurd gz (by decide)
  · subst e
    refine r_al rfl rfl ?_
    refine r_gf rfl rfl cg_0 rfl ?_
    refine r_al rfl rfl ?_
    refine r_gf rfl rfl cg_0 rfl ?_
    refine r_gf rfl rfl cg_4 rfl ?_
    refine r_v2s rfl rfl cg_3 rfl hr ?_
    refine r_zne rfl rfl (by decide) (fun gz => ?_) (fun gz => ?_)
    · exact absurd rfl gz
    · refine r_bi rfl (by decide) ?_
      refine r_al rfl rfl ?_
      refine r_gf rfl rfl cg_0 rfl ?_
      refine r_v1s rfl rfl cg_3 rfl c_tokenPlace ?_
      refine r_sub rfl ?_
      exact r_ret rfl rfl (Or.inr ⟨y1, y2, y3, y4, k1, k2, k3, k4, k5, k6, k7, k8, z1, z2, z3, by rw [q2], q⟩)
end C7
