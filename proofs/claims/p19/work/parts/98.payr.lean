/-! ===== pay: the reference, exactly ===== -/
def rIs (sd s : Nat → Int32) (d y : Int) (j : Nat) : Bool := decide ((sd (Int.toNat (5 * (j : Int) + 1))).toInt = d) && (decide ((sd (Int.toNat (5 * (j : Int) + 2))).toInt = 0) && (decide ((s (Int.toNat (42 + (j : Int)))).toInt = 0) && (!fF s (sd (Int.toNat (5 * (j : Int)))).toInt && !decide ((sd (Int.toNat (5 * (j : Int)))).toInt = y))))
def rGo (sd s : Nat → Int32) (d y : Int) : Nat → Int
  | 0 => 0
  | j + 1 => oOr (rGo sd s d y j) (bif rIs sd s d y j then oShl 1 (sd (Int.toNat (5 * (j : Int)))).toInt else 0)
def rGm (sd s : Nat → Int32) (d y : Int) : Nat → Int
  | 0 => 0
  | j + 1 => rGm sd s d y j + (bif rIs sd s d y j && !zb (Int32.ofInt (rGo sd s d y j)) (Int.toNat (sd (Int.toNat (5 * (j : Int)))).toInt) then 1 else 0)
theorem rGm_r {sd s : Nat → Int32} {d y : Int} : ∀ j : Nat, 0 ≤ rGm sd s d y j ∧ rGm sd s d y j ≤ (j : Int)
  | 0 => by show (0 : Int) ≤ 0 ∧ (0 : Int) ≤ 0; decide
  | j + 1 => by
    have := rGm_r (sd := sd) (s := s) (d := d) (y := y) j
    show 0 ≤ rGm sd s d y j + (bif rIs sd s d y j && !zb (Int32.ofInt (rGo sd s d y j)) (Int.toNat (sd (Int.toNat (5 * (j : Int)))).toInt) then 1 else 0) ∧ rGm sd s d y j + (bif rIs sd s d y j && !zb (Int32.ofInt (rGo sd s d y j)) (Int.toNat (sd (Int.toNat (5 * (j : Int)))).toInt) then 1 else 0) ≤ ((j + 1 : Nat) : Int)
    cases (rIs sd s d y j && !zb (Int32.ofInt (rGo sd s d y j)) (Int.toNat (sd (Int.toNat (5 * (j : Int)))).toInt)) <;> simp only [cond_true, cond_false] <;> omega
def rSB (ot y n : Int) (s : Nat → Int32) : Nat → (Nat → Int32)
  | 0 => s
  | j + 1 => bif zb (Int32.ofInt ot) j then ps2 (rSB ot y n s j) (Int.toNat (58 + 8 * (j : Int) + y)) n else rSB ot y n s j
def rGB (de sd s : Nat → Int32) (sn i n : Int) : Nat → Int32 := bif decide ((sd (Int.toNat (5 * i + 2))).toInt = 3) then ps2 s (Int.toNat (58 + 8 * (sd (Int.toNat (5 * (sd (Int.toNat (5 * i + 3))).toInt))).toInt + (sd (Int.toNat (5 * i))).toInt)) n else bif fF s (de (Int.toNat (3 * (sd (Int.toNat (5 * i + 1))).toInt))).toInt then rSB (rGo sd s (sd (Int.toNat (5 * i + 1))).toInt (sd (Int.toNat (5 * i))).toInt sn.toNat) (sd (Int.toNat (5 * i))).toInt (n / (rGm sd s (sd (Int.toNat (5 * i + 1))).toInt (sd (Int.toNat (5 * i))).toInt sn.toNat + 1)) s 8 else ps2 s (Int.toNat (58 + 8 * (de (Int.toNat (3 * (sd (Int.toNat (5 * i + 1))).toInt))).toInt + (sd (Int.toNat (5 * i))).toInt)) n
section GB
variable {C : List va_E} {tr : Int64} {th db sn dm sm ty nx tk pl va fa lr ri : Int} {s kp ik tn de sd dd sr tx pa : Nat → Int32} {d i k n x y ot mn : Int} {Q : mm_R → Prop} {N : Nat}
abbrev rn_X12_owes (N : Nat) (c : mm_C) (Q : mm_R → Prop) : Prop := rn (mm_gf gLX12) (mm_pf pLX12) (mm_mv vX12_owes) (mm_mv zX12_owes) (mm_kc kLX12) mm_gs0 mm_rf0 mm_ro none 4 (mm_ins iX12_owes) N c Q
theorem c_owesR (hC : C.length = 56) (hx : 0 ≤ x ∧ x ≤ 7) (hy : 0 ≤ y ∧ y ≤ 7) : sX12_owes [.ref 56, iv (x), iv (y), iv (n)] (C ++ rL (ro_ th tr db sn dm sm ty nx tk pl va fa lr ri) s kp ik tn de sd dd sr tx pa) = some (none, (C ++ rL (ro_ th tr db sn dm sm ty nx tk pl va fa lr ri) (ps2 s (Int.toNat (58 + 8 * x + y)) n) kp ik tn de sd dd sr tx pa)) := by
  have main : ∀ Q : mm_R → Prop, Q (none, (C ++ rL (ro_ th tr db sn dm sm ty nx tk pl va fa lr ri) (ps2 s (Int.toNat (58 + 8 * x + y)) n) kp ik tn de sd dd sr tx pa)) → rn_X12_owes (1000) (0, [(0, .ref 56), (1, iv (x)), (2, iv (y)), (3, iv (n))], [], (C ++ rL (ro_ th tr db sn dm sm ty nx tk pl va fa lr ri) s kp ik tn de sd dd sr tx pa)) Q := by
    intro Q hQ
    refine r_al rfl rfl ?_
    refine r_gf rfl rfl (rg_56 hC) rfl ?_
    refine r_bi rfl (by decide) ?_
    refine r_bi rfl (by decide) ?_
    refine r_il rfl rfl ?_
    refine r_mul rfl ?_
    refine r_add rfl ?_
    refine r_il rfl rfl ?_
    refine r_add rfl ?_
    refine r_dup2 rfl rfl rfl ?_
    refine r_ia rfl (rg_57 hC) (by omega) (by omega) (by decide) ?_
    refine r_il rfl rfl ?_
    refine r_add rfl ?_
    refine r_ias rfl (rg_57 hC) (by omega) (by omega) (by decide) (rs_57 hC) ?_
    exact r_retv rfl rfl hQ
  obtain ⟨r, h1, h2⟩ := rn_S (vs := [.ref 56, iv (x), iv (y), iv (n)]) (Q := fun r => r = (none, (C ++ rL (ro_ th tr db sn dm sm ty nx tk pl va fa lr ri) (ps2 s (Int.toNat (58 + 8 * x + y)) n) kp ik tn de sd dd sr tx pa))) rfl (rn_up (N := 1000) (M := mm_fuel) (by decide) (main (fun r => r = (none, (C ++ rL (ro_ th tr db sn dm sm ty nx tk pl va fa lr ri) (ps2 s (Int.toNat (58 + 8 * x + y)) n) kp ik tn de sd dd sr tx pa))) rfl))
  have h1 : sX12_owes [.ref 56, iv (x), iv (y), iv (n)] (C ++ rL (ro_ th tr db sn dm sm ty nx tk pl va fa lr ri) s kp ik tn de sd dd sr tx pa) = some r := h1
  rw [h1, h2]
abbrev rn_X12_goesBack (N : Nat) (c : mm_C) (Q : mm_R → Prop) : Prop := rn (mm_gf gLX12) (mm_pf pLX12) (mm_mv vX12_goesBack) (mm_mv zX12_goesBack) (mm_kc kLX12) mm_gs0 mm_rf0 mm_ro none 10 (mm_ins iX12_goesBack) N c Q
theorem gb_lp1 (hC : C.length = 56) {q : Nat} (hq : q ≤ 16) (hS : SDr sd) (hd : -2147483648 ≤ d ∧ d ≤ 2147483647) (hy : 0 ≤ y ∧ y ≤ 7) (k : rn_X12_goesBack N (234, [(7, iv (((q : Nat) : Int))), (5, iv (rGo sd s d y q)), (6, iv (rGm sd s d y q)), (0, .ref 56), (1, iv (i)), (2, iv (n)), (3, iv (y)), (4, iv (d))], [], (C ++ rL (ro_ th tr db (q : Int) dm sm ty nx tk pl va fa lr ri) s kp ik tn de sd dd sr tx pa)) Q) : ∀ (m j : Nat), j + m = q → rn_X12_goesBack (N + 160 * m + 160) (100, [(7, iv ((j : Int))), (5, iv (rGo sd s d y j)), (6, iv (rGm sd s d y j)), (0, .ref 56), (1, iv (i)), (2, iv (n)), (3, iv (y)), (4, iv (d))], [], (C ++ rL (ro_ th tr db (q : Int) dm sm ty nx tk pl va fa lr ri) s kp ik tn de sd dd sr tx pa)) Q := by
  intro m
  induction m with
  | zero =>
    intro j hj
    have hj : j = q := by omega
    subst hj
    refine rn_up (N := N + 160) (by omega) ?_
    refine r_ilw rfl rfl ?_
    refine r_al rfl rfl ?_
    refine r_gf rfl rfl (rg_56 hC) rfl ?_
    refine r_cge rfl rfl (by omega) (by omega) (fun g1 => ?_) (fun g1 => ?_)
    · exact rn_up (by omega) k
    · omega
  | succ m ih =>
    intro j hj
    obtain ⟨M, hM⟩ : ∃ M, M = N + 160 * m + 160 := ⟨_, rfl⟩
    rw [← hM] at ih
    refine rn_up (N := M + 160) (by omega) ?_
    refine r_ilw rfl rfl ?_
    refine r_al rfl rfl ?_
    refine r_gf rfl rfl (rg_56 hC) rfl ?_
    refine r_cge rfl rfl (by omega) (by omega) (fun g1 => ?_) (fun g1 => ?_)
    · omega
    · have rj := (sd_r hS (show 0 ≤ (j : Int) ∧ (j : Int) ≤ 15 by omega)).1
      refine r_al rfl rfl ?_
      refine r_gf rfl rfl (rg_56 hC) rfl ?_
      refine r_ic rfl ?_
      refine r_ilw rfl rfl ?_
      refine r_mul rfl ?_
      refine r_ia rfl (rg_62 hC) (by omega) (by omega) (by decide) ?_
      refine r_isw (lv' := [(8, _), (7, _), (5, _), (6, _), (0, _), (1, _), (2, _), (3, _), (4, _)]) rfl rfl rfl ?_
      refine r_al rfl rfl ?_
      refine r_gf rfl rfl (rg_56 hC) rfl ?_
      refine r_ic rfl ?_
      refine r_ilw rfl rfl ?_
      refine r_mul rfl ?_
      refine r_ic rfl ?_
      refine r_add rfl ?_
      refine r_ia rfl (rg_62 hC) (by omega) (by omega) (by decide) ?_
      refine r_ilw rfl rfl ?_
      have K : rn_X12_goesBack (M + 80) (183, [(8, iv ((sd (Int.toNat ((5) * ((j : Int))))).toInt)), (7, iv ((j : Int))), (5, iv (rGo sd s d y j)), (6, iv (rGm sd s d y j)), (0, .ref 56), (1, iv (i)), (2, iv (n)), (3, iv (y)), (4, iv (d))], [iv (bi (rIs sd s d y j))], (C ++ rL (ro_ th tr db (q : Int) dm sm ty nx tk pl va fa lr ri) s kp ik tn de sd dd sr tx pa)) Q := by
        refine r_isw (lv' := [(9, _), (8, _), (7, _), (5, _), (6, _), (0, _), (1, _), (2, _), (3, _), (4, _)]) rfl rfl rfl ?_
        refine r_ilw rfl rfl ?_
        refine r_ilw rfl rfl ?_
        have K2 : rn_X12_goesBack (M + 50) (207, [(9, iv (bi (rIs sd s d y j))), (8, iv ((sd (Int.toNat ((5) * ((j : Int))))).toInt)), (7, iv ((j : Int))), (5, iv (rGo sd s d y j)), (6, iv (rGm sd s d y j)), (0, .ref 56), (1, iv (i)), (2, iv (n)), (3, iv (y)), (4, iv (d))], [iv ((bif rIs sd s d y j && !zb (Int32.ofInt (rGo sd s d y j)) (Int.toNat (sd (Int.toNat (5 * (j : Int)))).toInt) then 1 else 0)), iv (rGm sd s d y j)], (C ++ rL (ro_ th tr db (q : Int) dm sm ty nx tk pl va fa lr ri) s kp ik tn de sd dd sr tx pa)) Q := by
          refine r_add rfl ?_
          refine r_isw (lv' := [(6, _), (9, _), (8, _), (7, _), (5, _), (0, _), (1, _), (2, _), (3, _), (4, _)]) rfl rfl rfl ?_
          refine r_ilw rfl rfl ?_
          refine r_ilw rfl rfl ?_
          have K3 : rn_X12_goesBack (M + 20) (225, [(6, iv ((rGm sd s d y j) + ((bif rIs sd s d y j && !zb (Int32.ofInt (rGo sd s d y j)) (Int.toNat (sd (Int.toNat (5 * (j : Int)))).toInt) then 1 else 0)))), (9, iv (bi (rIs sd s d y j))), (8, iv ((sd (Int.toNat ((5) * ((j : Int))))).toInt)), (7, iv ((j : Int))), (5, iv (rGo sd s d y j)), (0, .ref 56), (1, iv (i)), (2, iv (n)), (3, iv (y)), (4, iv (d))], [iv ((bif rIs sd s d y j then oShl 1 (sd (Int.toNat (5 * (j : Int)))).toInt else 0)), iv (rGo sd s d y j)], (C ++ rL (ro_ th tr db (q : Int) dm sm ty nx tk pl va fa lr ri) s kp ik tn de sd dd sr tx pa)) Q := by
            refine r_or rfl ?_
            refine r_isw (lv' := [(5, _), (6, _), (9, _), (8, _), (7, _), (0, _), (1, _), (2, _), (3, _), (4, _)]) rfl rfl rfl ?_
            refine r_inc (lv' := [(7, _), (5, _), (6, _), (9, _), (8, _), (0, _), (1, _), (2, _), (3, _), (4, _)]) rfl rfl rfl rfl ?_
            refine r_goto rfl rfl ?_
            refine rn_LE (a := [(7, iv ((j : Int) + 1)), (5, iv (oOr (rGo sd s d y j) ((bif rIs sd s d y j then oShl 1 (sd (Int.toNat (5 * (j : Int)))).toInt else 0)))), (6, iv ((rGm sd s d y j) + ((bif rIs sd s d y j && !zb (Int32.ofInt (rGo sd s d y j)) (Int.toNat (sd (Int.toNat (5 * (j : Int)))).toInt) then 1 else 0)))), (0, .ref 56), (1, iv (i)), (2, iv (n)), (3, iv (y)), (4, iv (d))]) ⟨(List.forall_mem_cons.mpr ⟨List.mem_cons_self, (List.forall_mem_cons.mpr ⟨(List.mem_cons_of_mem _ List.mem_cons_self), (List.forall_mem_cons.mpr ⟨(List.mem_cons_of_mem _ (List.mem_cons_of_mem _ List.mem_cons_self)), (List.forall_mem_cons.mpr ⟨(List.mem_cons_of_mem _ (List.mem_cons_of_mem _ (List.mem_cons_of_mem _ (List.mem_cons_of_mem _ (List.mem_cons_of_mem _ List.mem_cons_self))))), (List.forall_mem_cons.mpr ⟨(List.mem_cons_of_mem _ (List.mem_cons_of_mem _ (List.mem_cons_of_mem _ (List.mem_cons_of_mem _ (List.mem_cons_of_mem _ (List.mem_cons_of_mem _ List.mem_cons_self)))))), (List.forall_mem_cons.mpr ⟨(List.mem_cons_of_mem _ (List.mem_cons_of_mem _ (List.mem_cons_of_mem _ (List.mem_cons_of_mem _ (List.mem_cons_of_mem _ (List.mem_cons_of_mem _ (List.mem_cons_of_mem _ List.mem_cons_self))))))), (List.forall_mem_cons.mpr ⟨(List.mem_cons_of_mem _ (List.mem_cons_of_mem _ (List.mem_cons_of_mem _ (List.mem_cons_of_mem _ (List.mem_cons_of_mem _ (List.mem_cons_of_mem _ (List.mem_cons_of_mem _ (List.mem_cons_of_mem _ List.mem_cons_self)))))))), (List.forall_mem_cons.mpr ⟨(List.mem_cons_of_mem _ (List.mem_cons_of_mem _ (List.mem_cons_of_mem _ (List.mem_cons_of_mem _ (List.mem_cons_of_mem _ (List.mem_cons_of_mem _ (List.mem_cons_of_mem _ (List.mem_cons_of_mem _ (List.mem_cons_of_mem _ List.mem_cons_self))))))))), (fun _ h => absurd h List.not_mem_nil)⟩)⟩)⟩)⟩)⟩)⟩)⟩)⟩), (by show List.Nodup [7, 5, 6, 0, 1, 2, 3, 4]; decide), (by show List.Nodup [7, 5, 6, 9, 8, 0, 1, 2, 3, 4]; decide)⟩ ?_
            exact rn_up (by omega) (ih (j + 1) (by omega))
          refine r_zeq rfl rfl (bi_r _) (fun g7 => ?_) (fun g7 => ?_)
          · refine r_ic rfl ?_
            rw [bi_0 g7] at K3 ⊢
            exact rn_up (N := M + 20) (by omega) K3
          · refine r_ic rfl ?_
            refine r_ilw rfl rfl ?_
            refine r_shl rfl ?_
            refine r_goto rfl rfl ?_
            rw [bi_1 g7] at K3 ⊢
            exact rn_up (N := M + 20) (by omega) K3
        refine r_zeq rfl rfl (bi_r _) (fun g6 => ?_) (fun g6 => ?_)
        · refine r_ic rfl ?_
          rw [bi_0 g6] at K2 ⊢
          exact rn_up (N := M + 50) (by omega) K2
        · have g6 := bi_1 g6
          obtain ⟨pn, hpn⟩ := Int.eq_ofNat_of_zero_le rj.1
          refine r_ilw rfl rfl ?_
          refine r_ilw rfl rfl ?_
          refine r_shr rfl ?_
          refine r_ic rfl ?_
          refine r_and rfl ?_
          have eb : oAnd (oShr (rGo sd s d y j) (sd (Int.toNat (5 * (j : Int)))).toInt) 1 = bi (zb (Int32.ofInt (rGo sd s d y j)) (Int.toNat (sd (Int.toNat (5 * (j : Int)))).toInt)) := by rw [hpn]; exact zb_bit (by omega)
          refine r_eq eb ?_
          refine r_zne rfl rfl (bi_r _) (fun g8 => ?_) (fun g8 => ?_)
          · refine r_ic rfl ?_
            rw [g6, bi_1 g8] at K2
            rw [g6]
            exact rn_up (N := M + 50) (by omega) K2
          · refine r_ic rfl ?_
            refine r_goto rfl rfl ?_
            rw [g6, bi_0 g8] at K2
            rw [g6]
            exact rn_up (N := M + 50) (by omega) K2
      refine r_cne rfl rfl (as_r _) hd (fun g2 => ?_) (fun g2 => ?_)
      · refine r_ic rfl ?_
        have e : rIs sd s d y j = false := by unfold rIs; rw [decide_eq_false g2]; rfl
        rw [e] at K
        exact rn_up (N := M + 80) (by omega) K
      · refine r_al rfl rfl ?_
        refine r_gf rfl rfl (rg_56 hC) rfl ?_
        refine r_ic rfl ?_
        refine r_ilw rfl rfl ?_
        refine r_mul rfl ?_
        refine r_ic rfl ?_
        refine r_add rfl ?_
        refine r_ia rfl (rg_62 hC) (by omega) (by omega) (by decide) ?_
        refine r_zne rfl rfl (as_r _) (fun g3 => ?_) (fun g3 => ?_)
        · refine r_ic rfl ?_
          have e : rIs sd s d y j = false := by unfold rIs; rw [decide_eq_true g2, decide_eq_false g3]; rfl
          rw [e] at K
          exact rn_up (N := M + 80) (by omega) K
        · refine r_al rfl rfl ?_
          refine r_gf rfl rfl (rg_56 hC) rfl ?_
          refine r_bi rfl (by decide) ?_
          refine r_ilw rfl rfl ?_
          refine r_add rfl ?_
          refine r_ia rfl (rg_57 hC) (by omega) (by omega) (by decide) ?_
          refine r_zne rfl rfl (as_r _) (fun g4 => ?_) (fun g4 => ?_)
          · refine r_ic rfl ?_
            have e : rIs sd s d y j = false := by unfold rIs; rw [decide_eq_true g2, decide_eq_true g3, decide_eq_false g4]; rfl
            rw [e] at K
            exact rn_up (N := M + 80) (by omega) K
          · refine r_al rfl rfl ?_
            refine r_ilw rfl rfl ?_
            refine r_v2s rfl rfl (rg_56 hC) rfl (c_isFallenR hC rj) ?_
            refine r_zne rfl rfl (bi_r _) (fun g5 => ?_) (fun g5 => ?_)
            · refine r_ic rfl ?_
              have e : rIs sd s d y j = false := by unfold rIs; rw [decide_eq_true g2, decide_eq_true g3, decide_eq_true g4, bi_1 g5]; rfl
              rw [e] at K
              exact rn_up (N := M + 80) (by omega) K
            · refine r_ilw rfl rfl ?_
              refine r_il rfl rfl ?_
              refine r_ceq rfl rfl (as_r _) (by omega) (fun g9 => ?_) (fun g9 => ?_)
              · refine r_ic rfl ?_
                have e : rIs sd s d y j = false := by unfold rIs; rw [decide_eq_true g2, decide_eq_true g3, decide_eq_true g4, bi_0 g5, decide_eq_true g9]; rfl
                rw [e] at K
                exact rn_up (N := M + 80) (by omega) K
              · refine r_ic rfl ?_
                refine r_goto rfl rfl ?_
                have e : rIs sd s d y j = true := by unfold rIs; rw [decide_eq_true g2, decide_eq_true g3, decide_eq_true g4, bi_0 g5, decide_eq_false g9]; rfl
                rw [e] at K
                exact rn_up (N := M + 80) (by omega) K
theorem gb_lp2 (hC : C.length = 56) (hy : 0 ≤ y ∧ y ≤ 7) (hN : 1 ≤ n ∧ n ≤ 999) (hm : 0 ≤ mn ∧ mn ≤ 16) (k : rn_X12_goesBack N (274, [(7, iv (((8 : Nat) : Int))), (5, iv (ot)), (6, iv (mn)), (0, .ref 56), (2, iv (n)), (3, iv (y))], [], (C ++ rL (ro_ th tr db sn dm sm ty nx tk pl va fa lr ri) (rSB ot y (n / (mn + 1)) s 8) kp ik tn de sd dd sr tx pa)) Q) : ∀ (m j : Nat), j + m = 8 → rn_X12_goesBack (N + 40 * m + 40) (237, [(7, iv ((j : Int))), (5, iv (ot)), (6, iv (mn)), (0, .ref 56), (2, iv (n)), (3, iv (y))], [], (C ++ rL (ro_ th tr db sn dm sm ty nx tk pl va fa lr ri) (rSB ot y (n / (mn + 1)) s j) kp ik tn de sd dd sr tx pa)) Q := by
  intro m
  induction m with
  | zero =>
    intro j hj
    have hj : j = 8 := by omega
    subst hj
    refine rn_up (N := N + 40) (by omega) ?_
    refine r_ilw rfl rfl ?_
    refine r_bi rfl (by decide) ?_
    refine r_cge rfl rfl (by omega) (by omega) (fun g1 => ?_) (fun g1 => ?_)
    · exact rn_up (by omega) k
    · omega
  | succ m ih =>
    intro j hj
    obtain ⟨M, hM⟩ : ∃ M, M = N + 40 * m + 40 := ⟨_, rfl⟩
    rw [← hM] at ih
    refine rn_up (N := M + 40) (by omega) ?_
    refine r_ilw rfl rfl ?_
    refine r_bi rfl (by decide) ?_
    refine r_cge rfl rfl (by omega) (by omega) (fun g1 => ?_) (fun g1 => ?_)
    · omega
    · refine r_ilw rfl rfl ?_
      refine r_ilw rfl rfl ?_
      refine r_shr rfl ?_
      refine r_ic rfl ?_
      refine r_and rfl ?_
      refine r_eq (zb_bit (by omega)) ?_
      refine r_ic rfl ?_
      refine r_cne rfl rfl (bi_r _) (by decide) (fun g2 => ?_) (fun g2 => ?_)
      · have g2 : zb (Int32.ofInt ot) j = false := bi_0 (by have := bi_01 (zb (Int32.ofInt ot) j); omega)
        refine r_inc (lv' := [(7, _), (5, _), (6, _), (0, _), (2, _), (3, _)]) rfl rfl rfl rfl ?_
        refine r_goto rfl rfl ?_
        have e : rSB ot y (n / (mn + 1)) s j = rSB ot y (n / (mn + 1)) s (j + 1) := by show _ = (bif zb (Int32.ofInt ot) j then _ else _); rw [g2]; rfl
        rw [e]
        exact rn_up (by omega) (ih (j + 1) (by omega))
      · have g2 : zb (Int32.ofInt ot) j = true := bi_1 (by omega)
        refine r_al rfl rfl ?_
        refine r_ilw rfl rfl ?_
        refine r_il rfl rfl ?_
        refine r_il rfl rfl ?_
        refine r_ilw rfl rfl ?_
        refine r_ic rfl ?_
        refine r_add rfl ?_
        refine r_div rfl (by omega) (by omega) ?_
        refine r_v4n rfl rfl (rg_56 hC) rfl (c_owesR hC (by omega) hy) ?_
        refine r_inc (lv' := [(7, _), (5, _), (6, _), (0, _), (2, _), (3, _)]) rfl rfl rfl rfl ?_
        refine r_goto rfl rfl ?_
        have e : ps2 (rSB ot y (n / (mn + 1)) s j) (Int.toNat (58 + 8 * (j : Int) + y)) (n / (mn + 1)) = rSB ot y (n / (mn + 1)) s (j + 1) := by show _ = (bif zb (Int32.ofInt ot) j then _ else _); rw [g2]; rfl
        rw [e]
        exact rn_up (by omega) (ih (j + 1) (by omega))
theorem c_goesBackR (hC : C.length = 56) (hi : 0 ≤ i ∧ i ≤ 15) (hN : 1 ≤ n ∧ n ≤ 999) (hS : SDr sd) (hE : DEr de) (hX : EXx s de sd) (hn : 0 ≤ sn ∧ sn ≤ 16) : sX12_goesBack [.ref 56, iv (i), iv (n)] (C ++ rL (ro_ th tr db sn dm sm ty nx tk pl va fa lr ri) s kp ik tn de sd dd sr tx pa) = some (none, (C ++ rL (ro_ th tr db sn dm sm ty nx tk pl va fa lr ri) (rGB de sd s sn i n) kp ik tn de sd dd sr tx pa)) := by
  have main : ∀ Q : mm_R → Prop, Q (none, (C ++ rL (ro_ th tr db sn dm sm ty nx tk pl va fa lr ri) (rGB de sd s sn i n) kp ik tn de sd dd sr tx pa)) → rn_X12_goesBack (20 + 40 * 8 + 40 + 50 + 160 * 16 + 160 + 100) (0, [(0, .ref 56), (1, iv (i)), (2, iv (n))], [], (C ++ rL (ro_ th tr db sn dm sm ty nx tk pl va fa lr ri) s kp ik tn de sd dd sr tx pa)) Q := by
    intro Q hQ
    have rp := (sd_r hS hi).1
    have rd := (sd_r hS hi).2.1
    refine r_al rfl rfl ?_
    refine r_gf rfl rfl (rg_56 hC) rfl ?_
    refine r_ic rfl ?_
    refine r_il rfl rfl ?_
    refine r_mul rfl ?_
    refine r_ia rfl (rg_62 hC) (by omega) (by omega) (by decide) ?_
    refine r_is (lv' := [(3, _), (0, _), (1, _), (2, _)]) rfl rfl rfl ?_
    refine r_al rfl rfl ?_
    refine r_gf rfl rfl (rg_56 hC) rfl ?_
    refine r_ic rfl ?_
    refine r_il rfl rfl ?_
    refine r_mul rfl ?_
    refine r_ic rfl ?_
    refine r_add rfl ?_
    refine r_ia rfl (rg_62 hC) (by omega) (by omega) (by decide) ?_
    refine r_isw (lv' := [(4, _), (3, _), (0, _), (1, _), (2, _)]) rfl rfl rfl ?_
    refine r_al rfl rfl ?_
    refine r_gf rfl rfl (rg_56 hC) rfl ?_
    refine r_ic rfl ?_
    refine r_il rfl rfl ?_
    refine r_mul rfl ?_
    refine r_ic rfl ?_
    refine r_add rfl ?_
    refine r_ia rfl (rg_62 hC) (by omega) (by omega) (by decide) ?_
    refine r_ic rfl ?_
    refine r_cne rfl rfl (as_r _) (by decide) (fun g1 => ?_) (fun g1 => ?_)
    · refine r_al rfl rfl ?_
      refine r_al rfl rfl ?_
      refine r_gf rfl rfl (rg_56 hC) rfl ?_
      refine r_ic rfl ?_
      refine r_ilw rfl rfl ?_
      refine r_mul rfl ?_
      refine r_ia rfl (rg_61 hC) (by omega) (by omega) (by decide) ?_
      refine r_v2s rfl rfl (rg_56 hC) rfl (c_isFallenR hC (de_r hE rd).1) ?_
      refine r_zne rfl rfl (bi_r _) (fun g2 => ?_) (fun g2 => ?_)
      · have g2 := bi_1 g2
        have e : rGB de sd s sn i n = rSB (rGo sd s (sd (Int.toNat (5 * i + 1))).toInt (sd (Int.toNat (5 * i))).toInt sn.toNat) (sd (Int.toNat (5 * i))).toInt (n / ((rGm sd s (sd (Int.toNat (5 * i + 1))).toInt (sd (Int.toNat (5 * i))).toInt sn.toNat) + 1)) s 8 := by unfold rGB; rw [decide_eq_false g1, g2]; rfl
        rw [e] at hQ
        obtain ⟨q, rfl⟩ := Int.eq_ofNat_of_zero_le hn.1
        have hq : q ≤ 16 := by omega
        obtain ⟨M, hM⟩ : ∃ M, M = 20 + 40 * 8 + 40 + 50 := ⟨_, rfl⟩
        refine r_ic rfl ?_
        refine r_isw (lv' := [(5, _), (4, _), (3, _), (0, _), (1, _), (2, _)]) rfl rfl rfl ?_
        refine r_ic rfl ?_
        refine r_isw (lv' := [(6, _), (5, _), (4, _), (3, _), (0, _), (1, _), (2, _)]) rfl rfl rfl ?_
        refine r_ic rfl ?_
        refine r_isw (lv' := [(7, _), (6, _), (5, _), (4, _), (3, _), (0, _), (1, _), (2, _)]) rfl rfl rfl ?_
        refine rn_LE (a := [(7, iv (0)), (5, iv (0)), (6, iv (0)), (0, .ref 56), (1, iv (i)), (2, iv (n)), (3, iv ((sd (Int.toNat ((5) * (i)))).toInt)), (4, iv ((sd (Int.toNat (((5) * (i)) + (1)))).toInt))]) ⟨(List.forall_mem_cons.mpr ⟨List.mem_cons_self, (List.forall_mem_cons.mpr ⟨(List.mem_cons_of_mem _ (List.mem_cons_of_mem _ List.mem_cons_self)), (List.forall_mem_cons.mpr ⟨(List.mem_cons_of_mem _ List.mem_cons_self), (List.forall_mem_cons.mpr ⟨(List.mem_cons_of_mem _ (List.mem_cons_of_mem _ (List.mem_cons_of_mem _ (List.mem_cons_of_mem _ (List.mem_cons_of_mem _ List.mem_cons_self))))), (List.forall_mem_cons.mpr ⟨(List.mem_cons_of_mem _ (List.mem_cons_of_mem _ (List.mem_cons_of_mem _ (List.mem_cons_of_mem _ (List.mem_cons_of_mem _ (List.mem_cons_of_mem _ List.mem_cons_self)))))), (List.forall_mem_cons.mpr ⟨(List.mem_cons_of_mem _ (List.mem_cons_of_mem _ (List.mem_cons_of_mem _ (List.mem_cons_of_mem _ (List.mem_cons_of_mem _ (List.mem_cons_of_mem _ (List.mem_cons_of_mem _ List.mem_cons_self))))))), (List.forall_mem_cons.mpr ⟨(List.mem_cons_of_mem _ (List.mem_cons_of_mem _ (List.mem_cons_of_mem _ (List.mem_cons_of_mem _ List.mem_cons_self)))), (List.forall_mem_cons.mpr ⟨(List.mem_cons_of_mem _ (List.mem_cons_of_mem _ (List.mem_cons_of_mem _ List.mem_cons_self))), (fun _ h => absurd h List.not_mem_nil)⟩)⟩)⟩)⟩)⟩)⟩)⟩)⟩), (by show List.Nodup [7, 5, 6, 0, 1, 2, 3, 4]; decide), (by show List.Nodup [7, 6, 5, 4, 3, 0, 1, 2]; decide)⟩ ?_
        refine rn_up (N := M + 160 * q + 160) (by omega) (gb_lp1 (N := M) hC hq hS (as_r _) rp ?_ q 0 (by omega))
        rw [hM]
        refine r_ic rfl ?_
        refine r_isw (lv' := [(7, _), (5, _), (6, _), (0, _), (1, _), (2, _), (3, _), (4, _)]) rfl rfl rfl ?_
        refine rn_LE (a := [(7, iv (0)), (5, iv (rGo sd s (sd (Int.toNat (5 * i + 1))).toInt (sd (Int.toNat (5 * i))).toInt q)), (6, iv (rGm sd s (sd (Int.toNat (5 * i + 1))).toInt (sd (Int.toNat (5 * i))).toInt q)), (0, .ref 56), (2, iv (n)), (3, iv ((sd (Int.toNat (5 * i))).toInt))]) ⟨(List.forall_mem_cons.mpr ⟨List.mem_cons_self, (List.forall_mem_cons.mpr ⟨(List.mem_cons_of_mem _ List.mem_cons_self), (List.forall_mem_cons.mpr ⟨(List.mem_cons_of_mem _ (List.mem_cons_of_mem _ List.mem_cons_self)), (List.forall_mem_cons.mpr ⟨(List.mem_cons_of_mem _ (List.mem_cons_of_mem _ (List.mem_cons_of_mem _ List.mem_cons_self))), (List.forall_mem_cons.mpr ⟨(List.mem_cons_of_mem _ (List.mem_cons_of_mem _ (List.mem_cons_of_mem _ (List.mem_cons_of_mem _ (List.mem_cons_of_mem _ List.mem_cons_self))))), (List.forall_mem_cons.mpr ⟨(List.mem_cons_of_mem _ (List.mem_cons_of_mem _ (List.mem_cons_of_mem _ (List.mem_cons_of_mem _ (List.mem_cons_of_mem _ (List.mem_cons_of_mem _ List.mem_cons_self)))))), (fun _ h => absurd h List.not_mem_nil)⟩)⟩)⟩)⟩)⟩)⟩), (by show List.Nodup [7, 5, 6, 0, 2, 3]; decide), (by show List.Nodup [7, 5, 6, 0, 1, 2, 3, 4]; decide)⟩ ?_
        have hm := rGm_r (sd := sd) (s := s) (d := (sd (Int.toNat (5 * i + 1))).toInt) (y := (sd (Int.toNat (5 * i))).toInt) q
        refine rn_up (N := 20 + 40 * 8 + 40) (by decide) (gb_lp2 (N := 20) hC rp hN (by omega) ?_ 8 0 rfl)
        exact r_retv rfl rfl hQ
      · have g2 := bi_0 g2
        have e : rGB de sd s sn i n = ps2 s (Int.toNat (58 + 8 * (de (Int.toNat (3 * (sd (Int.toNat (5 * i + 1))).toInt))).toInt + (sd (Int.toNat (5 * i))).toInt)) n := by unfold rGB; rw [decide_eq_false g1, g2]; rfl
        rw [e] at hQ
        refine r_al rfl rfl ?_
        refine r_al rfl rfl ?_
        refine r_gf rfl rfl (rg_56 hC) rfl ?_
        refine r_ic rfl ?_
        refine r_ilw rfl rfl ?_
        refine r_mul rfl ?_
        refine r_ia rfl (rg_61 hC) (by omega) (by omega) (by decide) ?_
        refine r_il rfl rfl ?_
        refine r_il rfl rfl ?_
        refine r_v4n rfl rfl (rg_56 hC) rfl (c_owesR hC (de_r hE rd).1 rp) ?_
        exact r_retv rfl rfl hQ
    · have ho := sd_3 hX hi g1
      have e : rGB de sd s sn i n = ps2 s (Int.toNat (58 + 8 * (sd (Int.toNat (5 * (sd (Int.toNat (5 * i + 3))).toInt))).toInt + (sd (Int.toNat (5 * i))).toInt)) n := by unfold rGB; rw [decide_eq_true g1]; rfl
      rw [e] at hQ
      refine r_al rfl rfl ?_
      refine r_al rfl rfl ?_
      refine r_gf rfl rfl (rg_56 hC) rfl ?_
      refine r_ic rfl ?_
      refine r_al rfl rfl ?_
      refine r_gf rfl rfl (rg_56 hC) rfl ?_
      refine r_ic rfl ?_
      refine r_il rfl rfl ?_
      refine r_mul rfl ?_
      refine r_ic rfl ?_
      refine r_add rfl ?_
      refine r_ia rfl (rg_62 hC) (by omega) (by omega) (by decide) ?_
      refine r_mul rfl ?_
      refine r_ia rfl (rg_62 hC) (by omega) (by omega) (by decide) ?_
      refine r_il rfl rfl ?_
      refine r_il rfl rfl ?_
      refine r_v4n rfl rfl (rg_56 hC) rfl (c_owesR hC (sd_r hS ho).1 rp) ?_
      exact r_retv rfl rfl hQ
  obtain ⟨r, h1, h2⟩ := rn_S (vs := [.ref 56, iv (i), iv (n)]) (Q := fun r => r = (none, (C ++ rL (ro_ th tr db sn dm sm ty nx tk pl va fa lr ri) (rGB de sd s sn i n) kp ik tn de sd dd sr tx pa))) rfl (rn_up (N := 20 + 40 * 8 + 40 + 50 + 160 * 16 + 160 + 100) (M := mm_fuel) (by decide) (main (fun r => r = (none, (C ++ rL (ro_ th tr db sn dm sm ty nx tk pl va fa lr ri) (rGB de sd s sn i n) kp ik tn de sd dd sr tx pa))) rfl))
  have h1 : sX12_goesBack [.ref 56, iv (i), iv (n)] (C ++ rL (ro_ th tr db sn dm sm ty nx tk pl va fa lr ri) s kp ik tn de sd dd sr tx pa) = some r := h1
  rw [h1, h2]
abbrev rn_X12_pay (N : Nat) (c : mm_C) (Q : mm_R → Prop) : Prop := rn (mm_gf gLX12) (mm_pf pLX12) (mm_mv vX12_pay) (mm_mv zX12_pay) (mm_kc kLX12) mm_gs0 mm_rf0 mm_ro (some .int) 7 (mm_ins iX12_pay) N c Q
def rPv (de sd : Nat → Int32) (k i : Int) : Int := bif decide (k = 1) then (sd (Int.toNat (5 * i))).toInt else (de (Int.toNat (3 * i))).toInt
def rDv (sd : Nat → Int32) (k i : Int) : Int := bif decide (k = 1) then (sd (Int.toNat (5 * i + 1))).toInt else i
def rOK (de sd s : Nat → Int32) (sn k i n : Int) : Bool := decide (n ≤ fAS de sd s sn k i) && (decide (n ≤ (s (Int.toNat (122 + rPv de sd k i))).toInt) && (decide (rPv de sd k i = (de (Int.toNat (3 * rDv sd k i + 1))).toInt) || decide ((s (Int.toNat (122 + (de (Int.toNat (3 * rDv sd k i + 1))).toInt))).toInt + n ≤ 9999)))
def rS3 (de sd s : Nat → Int32) (k i n : Int) : Nat → Int32 := ps2 (ps2 (ps1 s (Int.toNat (122 + rPv de sd k i)) n) (Int.toNat (122 + (de (Int.toNat (3 * rDv sd k i + 1))).toInt)) n) (Int.toNat (0 + rDv sd k i)) n
def rS5 (de sd s : Nat → Int32) (sn k i n : Int) : Nat → Int32 := bif decide (k = 1) then rGB de sd (ps2 (rS3 de sd s k i n) (Int.toNat (10 + i)) n) sn i n else rS3 de sd s k i n
theorem c_payRB (hC : C.length = 56) (hk : -2147483648 ≤ k ∧ k ≤ 2147483647) (hi : -2147483648 ≤ i ∧ i ≤ 2147483647) (hN : -2147483648 ≤ n ∧ n ≤ 2147483647) (hd : 0 ≤ db ∧ db ≤ 10) (hn : 0 ≤ sn ∧ sn ≤ 16) (hb : (fTH db sn k i && i3 n 1 999) = false) : sX12_pay [.ref 56, iv (k), iv (i), iv (n)] (C ++ rL (ro_ th tr db sn dm sm ty nx tk pl va fa lr ri) s kp ik tn de sd dd sr tx pa) = some (some (iv (-1)), (C ++ rL (ro_ (0 : Int) tr db sn dm sm ty nx tk pl va fa lr ri) s kp ik tn de sd dd sr tx pa)) := by
  have main : ∀ Q : mm_R → Prop, Q (some (iv (-1)), (C ++ rL (ro_ (0 : Int) tr db sn dm sm ty nx tk pl va fa lr ri) s kp ik tn de sd dd sr tx pa)) → rn_X12_pay (1000) (0, [(0, .ref 56), (1, iv (k)), (2, iv (i)), (3, iv (n))], [], (C ++ rL (ro_ th tr db sn dm sm ty nx tk pl va fa lr ri) s kp ik tn de sd dd sr tx pa)) Q := by
    intro Q hQ
    refine r_al rfl rfl ?_
    refine r_ic rfl ?_
    refine r_pf rfl rfl (rg_56 hC) rfl (rp_th hC) ?_
    refine r_al rfl rfl ?_
    refine r_il rfl rfl ?_
    refine r_il rfl rfl ?_
    refine r_v3s rfl rfl (rg_56 hC) rfl (c_isThereR hC hk hi hd hn) ?_
    refine r_zeq rfl rfl (bi_r _) (fun g1 => ?_) (fun g1 => ?_)
    · refine r_ic rfl ?_
      exact r_ret rfl rfl hQ
    · refine r_il rfl rfl ?_
      refine r_ic rfl ?_
      refine r_si rfl (by decide) ?_
      refine r_s3s rfl rfl rfl (c_in hN (by decide) (by decide)) ?_
      refine r_zne rfl rfl (bi_r _) (fun g2 => ?_) (fun g2 => ?_)
      · rw [bi_1 g1, bi_1 g2] at hb
        cases hb
      · refine r_ic rfl ?_
        exact r_ret rfl rfl hQ
  obtain ⟨r, h1, h2⟩ := rn_S (vs := [.ref 56, iv (k), iv (i), iv (n)]) (Q := fun r => r = (some (iv (-1)), (C ++ rL (ro_ (0 : Int) tr db sn dm sm ty nx tk pl va fa lr ri) s kp ik tn de sd dd sr tx pa))) rfl (rn_up (N := 1000) (M := mm_fuel) (by decide) (main (fun r => r = (some (iv (-1)), (C ++ rL (ro_ (0 : Int) tr db sn dm sm ty nx tk pl va fa lr ri) s kp ik tn de sd dd sr tx pa))) rfl))
  have h1 : sX12_pay [.ref 56, iv (k), iv (i), iv (n)] (C ++ rL (ro_ th tr db sn dm sm ty nx tk pl va fa lr ri) s kp ik tn de sd dd sr tx pa) = some r := h1
  rw [h1, h2]
theorem c_payR00 (hC : C.length = 56) (hS : SDr sd) (hE : DEr de) (hX : EXx s de sd) (hRS : RS s) (hd : 0 ≤ db ∧ db ≤ 10) (hn : 0 ≤ sn ∧ sn ≤ 16) (hi : 0 ≤ i ∧ i ≤ 9) (hN : 1 ≤ n ∧ n ≤ 999) (ht : fTH db sn 0 i = true) (hv : rOK de sd s sn 0 i n = false) : sX12_pay [.ref 56, iv (0), iv (i), iv (n)] (C ++ rL (ro_ th tr db sn dm sm ty nx tk pl va fa lr ri) s kp ik tn de sd dd sr tx pa) = some (some (iv (-2)), (C ++ rL (ro_ (0 : Int) tr db sn dm sm ty nx tk pl va fa lr ri) s kp ik tn de sd dd sr tx pa)) := by
  have main : ∀ Q : mm_R → Prop, Q (some (iv (-2)), (C ++ rL (ro_ (0 : Int) tr db sn dm sm ty nx tk pl va fa lr ri) s kp ik tn de sd dd sr tx pa)) → rn_X12_pay (9000) (0, [(0, .ref 56), (1, iv (0)), (2, iv (i)), (3, iv (n))], [], (C ++ rL (ro_ th tr db sn dm sm ty nx tk pl va fa lr ri) s kp ik tn de sd dd sr tx pa)) Q := by
    intro Q hQ
    have rd := hi
    have rp := (de_r hE rd).1
    have rt' := (de_r hE rd).2.1
    have bp := hRS.2 (Int.toNat (122 + (de (Int.toNat (3 * i))).toInt)) (by omega) (by omega)
    have bt' := hRS.2 (Int.toNat (122 + (de (Int.toNat (3 * i + 1))).toInt)) (by omega) (by omega)
    unfold i7 at bp bt'
    have as := fAS_r (sn := sn) (k := 0) (i := i) hRS hE hS (by omega)
    have h13 : i3 n 1 999 = true := by simp [i3]; omega
    refine r_al rfl rfl ?_
    refine r_ic rfl ?_
    refine r_pf rfl rfl (rg_56 hC) rfl (rp_th hC) ?_
    refine r_al rfl rfl ?_
    refine r_il rfl rfl ?_
    refine r_il rfl rfl ?_
    refine r_v3s rfl rfl (rg_56 hC) rfl (c_isThereR hC (by decide) (by omega) hd hn) ?_
    rw [ht]
    refine r_zeq rfl rfl (bi_r _) (fun g1 => ?_) (fun g1 => ?_)
    · exact absurd g1 (by decide)
    · refine r_il rfl rfl ?_
      refine r_ic rfl ?_
      refine r_si rfl (by decide) ?_
      refine r_s3s rfl rfl rfl (c_in (by omega) (by decide) (by decide)) ?_
      rw [h13]
      refine r_zne rfl rfl (bi_r _) (fun g2 => ?_) (fun g2 => ?_)
      · refine r_il rfl rfl ?_
        refine r_ic rfl ?_
        refine r_cne rfl rfl (by decide) (by decide) (fun g3 => ?_) (fun g3 => ?_)
        · refine r_il rfl rfl ?_
          refine r_isw (lv' := [(4, _), (0, _), (1, _), (2, _), (3, _)]) rfl rfl rfl ?_
          refine r_il rfl rfl ?_
          refine r_ic rfl ?_
          refine r_cne rfl rfl (by decide) (by decide) (fun g4 => ?_) (fun g4 => ?_)
          · refine r_al rfl rfl ?_
            refine r_gf rfl rfl (rg_56 hC) rfl ?_
            refine r_ic rfl ?_
            refine r_ilw rfl rfl ?_
            refine r_mul rfl ?_
            refine r_ia rfl (rg_61 hC) (by omega) (by omega) (by decide) ?_
            refine r_isw (lv' := [(5, _), (4, _), (0, _), (1, _), (2, _), (3, _)]) rfl rfl rfl ?_
            refine r_al rfl rfl ?_
            refine r_gf rfl rfl (rg_56 hC) rfl ?_
            refine r_ic rfl ?_
            refine r_ilw rfl rfl ?_
            refine r_mul rfl ?_
            refine r_ic rfl ?_
            refine r_add rfl ?_
            refine r_ia rfl (rg_61 hC) (by omega) (by omega) (by decide) ?_
            refine r_isw (lv' := [(6, _), (5, _), (4, _), (0, _), (1, _), (2, _), (3, _)]) rfl rfl rfl ?_
            refine r_il rfl rfl ?_
            refine r_al rfl rfl ?_
            refine r_il rfl rfl ?_
            refine r_il rfl rfl ?_
            refine r_v3s rfl rfl (rg_56 hC) rfl (c_askedR hC (by omega) hS hE hX hRS hn) ?_
            refine r_cgt rfl rfl (by omega) as (fun g5 => ?_) (fun g5 => ?_)
            · refine r_bi rfl (by decide) ?_
              exact r_ret rfl rfl hQ
            · refine r_il rfl rfl ?_
              refine r_al rfl rfl ?_
              refine r_gf rfl rfl (rg_56 hC) rfl ?_
              refine r_bi rfl (by decide) ?_
              refine r_ilw rfl rfl ?_
              refine r_add rfl ?_
              refine r_ia rfl (rg_57 hC) (by omega) (by omega) (by decide) ?_
              refine r_cgt rfl rfl (by omega) (by omega) (fun g6 => ?_) (fun g6 => ?_)
              · refine r_bi rfl (by decide) ?_
                exact r_ret rfl rfl hQ
              · refine r_ilw rfl rfl ?_
                refine r_ilw rfl rfl ?_
                refine r_ceq rfl rfl (by omega) (by omega) (fun g7 => ?_) (fun g7 => ?_)
                · exfalso
                  have e : rOK de sd s sn 0 i n = true := by unfold rOK; rw [show rPv de sd 0 i = (de (Int.toNat (3 * i))).toInt from rfl, show rDv sd 0 i = i from rfl, decide_eq_true g5, decide_eq_true g6, decide_eq_true g7]; rfl
                  rw [e] at hv
                  cases hv
                · refine r_al rfl rfl ?_
                  refine r_gf rfl rfl (rg_56 hC) rfl ?_
                  refine r_bi rfl (by decide) ?_
                  refine r_ilw rfl rfl ?_
                  refine r_add rfl ?_
                  refine r_ia rfl (rg_57 hC) (by omega) (by omega) (by decide) ?_
                  refine r_il rfl rfl ?_
                  refine r_add rfl ?_
                  refine r_si rfl (by decide) ?_
                  refine r_cle rfl rfl (by omega) (by omega) (fun g8 => ?_) (fun g8 => ?_)
                  · exfalso
                    have e : rOK de sd s sn 0 i n = true := by unfold rOK; rw [show rPv de sd 0 i = (de (Int.toNat (3 * i))).toInt from rfl, show rDv sd 0 i = i from rfl, decide_eq_true g5, decide_eq_true g6, decide_eq_false g7, decide_eq_true g8]; rfl
                    rw [e] at hv
                    cases hv
                  · refine r_bi rfl (by decide) ?_
                    exact r_ret rfl rfl hQ
          · exact absurd g4 (by decide)
        · exact absurd g3 (by decide)
      · exact absurd g2 (by decide)
  obtain ⟨r, h1, h2⟩ := rn_S (vs := [.ref 56, iv (0), iv (i), iv (n)]) (Q := fun r => r = (some (iv (-2)), (C ++ rL (ro_ (0 : Int) tr db sn dm sm ty nx tk pl va fa lr ri) s kp ik tn de sd dd sr tx pa))) rfl (rn_up (N := 9000) (M := mm_fuel) (by decide) (main (fun r => r = (some (iv (-2)), (C ++ rL (ro_ (0 : Int) tr db sn dm sm ty nx tk pl va fa lr ri) s kp ik tn de sd dd sr tx pa))) rfl))
  have h1 : sX12_pay [.ref 56, iv (0), iv (i), iv (n)] (C ++ rL (ro_ th tr db sn dm sm ty nx tk pl va fa lr ri) s kp ik tn de sd dd sr tx pa) = some r := h1
  rw [h1, h2]
theorem c_payR01 (hC : C.length = 56) (hS : SDr sd) (hE : DEr de) (hX : EXx s de sd) (hRS : RS s) (hd : 0 ≤ db ∧ db ≤ 10) (hn : 0 ≤ sn ∧ sn ≤ 16) (hi : 0 ≤ i ∧ i ≤ 9) (hN : 1 ≤ n ∧ n ≤ 999) (ht : fTH db sn 0 i = true) (hv : rOK de sd s sn 0 i n = true) : sX12_pay [.ref 56, iv (0), iv (i), iv (n)] (C ++ rL (ro_ th tr db sn dm sm ty nx tk pl va fa lr ri) s kp ik tn de sd dd sr tx pa) = some (some (iv (fR de (rS5 de sd s sn 0 i n) i)), (C ++ rL (ro_ (0 : Int) tr db sn dm sm ty nx tk pl va fa lr ri) (rS5 de sd s sn 0 i n) kp ik tn de sd dd sr tx pa)) := by
  have main : ∀ Q : mm_R → Prop, Q (some (iv (fR de (rS5 de sd s sn 0 i n) i)), (C ++ rL (ro_ (0 : Int) tr db sn dm sm ty nx tk pl va fa lr ri) (rS5 de sd s sn 0 i n) kp ik tn de sd dd sr tx pa)) → rn_X12_pay (9000) (0, [(0, .ref 56), (1, iv (0)), (2, iv (i)), (3, iv (n))], [], (C ++ rL (ro_ th tr db sn dm sm ty nx tk pl va fa lr ri) s kp ik tn de sd dd sr tx pa)) Q := by
    intro Q hQ
    have rd := hi
    have rp := (de_r hE rd).1
    have rt' := (de_r hE rd).2.1
    have bp := hRS.2 (Int.toNat (122 + (de (Int.toNat (3 * i))).toInt)) (by omega) (by omega)
    have bt' := hRS.2 (Int.toNat (122 + (de (Int.toNat (3 * i + 1))).toInt)) (by omega) (by omega)
    unfold i7 at bp bt'
    have as := fAS_r (sn := sn) (k := 0) (i := i) hRS hE hS (by omega)
    have h13 : i3 n 1 999 = true := by simp [i3]; omega
    refine r_al rfl rfl ?_
    refine r_ic rfl ?_
    refine r_pf rfl rfl (rg_56 hC) rfl (rp_th hC) ?_
    refine r_al rfl rfl ?_
    refine r_il rfl rfl ?_
    refine r_il rfl rfl ?_
    refine r_v3s rfl rfl (rg_56 hC) rfl (c_isThereR hC (by decide) (by omega) hd hn) ?_
    rw [ht]
    refine r_zeq rfl rfl (bi_r _) (fun g1 => ?_) (fun g1 => ?_)
    · exact absurd g1 (by decide)
    · refine r_il rfl rfl ?_
      refine r_ic rfl ?_
      refine r_si rfl (by decide) ?_
      refine r_s3s rfl rfl rfl (c_in (by omega) (by decide) (by decide)) ?_
      rw [h13]
      refine r_zne rfl rfl (bi_r _) (fun g2 => ?_) (fun g2 => ?_)
      · refine r_il rfl rfl ?_
        refine r_ic rfl ?_
        refine r_cne rfl rfl (by decide) (by decide) (fun g3 => ?_) (fun g3 => ?_)
        · refine r_il rfl rfl ?_
          refine r_isw (lv' := [(4, _), (0, _), (1, _), (2, _), (3, _)]) rfl rfl rfl ?_
          refine r_il rfl rfl ?_
          refine r_ic rfl ?_
          refine r_cne rfl rfl (by decide) (by decide) (fun g4 => ?_) (fun g4 => ?_)
          · refine r_al rfl rfl ?_
            refine r_gf rfl rfl (rg_56 hC) rfl ?_
            refine r_ic rfl ?_
            refine r_ilw rfl rfl ?_
            refine r_mul rfl ?_
            refine r_ia rfl (rg_61 hC) (by omega) (by omega) (by decide) ?_
            refine r_isw (lv' := [(5, _), (4, _), (0, _), (1, _), (2, _), (3, _)]) rfl rfl rfl ?_
            refine r_al rfl rfl ?_
            refine r_gf rfl rfl (rg_56 hC) rfl ?_
            refine r_ic rfl ?_
            refine r_ilw rfl rfl ?_
            refine r_mul rfl ?_
            refine r_ic rfl ?_
            refine r_add rfl ?_
            refine r_ia rfl (rg_61 hC) (by omega) (by omega) (by decide) ?_
            refine r_isw (lv' := [(6, _), (5, _), (4, _), (0, _), (1, _), (2, _), (3, _)]) rfl rfl rfl ?_
            refine r_il rfl rfl ?_
            refine r_al rfl rfl ?_
            refine r_il rfl rfl ?_
            refine r_il rfl rfl ?_
            refine r_v3s rfl rfl (rg_56 hC) rfl (c_askedR hC (by omega) hS hE hX hRS hn) ?_
            refine r_cgt rfl rfl (by omega) as (fun g5 => ?_) (fun g5 => ?_)
            · exfalso
              have e : rOK de sd s sn 0 i n = false := by unfold rOK; rw [show rPv de sd 0 i = (de (Int.toNat (3 * i))).toInt from rfl, show rDv sd 0 i = i from rfl, decide_eq_false (show ¬ n ≤ fAS de sd s sn 0 i by omega)]; rfl
              rw [e] at hv
              cases hv
            · refine r_il rfl rfl ?_
              refine r_al rfl rfl ?_
              refine r_gf rfl rfl (rg_56 hC) rfl ?_
              refine r_bi rfl (by decide) ?_
              refine r_ilw rfl rfl ?_
              refine r_add rfl ?_
              refine r_ia rfl (rg_57 hC) (by omega) (by omega) (by decide) ?_
              refine r_cgt rfl rfl (by omega) (by omega) (fun g6 => ?_) (fun g6 => ?_)
              · exfalso
                have e : rOK de sd s sn 0 i n = false := by unfold rOK; rw [show rPv de sd 0 i = (de (Int.toNat (3 * i))).toInt from rfl, show rDv sd 0 i = i from rfl, decide_eq_true g5, decide_eq_false (Int.not_le.mpr g6)]; rfl
                rw [e] at hv
                cases hv
              · refine r_ilw rfl rfl ?_
                refine r_ilw rfl rfl ?_
                refine r_ceq rfl rfl (by omega) (by omega) (fun g7 => ?_) (fun g7 => ?_)
                · have hcc : (de (Int.toNat (3 * i))).toInt = (de (Int.toNat (3 * i + 1))).toInt ∨ (s (Int.toNat (122 + (de (Int.toNat (3 * i + 1))).toInt))).toInt + n ≤ 9999 := Or.inl g7
                  refine r_al rfl rfl ?_
                  refine r_gf rfl rfl (rg_56 hC) rfl ?_
                  refine r_bi rfl (by decide) ?_
                  refine r_ilw rfl rfl ?_
                  refine r_add rfl ?_
                  refine r_dup2 rfl rfl rfl ?_
                  refine r_ia rfl (rg_57 hC) (by omega) (by omega) (by decide) ?_
                  refine r_il rfl rfl ?_
                  refine r_sub rfl ?_
                  refine r_ias rfl (rg_57 hC) (by omega) (by omega) (by decide) (rs_57 hC) ?_
                  refine r_al rfl rfl ?_
                  refine r_gf rfl rfl (rg_56 hC) rfl ?_
                  refine r_bi rfl (by decide) ?_
                  refine r_ilw rfl rfl ?_
                  refine r_add rfl ?_
                  refine r_dup2 rfl rfl rfl ?_
                  refine r_ia rfl (rg_57 hC) (by omega) (by omega) (by decide) ?_
                  refine r_il rfl rfl ?_
                  refine r_add rfl ?_
                  refine r_ias rfl (rg_57 hC) (by omega) (by omega) (by decide) (rs_57 hC) ?_
                  refine r_al rfl rfl ?_
                  refine r_gf rfl rfl (rg_56 hC) rfl ?_
                  refine r_ic rfl ?_
                  refine r_ilw rfl rfl ?_
                  refine r_add rfl ?_
                  refine r_dup2 rfl rfl rfl ?_
                  refine r_ia rfl (rg_57 hC) (by omega) (by omega) (by decide) ?_
                  refine r_il rfl rfl ?_
                  refine r_add rfl ?_
                  refine r_ias rfl (rg_57 hC) (by omega) (by omega) (by decide) (rs_57 hC) ?_
                  refine r_il rfl rfl ?_
                  refine r_ic rfl ?_
                  refine r_cne rfl rfl (by decide) (by decide) (fun g9 => ?_) (fun g9 => ?_)
                  · refine r_al rfl rfl ?_
                    refine r_ilw rfl rfl ?_
                    refine r_v2s rfl rfl (rg_56 hC) rfl (c_restR hC rd) ?_
                    exact r_ret rfl rfl hQ
                  · exact absurd g9 (by decide)
                · refine r_al rfl rfl ?_
                  refine r_gf rfl rfl (rg_56 hC) rfl ?_
                  refine r_bi rfl (by decide) ?_
                  refine r_ilw rfl rfl ?_
                  refine r_add rfl ?_
                  refine r_ia rfl (rg_57 hC) (by omega) (by omega) (by decide) ?_
                  refine r_il rfl rfl ?_
                  refine r_add rfl ?_
                  refine r_si rfl (by decide) ?_
                  refine r_cle rfl rfl (by omega) (by omega) (fun g8 => ?_) (fun g8 => ?_)
                  · have hcc : (de (Int.toNat (3 * i))).toInt = (de (Int.toNat (3 * i + 1))).toInt ∨ (s (Int.toNat (122 + (de (Int.toNat (3 * i + 1))).toInt))).toInt + n ≤ 9999 := Or.inr g8
                    refine r_al rfl rfl ?_
                    refine r_gf rfl rfl (rg_56 hC) rfl ?_
                    refine r_bi rfl (by decide) ?_
                    refine r_ilw rfl rfl ?_
                    refine r_add rfl ?_
                    refine r_dup2 rfl rfl rfl ?_
                    refine r_ia rfl (rg_57 hC) (by omega) (by omega) (by decide) ?_
                    refine r_il rfl rfl ?_
                    refine r_sub rfl ?_
                    refine r_ias rfl (rg_57 hC) (by omega) (by omega) (by decide) (rs_57 hC) ?_
                    refine r_al rfl rfl ?_
                    refine r_gf rfl rfl (rg_56 hC) rfl ?_
                    refine r_bi rfl (by decide) ?_
                    refine r_ilw rfl rfl ?_
                    refine r_add rfl ?_
                    refine r_dup2 rfl rfl rfl ?_
                    refine r_ia rfl (rg_57 hC) (by omega) (by omega) (by decide) ?_
                    refine r_il rfl rfl ?_
                    refine r_add rfl ?_
                    refine r_ias rfl (rg_57 hC) (by omega) (by omega) (by decide) (rs_57 hC) ?_
                    refine r_al rfl rfl ?_
                    refine r_gf rfl rfl (rg_56 hC) rfl ?_
                    refine r_ic rfl ?_
                    refine r_ilw rfl rfl ?_
                    refine r_add rfl ?_
                    refine r_dup2 rfl rfl rfl ?_
                    refine r_ia rfl (rg_57 hC) (by omega) (by omega) (by decide) ?_
                    refine r_il rfl rfl ?_
                    refine r_add rfl ?_
                    refine r_ias rfl (rg_57 hC) (by omega) (by omega) (by decide) (rs_57 hC) ?_
                    refine r_il rfl rfl ?_
                    refine r_ic rfl ?_
                    refine r_cne rfl rfl (by decide) (by decide) (fun g9 => ?_) (fun g9 => ?_)
                    · refine r_al rfl rfl ?_
                      refine r_ilw rfl rfl ?_
                      refine r_v2s rfl rfl (rg_56 hC) rfl (c_restR hC rd) ?_
                      exact r_ret rfl rfl hQ
                    · exact absurd g9 (by decide)
                  · exfalso
                    have e : rOK de sd s sn 0 i n = false := by unfold rOK; rw [show rPv de sd 0 i = (de (Int.toNat (3 * i))).toInt from rfl, show rDv sd 0 i = i from rfl, decide_eq_true g5, decide_eq_true g6, decide_eq_false g7, decide_eq_false (Int.not_le.mpr g8)]; rfl
                    rw [e] at hv
                    cases hv
          · exact absurd g4 (by decide)
        · exact absurd g3 (by decide)
      · exact absurd g2 (by decide)
  obtain ⟨r, h1, h2⟩ := rn_S (vs := [.ref 56, iv (0), iv (i), iv (n)]) (Q := fun r => r = (some (iv (fR de (rS5 de sd s sn 0 i n) i)), (C ++ rL (ro_ (0 : Int) tr db sn dm sm ty nx tk pl va fa lr ri) (rS5 de sd s sn 0 i n) kp ik tn de sd dd sr tx pa))) rfl (rn_up (N := 9000) (M := mm_fuel) (by decide) (main (fun r => r = (some (iv (fR de (rS5 de sd s sn 0 i n) i)), (C ++ rL (ro_ (0 : Int) tr db sn dm sm ty nx tk pl va fa lr ri) (rS5 de sd s sn 0 i n) kp ik tn de sd dd sr tx pa))) rfl))
  have h1 : sX12_pay [.ref 56, iv (0), iv (i), iv (n)] (C ++ rL (ro_ th tr db sn dm sm ty nx tk pl va fa lr ri) s kp ik tn de sd dd sr tx pa) = some r := h1
  rw [h1, h2]
theorem c_payR10 (hC : C.length = 56) (hS : SDr sd) (hE : DEr de) (hX : EXx s de sd) (hRS : RS s) (hd : 0 ≤ db ∧ db ≤ 10) (hn : 0 ≤ sn ∧ sn ≤ 16) (hi : 0 ≤ i ∧ i ≤ 15) (hN : 1 ≤ n ∧ n ≤ 999) (ht : fTH db sn 1 i = true) (hv : rOK de sd s sn 1 i n = false) : sX12_pay [.ref 56, iv (1), iv (i), iv (n)] (C ++ rL (ro_ th tr db sn dm sm ty nx tk pl va fa lr ri) s kp ik tn de sd dd sr tx pa) = some (some (iv (-2)), (C ++ rL (ro_ (0 : Int) tr db sn dm sm ty nx tk pl va fa lr ri) s kp ik tn de sd dd sr tx pa)) := by
  have main : ∀ Q : mm_R → Prop, Q (some (iv (-2)), (C ++ rL (ro_ (0 : Int) tr db sn dm sm ty nx tk pl va fa lr ri) s kp ik tn de sd dd sr tx pa)) → rn_X12_pay (9000) (0, [(0, .ref 56), (1, iv (1)), (2, iv (i)), (3, iv (n))], [], (C ++ rL (ro_ th tr db sn dm sm ty nx tk pl va fa lr ri) s kp ik tn de sd dd sr tx pa)) Q := by
    intro Q hQ
    have rp := (sd_r hS hi).1
    have rd := (sd_r hS hi).2.1
    have rt' := (de_r hE rd).2.1
    have bp := hRS.2 (Int.toNat (122 + (sd (Int.toNat (5 * i))).toInt)) (by omega) (by omega)
    have bt' := hRS.2 (Int.toNat (122 + (de (Int.toNat (3 * (sd (Int.toNat (5 * i + 1))).toInt + 1))).toInt)) (by omega) (by omega)
    unfold i7 at bp bt'
    have as := fAS_r (sn := sn) (k := 1) (i := i) hRS hE hS (by omega)
    have h13 : i3 n 1 999 = true := by simp [i3]; omega
    refine r_al rfl rfl ?_
    refine r_ic rfl ?_
    refine r_pf rfl rfl (rg_56 hC) rfl (rp_th hC) ?_
    refine r_al rfl rfl ?_
    refine r_il rfl rfl ?_
    refine r_il rfl rfl ?_
    refine r_v3s rfl rfl (rg_56 hC) rfl (c_isThereR hC (by decide) (by omega) hd hn) ?_
    rw [ht]
    refine r_zeq rfl rfl (bi_r _) (fun g1 => ?_) (fun g1 => ?_)
    · exact absurd g1 (by decide)
    · refine r_il rfl rfl ?_
      refine r_ic rfl ?_
      refine r_si rfl (by decide) ?_
      refine r_s3s rfl rfl rfl (c_in (by omega) (by decide) (by decide)) ?_
      rw [h13]
      refine r_zne rfl rfl (bi_r _) (fun g2 => ?_) (fun g2 => ?_)
      · refine r_il rfl rfl ?_
        refine r_ic rfl ?_
        refine r_cne rfl rfl (by decide) (by decide) (fun g3 => ?_) (fun g3 => ?_)
        · exact absurd rfl g3
        · refine r_al rfl rfl ?_
          refine r_gf rfl rfl (rg_56 hC) rfl ?_
          refine r_ic rfl ?_
          refine r_il rfl rfl ?_
          refine r_mul rfl ?_
          refine r_ic rfl ?_
          refine r_add rfl ?_
          refine r_ia rfl (rg_62 hC) (by omega) (by omega) (by decide) ?_
          refine r_goto rfl rfl ?_
          refine r_isw (lv' := [(4, _), (0, _), (1, _), (2, _), (3, _)]) rfl rfl rfl ?_
          refine r_il rfl rfl ?_
          refine r_ic rfl ?_
          refine r_cne rfl rfl (by decide) (by decide) (fun g4 => ?_) (fun g4 => ?_)
          · exact absurd rfl g4
          · refine r_al rfl rfl ?_
            refine r_gf rfl rfl (rg_56 hC) rfl ?_
            refine r_ic rfl ?_
            refine r_il rfl rfl ?_
            refine r_mul rfl ?_
            refine r_ia rfl (rg_62 hC) (by omega) (by omega) (by decide) ?_
            refine r_goto rfl rfl ?_
            refine r_isw (lv' := [(5, _), (4, _), (0, _), (1, _), (2, _), (3, _)]) rfl rfl rfl ?_
            refine r_al rfl rfl ?_
            refine r_gf rfl rfl (rg_56 hC) rfl ?_
            refine r_ic rfl ?_
            refine r_ilw rfl rfl ?_
            refine r_mul rfl ?_
            refine r_ic rfl ?_
            refine r_add rfl ?_
            refine r_ia rfl (rg_61 hC) (by omega) (by omega) (by decide) ?_
            refine r_isw (lv' := [(6, _), (5, _), (4, _), (0, _), (1, _), (2, _), (3, _)]) rfl rfl rfl ?_
            refine r_il rfl rfl ?_
            refine r_al rfl rfl ?_
            refine r_il rfl rfl ?_
            refine r_il rfl rfl ?_
            refine r_v3s rfl rfl (rg_56 hC) rfl (c_askedR hC (by omega) hS hE hX hRS hn) ?_
            refine r_cgt rfl rfl (by omega) as (fun g5 => ?_) (fun g5 => ?_)
            · refine r_bi rfl (by decide) ?_
              exact r_ret rfl rfl hQ
            · refine r_il rfl rfl ?_
              refine r_al rfl rfl ?_
              refine r_gf rfl rfl (rg_56 hC) rfl ?_
              refine r_bi rfl (by decide) ?_
              refine r_ilw rfl rfl ?_
              refine r_add rfl ?_
              refine r_ia rfl (rg_57 hC) (by omega) (by omega) (by decide) ?_
              refine r_cgt rfl rfl (by omega) (by omega) (fun g6 => ?_) (fun g6 => ?_)
              · refine r_bi rfl (by decide) ?_
                exact r_ret rfl rfl hQ
              · refine r_ilw rfl rfl ?_
                refine r_ilw rfl rfl ?_
                refine r_ceq rfl rfl (by omega) (by omega) (fun g7 => ?_) (fun g7 => ?_)
                · exfalso
                  have e : rOK de sd s sn 1 i n = true := by unfold rOK; rw [show rPv de sd 1 i = (sd (Int.toNat (5 * i))).toInt from rfl, show rDv sd 1 i = (sd (Int.toNat (5 * i + 1))).toInt from rfl, decide_eq_true g5, decide_eq_true g6, decide_eq_true g7]; rfl
                  rw [e] at hv
                  cases hv
                · refine r_al rfl rfl ?_
                  refine r_gf rfl rfl (rg_56 hC) rfl ?_
                  refine r_bi rfl (by decide) ?_
                  refine r_ilw rfl rfl ?_
                  refine r_add rfl ?_
                  refine r_ia rfl (rg_57 hC) (by omega) (by omega) (by decide) ?_
                  refine r_il rfl rfl ?_
                  refine r_add rfl ?_
                  refine r_si rfl (by decide) ?_
                  refine r_cle rfl rfl (by omega) (by omega) (fun g8 => ?_) (fun g8 => ?_)
                  · exfalso
                    have e : rOK de sd s sn 1 i n = true := by unfold rOK; rw [show rPv de sd 1 i = (sd (Int.toNat (5 * i))).toInt from rfl, show rDv sd 1 i = (sd (Int.toNat (5 * i + 1))).toInt from rfl, decide_eq_true g5, decide_eq_true g6, decide_eq_false g7, decide_eq_true g8]; rfl
                    rw [e] at hv
                    cases hv
                  · refine r_bi rfl (by decide) ?_
                    exact r_ret rfl rfl hQ
      · exact absurd g2 (by decide)
  obtain ⟨r, h1, h2⟩ := rn_S (vs := [.ref 56, iv (1), iv (i), iv (n)]) (Q := fun r => r = (some (iv (-2)), (C ++ rL (ro_ (0 : Int) tr db sn dm sm ty nx tk pl va fa lr ri) s kp ik tn de sd dd sr tx pa))) rfl (rn_up (N := 9000) (M := mm_fuel) (by decide) (main (fun r => r = (some (iv (-2)), (C ++ rL (ro_ (0 : Int) tr db sn dm sm ty nx tk pl va fa lr ri) s kp ik tn de sd dd sr tx pa))) rfl))
  have h1 : sX12_pay [.ref 56, iv (1), iv (i), iv (n)] (C ++ rL (ro_ th tr db sn dm sm ty nx tk pl va fa lr ri) s kp ik tn de sd dd sr tx pa) = some r := h1
  rw [h1, h2]
theorem c_payR11 (hC : C.length = 56) (hS : SDr sd) (hE : DEr de) (hX : EXx s de sd) (hRS : RS s) (hd : 0 ≤ db ∧ db ≤ 10) (hn : 0 ≤ sn ∧ sn ≤ 16) (hi : 0 ≤ i ∧ i ≤ 15) (hN : 1 ≤ n ∧ n ≤ 999) (ht : fTH db sn 1 i = true) (hv : rOK de sd s sn 1 i n = true) : sX12_pay [.ref 56, iv (1), iv (i), iv (n)] (C ++ rL (ro_ th tr db sn dm sm ty nx tk pl va fa lr ri) s kp ik tn de sd dd sr tx pa) = some (some (iv (fR de (rS5 de sd s sn 1 i n) (sd (Int.toNat (5 * i + 1))).toInt)), (C ++ rL (ro_ (0 : Int) tr db sn dm sm ty nx tk pl va fa lr ri) (rS5 de sd s sn 1 i n) kp ik tn de sd dd sr tx pa)) := by
  have main : ∀ Q : mm_R → Prop, Q (some (iv (fR de (rS5 de sd s sn 1 i n) (sd (Int.toNat (5 * i + 1))).toInt)), (C ++ rL (ro_ (0 : Int) tr db sn dm sm ty nx tk pl va fa lr ri) (rS5 de sd s sn 1 i n) kp ik tn de sd dd sr tx pa)) → rn_X12_pay (9000) (0, [(0, .ref 56), (1, iv (1)), (2, iv (i)), (3, iv (n))], [], (C ++ rL (ro_ th tr db sn dm sm ty nx tk pl va fa lr ri) s kp ik tn de sd dd sr tx pa)) Q := by
    intro Q hQ
    have rp := (sd_r hS hi).1
    have rd := (sd_r hS hi).2.1
    have rt' := (de_r hE rd).2.1
    have bp := hRS.2 (Int.toNat (122 + (sd (Int.toNat (5 * i))).toInt)) (by omega) (by omega)
    have bt' := hRS.2 (Int.toNat (122 + (de (Int.toNat (3 * (sd (Int.toNat (5 * i + 1))).toInt + 1))).toInt)) (by omega) (by omega)
    unfold i7 at bp bt'
    have as := fAS_r (sn := sn) (k := 1) (i := i) hRS hE hS (by omega)
    have h13 : i3 n 1 999 = true := by simp [i3]; omega
    refine r_al rfl rfl ?_
    refine r_ic rfl ?_
    refine r_pf rfl rfl (rg_56 hC) rfl (rp_th hC) ?_
    refine r_al rfl rfl ?_
    refine r_il rfl rfl ?_
    refine r_il rfl rfl ?_
    refine r_v3s rfl rfl (rg_56 hC) rfl (c_isThereR hC (by decide) (by omega) hd hn) ?_
    rw [ht]
    refine r_zeq rfl rfl (bi_r _) (fun g1 => ?_) (fun g1 => ?_)
    · exact absurd g1 (by decide)
    · refine r_il rfl rfl ?_
      refine r_ic rfl ?_
      refine r_si rfl (by decide) ?_
      refine r_s3s rfl rfl rfl (c_in (by omega) (by decide) (by decide)) ?_
      rw [h13]
      refine r_zne rfl rfl (bi_r _) (fun g2 => ?_) (fun g2 => ?_)
      · refine r_il rfl rfl ?_
        refine r_ic rfl ?_
        refine r_cne rfl rfl (by decide) (by decide) (fun g3 => ?_) (fun g3 => ?_)
        · exact absurd rfl g3
        · refine r_al rfl rfl ?_
          refine r_gf rfl rfl (rg_56 hC) rfl ?_
          refine r_ic rfl ?_
          refine r_il rfl rfl ?_
          refine r_mul rfl ?_
          refine r_ic rfl ?_
          refine r_add rfl ?_
          refine r_ia rfl (rg_62 hC) (by omega) (by omega) (by decide) ?_
          refine r_goto rfl rfl ?_
          refine r_isw (lv' := [(4, _), (0, _), (1, _), (2, _), (3, _)]) rfl rfl rfl ?_
          refine r_il rfl rfl ?_
          refine r_ic rfl ?_
          refine r_cne rfl rfl (by decide) (by decide) (fun g4 => ?_) (fun g4 => ?_)
          · exact absurd rfl g4
          · refine r_al rfl rfl ?_
            refine r_gf rfl rfl (rg_56 hC) rfl ?_
            refine r_ic rfl ?_
            refine r_il rfl rfl ?_
            refine r_mul rfl ?_
            refine r_ia rfl (rg_62 hC) (by omega) (by omega) (by decide) ?_
            refine r_goto rfl rfl ?_
            refine r_isw (lv' := [(5, _), (4, _), (0, _), (1, _), (2, _), (3, _)]) rfl rfl rfl ?_
            refine r_al rfl rfl ?_
            refine r_gf rfl rfl (rg_56 hC) rfl ?_
            refine r_ic rfl ?_
            refine r_ilw rfl rfl ?_
            refine r_mul rfl ?_
            refine r_ic rfl ?_
            refine r_add rfl ?_
            refine r_ia rfl (rg_61 hC) (by omega) (by omega) (by decide) ?_
            refine r_isw (lv' := [(6, _), (5, _), (4, _), (0, _), (1, _), (2, _), (3, _)]) rfl rfl rfl ?_
            refine r_il rfl rfl ?_
            refine r_al rfl rfl ?_
            refine r_il rfl rfl ?_
            refine r_il rfl rfl ?_
            refine r_v3s rfl rfl (rg_56 hC) rfl (c_askedR hC (by omega) hS hE hX hRS hn) ?_
            refine r_cgt rfl rfl (by omega) as (fun g5 => ?_) (fun g5 => ?_)
            · exfalso
              have e : rOK de sd s sn 1 i n = false := by unfold rOK; rw [show rPv de sd 1 i = (sd (Int.toNat (5 * i))).toInt from rfl, show rDv sd 1 i = (sd (Int.toNat (5 * i + 1))).toInt from rfl, decide_eq_false (show ¬ n ≤ fAS de sd s sn 1 i by omega)]; rfl
              rw [e] at hv
              cases hv
            · refine r_il rfl rfl ?_
              refine r_al rfl rfl ?_
              refine r_gf rfl rfl (rg_56 hC) rfl ?_
              refine r_bi rfl (by decide) ?_
              refine r_ilw rfl rfl ?_
              refine r_add rfl ?_
              refine r_ia rfl (rg_57 hC) (by omega) (by omega) (by decide) ?_
              refine r_cgt rfl rfl (by omega) (by omega) (fun g6 => ?_) (fun g6 => ?_)
              · exfalso
                have e : rOK de sd s sn 1 i n = false := by unfold rOK; rw [show rPv de sd 1 i = (sd (Int.toNat (5 * i))).toInt from rfl, show rDv sd 1 i = (sd (Int.toNat (5 * i + 1))).toInt from rfl, decide_eq_true g5, decide_eq_false (Int.not_le.mpr g6)]; rfl
                rw [e] at hv
                cases hv
              · refine r_ilw rfl rfl ?_
                refine r_ilw rfl rfl ?_
                refine r_ceq rfl rfl (by omega) (by omega) (fun g7 => ?_) (fun g7 => ?_)
                · have hcc : (sd (Int.toNat (5 * i))).toInt = (de (Int.toNat (3 * (sd (Int.toNat (5 * i + 1))).toInt + 1))).toInt ∨ (s (Int.toNat (122 + (de (Int.toNat (3 * (sd (Int.toNat (5 * i + 1))).toInt + 1))).toInt))).toInt + n ≤ 9999 := Or.inl g7
                  refine r_al rfl rfl ?_
                  refine r_gf rfl rfl (rg_56 hC) rfl ?_
                  refine r_bi rfl (by decide) ?_
                  refine r_ilw rfl rfl ?_
                  refine r_add rfl ?_
                  refine r_dup2 rfl rfl rfl ?_
                  refine r_ia rfl (rg_57 hC) (by omega) (by omega) (by decide) ?_
                  refine r_il rfl rfl ?_
                  refine r_sub rfl ?_
                  refine r_ias rfl (rg_57 hC) (by omega) (by omega) (by decide) (rs_57 hC) ?_
                  refine r_al rfl rfl ?_
                  refine r_gf rfl rfl (rg_56 hC) rfl ?_
                  refine r_bi rfl (by decide) ?_
                  refine r_ilw rfl rfl ?_
                  refine r_add rfl ?_
                  refine r_dup2 rfl rfl rfl ?_
                  refine r_ia rfl (rg_57 hC) (by omega) (by omega) (by decide) ?_
                  refine r_il rfl rfl ?_
                  refine r_add rfl ?_
                  refine r_ias rfl (rg_57 hC) (by omega) (by omega) (by decide) (rs_57 hC) ?_
                  refine r_al rfl rfl ?_
                  refine r_gf rfl rfl (rg_56 hC) rfl ?_
                  refine r_ic rfl ?_
                  refine r_ilw rfl rfl ?_
                  refine r_add rfl ?_
                  refine r_dup2 rfl rfl rfl ?_
                  refine r_ia rfl (rg_57 hC) (by omega) (by omega) (by decide) ?_
                  refine r_il rfl rfl ?_
                  refine r_add rfl ?_
                  refine r_ias rfl (rg_57 hC) (by omega) (by omega) (by decide) (rs_57 hC) ?_
                  refine r_il rfl rfl ?_
                  refine r_ic rfl ?_
                  refine r_cne rfl rfl (by decide) (by decide) (fun g9 => ?_) (fun g9 => ?_)
                  · exact absurd rfl g9
                  · have hz := ps_Z hRS hE hX rp rt' rd hN (Int.le_trans g5 (fAS_1 hX hS hi)) g6 (by exact hcc)
                    have h4 := ps_i (P := Int.toNat (10 + i)) (n := n) (by omega) hz
                    have hX4 : EXx (ps2 (rS3 de sd s 1 i n) (Int.toNat (10 + i)) n) de sd := ⟨hX.1, h4.2⟩
                    refine r_al rfl rfl ?_
                    refine r_gf rfl rfl (rg_56 hC) rfl ?_
                    refine r_bi rfl (by decide) ?_
                    refine r_il rfl rfl ?_
                    refine r_add rfl ?_
                    refine r_dup2 rfl rfl rfl ?_
                    refine r_ia rfl (rg_57 hC) (by omega) (by omega) (by decide) ?_
                    refine r_il rfl rfl ?_
                    refine r_add rfl ?_
                    refine r_ias rfl (rg_57 hC) (by omega) (by omega) (by decide) (rs_57 hC) ?_
                    refine r_al rfl rfl ?_
                    refine r_il rfl rfl ?_
                    refine r_il rfl rfl ?_
                    refine r_v3n rfl rfl (rg_56 hC) rfl (c_goesBackR (s := (ps2 (rS3 de sd s 1 i n) (Int.toNat (10 + i)) n)) hC hi hN hS hE hX4 hn) ?_
                    refine r_al rfl rfl ?_
                    refine r_ilw rfl rfl ?_
                    refine r_v2s rfl rfl (rg_56 hC) rfl (c_restR hC rd) ?_
                    exact r_ret rfl rfl hQ
                · refine r_al rfl rfl ?_
                  refine r_gf rfl rfl (rg_56 hC) rfl ?_
                  refine r_bi rfl (by decide) ?_
                  refine r_ilw rfl rfl ?_
                  refine r_add rfl ?_
                  refine r_ia rfl (rg_57 hC) (by omega) (by omega) (by decide) ?_
                  refine r_il rfl rfl ?_
                  refine r_add rfl ?_
                  refine r_si rfl (by decide) ?_
                  refine r_cle rfl rfl (by omega) (by omega) (fun g8 => ?_) (fun g8 => ?_)
                  · have hcc : (sd (Int.toNat (5 * i))).toInt = (de (Int.toNat (3 * (sd (Int.toNat (5 * i + 1))).toInt + 1))).toInt ∨ (s (Int.toNat (122 + (de (Int.toNat (3 * (sd (Int.toNat (5 * i + 1))).toInt + 1))).toInt))).toInt + n ≤ 9999 := Or.inr g8
                    refine r_al rfl rfl ?_
                    refine r_gf rfl rfl (rg_56 hC) rfl ?_
                    refine r_bi rfl (by decide) ?_
                    refine r_ilw rfl rfl ?_
                    refine r_add rfl ?_
                    refine r_dup2 rfl rfl rfl ?_
                    refine r_ia rfl (rg_57 hC) (by omega) (by omega) (by decide) ?_
                    refine r_il rfl rfl ?_
                    refine r_sub rfl ?_
                    refine r_ias rfl (rg_57 hC) (by omega) (by omega) (by decide) (rs_57 hC) ?_
                    refine r_al rfl rfl ?_
                    refine r_gf rfl rfl (rg_56 hC) rfl ?_
                    refine r_bi rfl (by decide) ?_
                    refine r_ilw rfl rfl ?_
                    refine r_add rfl ?_
                    refine r_dup2 rfl rfl rfl ?_
                    refine r_ia rfl (rg_57 hC) (by omega) (by omega) (by decide) ?_
                    refine r_il rfl rfl ?_
                    refine r_add rfl ?_
                    refine r_ias rfl (rg_57 hC) (by omega) (by omega) (by decide) (rs_57 hC) ?_
                    refine r_al rfl rfl ?_
                    refine r_gf rfl rfl (rg_56 hC) rfl ?_
                    refine r_ic rfl ?_
                    refine r_ilw rfl rfl ?_
                    refine r_add rfl ?_
                    refine r_dup2 rfl rfl rfl ?_
                    refine r_ia rfl (rg_57 hC) (by omega) (by omega) (by decide) ?_
                    refine r_il rfl rfl ?_
                    refine r_add rfl ?_
                    refine r_ias rfl (rg_57 hC) (by omega) (by omega) (by decide) (rs_57 hC) ?_
                    refine r_il rfl rfl ?_
                    refine r_ic rfl ?_
                    refine r_cne rfl rfl (by decide) (by decide) (fun g9 => ?_) (fun g9 => ?_)
                    · exact absurd rfl g9
                    · have hz := ps_Z hRS hE hX rp rt' rd hN (Int.le_trans g5 (fAS_1 hX hS hi)) g6 (by exact hcc)
                      have h4 := ps_i (P := Int.toNat (10 + i)) (n := n) (by omega) hz
                      have hX4 : EXx (ps2 (rS3 de sd s 1 i n) (Int.toNat (10 + i)) n) de sd := ⟨hX.1, h4.2⟩
                      refine r_al rfl rfl ?_
                      refine r_gf rfl rfl (rg_56 hC) rfl ?_
                      refine r_bi rfl (by decide) ?_
                      refine r_il rfl rfl ?_
                      refine r_add rfl ?_
                      refine r_dup2 rfl rfl rfl ?_
                      refine r_ia rfl (rg_57 hC) (by omega) (by omega) (by decide) ?_
                      refine r_il rfl rfl ?_
                      refine r_add rfl ?_
                      refine r_ias rfl (rg_57 hC) (by omega) (by omega) (by decide) (rs_57 hC) ?_
                      refine r_al rfl rfl ?_
                      refine r_il rfl rfl ?_
                      refine r_il rfl rfl ?_
                      refine r_v3n rfl rfl (rg_56 hC) rfl (c_goesBackR (s := (ps2 (rS3 de sd s 1 i n) (Int.toNat (10 + i)) n)) hC hi hN hS hE hX4 hn) ?_
                      refine r_al rfl rfl ?_
                      refine r_ilw rfl rfl ?_
                      refine r_v2s rfl rfl (rg_56 hC) rfl (c_restR hC rd) ?_
                      exact r_ret rfl rfl hQ
                  · exfalso
                    have e : rOK de sd s sn 1 i n = false := by unfold rOK; rw [show rPv de sd 1 i = (sd (Int.toNat (5 * i))).toInt from rfl, show rDv sd 1 i = (sd (Int.toNat (5 * i + 1))).toInt from rfl, decide_eq_true g5, decide_eq_true g6, decide_eq_false g7, decide_eq_false (Int.not_le.mpr g8)]; rfl
                    rw [e] at hv
                    cases hv
      · exact absurd g2 (by decide)
  obtain ⟨r, h1, h2⟩ := rn_S (vs := [.ref 56, iv (1), iv (i), iv (n)]) (Q := fun r => r = (some (iv (fR de (rS5 de sd s sn 1 i n) (sd (Int.toNat (5 * i + 1))).toInt)), (C ++ rL (ro_ (0 : Int) tr db sn dm sm ty nx tk pl va fa lr ri) (rS5 de sd s sn 1 i n) kp ik tn de sd dd sr tx pa))) rfl (rn_up (N := 9000) (M := mm_fuel) (by decide) (main (fun r => r = (some (iv (fR de (rS5 de sd s sn 1 i n) (sd (Int.toNat (5 * i + 1))).toInt)), (C ++ rL (ro_ (0 : Int) tr db sn dm sm ty nx tk pl va fa lr ri) (rS5 de sd s sn 1 i n) kp ik tn de sd dd sr tx pa))) rfl))
  have h1 : sX12_pay [.ref 56, iv (1), iv (i), iv (n)] (C ++ rL (ro_ th tr db sn dm sm ty nx tk pl va fa lr ri) s kp ik tn de sd dd sr tx pa) = some r := h1
  rw [h1, h2]
end GB
