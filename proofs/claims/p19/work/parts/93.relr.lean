/-! ===== release: the reference, exactly ===== -/
/-- stands whole for the debt d, and isn't released -/
def isW (sd s : Nat → Int32) (d : Int) (j : Nat) : Bool := decide ((sd (Int.toNat (5 * (j : Int) + 1))).toInt = d) && (decide ((sd (Int.toNat (5 * (j : Int) + 2))).toInt = 0) && decide ((s (Int.toNat (42 + (j : Int)))).toInt = 0))
def rOt (sd s : Nat → Int32) (d : Int) : Nat → Int
  | 0 => 0
  | j + 1 => oOr (rOt sd s d j) (bif isW sd s d j then oShl 1 (j : Int) else 0)
def rMn (sd s : Nat → Int32) (d : Int) : Nat → Int
  | 0 => 0
  | j + 1 => rMn sd s d j + (bif isW sd s d j then 1 else 0)
theorem rMn_r {sd s : Nat → Int32} {d : Int} : ∀ j : Nat, 0 ≤ rMn sd s d j ∧ rMn sd s d j ≤ (j : Int)
  | 0 => by show (0 : Int) ≤ 0 ∧ (0 : Int) ≤ 0; decide
  | j + 1 => by
    have := rMn_r (sd := sd) (s := s) (d := d) j
    show 0 ≤ rMn sd s d j + (bif isW sd s d j then 1 else 0) ∧ rMn sd s d j + (bif isW sd s d j then 1 else 0) ≤ ((j + 1 : Nat) : Int)
    cases isW sd s d j <;> simp only [cond_true, cond_false] <;> omega
/-- what is let off, row by row (law 1: limits; else released) -/
def rLO (ot less law : Int) (s : Nat → Int32) : Nat → (Nat → Int32)
  | 0 => s
  | j + 1 => bif zb (Int32.ofInt ot) j then (bif decide (law = 1) then upd (rLO ot less law s j) (Int.toNat (26 + (j : Int))) (Int32.ofInt ((rLO ot less law s j (Int.toNat (26 + (j : Int)))).toInt - lsr less (rLO ot less law s j (Int.toNat (26 + (j : Int)))).toInt)) else upd (rLO ot less law s j) (Int.toNat (42 + (j : Int))) (Int32.ofInt 1)) else rLO ot less law s j
section RR
variable {C : List va_E} {tr : Int64} {th db sn dm sm ty nx tk pl va fa lr ri : Int} {s kp ik tn de sd dd sr tx pa : Nat → Int32} {i law : Int} {Q : mm_R → Prop} {N : Nat}
abbrev rn_X12_release (N : Nat) (c : mm_C) (Q : mm_R → Prop) : Prop := rn (mm_gf gLX12) (mm_pf pLX12) (mm_mv vX12_release) (mm_mv zX12_release) (mm_kc kLX12) mm_gs0 mm_rf0 mm_ro (some .int) 7 (mm_ins iX12_release) N c Q
theorem rel_lp1 (hC : C.length = 56) {n : Nat} (hn : n ≤ 16) (hi : 0 ≤ i ∧ i ≤ 15) (hlw : 1 ≤ law ∧ law ≤ 2) (k : rn_X12_release N (166, [(5, iv (((n : Nat) : Int))), (3, iv (rOt sd s (sd (Int.toNat (5 * i + 1))).toInt n)), (4, iv (rMn sd s (sd (Int.toNat (5 * i + 1))).toInt n)), (0, .ref 56), (1, iv (i)), (2, iv (law))], [], (C ++ rL (ro_ (0 : Int) tr db (n : Int) dm sm ty nx tk pl va fa lr ri) s kp ik tn de sd dd sr tx pa)) Q) : ∀ (m j : Nat), j + m = n → rn_X12_release (N + 140 * m + 140) (58, [(5, iv ((j : Int))), (3, iv (rOt sd s (sd (Int.toNat (5 * i + 1))).toInt j)), (4, iv (rMn sd s (sd (Int.toNat (5 * i + 1))).toInt j)), (0, .ref 56), (1, iv (i)), (2, iv (law))], [], (C ++ rL (ro_ (0 : Int) tr db (n : Int) dm sm ty nx tk pl va fa lr ri) s kp ik tn de sd dd sr tx pa)) Q := by
  intro m
  induction m with
  | zero =>
    intro j hj
    have hj : j = n := by omega
    subst hj
    refine rn_up (N := N + 140) (by omega) ?_
    refine r_ilw rfl rfl ?_
    refine r_al rfl rfl ?_
    refine r_gf rfl rfl (rg_56 hC) rfl ?_
    refine r_cge rfl rfl (by omega) (by omega) (fun g1 => ?_) (fun g1 => ?_)
    · exact rn_up (by omega) k
    · omega
  | succ m ih =>
    intro j hj
    obtain ⟨M, hM⟩ : ∃ M, M = N + 140 * m + 140 := ⟨_, rfl⟩
    rw [← hM] at ih
    refine rn_up (N := M + 140) (by omega) ?_
    refine r_ilw rfl rfl ?_
    refine r_al rfl rfl ?_
    refine r_gf rfl rfl (rg_56 hC) rfl ?_
    refine r_cge rfl rfl (by omega) (by omega) (fun g1 => ?_) (fun g1 => ?_)
    · omega
    · refine r_il rfl rfl ?_
      refine r_zle rfl rfl (by omega) (fun g2 => ?_) (fun g2 => ?_)
      · omega
      · refine r_al rfl rfl ?_
        refine r_gf rfl rfl (rg_56 hC) rfl ?_
        refine r_ic rfl ?_
        refine r_ilw rfl rfl ?_
        refine r_mul rfl ?_
        refine r_ic rfl ?_
        refine r_add rfl ?_
        refine r_ia rfl (rg_62 hC) (by omega) (by omega) (by decide) ?_
        refine r_al rfl rfl ?_
        refine r_gf rfl rfl (rg_56 hC) rfl ?_
        refine r_ic rfl ?_
        refine r_il rfl rfl ?_
        refine r_mul rfl ?_
        refine r_ic rfl ?_
        refine r_add rfl ?_
        refine r_ia rfl (rg_62 hC) (by omega) (by omega) (by decide) ?_
        have K : rn_X12_release (M + 60) (127, [(5, iv ((j : Int))), (3, iv (rOt sd s (sd (Int.toNat (5 * i + 1))).toInt j)), (4, iv (rMn sd s (sd (Int.toNat (5 * i + 1))).toInt j)), (0, .ref 56), (1, iv (i)), (2, iv (law))], [iv (bi (isW sd s (sd (Int.toNat (5 * i + 1))).toInt j))], (C ++ rL (ro_ (0 : Int) tr db (n : Int) dm sm ty nx tk pl va fa lr ri) s kp ik tn de sd dd sr tx pa)) Q := by
          refine r_isw (lv' := [(6, _), (5, _), (3, _), (4, _), (0, _), (1, _), (2, _)]) rfl rfl rfl ?_
          refine r_il rfl rfl ?_
          refine r_ilw rfl rfl ?_
          have K2 : rn_X12_release (M + 40) (143, [(6, iv (bi (isW sd s (sd (Int.toNat (5 * i + 1))).toInt j))), (5, iv ((j : Int))), (3, iv (rOt sd s (sd (Int.toNat (5 * i + 1))).toInt j)), (4, iv (rMn sd s (sd (Int.toNat (5 * i + 1))).toInt j)), (0, .ref 56), (1, iv (i)), (2, iv (law))], [iv ((bif isW sd s (sd (Int.toNat (5 * i + 1))).toInt j then oShl 1 (j : Int) else 0)), iv (rOt sd s (sd (Int.toNat (5 * i + 1))).toInt j)], (C ++ rL (ro_ (0 : Int) tr db (n : Int) dm sm ty nx tk pl va fa lr ri) s kp ik tn de sd dd sr tx pa)) Q := by
            refine r_or rfl ?_
            refine r_is (lv' := [(3, _), (6, _), (5, _), (4, _), (0, _), (1, _), (2, _)]) rfl rfl rfl ?_
            refine r_ilw rfl rfl ?_
            refine r_ilw rfl rfl ?_
            have K3 : rn_X12_release (M + 20) (157, [(3, iv (oOr (rOt sd s (sd (Int.toNat (5 * i + 1))).toInt j) ((bif isW sd s (sd (Int.toNat (5 * i + 1))).toInt j then oShl 1 (j : Int) else 0)))), (6, iv (bi (isW sd s (sd (Int.toNat (5 * i + 1))).toInt j))), (5, iv ((j : Int))), (4, iv (rMn sd s (sd (Int.toNat (5 * i + 1))).toInt j)), (0, .ref 56), (1, iv (i)), (2, iv (law))], [iv ((bif isW sd s (sd (Int.toNat (5 * i + 1))).toInt j then 1 else 0)), iv (rMn sd s (sd (Int.toNat (5 * i + 1))).toInt j)], (C ++ rL (ro_ (0 : Int) tr db (n : Int) dm sm ty nx tk pl va fa lr ri) s kp ik tn de sd dd sr tx pa)) Q := by
              refine r_add rfl ?_
              refine r_isw (lv' := [(4, _), (3, _), (6, _), (5, _), (0, _), (1, _), (2, _)]) rfl rfl rfl ?_
              refine r_inc (lv' := [(5, _), (4, _), (3, _), (6, _), (0, _), (1, _), (2, _)]) rfl rfl rfl rfl ?_
              refine r_goto rfl rfl ?_
              refine rn_LE (a := [(5, iv ((j : Int) + 1)), (3, iv (oOr (rOt sd s (sd (Int.toNat (5 * i + 1))).toInt j) ((bif isW sd s (sd (Int.toNat (5 * i + 1))).toInt j then oShl 1 (j : Int) else 0)))), (4, iv ((rMn sd s (sd (Int.toNat (5 * i + 1))).toInt j) + ((bif isW sd s (sd (Int.toNat (5 * i + 1))).toInt j then 1 else 0)))), (0, .ref 56), (1, iv (i)), (2, iv (law))]) ⟨(List.forall_mem_cons.mpr ⟨List.mem_cons_self, (List.forall_mem_cons.mpr ⟨(List.mem_cons_of_mem _ (List.mem_cons_of_mem _ List.mem_cons_self)), (List.forall_mem_cons.mpr ⟨(List.mem_cons_of_mem _ List.mem_cons_self), (List.forall_mem_cons.mpr ⟨(List.mem_cons_of_mem _ (List.mem_cons_of_mem _ (List.mem_cons_of_mem _ (List.mem_cons_of_mem _ List.mem_cons_self)))), (List.forall_mem_cons.mpr ⟨(List.mem_cons_of_mem _ (List.mem_cons_of_mem _ (List.mem_cons_of_mem _ (List.mem_cons_of_mem _ (List.mem_cons_of_mem _ List.mem_cons_self))))), (List.forall_mem_cons.mpr ⟨(List.mem_cons_of_mem _ (List.mem_cons_of_mem _ (List.mem_cons_of_mem _ (List.mem_cons_of_mem _ (List.mem_cons_of_mem _ (List.mem_cons_of_mem _ List.mem_cons_self)))))), (fun _ h => absurd h List.not_mem_nil)⟩)⟩)⟩)⟩)⟩)⟩), (by show List.Nodup [5, 3, 4, 0, 1, 2]; decide), (by show List.Nodup [5, 4, 3, 6, 0, 1, 2]; decide)⟩ ?_
              exact rn_up (by omega) (ih (j + 1) (by omega))
            refine r_zeq rfl rfl (bi_r _) (fun g7 => ?_) (fun g7 => ?_)
            · refine r_ic rfl ?_
              rw [bi_0 g7] at K3 ⊢
              exact rn_up (N := M + 20) (by omega) K3
            · refine r_ic rfl ?_
              refine r_goto rfl rfl ?_
              rw [bi_1 g7] at K3 ⊢
              exact rn_up (N := M + 20) (by omega) K3
          refine r_zeq rfl rfl (bi_r _) (fun g6 => ?_) (fun g6 => ?_)
          · refine r_ic rfl ?_
            rw [bi_0 g6] at K2 ⊢
            exact rn_up (N := M + 40) (by omega) K2
          · refine r_ic rfl ?_
            refine r_ilw rfl rfl ?_
            refine r_shl rfl ?_
            refine r_goto rfl rfl ?_
            rw [bi_1 g6] at K2 ⊢
            exact rn_up (N := M + 40) (by omega) K2
        refine r_cne rfl rfl (as_r _) (as_r _) (fun g3 => ?_) (fun g3 => ?_)
        · refine r_ic rfl ?_
          have e : isW sd s (sd (Int.toNat (5 * i + 1))).toInt j = false := by unfold isW; rw [decide_eq_false g3]; rfl
          rw [e] at K
          exact rn_up (N := M + 60) (by omega) K
        · refine r_al rfl rfl ?_
          refine r_gf rfl rfl (rg_56 hC) rfl ?_
          refine r_ic rfl ?_
          refine r_ilw rfl rfl ?_
          refine r_mul rfl ?_
          refine r_ic rfl ?_
          refine r_add rfl ?_
          refine r_ia rfl (rg_62 hC) (by omega) (by omega) (by decide) ?_
          refine r_zne rfl rfl (as_r _) (fun g4 => ?_) (fun g4 => ?_)
          · refine r_ic rfl ?_
            have e : isW sd s (sd (Int.toNat (5 * i + 1))).toInt j = false := by unfold isW; rw [decide_eq_true g3, decide_eq_false g4]; rfl
            rw [e] at K
            exact rn_up (N := M + 60) (by omega) K
          · refine r_al rfl rfl ?_
            refine r_gf rfl rfl (rg_56 hC) rfl ?_
            refine r_bi rfl (by decide) ?_
            refine r_ilw rfl rfl ?_
            refine r_add rfl ?_
            refine r_ia rfl (rg_57 hC) (by omega) (by omega) (by decide) ?_
            refine r_zne rfl rfl (as_r _) (fun g5 => ?_) (fun g5 => ?_)
            · refine r_ic rfl ?_
              have e : isW sd s (sd (Int.toNat (5 * i + 1))).toInt j = false := by unfold isW; rw [decide_eq_true g3, decide_eq_true g4, decide_eq_false g5]; rfl
              rw [e] at K
              exact rn_up (N := M + 60) (by omega) K
            · refine r_ic rfl ?_
              refine r_goto rfl rfl ?_
              have e : isW sd s (sd (Int.toNat (5 * i + 1))).toInt j = true := by unfold isW; rw [decide_eq_true g3, decide_eq_true g4, decide_eq_true g5]; rfl
              rw [e] at K
              exact rn_up (N := M + 60) (by omega) K
variable {ot less mn : Int}
theorem rel_lp2 (hC : C.length = 56) {n : Nat} (hn : n ≤ 16) (hlw : 0 ≤ law ∧ law ≤ 2) (hle : 0 ≤ less ∧ less ≤ 999) (k : rn_X12_release N (267, [(6, iv (((n : Nat) : Int))), (5, iv (less)), (3, iv (ot)), (4, iv (mn)), (0, .ref 56), (1, iv (i)), (2, iv (law))], [], (C ++ rL (ro_ (0 : Int) tr db (n : Int) dm sm ty nx tk pl va fa lr ri) (rLO ot less law s n) kp ik tn de sd dd sr tx pa)) Q) : ∀ (m j : Nat), j + m = n → rn_X12_release (N + 80 * m + 80) (185, [(6, iv ((j : Int))), (5, iv (less)), (3, iv (ot)), (4, iv (mn)), (0, .ref 56), (1, iv (i)), (2, iv (law))], [], (C ++ rL (ro_ (0 : Int) tr db (n : Int) dm sm ty nx tk pl va fa lr ri) (rLO ot less law s j) kp ik tn de sd dd sr tx pa)) Q := by
  intro m
  induction m with
  | zero =>
    intro j hj
    have hj : j = n := by omega
    subst hj
    refine rn_up (N := N + 80) (by omega) ?_
    refine r_ilw rfl rfl ?_
    refine r_al rfl rfl ?_
    refine r_gf rfl rfl (rg_56 hC) rfl ?_
    refine r_cge rfl rfl (by omega) (by omega) (fun g1 => ?_) (fun g1 => ?_)
    · exact rn_up (by omega) k
    · omega
  | succ m ih =>
    intro j hj
    obtain ⟨M, hM⟩ : ∃ M, M = N + 80 * m + 80 := ⟨_, rfl⟩
    rw [← hM] at ih
    refine rn_up (N := M + 80) (by omega) ?_
    refine r_ilw rfl rfl ?_
    refine r_al rfl rfl ?_
    refine r_gf rfl rfl (rg_56 hC) rfl ?_
    refine r_cge rfl rfl (by omega) (by omega) (fun g1 => ?_) (fun g1 => ?_)
    · omega
    · refine r_il rfl rfl ?_
      refine r_ilw rfl rfl ?_
      refine r_shr rfl ?_
      refine r_ic rfl ?_
      refine r_and rfl ?_
      refine r_eq (zb_bit (by omega)) ?_
      refine r_ic rfl ?_
      refine r_cne rfl rfl (bi_r _) (by decide) (fun g2 => ?_) (fun g2 => ?_)
      · have g2 : zb (Int32.ofInt ot) j = false := bi_0 (by have := bi_01 (zb (Int32.ofInt ot) j); omega)
        refine r_il rfl rfl ?_
        refine r_ilw rfl rfl ?_
        refine r_shr rfl ?_
        refine r_ic rfl ?_
        refine r_and rfl ?_
        refine r_eq (zb_bit (by omega)) ?_
        refine r_ic rfl ?_
        refine r_cne rfl rfl (bi_r _) (by decide) (fun g4 => ?_) (fun g4 => ?_)
        · refine r_inc (lv' := [(6, _), (5, _), (3, _), (4, _), (0, _), (1, _), (2, _)]) rfl rfl rfl rfl ?_
          refine r_goto rfl rfl ?_
          have e : rLO ot less law s j = rLO ot less law s (j + 1) := by show _ = (bif zb (Int32.ofInt ot) j then _ else _); rw [g2]; rfl
          rw [e]
          exact rn_up (by omega) (ih (j + 1) (by omega))
        · rw [g2] at g4
          exact absurd g4 (by decide)
      · have g2 : zb (Int32.ofInt ot) j = true := bi_1 (by omega)
        refine r_il rfl rfl ?_
        refine r_ic rfl ?_
        refine r_cne rfl rfl (by omega) (by omega) (fun g3 => ?_) (fun g3 => ?_)
        · refine r_il rfl rfl ?_
          refine r_ilw rfl rfl ?_
          refine r_shr rfl ?_
          refine r_ic rfl ?_
          refine r_and rfl ?_
          refine r_eq (zb_bit (by omega)) ?_
          refine r_ic rfl ?_
          refine r_cne rfl rfl (bi_r _) (by decide) (fun g4 => ?_) (fun g4 => ?_)
          · rw [g2] at g4
            exact absurd rfl g4
          · refine r_al rfl rfl ?_
            refine r_gf rfl rfl (rg_56 hC) rfl ?_
            refine r_bi rfl (by decide) ?_
            refine r_ilw rfl rfl ?_
            refine r_add rfl ?_
            refine r_ic rfl ?_
            refine r_ias rfl (rg_57 hC) (by omega) (by omega) (by decide) (rs_57 hC) ?_
            refine r_inc (lv' := [(6, _), (5, _), (3, _), (4, _), (0, _), (1, _), (2, _)]) rfl rfl rfl rfl ?_
            refine r_goto rfl rfl ?_
            have e : upd (rLO ot less law s j) (Int.toNat (42 + (j : Int))) (Int32.ofInt 1) = rLO ot less law s (j + 1) := by show _ = (bif zb (Int32.ofInt ot) j then _ else _); rw [g2, decide_eq_false g3]; rfl
            rw [e]
            exact rn_up (by omega) (ih (j + 1) (by omega))
        · refine r_al rfl rfl ?_
          refine r_gf rfl rfl (rg_56 hC) rfl ?_
          refine r_bi rfl (by decide) ?_
          refine r_ilw rfl rfl ?_
          refine r_add rfl ?_
          refine r_dup2 rfl rfl rfl ?_
          refine r_ia rfl (rg_57 hC) (by omega) (by omega) (by decide) ?_
          refine r_ilw rfl rfl ?_
          refine r_al rfl rfl ?_
          refine r_gf rfl rfl (rg_56 hC) rfl ?_
          refine r_bi rfl (by decide) ?_
          refine r_ilw rfl rfl ?_
          refine r_add rfl ?_
          refine r_ia rfl (rg_57 hC) (by omega) (by omega) (by decide) ?_
          refine r_s2s rfl rfl rfl (c_lesser (by omega) (as_r _)) ?_
          refine r_sub rfl ?_
          refine r_ias rfl (rg_57 hC) (by omega) (by omega) (by decide) (rs_57 hC) ?_
          refine r_goto rfl rfl ?_
          refine r_inc (lv' := [(6, _), (5, _), (3, _), (4, _), (0, _), (1, _), (2, _)]) rfl rfl rfl rfl ?_
          refine r_goto rfl rfl ?_
          have e : upd (rLO ot less law s j) (Int.toNat (26 + (j : Int))) (Int32.ofInt ((rLO ot less law s j (Int.toNat (26 + (j : Int)))).toInt - (bif decide (less < (rLO ot less law s j (Int.toNat (26 + (j : Int)))).toInt) then less else (rLO ot less law s j (Int.toNat (26 + (j : Int)))).toInt))) = rLO ot less law s (j + 1) := by show _ = (bif zb (Int32.ofInt ot) j then _ else _); rw [g2, decide_eq_true g3]; rfl
          rw [e]
          exact rn_up (by omega) (ih (j + 1) (by omega))
theorem c_relRB (hC : C.length = 56) (hi : -2147483648 ≤ i ∧ i ≤ 2147483647) (hl : -2147483648 ≤ law ∧ law ≤ 2147483647) (hn : 0 ≤ sn ∧ sn ≤ 16) (hb : (i3 i 0 (sn - 1) && i3 law 0 2) = false) : sX12_release [.ref 56, iv (i), iv (law)] (C ++ rL (ro_ th tr db sn dm sm ty nx tk pl va fa lr ri) s kp ik tn de sd dd sr tx pa) = some (some (iv (-1)), (C ++ rL (ro_ (0 : Int) tr db sn dm sm ty nx tk pl va fa lr ri) s kp ik tn de sd dd sr tx pa)) := by
  have main : ∀ Q : mm_R → Prop, Q (some (iv (-1)), (C ++ rL (ro_ (0 : Int) tr db sn dm sm ty nx tk pl va fa lr ri) s kp ik tn de sd dd sr tx pa)) → rn_X12_release (1000) (0, [(0, .ref 56), (1, iv (i)), (2, iv (law))], [], (C ++ rL (ro_ th tr db sn dm sm ty nx tk pl va fa lr ri) s kp ik tn de sd dd sr tx pa)) Q := by
    intro Q hQ
    refine r_al rfl rfl ?_
    refine r_ic rfl ?_
    refine r_pf rfl rfl (rg_56 hC) rfl (rp_th hC) ?_
    refine r_al rfl rfl ?_
    refine r_il rfl rfl ?_
    refine r_v2s rfl rfl (rg_56 hC) rfl (c_isStandR hC hi hn) ?_
    refine r_zeq rfl rfl (bi_r _) (fun g1 => ?_) (fun g1 => ?_)
    · refine r_ic rfl ?_
      exact r_ret rfl rfl hQ
    · refine r_il rfl rfl ?_
      refine r_ic rfl ?_
      refine r_ic rfl ?_
      refine r_s3s rfl rfl rfl (c_in hl (by decide) (by decide)) ?_
      refine r_zne rfl rfl (bi_r _) (fun g2 => ?_) (fun g2 => ?_)
      · rw [bi_1 g1, bi_1 g2] at hb
        cases hb
      · refine r_ic rfl ?_
        exact r_ret rfl rfl hQ
  obtain ⟨r, h1, h2⟩ := rn_S (vs := [.ref 56, iv (i), iv (law)]) (Q := fun r => r = (some (iv (-1)), (C ++ rL (ro_ (0 : Int) tr db sn dm sm ty nx tk pl va fa lr ri) s kp ik tn de sd dd sr tx pa))) rfl (rn_up (N := 1000) (M := mm_fuel) (by decide) (main (fun r => r = (some (iv (-1)), (C ++ rL (ro_ (0 : Int) tr db sn dm sm ty nx tk pl va fa lr ri) s kp ik tn de sd dd sr tx pa))) rfl))
  have h1 : sX12_release [.ref 56, iv (i), iv (law)] (C ++ rL (ro_ th tr db sn dm sm ty nx tk pl va fa lr ri) s kp ik tn de sd dd sr tx pa) = some r := h1
  rw [h1, h2]
theorem c_relRS (hC : C.length = 56) (hi : -2147483648 ≤ i ∧ i ≤ 2147483647) (hl : -2147483648 ≤ law ∧ law ≤ 2147483647) (hn : 0 ≤ sn ∧ sn ≤ 16) (h1 : i3 i 0 (sn - 1) = true) (h2 : i3 law 0 2 = true) (hs : (s (Int.toNat (42 + i))).toInt = 1) : sX12_release [.ref 56, iv (i), iv (law)] (C ++ rL (ro_ th tr db sn dm sm ty nx tk pl va fa lr ri) s kp ik tn de sd dd sr tx pa) = some (some (iv (-2)), (C ++ rL (ro_ (0 : Int) tr db sn dm sm ty nx tk pl va fa lr ri) s kp ik tn de sd dd sr tx pa)) := by
  have main : ∀ Q : mm_R → Prop, Q (some (iv (-2)), (C ++ rL (ro_ (0 : Int) tr db sn dm sm ty nx tk pl va fa lr ri) s kp ik tn de sd dd sr tx pa)) → rn_X12_release (1000) (0, [(0, .ref 56), (1, iv (i)), (2, iv (law))], [], (C ++ rL (ro_ th tr db sn dm sm ty nx tk pl va fa lr ri) s kp ik tn de sd dd sr tx pa)) Q := by
    intro Q hQ
    have vri := i3_t h1
    have vrl := i3_t h2
    refine r_al rfl rfl ?_
    refine r_ic rfl ?_
    refine r_pf rfl rfl (rg_56 hC) rfl (rp_th hC) ?_
    refine r_al rfl rfl ?_
    refine r_il rfl rfl ?_
    refine r_v2s rfl rfl (rg_56 hC) rfl (c_isStandR hC hi hn) ?_
    rw [h1]
    refine r_zeq rfl rfl (bi_r _) (fun g1 => ?_) (fun g1 => ?_)
    · exact absurd g1 (by decide)
    · refine r_il rfl rfl ?_
      refine r_ic rfl ?_
      refine r_ic rfl ?_
      refine r_s3s rfl rfl rfl (c_in hl (by decide) (by decide)) ?_
      rw [h2]
      refine r_zne rfl rfl (bi_r _) (fun g2 => ?_) (fun g2 => ?_)
      · refine r_al rfl rfl ?_
        refine r_gf rfl rfl (rg_56 hC) rfl ?_
        refine r_bi rfl (by decide) ?_
        refine r_il rfl rfl ?_
        refine r_add rfl ?_
        refine r_ia rfl (rg_57 hC) (by omega) (by omega) (by decide) ?_
        refine r_ic rfl ?_
        refine r_cne rfl rfl (as_r _) (by decide) (fun g3 => ?_) (fun g3 => ?_)
        · exact absurd hs g3
        · refine r_bi rfl (by decide) ?_
          exact r_ret rfl rfl hQ
      · exact absurd g2 (by decide)
  obtain ⟨r, h1, h2⟩ := rn_S (vs := [.ref 56, iv (i), iv (law)]) (Q := fun r => r = (some (iv (-2)), (C ++ rL (ro_ (0 : Int) tr db sn dm sm ty nx tk pl va fa lr ri) s kp ik tn de sd dd sr tx pa))) rfl (rn_up (N := 1000) (M := mm_fuel) (by decide) (main (fun r => r = (some (iv (-2)), (C ++ rL (ro_ (0 : Int) tr db sn dm sm ty nx tk pl va fa lr ri) s kp ik tn de sd dd sr tx pa))) rfl))
  have h1 : sX12_release [.ref 56, iv (i), iv (law)] (C ++ rL (ro_ th tr db sn dm sm ty nx tk pl va fa lr ri) s kp ik tn de sd dd sr tx pa) = some r := h1
  rw [h1, h2]
def rOT (sd s : Nat → Int32) (sn i law : Int) : Int := (bif decide (law = 0) then 0 else rOt sd (upd s (Int.toNat (42 + i)) (Int32.ofInt 1)) (sd (Int.toNat (5 * i + 1))).toInt sn.toNat)
def rMN (sd s : Nat → Int32) (sn i law : Int) : Int := (bif decide (law = 0) then 0 else rMn sd (upd s (Int.toNat (42 + i)) (Int32.ofInt 1)) (sd (Int.toNat (5 * i + 1))).toInt sn.toNat)
def rLS (sd s : Nat → Int32) (sn i law : Int) : Int := (s (Int.toNat (26 + i))).toInt / (rMN sd s sn i law + 1)
def rS2 (sd s : Nat → Int32) (sn i law : Int) : Nat → Int32 := rLO (rOT sd s sn i law) (rLS sd s sn i law) law (upd s (Int.toNat (42 + i)) (Int32.ofInt 1)) sn.toNat
theorem c_relRG (hC : C.length = 56) (hi : -2147483648 ≤ i ∧ i ≤ 2147483647) (hl : -2147483648 ≤ law ∧ law ≤ 2147483647) (hn : 0 ≤ sn ∧ sn ≤ 16) (h1 : i3 i 0 (sn - 1) = true) (h2 : i3 law 0 2 = true) (hs : ¬ (s (Int.toNat (42 + i))).toInt = 1) (hL : 0 ≤ (s (Int.toNat (26 + i))).toInt ∧ (s (Int.toNat (26 + i))).toInt ≤ 999) : sX12_release [.ref 56, iv (i), iv (law)] (C ++ rL (ro_ th tr db sn dm sm ty nx tk pl va fa lr ri) s kp ik tn de sd dd sr tx pa) = some (some (iv (rMN sd s sn i law)), (C ++ rL (ro_ (0 : Int) tr db sn dm sm ty nx tk pl va fa lr ri) (rS2 sd s sn i law) kp ik tn de sd dd sr tx pa)) := by
  have main : ∀ Q : mm_R → Prop, Q (some (iv (rMN sd s sn i law)), (C ++ rL (ro_ (0 : Int) tr db sn dm sm ty nx tk pl va fa lr ri) (rS2 sd s sn i law) kp ik tn de sd dd sr tx pa)) → rn_X12_release (200 + 80 * 16 + 80 + 200 + 140 * 16 + 140 + 200) (0, [(0, .ref 56), (1, iv (i)), (2, iv (law))], [], (C ++ rL (ro_ th tr db sn dm sm ty nx tk pl va fa lr ri) s kp ik tn de sd dd sr tx pa)) Q := by
    intro Q hQ
    have vri := i3_t h1
    have vrl := i3_t h2
    refine r_al rfl rfl ?_
    refine r_ic rfl ?_
    refine r_pf rfl rfl (rg_56 hC) rfl (rp_th hC) ?_
    refine r_al rfl rfl ?_
    refine r_il rfl rfl ?_
    refine r_v2s rfl rfl (rg_56 hC) rfl (c_isStandR hC hi hn) ?_
    rw [h1]
    refine r_zeq rfl rfl (bi_r _) (fun g1 => ?_) (fun g1 => ?_)
    · exact absurd g1 (by decide)
    · refine r_il rfl rfl ?_
      refine r_ic rfl ?_
      refine r_ic rfl ?_
      refine r_s3s rfl rfl rfl (c_in hl (by decide) (by decide)) ?_
      rw [h2]
      refine r_zne rfl rfl (bi_r _) (fun g2 => ?_) (fun g2 => ?_)
      · refine r_al rfl rfl ?_
        refine r_gf rfl rfl (rg_56 hC) rfl ?_
        refine r_bi rfl (by decide) ?_
        refine r_il rfl rfl ?_
        refine r_add rfl ?_
        refine r_ia rfl (rg_57 hC) (by omega) (by omega) (by decide) ?_
        refine r_ic rfl ?_
        refine r_cne rfl rfl (as_r _) (by decide) (fun g3 => ?_) (fun g3 => ?_)
        · obtain ⟨n, rfl⟩ := Int.eq_ofNat_of_zero_le hn.1
          have hn16 : n ≤ 16 := by omega
          have es : Int.toNat (26 + i) ≠ Int.toNat (42 + i) := by omega
          have eL : (upd s (Int.toNat (42 + i)) (Int32.ofInt 1)) (Int.toNat (26 + i)) = s (Int.toNat (26 + i)) := upd_ne es
          obtain ⟨M, hM⟩ : ∃ M, M = 200 + 80 * 16 + 80 + 100 := ⟨_, rfl⟩
          have K : ∀ x5 : Int, rn_X12_release M (166, [(5, iv (x5)), (3, iv (rOT sd s (n : Int) i law)), (4, iv (rMN sd s (n : Int) i law)), (0, .ref 56), (1, iv (i)), (2, iv (law))], [], (C ++ rL (ro_ (0 : Int) tr db (n : Int) dm sm ty nx tk pl va fa lr ri) (upd s (Int.toNat (42 + i)) (Int32.ofInt 1)) kp ik tn de sd dd sr tx pa)) Q := by
            intro x5
            rw [hM]
            have hmn : 0 ≤ rMN sd s (n : Int) i law ∧ rMN sd s (n : Int) i law ≤ 16 := by
              unfold rMN
              cases decide (law = 0) with
              | true => show (0 : Int) ≤ 0 ∧ (0 : Int) ≤ 16; decide
              | false =>
                have := rMn_r (sd := sd) (s := upd s (Int.toNat (42 + i)) (Int32.ofInt 1)) (d := (sd (Int.toNat (5 * i + 1))).toInt) (Int.toNat (n : Int))
                show 0 ≤ rMn _ _ _ _ ∧ rMn _ _ _ _ ≤ 16
                omega
            refine r_al rfl rfl ?_
            refine r_gf rfl rfl (rg_56 hC) rfl ?_
            refine r_bi rfl (by decide) ?_
            refine r_il rfl rfl ?_
            refine r_add rfl ?_
            refine r_ia rfl (rg_57 hC) (by omega) (by omega) (by decide) ?_
            refine r_ilw rfl rfl ?_
            refine r_ic rfl ?_
            refine r_add rfl ?_
            rw [eL]
            refine r_div rfl (by omega) (by omega) ?_
            refine r_isw (lv' := [(5, _), (3, _), (4, _), (0, _), (1, _), (2, _)]) rfl rfl rfl ?_
            refine r_ic rfl ?_
            refine r_isw (lv' := [(6, _), (5, _), (3, _), (4, _), (0, _), (1, _), (2, _)]) rfl rfl rfl ?_
            have hle : 0 ≤ rLS sd s (n : Int) i law ∧ rLS sd s (n : Int) i law ≤ 999 := by
              unfold rLS
              exact ⟨Int.ediv_nonneg hL.1 (by omega), Int.le_trans (Int.ediv_le_self _ hL.1) hL.2⟩
            show rn_X12_release _ (185, [(6, iv (0)), (5, iv (rLS sd s (n : Int) i law)), (3, iv (rOT sd s (n : Int) i law)), (4, iv (rMN sd s (n : Int) i law)), (0, .ref 56), (1, iv (i)), (2, iv (law))], [], (C ++ rL (ro_ (0 : Int) tr db (n : Int) dm sm ty nx tk pl va fa lr ri) (upd s (Int.toNat (42 + i)) (Int32.ofInt 1)) kp ik tn de sd dd sr tx pa)) Q
            refine rn_up (N := 200 + 80 * n + 80) (by omega) (rel_lp2 (N := 200) hC hn16 (by omega) hle ?_ n 0 (by omega))
            refine r_ilw rfl rfl ?_
            exact r_ret rfl rfl hQ
          refine r_al rfl rfl ?_
          refine r_gf rfl rfl (rg_56 hC) rfl ?_
          refine r_bi rfl (by decide) ?_
          refine r_il rfl rfl ?_
          refine r_add rfl ?_
          refine r_ic rfl ?_
          refine r_ias rfl (rg_57 hC) (by omega) (by omega) (by decide) (rs_57 hC) ?_
          refine r_ic rfl ?_
          refine r_is (lv' := [(3, _), (0, _), (1, _), (2, _)]) rfl rfl rfl ?_
          refine r_ic rfl ?_
          refine r_isw (lv' := [(4, _), (3, _), (0, _), (1, _), (2, _)]) rfl rfl rfl ?_
          refine r_ic rfl ?_
          refine r_isw (lv' := [(5, _), (4, _), (3, _), (0, _), (1, _), (2, _)]) rfl rfl rfl ?_
          by_cases l0 : law = 0
          · have e1 : rOT sd s (n : Int) i law = 0 := by unfold rOT; rw [decide_eq_true l0]; rfl
            have e2 : rMN sd s (n : Int) i law = 0 := by unfold rMN; rw [decide_eq_true l0]; rfl
            rw [e1, e2] at K
            refine r_ilw rfl rfl ?_
            refine r_al rfl rfl ?_
            refine r_gf rfl rfl (rg_56 hC) rfl ?_
            refine r_cge rfl rfl (by omega) (by omega) (fun g4 => ?_) (fun g4 => ?_)
            · omega
            · refine r_il rfl rfl ?_
              refine r_zle rfl rfl (by omega) (fun g5 => ?_) (fun g5 => ?_)
              · refine rn_LE (a := [(5, iv (0)), (3, iv (0)), (4, iv (0)), (0, .ref 56), (1, iv (i)), (2, iv (law))]) ⟨(List.forall_mem_cons.mpr ⟨List.mem_cons_self, (List.forall_mem_cons.mpr ⟨(List.mem_cons_of_mem _ (List.mem_cons_of_mem _ List.mem_cons_self)), (List.forall_mem_cons.mpr ⟨(List.mem_cons_of_mem _ List.mem_cons_self), (List.forall_mem_cons.mpr ⟨(List.mem_cons_of_mem _ (List.mem_cons_of_mem _ (List.mem_cons_of_mem _ List.mem_cons_self))), (List.forall_mem_cons.mpr ⟨(List.mem_cons_of_mem _ (List.mem_cons_of_mem _ (List.mem_cons_of_mem _ (List.mem_cons_of_mem _ List.mem_cons_self)))), (List.forall_mem_cons.mpr ⟨(List.mem_cons_of_mem _ (List.mem_cons_of_mem _ (List.mem_cons_of_mem _ (List.mem_cons_of_mem _ (List.mem_cons_of_mem _ List.mem_cons_self))))), (fun _ h => absurd h List.not_mem_nil)⟩)⟩)⟩)⟩)⟩)⟩), (by show List.Nodup [5, 3, 4, 0, 1, 2]; decide), (by show List.Nodup [5, 4, 3, 0, 1, 2]; decide)⟩ ?_
                exact rn_up (by omega) (K _)
              · omega
          · have e1 : rOT sd s (n : Int) i law = rOt sd (upd s (Int.toNat (42 + i)) (Int32.ofInt 1)) (sd (Int.toNat (5 * i + 1))).toInt n := by unfold rOT; rw [decide_eq_false l0]; rfl
            have e2 : rMN sd s (n : Int) i law = rMn sd (upd s (Int.toNat (42 + i)) (Int32.ofInt 1)) (sd (Int.toNat (5 * i + 1))).toInt n := by unfold rMN; rw [decide_eq_false l0]; rfl
            rw [e1, e2] at K
            refine rn_LE (a := [(5, iv (0)), (3, iv (0)), (4, iv (0)), (0, .ref 56), (1, iv (i)), (2, iv (law))]) ⟨(List.forall_mem_cons.mpr ⟨List.mem_cons_self, (List.forall_mem_cons.mpr ⟨(List.mem_cons_of_mem _ (List.mem_cons_of_mem _ List.mem_cons_self)), (List.forall_mem_cons.mpr ⟨(List.mem_cons_of_mem _ List.mem_cons_self), (List.forall_mem_cons.mpr ⟨(List.mem_cons_of_mem _ (List.mem_cons_of_mem _ (List.mem_cons_of_mem _ List.mem_cons_self))), (List.forall_mem_cons.mpr ⟨(List.mem_cons_of_mem _ (List.mem_cons_of_mem _ (List.mem_cons_of_mem _ (List.mem_cons_of_mem _ List.mem_cons_self)))), (List.forall_mem_cons.mpr ⟨(List.mem_cons_of_mem _ (List.mem_cons_of_mem _ (List.mem_cons_of_mem _ (List.mem_cons_of_mem _ (List.mem_cons_of_mem _ List.mem_cons_self))))), (fun _ h => absurd h List.not_mem_nil)⟩)⟩)⟩)⟩)⟩)⟩), (by show List.Nodup [5, 3, 4, 0, 1, 2]; decide), (by show List.Nodup [5, 4, 3, 0, 1, 2]; decide)⟩ ?_
            exact rn_up (N := M + 140 * n + 140) (by omega) (rel_lp1 (N := M) (s := (upd s (Int.toNat (42 + i)) (Int32.ofInt 1))) hC hn16 (by omega) (by omega) (K _) n 0 (by omega))
        · exact absurd g3 hs
      · exact absurd g2 (by decide)
  obtain ⟨r, h1, h2⟩ := rn_S (vs := [.ref 56, iv (i), iv (law)]) (Q := fun r => r = (some (iv (rMN sd s sn i law)), (C ++ rL (ro_ (0 : Int) tr db sn dm sm ty nx tk pl va fa lr ri) (rS2 sd s sn i law) kp ik tn de sd dd sr tx pa))) rfl (rn_up (N := 200 + 80 * 16 + 80 + 200 + 140 * 16 + 140 + 200) (M := mm_fuel) (by decide) (main (fun r => r = (some (iv (rMN sd s sn i law)), (C ++ rL (ro_ (0 : Int) tr db sn dm sm ty nx tk pl va fa lr ri) (rS2 sd s sn i law) kp ik tn de sd dd sr tx pa))) rfl))
  have h1 : sX12_release [.ref 56, iv (i), iv (law)] (C ++ rL (ro_ th tr db sn dm sm ty nx tk pl va fa lr ri) s kp ik tn de sd dd sr tx pa) = some r := h1
  rw [h1, h2]
end RR
