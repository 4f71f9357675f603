/-! ===== balance: both sides ===== -/
section BRR
variable {C : List va_E} {tr : Int64} {th db sn dm sm ty nx tk pl va fa lr ri : Int} {s kp ik tn de sd dd sr tx pa : Nat → Int32} {a : Int} {Q : mm_R → Prop} {N : Nat}
theorem bx_in (hC : C.length = 56) (hRS : RS s) (hE : DEr de) (hd : 0 ≤ db ∧ db ≤ 10) {t : Nat} (ht : t < 256) (hb : ∀ j : Nat, j ≤ 8 → bMx (bTb (fun k : Nat => fB de s (k : Int) db.toNat) 256) t j ≤ 255) (hG : gpI (fun k : Nat => fB de s (k : Int) db.toNat) t pa) (k : rn_X12_balance N (130, [(6, iv (((8 : Nat) : Int))), (5, iv (bMx (bTb (fun k : Nat => fB de s (k : Int) db.toNat) 256) t 8)), (4, iv (bSU (fun k : Nat => fB de s (k : Int) db.toNat) t 8)), (3, iv ((t : Int))), (2, iv (0)), (0, .ref 56), (1, iv (a))], [], (C ++ rL (ro_ (0 : Int) tr db sn dm sm ty nx tk pl va fa lr ri) s kp ik tn de sd dd sr tx pa)) Q) : ∀ (m j : Nat), j + m = 8 → rn_X12_balance (N + 110 * m + 110) (50, [(6, iv ((j : Int))), (5, iv (bMx (bTb (fun k : Nat => fB de s (k : Int) db.toNat) 256) t j)), (4, iv (bSU (fun k : Nat => fB de s (k : Int) db.toNat) t j)), (3, iv ((t : Int))), (2, iv (0)), (0, .ref 56), (1, iv (a))], [], (C ++ rL (ro_ (0 : Int) tr db sn dm sm ty nx tk pl va fa lr ri) s kp ik tn de sd dd sr tx pa)) Q := by
  intro m
  induction m with
  | zero =>
    intro j hj
    have hj : j = 8 := by omega
    subst hj
    refine rn_up (N := N + 110) (by omega) ?_
    refine r_ilw rfl rfl ?_
    refine r_bi rfl (by decide) ?_
    refine r_cge rfl rfl (by omega) (by omega) (fun g1 => ?_) (fun g1 => ?_)
    · exact rn_up (by omega) k
    · omega
  | succ m ih =>
    intro j hj
    obtain ⟨M, hM⟩ : ∃ M, M = N + 110 * m + 110 := ⟨_, rfl⟩
    rw [← hM] at ih
    refine rn_up (N := M + 110) (by omega) ?_
    refine r_ilw rfl rfl ?_
    refine r_bi rfl (by decide) ?_
    refine r_cge rfl rfl (by omega) (by omega) (fun g1 => ?_) (fun g1 => ?_)
    · omega
    · obtain ⟨a1, a2⟩ := an_p j (by omega) t ht
      have hx0 := bMx_0 (T := bTb (fun k : Nat => fB de s (k : Int) db.toNat) 256) (n := t) j
      have hxb := hb j (by omega)
      refine r_ilw rfl rfl ?_
      refine r_il rfl rfl ?_
      refine r_ilw rfl rfl ?_
      refine r_shr rfl ?_
      refine r_ic rfl ?_
      refine r_and rfl ?_
      refine r_eq (zb_bit (by omega)) ?_
      refine r_ic rfl ?_
      have K : rn_X12_balance (M + 60) (80, [(6, iv ((j : Int))), (5, iv (bMx (bTb (fun k : Nat => fB de s (k : Int) db.toNat) 256) t j)), (4, iv (bSU (fun k : Nat => fB de s (k : Int) db.toNat) t j)), (3, iv ((t : Int))), (2, iv (0)), (0, .ref 56), (1, iv (a))], [iv (bSU (fun k : Nat => fB de s (k : Int) db.toNat) t (j + 1))], (C ++ rL (ro_ (0 : Int) tr db sn dm sm ty nx tk pl va fa lr ri) s kp ik tn de sd dd sr tx pa)) Q := by
        refine r_isw (lv' := [(4, _), (6, _), (5, _), (3, _), (2, _), (0, _), (1, _)]) rfl rfl rfl ?_
        refine r_il rfl rfl ?_
        refine r_ic rfl ?_
        refine r_ilw rfl rfl ?_
        refine r_shl rfl ?_
        refine r_ic rfl ?_
        refine r_xor rfl ?_
        refine r_and rfl ?_
        refine r_eq a1 ?_
        cases hb2 : t.testBit j with
        | false =>
          rw [hb2] at a1
          rw [if_neg (by decide)]
          refine r_isw (lv' := [(7, _), (4, _), (6, _), (5, _), (3, _), (2, _), (0, _), (1, _)]) rfl rfl rfl ?_
          refine r_ilw rfl rfl ?_
          refine r_il rfl rfl ?_
          refine r_ceq rfl rfl (by omega) (by omega) (fun g3 => ?_) (fun g3 => ?_)
          · refine r_ilw rfl rfl ?_
            have e : bMx (bTb (fun k : Nat => fB de s (k : Int) db.toNat) 256) t j = bMx (bTb (fun k : Nat => fB de s (k : Int) db.toNat) 256) t (j + 1) := by show _ = (bif t.testBit j && _ then _ else _); rw [hb2]; rfl
            rw [e]
            refine r_isw (lv' := [(5, _), (7, _), (4, _), (6, _), (3, _), (2, _), (0, _), (1, _)]) rfl rfl rfl ?_
            refine r_inc (lv' := [(6, _), (5, _), (7, _), (4, _), (3, _), (2, _), (0, _), (1, _)]) rfl rfl rfl rfl ?_
            refine r_goto rfl rfl ?_
            refine rn_LE (a := [(6, iv ((j : Int) + 1)), (5, iv (bMx (bTb (fun k : Nat => fB de s (k : Int) db.toNat) 256) t (j + 1))), (4, iv (bSU (fun k : Nat => fB de s (k : Int) db.toNat) t (j + 1))), (3, iv ((t : Int))), (2, iv (0)), (0, .ref 56), (1, iv (a))]) ⟨(List.forall_mem_cons.mpr ⟨List.mem_cons_self, (List.forall_mem_cons.mpr ⟨(List.mem_cons_of_mem _ List.mem_cons_self), (List.forall_mem_cons.mpr ⟨(List.mem_cons_of_mem _ (List.mem_cons_of_mem _ (List.mem_cons_of_mem _ List.mem_cons_self))), (List.forall_mem_cons.mpr ⟨(List.mem_cons_of_mem _ (List.mem_cons_of_mem _ (List.mem_cons_of_mem _ (List.mem_cons_of_mem _ List.mem_cons_self)))), (List.forall_mem_cons.mpr ⟨(List.mem_cons_of_mem _ (List.mem_cons_of_mem _ (List.mem_cons_of_mem _ (List.mem_cons_of_mem _ (List.mem_cons_of_mem _ List.mem_cons_self))))), (List.forall_mem_cons.mpr ⟨(List.mem_cons_of_mem _ (List.mem_cons_of_mem _ (List.mem_cons_of_mem _ (List.mem_cons_of_mem _ (List.mem_cons_of_mem _ (List.mem_cons_of_mem _ List.mem_cons_self)))))), (List.forall_mem_cons.mpr ⟨(List.mem_cons_of_mem _ (List.mem_cons_of_mem _ (List.mem_cons_of_mem _ (List.mem_cons_of_mem _ (List.mem_cons_of_mem _ (List.mem_cons_of_mem _ (List.mem_cons_of_mem _ List.mem_cons_self))))))), (fun _ h => absurd h List.not_mem_nil)⟩)⟩)⟩)⟩)⟩)⟩)⟩), (by show List.Nodup [6, 5, 4, 3, 2, 0, 1]; decide), (by show List.Nodup [6, 5, 7, 4, 3, 2, 0, 1]; decide)⟩ ?_
            exact rn_up (by omega) (ih (j + 1) (by omega))
          · exact absurd rfl g3
        | true =>
          rw [hb2] at a1
          rw [if_pos rfl]
          have hs := (bt_sub j (by omega) t ht hb2).1
          have hp2 := p2_pos j
          have hg := gp_v (k := t - 2 ^ j) hG (by omega) (by omega)
          refine r_isw (lv' := [(7, _), (4, _), (6, _), (5, _), (3, _), (2, _), (0, _), (1, _)]) rfl rfl rfl ?_
          refine r_ilw rfl rfl ?_
          refine r_il rfl rfl ?_
          refine r_ceq rfl rfl (by omega) (by omega) (fun g3 => ?_) (fun g3 => ?_)
          · omega
          · refine r_al rfl rfl ?_
            refine r_gf rfl rfl (rg_56 hC) rfl ?_
            refine r_ilw rfl rfl ?_
            refine r_ia rfl (rg_66 hC) (by omega) (by omega) (by decide) ?_
            refine r_ilw rfl rfl ?_
            refine r_cle rfl rfl (as_r _) (by omega) (fun g4 => ?_) (fun g4 => ?_)
            · refine r_ilw rfl rfl ?_
              have e : bMx (bTb (fun k : Nat => fB de s (k : Int) db.toNat) 256) t j = bMx (bTb (fun k : Nat => fB de s (k : Int) db.toNat) 256) t (j + 1) := by show _ = (bif t.testBit j && _ then _ else _); rw [hb2, decide_eq_false (by rw [← hg]; exact Int.not_lt.mpr g4)]; rfl
              rw [e]
              refine r_isw (lv' := [(5, _), (7, _), (4, _), (6, _), (3, _), (2, _), (0, _), (1, _)]) rfl rfl rfl ?_
              refine r_inc (lv' := [(6, _), (5, _), (7, _), (4, _), (3, _), (2, _), (0, _), (1, _)]) rfl rfl rfl rfl ?_
              refine r_goto rfl rfl ?_
              refine rn_LE (a := [(6, iv ((j : Int) + 1)), (5, iv (bMx (bTb (fun k : Nat => fB de s (k : Int) db.toNat) 256) t (j + 1))), (4, iv (bSU (fun k : Nat => fB de s (k : Int) db.toNat) t (j + 1))), (3, iv ((t : Int))), (2, iv (0)), (0, .ref 56), (1, iv (a))]) ⟨(List.forall_mem_cons.mpr ⟨List.mem_cons_self, (List.forall_mem_cons.mpr ⟨(List.mem_cons_of_mem _ List.mem_cons_self), (List.forall_mem_cons.mpr ⟨(List.mem_cons_of_mem _ (List.mem_cons_of_mem _ (List.mem_cons_of_mem _ List.mem_cons_self))), (List.forall_mem_cons.mpr ⟨(List.mem_cons_of_mem _ (List.mem_cons_of_mem _ (List.mem_cons_of_mem _ (List.mem_cons_of_mem _ List.mem_cons_self)))), (List.forall_mem_cons.mpr ⟨(List.mem_cons_of_mem _ (List.mem_cons_of_mem _ (List.mem_cons_of_mem _ (List.mem_cons_of_mem _ (List.mem_cons_of_mem _ List.mem_cons_self))))), (List.forall_mem_cons.mpr ⟨(List.mem_cons_of_mem _ (List.mem_cons_of_mem _ (List.mem_cons_of_mem _ (List.mem_cons_of_mem _ (List.mem_cons_of_mem _ (List.mem_cons_of_mem _ List.mem_cons_self)))))), (List.forall_mem_cons.mpr ⟨(List.mem_cons_of_mem _ (List.mem_cons_of_mem _ (List.mem_cons_of_mem _ (List.mem_cons_of_mem _ (List.mem_cons_of_mem _ (List.mem_cons_of_mem _ (List.mem_cons_of_mem _ List.mem_cons_self))))))), (fun _ h => absurd h List.not_mem_nil)⟩)⟩)⟩)⟩)⟩)⟩)⟩), (by show List.Nodup [6, 5, 4, 3, 2, 0, 1]; decide), (by show List.Nodup [6, 5, 7, 4, 3, 2, 0, 1]; decide)⟩ ?_
              exact rn_up (by omega) (ih (j + 1) (by omega))
            · refine r_al rfl rfl ?_
              refine r_gf rfl rfl (rg_56 hC) rfl ?_
              refine r_ilw rfl rfl ?_
              refine r_ia rfl (rg_66 hC) (by omega) (by omega) (by decide) ?_
              refine r_goto rfl rfl ?_
              have e : (pa (Int.toNat ((t - 2 ^ j : Nat) : Int))).toInt = bMx (bTb (fun k : Nat => fB de s (k : Int) db.toNat) 256) t (j + 1) := by show _ = (bif t.testBit j && _ then _ else _); rw [hb2, decide_eq_true (by rw [← hg]; exact g4)]; exact hg
              rw [e]
              refine r_isw (lv' := [(5, _), (7, _), (4, _), (6, _), (3, _), (2, _), (0, _), (1, _)]) rfl rfl rfl ?_
              refine r_inc (lv' := [(6, _), (5, _), (7, _), (4, _), (3, _), (2, _), (0, _), (1, _)]) rfl rfl rfl rfl ?_
              refine r_goto rfl rfl ?_
              refine rn_LE (a := [(6, iv ((j : Int) + 1)), (5, iv (bMx (bTb (fun k : Nat => fB de s (k : Int) db.toNat) 256) t (j + 1))), (4, iv (bSU (fun k : Nat => fB de s (k : Int) db.toNat) t (j + 1))), (3, iv ((t : Int))), (2, iv (0)), (0, .ref 56), (1, iv (a))]) ⟨(List.forall_mem_cons.mpr ⟨List.mem_cons_self, (List.forall_mem_cons.mpr ⟨(List.mem_cons_of_mem _ List.mem_cons_self), (List.forall_mem_cons.mpr ⟨(List.mem_cons_of_mem _ (List.mem_cons_of_mem _ (List.mem_cons_of_mem _ List.mem_cons_self))), (List.forall_mem_cons.mpr ⟨(List.mem_cons_of_mem _ (List.mem_cons_of_mem _ (List.mem_cons_of_mem _ (List.mem_cons_of_mem _ List.mem_cons_self)))), (List.forall_mem_cons.mpr ⟨(List.mem_cons_of_mem _ (List.mem_cons_of_mem _ (List.mem_cons_of_mem _ (List.mem_cons_of_mem _ (List.mem_cons_of_mem _ List.mem_cons_self))))), (List.forall_mem_cons.mpr ⟨(List.mem_cons_of_mem _ (List.mem_cons_of_mem _ (List.mem_cons_of_mem _ (List.mem_cons_of_mem _ (List.mem_cons_of_mem _ (List.mem_cons_of_mem _ List.mem_cons_self)))))), (List.forall_mem_cons.mpr ⟨(List.mem_cons_of_mem _ (List.mem_cons_of_mem _ (List.mem_cons_of_mem _ (List.mem_cons_of_mem _ (List.mem_cons_of_mem _ (List.mem_cons_of_mem _ (List.mem_cons_of_mem _ List.mem_cons_self))))))), (fun _ h => absurd h List.not_mem_nil)⟩)⟩)⟩)⟩)⟩)⟩)⟩), (by show List.Nodup [6, 5, 4, 3, 2, 0, 1]; decide), (by show List.Nodup [6, 5, 7, 4, 3, 2, 0, 1]; decide)⟩ ?_
              exact rn_up (by omega) (ih (j + 1) (by omega))
      refine r_cne rfl rfl (bi_r _) (by decide) (fun g2 => ?_) (fun g2 => ?_)
      · have g2 : t.testBit j = false := by rw [← a2]; exact bi_0 (by have := bi_01 (zb (Int32.ofInt (t : Int)) j); omega)
        refine r_ic rfl ?_
        refine r_add rfl ?_
        have e : bSU (fun k : Nat => fB de s (k : Int) db.toNat) t j + 0 = bSU (fun k : Nat => fB de s (k : Int) db.toNat) t (j + 1) := by show _ = bSU (fun k : Nat => fB de s (k : Int) db.toNat) t j + (bif t.testBit j then _ else _); rw [g2]; rfl
        rw [e]
        exact rn_up (N := M + 60) (by omega) K
      · have g2 : t.testBit j = true := by rw [← a2]; exact bi_1 (by omega)
        refine r_al rfl rfl ?_
        refine r_ilw rfl rfl ?_
        refine r_v2s rfl rfl (rg_56 hC) rfl (c_balanceOfR hC (by omega) hd) ?_
        refine r_goto rfl rfl ?_
        refine r_add rfl ?_
        have e : bSU (fun k : Nat => fB de s (k : Int) db.toNat) t j + fB de s (j : Int) db.toNat = bSU (fun k : Nat => fB de s (k : Int) db.toNat) t (j + 1) := by show _ = bSU (fun k : Nat => fB de s (k : Int) db.toNat) t j + (bif t.testBit j then _ else _); rw [g2]; rfl
        rw [e]
        exact rn_up (N := M + 60) (by omega) K
theorem bx_out (hC : C.length = 56) (hRS : RS s) (hE : DEr de) (hd : 0 ≤ db ∧ db ≤ 10) (hR : ∀ n : Nat, n < 256 → -2147483648 ≤ bSU (fun k : Nat => fB de s (k : Int) db.toNat) n 8 ∧ bSU (fun k : Nat => fB de s (k : Int) db.toNat) n 8 ≤ 2147483647) (k : ∀ pa : Nat → Int32, (∀ j, j < 5226 → i7 (pa j) 0 999) → gpI (fun k : Nat => fB de s (k : Int) db.toNat) 256 pa → rn_X12_balance N (159, [(3, iv (((256 : Nat) : Int))), (2, iv (0)), (0, .ref 56), (1, iv (a))], [], (C ++ rL (ro_ (0 : Int) tr db sn dm sm ty nx tk pl va fa lr ri) s kp ik tn de sd dd sr tx pa)) Q) : ∀ (m t : Nat) (pa : Nat → Int32), t + m = 256 → (∀ j, j < 5226 → i7 (pa j) 0 999) → gpI (fun k : Nat => fB de s (k : Int) db.toNat) t pa → rn_X12_balance (N + 1100 * m + 1100) (34, [(3, iv ((t : Int))), (2, iv (0)), (0, .ref 56), (1, iv (a))], [], (C ++ rL (ro_ (0 : Int) tr db sn dm sm ty nx tk pl va fa lr ri) s kp ik tn de sd dd sr tx pa)) Q := by
  intro m
  induction m with
  | zero =>
    intro t pa hj hP hG
    have hj : t = 256 := by omega
    subst hj
    refine rn_up (N := N + 1100) (by omega) ?_
    refine r_il rfl rfl ?_
    refine r_si rfl (by decide) ?_
    refine r_cge rfl rfl (by omega) (by omega) (fun g1 => ?_) (fun g1 => ?_)
    · exact rn_up (by omega) (k pa hP hG)
    · omega
  | succ m ih =>
    intro t pa hj hP hG
    obtain ⟨M, hM⟩ : ∃ M, M = N + 1100 * m + 1100 := ⟨_, rfl⟩
    rw [← hM] at ih
    refine rn_up (N := M + 1100) (by omega) ?_
    refine r_il rfl rfl ?_
    refine r_si rfl (by decide) ?_
    refine r_cge rfl rfl (by omega) (by omega) (fun g1 => ?_) (fun g1 => ?_)
    · omega
    · have hb : ∀ i : Nat, i ≤ 8 → bMx (bTb (fun k : Nat => fB de s (k : Int) db.toNat) 256) t i ≤ 255 := fun i hi => bMx_le (by decide) i (fun p hp hpb => by
        obtain ⟨s1, -⟩ := bt_sub p (by omega) t (by omega) hpb
        have := p2_pos p
        have := bTb_le (B := (fun k : Nat => fB de s (k : Int) db.toNat)) (t - 2 ^ p) (t - 2 ^ p) (Nat.le_refl _) (by omega)
        omega)
      have hT0 := (bT_ge (B := (fun k : Nat => fB de s (k : Int) db.toNat)) (n := t) (by omega)).1
      have hT1 := bTb_le (B := (fun k : Nat => fB de s (k : Int) db.toNat)) t t (Nat.le_refl _) (by omega)
      refine r_ic rfl ?_
      refine r_isw (lv' := [(4, _), (3, _), (2, _), (0, _), (1, _)]) rfl rfl rfl ?_
      refine r_ic rfl ?_
      refine r_isw (lv' := [(5, _), (4, _), (3, _), (2, _), (0, _), (1, _)]) rfl rfl rfl ?_
      refine r_ic rfl ?_
      refine r_isw (lv' := [(6, _), (5, _), (4, _), (3, _), (2, _), (0, _), (1, _)]) rfl rfl rfl ?_
      refine rn_up (N := (M + 40) + 110 * 8 + 110) (by omega) (bx_in (N := M + 40) hC hRS hE hd (by omega) hb hG ?_ 8 0 rfl)
      refine r_al rfl rfl ?_
      refine r_gf rfl rfl (rg_56 hC) rfl ?_
      refine r_il rfl rfl ?_
      refine r_ilw rfl rfl ?_
      refine r_il rfl rfl ?_
      have K : rn_X12_balance (M + 20) (152, [(6, iv (((8 : Nat) : Int))), (5, iv (bMx (bTb (fun k : Nat => fB de s (k : Int) db.toNat) 256) t 8)), (4, iv (bSU (fun k : Nat => fB de s (k : Int) db.toNat) t 8)), (3, iv ((t : Int))), (2, iv (0)), (0, .ref 56), (1, iv (a))], [iv (bTb (fun k : Nat => fB de s (k : Int) db.toNat) 256 t), iv ((t : Int)), .ref 66], (C ++ rL (ro_ (0 : Int) tr db sn dm sm ty nx tk pl va fa lr ri) s kp ik tn de sd dd sr tx pa)) Q := by
        refine r_ias rfl (rg_66 hC) (by omega) (by omega) (by decide) (rs_66 hC) ?_
        refine r_inc (lv' := [(3, _), (6, _), (5, _), (4, _), (2, _), (0, _), (1, _)]) rfl rfl rfl rfl ?_
        refine r_goto rfl rfl ?_
        refine rn_LE (a := [(3, iv ((t : Int) + 1)), (2, iv (0)), (0, .ref 56), (1, iv (a))]) ⟨(List.forall_mem_cons.mpr ⟨List.mem_cons_self, (List.forall_mem_cons.mpr ⟨(List.mem_cons_of_mem _ (List.mem_cons_of_mem _ (List.mem_cons_of_mem _ (List.mem_cons_of_mem _ List.mem_cons_self)))), (List.forall_mem_cons.mpr ⟨(List.mem_cons_of_mem _ (List.mem_cons_of_mem _ (List.mem_cons_of_mem _ (List.mem_cons_of_mem _ (List.mem_cons_of_mem _ List.mem_cons_self))))), (List.forall_mem_cons.mpr ⟨(List.mem_cons_of_mem _ (List.mem_cons_of_mem _ (List.mem_cons_of_mem _ (List.mem_cons_of_mem _ (List.mem_cons_of_mem _ (List.mem_cons_of_mem _ List.mem_cons_self)))))), (fun _ h => absurd h List.not_mem_nil)⟩)⟩)⟩)⟩), (by show List.Nodup [3, 2, 0, 1]; decide), (by show List.Nodup [3, 6, 5, 4, 2, 0, 1]; decide)⟩ ?_
        refine rn_up (by omega) (ih (t + 1) _ (by omega) (fun j hj => ?_) (fun k hk => ?_))
        · by_cases e : j = t
          · subst e
            rw [show Int.toNat (j : Int) = j from rfl, upd_same]
            unfold i7
            rw [iv_to ⟨by omega, by omega⟩]
            omega
          · rw [show Int.toNat (t : Int) = t from rfl, upd_ne e]
            exact hP j hj
        · by_cases e : k = t
          · subst e
            rw [show Int.toNat (k : Int) = k from rfl, upd_same]
          · rw [show Int.toNat (t : Int) = t from rfl, upd_ne e]
            exact hG k (by omega)
      refine r_zeq rfl rfl (by omega) (fun g5 => ?_) (fun g5 => ?_)
      · refine r_ic rfl ?_
        refine r_add rfl ?_
        have e : bMx (bTb (fun k : Nat => fB de s (k : Int) db.toNat) 256) t 8 + 0 = bTb (fun k : Nat => fB de s (k : Int) db.toNat) 256 t := by rw [bTb_e (show t < 256 by omega)]; unfold bSt; rw [decide_eq_true (show t = 0 by omega)]; rfl
        rw [e]
        exact rn_up (N := M + 20) (by omega) K
      · refine r_ilw rfl rfl ?_
        refine r_zne rfl rfl (hR t (by omega)) (fun g6 => ?_) (fun g6 => ?_)
        · refine r_ic rfl ?_
          refine r_add rfl ?_
          have e : bMx (bTb (fun k : Nat => fB de s (k : Int) db.toNat) 256) t 8 + 0 = bTb (fun k : Nat => fB de s (k : Int) db.toNat) 256 t := by rw [bTb_e (show t < 256 by omega)]; unfold bSt; rw [decide_eq_false (show ¬ t = 0 by omega), decide_eq_false g6]; rfl
          rw [e]
          exact rn_up (N := M + 20) (by omega) K
        · refine r_ic rfl ?_
          refine r_goto rfl rfl ?_
          refine r_add rfl ?_
          have e : bMx (bTb (fun k : Nat => fB de s (k : Int) db.toNat) 256) t 8 + 1 = bTb (fun k : Nat => fB de s (k : Int) db.toNat) 256 t := by rw [bTb_e (show t < 256 by omega)]; unfold bSt; rw [decide_eq_false (show ¬ t = 0 by omega), decide_eq_true g6]; rfl
          rw [e]
          exact rn_up (N := M + 20) (by omega) K
theorem bx_so (hC : C.length = 56) (hRS : RS s) (hE : DEr de) (hd : 0 ≤ db ∧ db ≤ 10) (k : rn_X12_balance N (191, [(3, iv (((8 : Nat) : Int))), (2, iv (((bSo (fun k : Nat => fB de s (k : Int) db.toNat) 0 8 : Nat) : Int))), (0, .ref 56), (1, iv (a))], [], (C ++ rL (ro_ (0 : Int) tr db sn dm sm ty nx tk pl va fa lr ri) s kp ik tn de sd dd sr tx pa)) Q) : ∀ (m j : Nat), j + m = 8 → rn_X12_balance (N + 40 * m + 40) (161, [(3, iv ((j : Int))), (2, iv (((bSo (fun k : Nat => fB de s (k : Int) db.toNat) 0 j : Nat) : Int))), (0, .ref 56), (1, iv (a))], [], (C ++ rL (ro_ (0 : Int) tr db sn dm sm ty nx tk pl va fa lr ri) s kp ik tn de sd dd sr tx pa)) Q := by
  intro m
  induction m with
  | zero =>
    intro j hj
    have hj : j = 8 := by omega
    subst hj
    refine rn_up (N := N + 40) (by omega) ?_
    refine r_il rfl rfl ?_
    refine r_bi rfl (by decide) ?_
    refine r_cge rfl rfl (by omega) (by omega) (fun g1 => ?_) (fun g1 => ?_)
    · exact rn_up (by omega) k
    · omega
  | succ m ih =>
    intro j hj
    obtain ⟨M, hM⟩ : ∃ M, M = N + 40 * m + 40 := ⟨_, rfl⟩
    rw [← hM] at ih
    refine rn_up (N := M + 40) (by omega) ?_
    refine r_il rfl rfl ?_
    refine r_bi rfl (by decide) ?_
    refine r_cge rfl rfl (by omega) (by omega) (fun g1 => ?_) (fun g1 => ?_)
    · omega
    · refine r_il rfl rfl ?_
      refine r_al rfl rfl ?_
      refine r_il rfl rfl ?_
      refine r_v2s rfl rfl (rg_56 hC) rfl (c_balanceOfR hC (by omega) hd) ?_
      have h2 : oShl 1 (j : Int) = ((2 ^ j : Nat) : Int) := (or_p j (by omega) 0 (by decide) (p2_pos j)).2.2
      refine r_zeq rfl rfl (by have := fB_r (p := (j : Int)) hRS hE db.toNat (by omega); omega) (fun g2 => ?_) (fun g2 => ?_)
      · refine r_ic rfl ?_
        refine r_add rfl ?_
        have e : ((bSo (fun k : Nat => fB de s (k : Int) db.toNat) 0 j : Nat) : Int) + 0 = ((bSo (fun k : Nat => fB de s (k : Int) db.toNat) 0 (j + 1) : Nat) : Int) := by show _ = ((bSo (fun k : Nat => fB de s (k : Int) db.toNat) 0 j + (bif !decide (fB de s (j : Int) db.toNat = 0) || decide (j < 0) then 2 ^ j else 0) : Nat) : Int); rw [decide_eq_true g2, decide_eq_false (by omega)]; rfl
        rw [e]
        refine r_is (lv' := [(2, _), (3, _), (0, _), (1, _)]) rfl rfl rfl ?_
        refine r_inc (lv' := [(3, _), (2, _), (0, _), (1, _)]) rfl rfl rfl rfl ?_
        refine r_goto rfl rfl ?_
        exact rn_up (by omega) (ih (j + 1) (by omega))
      · refine r_ic rfl ?_
        refine r_il rfl rfl ?_
        refine r_shl rfl ?_
        refine r_goto rfl rfl ?_
        refine r_add rfl ?_
        have e : ((bSo (fun k : Nat => fB de s (k : Int) db.toNat) 0 j : Nat) : Int) + oShl 1 (j : Int) = ((bSo (fun k : Nat => fB de s (k : Int) db.toNat) 0 (j + 1) : Nat) : Int) := by show _ = ((bSo (fun k : Nat => fB de s (k : Int) db.toNat) 0 j + (bif !decide (fB de s (j : Int) db.toNat = 0) || decide (j < 0) then 2 ^ j else 0) : Nat) : Int); rw [decide_eq_false g2, h2]; rfl
        rw [e]
        refine r_is (lv' := [(2, _), (3, _), (0, _), (1, _)]) rfl rfl rfl ?_
        refine r_inc (lv' := [(3, _), (2, _), (0, _), (1, _)]) rfl rfl rfl rfl ?_
        refine r_goto rfl rfl ?_
        exact rn_up (by omega) (ih (j + 1) (by omega))
theorem c_balN (hC : C.length = 56) (hRS : RS s) (hE : DEr de) (hd : 0 ≤ db ∧ db ≤ 10) (hR : ∀ n : Nat, n < 256 → -2147483648 ≤ bSU (fun k : Nat => fB de s (k : Int) db.toNat) n 8 ∧ bSU (fun k : Nat => fB de s (k : Int) db.toNat) n 8 ≤ 2147483647) (hPA : ∀ j, j < 5226 → i7 (pa j) 0 999) : ∃ pa' : Nat → Int32, sX12_balance [.ref 56, iv (-1)] (C ++ rL (ro_ th tr db sn dm sm ty nx tk pl va fa lr ri) s kp ik tn de sd dd sr tx pa) = some (some (iv (fO ((bSo (fun k : Nat => fB de s (k : Int) db.toNat) 0 8 : Nat) : Int) 16 - bTb (fun k : Nat => fB de s (k : Int) db.toNat) 256 (bSo (fun k : Nat => fB de s (k : Int) db.toNat) 0 8))), (C ++ rL (ro_ (0 : Int) tr db sn dm sm ty nx tk pl va fa lr ri) s kp ik tn de sd dd sr tx pa')) ∧ ∀ j, j < 5226 → i7 (pa' j) 0 999 := by
  obtain ⟨M, hM⟩ : ∃ M, M = 1000 + 1100 * 256 + 1100 := ⟨_, rfl⟩
  have main : rn_X12_balance (M + 100) (0, [(0, .ref 56), (1, iv ((-1)))], [], (C ++ rL (ro_ th tr db sn dm sm ty nx tk pl va fa lr ri) s kp ik tn de sd dd sr tx pa)) (fun r => ∃ pa' : Nat → Int32, r = (some (iv (fO ((bSo (fun k : Nat => fB de s (k : Int) db.toNat) 0 8 : Nat) : Int) 16 - bTb (fun k : Nat => fB de s (k : Int) db.toNat) 256 (bSo (fun k : Nat => fB de s (k : Int) db.toNat) 0 8))), (C ++ rL (ro_ (0 : Int) tr db sn dm sm ty nx tk pl va fa lr ri) s kp ik tn de sd dd sr tx pa')) ∧ ∀ j, j < 5226 → i7 (pa' j) 0 999) := by
    refine r_al rfl rfl ?_
    refine r_ic rfl ?_
    refine r_pf rfl rfl (rg_56 hC) rfl (rp_th hC) ?_
    refine r_il rfl rfl ?_
    refine r_ic rfl ?_
    refine r_ceq rfl rfl (by decide) (by decide) (fun g1 => ?_) (fun g1 => ?_)
    · refine r_il rfl rfl ?_
      refine r_zlt rfl rfl (by decide) (fun g2 => ?_) (fun g2 => ?_)
      · refine r_ic rfl ?_
        refine r_is (lv' := [(2, _), (0, _), (1, _)]) rfl rfl rfl ?_
        refine r_ic rfl ?_
        refine r_is (lv' := [(3, _), (2, _), (0, _), (1, _)]) rfl rfl rfl ?_
        rw [hM]
        refine rn_up (N := 1000 + 1100 * 256 + 1100) (by decide) (bx_out (N := 1000) (a := -1) hC hRS hE hd hR (fun pa hP hG => ?_) 256 0 pa rfl hPA (fun k hk => by omega))
        refine r_ic rfl ?_
        refine r_is (lv' := [(3, _), (2, _), (0, _), (1, _)]) rfl rfl rfl ?_
        refine rn_up (N := 100 + 40 * 8 + 40) (by decide) (bx_so (N := 100) (a := -1) hC hRS hE hd ?_ 8 0 rfl)
        have hr := bSo_r (B := (fun k : Nat => fB de s (k : Int) db.toNat)) (j := 0) 8
        have hr : bSo (fun k : Nat => fB de s (k : Int) db.toNat) 0 8 < 256 := hr
        have hg := gp_v hG hr hr
        refine r_il rfl rfl ?_
        refine r_s1s rfl rfl rfl c_onesR ?_
        refine r_al rfl rfl ?_
        refine r_gf rfl rfl (rg_56 hC) rfl ?_
        refine r_il rfl rfl ?_
        refine r_ia rfl (rg_66 hC) (by omega) (by omega) (by decide) ?_
        refine r_sub rfl ?_
        rw [show Int.toNat ((bSo (fun k : Nat => fB de s (k : Int) db.toNat) 0 8 : Nat) : Int) = bSo (fun k : Nat => fB de s (k : Int) db.toNat) 0 8 from rfl, hg]
        exact r_ret rfl rfl ⟨pa, rfl, hP⟩
      · exact absurd g2 (by decide)
    · exact absurd rfl g1
  obtain ⟨r, h1, pa', h2, h3⟩ := rn_S (vs := [.ref 56, iv (-1)]) rfl (rn_up (N := M + 100) (M := mm_fuel) (by rw [hM]; decide) main)
  have h1 : sX12_balance [.ref 56, iv (-1)] (C ++ rL (ro_ th tr db sn dm sm ty nx tk pl va fa lr ri) s kp ik tn de sd dd sr tx pa) = some r := h1
  exact ⟨pa', by rw [h1, h2], h3⟩
theorem c_balP0 (hC : C.length = 56) (hRS : RS s) (hE : DEr de) (hd : 0 ≤ db ∧ db ≤ 10) (ha : -2147483648 ≤ a ∧ a ≤ 2147483647) (hn : a ≠ -1) (hv : i3 a 0 7 = false) : sX12_balance [.ref 56, iv (a)] (C ++ rL (ro_ th tr db sn dm sm ty nx tk pl va fa lr ri) s kp ik tn de sd dd sr tx pa) = some (some (iv (-1000000)), (C ++ rL (ro_ (0 : Int) tr db sn dm sm ty nx tk pl va fa lr ri) s kp ik tn de sd dd sr tx pa)) := by
  have main : ∀ Q : mm_R → Prop, Q (some (iv (-1000000)), (C ++ rL (ro_ (0 : Int) tr db sn dm sm ty nx tk pl va fa lr ri) s kp ik tn de sd dd sr tx pa)) → rn_X12_balance (1000) (0, [(0, .ref 56), (1, iv (a))], [], (C ++ rL (ro_ th tr db sn dm sm ty nx tk pl va fa lr ri) s kp ik tn de sd dd sr tx pa)) Q := by
    intro Q hQ
    refine r_al rfl rfl ?_
    refine r_ic rfl ?_
    refine r_pf rfl rfl (rg_56 hC) rfl (rp_th hC) ?_
    refine r_il rfl rfl ?_
    refine r_ic rfl ?_
    refine r_ceq rfl rfl (by omega) (by omega) (fun g1 => ?_) (fun g1 => ?_)
    · exact absurd g1 hn
    · refine r_il rfl rfl ?_
      refine r_s1s rfl rfl rfl (c_isPersonR ha) ?_
      rw [hv]
      refine r_zne rfl rfl (bi_r _) (fun g2 => ?_) (fun g2 => ?_)
      · exact absurd rfl g2
      · refine r_ldc (v := iv (-1000000)) rfl rfl ?_
        exact r_ret rfl rfl hQ
  obtain ⟨r, h1, h2⟩ := rn_S (vs := [.ref 56, iv (a)]) (Q := fun r => r = (some (iv (-1000000)), (C ++ rL (ro_ (0 : Int) tr db sn dm sm ty nx tk pl va fa lr ri) s kp ik tn de sd dd sr tx pa))) rfl (rn_up (N := 1000) (M := mm_fuel) (by decide) (main (fun r => r = (some (iv (-1000000)), (C ++ rL (ro_ (0 : Int) tr db sn dm sm ty nx tk pl va fa lr ri) s kp ik tn de sd dd sr tx pa))) rfl))
  have h1 : sX12_balance [.ref 56, iv (a)] (C ++ rL (ro_ th tr db sn dm sm ty nx tk pl va fa lr ri) s kp ik tn de sd dd sr tx pa) = some r := h1
  rw [h1, h2]
theorem c_balP1 (hC : C.length = 56) (hRS : RS s) (hE : DEr de) (hd : 0 ≤ db ∧ db ≤ 10) (ha : -2147483648 ≤ a ∧ a ≤ 2147483647) (hn : a ≠ -1) (hv : i3 a 0 7 = true) : sX12_balance [.ref 56, iv (a)] (C ++ rL (ro_ th tr db sn dm sm ty nx tk pl va fa lr ri) s kp ik tn de sd dd sr tx pa) = some (some (iv (fB de s a db.toNat)), (C ++ rL (ro_ (0 : Int) tr db sn dm sm ty nx tk pl va fa lr ri) s kp ik tn de sd dd sr tx pa)) := by
  have main : ∀ Q : mm_R → Prop, Q (some (iv (fB de s a db.toNat)), (C ++ rL (ro_ (0 : Int) tr db sn dm sm ty nx tk pl va fa lr ri) s kp ik tn de sd dd sr tx pa)) → rn_X12_balance (1000) (0, [(0, .ref 56), (1, iv (a))], [], (C ++ rL (ro_ th tr db sn dm sm ty nx tk pl va fa lr ri) s kp ik tn de sd dd sr tx pa)) Q := by
    intro Q hQ
    have ra := i3_t hv
    refine r_al rfl rfl ?_
    refine r_ic rfl ?_
    refine r_pf rfl rfl (rg_56 hC) rfl (rp_th hC) ?_
    refine r_il rfl rfl ?_
    refine r_ic rfl ?_
    refine r_ceq rfl rfl (by omega) (by omega) (fun g1 => ?_) (fun g1 => ?_)
    · exact absurd g1 hn
    · refine r_il rfl rfl ?_
      refine r_s1s rfl rfl rfl (c_isPersonR ha) ?_
      rw [hv]
      refine r_zne rfl rfl (bi_r _) (fun g2 => ?_) (fun g2 => ?_)
      · refine r_il rfl rfl ?_
        refine r_zlt rfl rfl (by omega) (fun g3 => ?_) (fun g3 => ?_)
        · omega
        · refine r_al rfl rfl ?_
          refine r_il rfl rfl ?_
          refine r_v2s rfl rfl (rg_56 hC) rfl (c_balanceOfR hC (by omega) hd) ?_
          exact r_ret rfl rfl hQ
      · exact absurd g2 (by decide)
  obtain ⟨r, h1, h2⟩ := rn_S (vs := [.ref 56, iv (a)]) (Q := fun r => r = (some (iv (fB de s a db.toNat)), (C ++ rL (ro_ (0 : Int) tr db sn dm sm ty nx tk pl va fa lr ri) s kp ik tn de sd dd sr tx pa))) rfl (rn_up (N := 1000) (M := mm_fuel) (by decide) (main (fun r => r = (some (iv (fB de s a db.toNat)), (C ++ rL (ro_ (0 : Int) tr db sn dm sm ty nx tk pl va fa lr ri) s kp ik tn de sd dd sr tx pa))) rfl))
  have h1 : sX12_balance [.ref 56, iv (a)] (C ++ rL (ro_ th tr db sn dm sm ty nx tk pl va fa lr ri) s kp ik tn de sd dd sr tx pa) = some r := h1
  rw [h1, h2]
end BRR
section BCC
variable {ki : Int} {ln : Int} {bt : Nat → Int32} {rl : Value} {cp : Int} {cs : Int} {ct : Int} {cv : Int} {rr : Nat} {dr : Nat} {ja : Int} {ea : Int} {ma : Int} {a1 : Nat → Int32} {a2 : Nat → Int32} {a3 : Nat → Int32} {a4 : Nat → Int32} {a5 : Nat → Int32} {a6 : Nat → Int32} {a7 : Nat → Int32} {a8 : Nat → Int32} {jb : Int} {eb : Int} {mb : Int} {b1 : Nat → Int32} {b2 : Nat → Int32} {b3 : Nat → Int32} {b4 : Nat → Int32} {b5 : Nat → Int32} {b6 : Nat → Int32} {b7 : Nat → Int32} {b8 : Nat → Int32} {re : Int} {fl : Int} {g1 : Nat → Int32} {g2 : Nat → Int32} {g3 : Nat → Int32} {g4 : Nat → Int32} {g5 : Nat → Int32} {rt : Int} {la : Int} {rs : Int} {rg : Int} {pd : Nat → Int32} {du : Nat → Int32} {ds : Nat → Int32} {me : Nat → Int32} {tt : Nat → Int32} {gr : Nat → Int32} {su : Nat → Int32} {gp : Nat → Int32} {mk : Int64} {rf : Nat → Option Nat} {m1 : Nat → Int32} {m2 : Nat → Int32} {m3 : Nat → Int32} {m4 : Nat → Int32} {m5 : Nat → Int32} {mr : Int} {mf : Int} {n1 : Nat → Int32} {n2 : Nat → Int32} {n3 : Nat → Int32} {n4 : Nat → Int32} {n5 : Nat → Int32} {nr : Int} {nf : Int} {E : List va_E} {a : Int} {Q : mm_R → Prop} {N : Nat}
abbrev rn_X11_balance (N : Nat) (c : mm_C) (Q : mm_R → Prop) : Prop := rn (mm_gf gLX11) (mm_pf pLX11) (mm_mv vX11_balance) (mm_mv zX11_balance) (mm_kc kLX11) mm_gs0 mm_rf0 mm_ro (some .int) 2 (mm_ins iX11_balance) N c Q
theorem c_balC0N (hd : 0 ≤ ea ∧ ea ≤ 10) (hR : ∀ n : Nat, n < 256 → -2147483648 ≤ bSU (fun k : Nat => cBf a1 a2 a3 g1 (k : Int) ea.toNat) n 8 ∧ bSU (fun k : Nat => cBf a1 a2 a3 g1 (k : Int) ea.toNat) n 8 ≤ 2147483647) : ∃ su' gp' : Nat → Int32, sX11_balance [.ref 0, iv (-1)] (cW ki ln bt rl cp cs ct cv 5 14 ja ea ma a1 a2 a3 a4 a5 a6 a7 a8 jb eb mb b1 b2 b3 b4 b5 b6 b7 b8 re fl g1 g2 g3 g4 g5 (dW rt la rs rg pd du ds me tt gr su gp mk rf m1 m2 m3 m4 m5 mr mf n1 n2 n3 n4 n5 nr nf E)) = some (some (iv (8 - bTb (fun k : Nat => cBf a1 a2 a3 g1 (k : Int) ea.toNat) 256 255)), (cW ki ln bt rl cp cs ct cv 5 14 ja ea ma a1 a2 a3 a4 a5 a6 a7 a8 jb eb mb b1 b2 b3 b4 b5 b6 b7 b8 re fl g1 g2 g3 g4 g5 (dW rt la rs rg pd du ds me tt gr su' gp' mk rf m1 m2 m3 m4 m5 mr mf n1 n2 n3 n4 n5 nr nf E))) := by
  obtain ⟨su', gp', hfp⟩ := c_fp0 (E := E) (ki := ki) (ln := ln) (bt := bt) (rl := rl) (cp := cp) (cs := cs) (ct := ct) (cv := cv) (ja := ja) (ea := ea) (ma := ma) (a1 := a1) (a2 := a2) (a3 := a3) (a4 := a4) (a5 := a5) (a6 := a6) (a7 := a7) (a8 := a8) (jb := jb) (eb := eb) (mb := mb) (b1 := b1) (b2 := b2) (b3 := b3) (b4 := b4) (b5 := b5) (b6 := b6) (b7 := b7) (b8 := b8) (re := re) (fl := fl) (g1 := g1) (g2 := g2) (g3 := g3) (g4 := g4) (g5 := g5) (rt := rt) (la := la) (rs := rs) (rg := rg) (pd := pd) (du := du) (ds := ds) (me := me) (tt := tt) (gr := gr) (su := su) (gp := gp) (mk := mk) (rf := rf) (m1 := m1) (m2 := m2) (m3 := m3) (m4 := m4) (m5 := m5) (mr := mr) (mf := mf) (n1 := n1) (n2 := n2) (n3 := n3) (n4 := n4) (n5 := n5) (nr := nr) (nf := nf) hd hR
  have main : rn_X11_balance 100 (0, [(0, .ref 0), (1, iv ((-1)))], [], (cW ki ln bt rl cp cs ct cv 5 14 ja ea ma a1 a2 a3 a4 a5 a6 a7 a8 jb eb mb b1 b2 b3 b4 b5 b6 b7 b8 re fl g1 g2 g3 g4 g5 (dW rt la rs rg pd du ds me tt gr su gp mk rf m1 m2 m3 m4 m5 mr mf n1 n2 n3 n4 n5 nr nf E))) (fun r => r = (some (iv (8 - bTb (fun k : Nat => cBf a1 a2 a3 g1 (k : Int) ea.toNat) 256 255)), (cW ki ln bt rl cp cs ct cv 5 14 ja ea ma a1 a2 a3 a4 a5 a6 a7 a8 jb eb mb b1 b2 b3 b4 b5 b6 b7 b8 re fl g1 g2 g3 g4 g5 (dW rt la rs rg pd du ds me tt gr su' gp' mk rf m1 m2 m3 m4 m5 mr mf n1 n2 n3 n4 n5 nr nf E)))) := by
    refine r_il rfl rfl ?_
    refine r_ic rfl ?_
    refine r_cne rfl rfl (by decide) (by decide) (fun u1 => ?_) (fun u1 => ?_)
    · exact absurd rfl u1
    · refine r_al rfl rfl ?_
      refine r_gf rfl rfl xg_0 rfl ?_
      refine r_v1s rfl rfl xg_39 rfl hfp ?_
      exact r_ret rfl rfl rfl
  obtain ⟨r, h1, h2⟩ := rn_S (vs := [.ref 0, iv (-1)]) rfl (rn_up (N := 100) (M := mm_fuel) (by decide) main)
  have h1 : sX11_balance [.ref 0, iv (-1)] (cW ki ln bt rl cp cs ct cv 5 14 ja ea ma a1 a2 a3 a4 a5 a6 a7 a8 jb eb mb b1 b2 b3 b4 b5 b6 b7 b8 re fl g1 g2 g3 g4 g5 (dW rt la rs rg pd du ds me tt gr su gp mk rf m1 m2 m3 m4 m5 mr mf n1 n2 n3 n4 n5 nr nf E)) = some r := h1
  exact ⟨su', gp', by rw [h1, h2]⟩
theorem c_balC0P0 (hd : 0 ≤ ea ∧ ea ≤ 10) (ha : -2147483648 ≤ a ∧ a ≤ 2147483647) (hn : a ≠ -1) (hv : i3 a 0 7 = false) : sX11_balance [.ref 0, iv (a)] (cW ki ln bt rl cp cs ct cv 5 14 ja ea ma a1 a2 a3 a4 a5 a6 a7 a8 jb eb mb b1 b2 b3 b4 b5 b6 b7 b8 re fl g1 g2 g3 g4 g5 (dW rt la rs rg pd du ds me tt gr su gp mk rf m1 m2 m3 m4 m5 mr mf n1 n2 n3 n4 n5 nr nf E)) = some (some (iv (-1000000)), (cW ki ln bt rl cp cs ct cv 5 14 ja ea ma a1 a2 a3 a4 a5 a6 a7 a8 jb eb mb b1 b2 b3 b4 b5 b6 b7 b8 re fl g1 g2 g3 g4 g5 (dW rt la rs rg pd du ds me tt gr su gp mk rf m1 m2 m3 m4 m5 mr mf n1 n2 n3 n4 n5 nr nf E))) := by
  have main : ∀ Q : mm_R → Prop, Q (some (iv (-1000000)), (cW ki ln bt rl cp cs ct cv 5 14 ja ea ma a1 a2 a3 a4 a5 a6 a7 a8 jb eb mb b1 b2 b3 b4 b5 b6 b7 b8 re fl g1 g2 g3 g4 g5 (dW rt la rs rg pd du ds me tt gr su gp mk rf m1 m2 m3 m4 m5 mr mf n1 n2 n3 n4 n5 nr nf E))) → rn_X11_balance (1000) (0, [(0, .ref 0), (1, iv (a))], [], (cW ki ln bt rl cp cs ct cv 5 14 ja ea ma a1 a2 a3 a4 a5 a6 a7 a8 jb eb mb b1 b2 b3 b4 b5 b6 b7 b8 re fl g1 g2 g3 g4 g5 (dW rt la rs rg pd du ds me tt gr su gp mk rf m1 m2 m3 m4 m5 mr mf n1 n2 n3 n4 n5 nr nf E))) Q := by
    intro Q hQ
    refine r_il rfl rfl ?_
    refine r_ic rfl ?_
    refine r_cne rfl rfl (by omega) (by omega) (fun u1 => ?_) (fun u1 => ?_)
    · refine r_il rfl rfl ?_
      refine r_s1s rfl rfl rfl (c_isPersonC ha) ?_
      rw [hv]
      refine r_zeq rfl rfl (bi_r _) (fun u2 => ?_) (fun u2 => ?_)
      · refine r_ldc (v := iv (-1000000)) rfl rfl ?_
        exact r_ret rfl rfl hQ
      · exact absurd rfl u2
    · exact absurd u1 hn
  obtain ⟨r, h1, h2⟩ := rn_S (vs := [.ref 0, iv (a)]) (Q := fun r => r = (some (iv (-1000000)), (cW ki ln bt rl cp cs ct cv 5 14 ja ea ma a1 a2 a3 a4 a5 a6 a7 a8 jb eb mb b1 b2 b3 b4 b5 b6 b7 b8 re fl g1 g2 g3 g4 g5 (dW rt la rs rg pd du ds me tt gr su gp mk rf m1 m2 m3 m4 m5 mr mf n1 n2 n3 n4 n5 nr nf E)))) rfl (rn_up (N := 1000) (M := mm_fuel) (by decide) (main (fun r => r = (some (iv (-1000000)), (cW ki ln bt rl cp cs ct cv 5 14 ja ea ma a1 a2 a3 a4 a5 a6 a7 a8 jb eb mb b1 b2 b3 b4 b5 b6 b7 b8 re fl g1 g2 g3 g4 g5 (dW rt la rs rg pd du ds me tt gr su gp mk rf m1 m2 m3 m4 m5 mr mf n1 n2 n3 n4 n5 nr nf E)))) rfl))
  have h1 : sX11_balance [.ref 0, iv (a)] (cW ki ln bt rl cp cs ct cv 5 14 ja ea ma a1 a2 a3 a4 a5 a6 a7 a8 jb eb mb b1 b2 b3 b4 b5 b6 b7 b8 re fl g1 g2 g3 g4 g5 (dW rt la rs rg pd du ds me tt gr su gp mk rf m1 m2 m3 m4 m5 mr mf n1 n2 n3 n4 n5 nr nf E)) = some r := h1
  rw [h1, h2]
theorem c_balC0P1 (hd : 0 ≤ ea ∧ ea ≤ 10) (ha : -2147483648 ≤ a ∧ a ≤ 2147483647) (hn : a ≠ -1) (hv : i3 a 0 7 = true) : sX11_balance [.ref 0, iv (a)] (cW ki ln bt rl cp cs ct cv 5 14 ja ea ma a1 a2 a3 a4 a5 a6 a7 a8 jb eb mb b1 b2 b3 b4 b5 b6 b7 b8 re fl g1 g2 g3 g4 g5 (dW rt la rs rg pd du ds me tt gr su gp mk rf m1 m2 m3 m4 m5 mr mf n1 n2 n3 n4 n5 nr nf E)) = some (some (iv (cBf a1 a2 a3 g1 a ea.toNat)), (cW ki ln bt rl cp cs ct cv 5 14 ja ea ma a1 a2 a3 a4 a5 a6 a7 a8 jb eb mb b1 b2 b3 b4 b5 b6 b7 b8 re fl g1 g2 g3 g4 g5 (dW rt la rs rg pd du ds me tt gr su gp mk rf m1 m2 m3 m4 m5 mr mf n1 n2 n3 n4 n5 nr nf E))) := by
  have main : ∀ Q : mm_R → Prop, Q (some (iv (cBf a1 a2 a3 g1 a ea.toNat)), (cW ki ln bt rl cp cs ct cv 5 14 ja ea ma a1 a2 a3 a4 a5 a6 a7 a8 jb eb mb b1 b2 b3 b4 b5 b6 b7 b8 re fl g1 g2 g3 g4 g5 (dW rt la rs rg pd du ds me tt gr su gp mk rf m1 m2 m3 m4 m5 mr mf n1 n2 n3 n4 n5 nr nf E))) → rn_X11_balance (1000) (0, [(0, .ref 0), (1, iv (a))], [], (cW ki ln bt rl cp cs ct cv 5 14 ja ea ma a1 a2 a3 a4 a5 a6 a7 a8 jb eb mb b1 b2 b3 b4 b5 b6 b7 b8 re fl g1 g2 g3 g4 g5 (dW rt la rs rg pd du ds me tt gr su gp mk rf m1 m2 m3 m4 m5 mr mf n1 n2 n3 n4 n5 nr nf E))) Q := by
    intro Q hQ
    refine r_il rfl rfl ?_
    refine r_ic rfl ?_
    refine r_cne rfl rfl (by omega) (by omega) (fun u1 => ?_) (fun u1 => ?_)
    · refine r_il rfl rfl ?_
      refine r_s1s rfl rfl rfl (c_isPersonC ha) ?_
      rw [hv]
      refine r_zeq rfl rfl (bi_r _) (fun u2 => ?_) (fun u2 => ?_)
      · exact absurd u2 (by decide)
      · refine r_al rfl rfl ?_
        refine r_gf rfl rfl xg_0 rfl ?_
        refine r_il rfl rfl ?_
        refine r_v2s rfl rfl xg_39 rfl (c_bf0 hd ha) ?_
        refine r_goto rfl rfl ?_
        exact r_ret rfl rfl hQ
    · exact absurd u1 hn
  obtain ⟨r, h1, h2⟩ := rn_S (vs := [.ref 0, iv (a)]) (Q := fun r => r = (some (iv (cBf a1 a2 a3 g1 a ea.toNat)), (cW ki ln bt rl cp cs ct cv 5 14 ja ea ma a1 a2 a3 a4 a5 a6 a7 a8 jb eb mb b1 b2 b3 b4 b5 b6 b7 b8 re fl g1 g2 g3 g4 g5 (dW rt la rs rg pd du ds me tt gr su gp mk rf m1 m2 m3 m4 m5 mr mf n1 n2 n3 n4 n5 nr nf E)))) rfl (rn_up (N := 1000) (M := mm_fuel) (by decide) (main (fun r => r = (some (iv (cBf a1 a2 a3 g1 a ea.toNat)), (cW ki ln bt rl cp cs ct cv 5 14 ja ea ma a1 a2 a3 a4 a5 a6 a7 a8 jb eb mb b1 b2 b3 b4 b5 b6 b7 b8 re fl g1 g2 g3 g4 g5 (dW rt la rs rg pd du ds me tt gr su gp mk rf m1 m2 m3 m4 m5 mr mf n1 n2 n3 n4 n5 nr nf E)))) rfl))
  have h1 : sX11_balance [.ref 0, iv (a)] (cW ki ln bt rl cp cs ct cv 5 14 ja ea ma a1 a2 a3 a4 a5 a6 a7 a8 jb eb mb b1 b2 b3 b4 b5 b6 b7 b8 re fl g1 g2 g3 g4 g5 (dW rt la rs rg pd du ds me tt gr su gp mk rf m1 m2 m3 m4 m5 mr mf n1 n2 n3 n4 n5 nr nf E)) = some r := h1
  rw [h1, h2]
theorem c_balC1N (hd : 0 ≤ eb ∧ eb ≤ 10) (hR : ∀ n : Nat, n < 256 → -2147483648 ≤ bSU (fun k : Nat => cBf b1 b2 b3 g1 (k : Int) eb.toNat) n 8 ∧ bSU (fun k : Nat => cBf b1 b2 b3 g1 (k : Int) eb.toNat) n 8 ≤ 2147483647) : ∃ su' gp' : Nat → Int32, sX11_balance [.ref 0, iv (-1)] (cW ki ln bt rl cp cs ct cv 14 5 ja ea ma a1 a2 a3 a4 a5 a6 a7 a8 jb eb mb b1 b2 b3 b4 b5 b6 b7 b8 re fl g1 g2 g3 g4 g5 (dW rt la rs rg pd du ds me tt gr su gp mk rf m1 m2 m3 m4 m5 mr mf n1 n2 n3 n4 n5 nr nf E)) = some (some (iv (8 - bTb (fun k : Nat => cBf b1 b2 b3 g1 (k : Int) eb.toNat) 256 255)), (cW ki ln bt rl cp cs ct cv 14 5 ja ea ma a1 a2 a3 a4 a5 a6 a7 a8 jb eb mb b1 b2 b3 b4 b5 b6 b7 b8 re fl g1 g2 g3 g4 g5 (dW rt la rs rg pd du ds me tt gr su' gp' mk rf m1 m2 m3 m4 m5 mr mf n1 n2 n3 n4 n5 nr nf E))) := by
  obtain ⟨su', gp', hfp⟩ := c_fp1 (E := E) (ki := ki) (ln := ln) (bt := bt) (rl := rl) (cp := cp) (cs := cs) (ct := ct) (cv := cv) (ja := ja) (ea := ea) (ma := ma) (a1 := a1) (a2 := a2) (a3 := a3) (a4 := a4) (a5 := a5) (a6 := a6) (a7 := a7) (a8 := a8) (jb := jb) (eb := eb) (mb := mb) (b1 := b1) (b2 := b2) (b3 := b3) (b4 := b4) (b5 := b5) (b6 := b6) (b7 := b7) (b8 := b8) (re := re) (fl := fl) (g1 := g1) (g2 := g2) (g3 := g3) (g4 := g4) (g5 := g5) (rt := rt) (la := la) (rs := rs) (rg := rg) (pd := pd) (du := du) (ds := ds) (me := me) (tt := tt) (gr := gr) (su := su) (gp := gp) (mk := mk) (rf := rf) (m1 := m1) (m2 := m2) (m3 := m3) (m4 := m4) (m5 := m5) (mr := mr) (mf := mf) (n1 := n1) (n2 := n2) (n3 := n3) (n4 := n4) (n5 := n5) (nr := nr) (nf := nf) hd hR
  have main : rn_X11_balance 100 (0, [(0, .ref 0), (1, iv ((-1)))], [], (cW ki ln bt rl cp cs ct cv 14 5 ja ea ma a1 a2 a3 a4 a5 a6 a7 a8 jb eb mb b1 b2 b3 b4 b5 b6 b7 b8 re fl g1 g2 g3 g4 g5 (dW rt la rs rg pd du ds me tt gr su gp mk rf m1 m2 m3 m4 m5 mr mf n1 n2 n3 n4 n5 nr nf E))) (fun r => r = (some (iv (8 - bTb (fun k : Nat => cBf b1 b2 b3 g1 (k : Int) eb.toNat) 256 255)), (cW ki ln bt rl cp cs ct cv 14 5 ja ea ma a1 a2 a3 a4 a5 a6 a7 a8 jb eb mb b1 b2 b3 b4 b5 b6 b7 b8 re fl g1 g2 g3 g4 g5 (dW rt la rs rg pd du ds me tt gr su' gp' mk rf m1 m2 m3 m4 m5 mr mf n1 n2 n3 n4 n5 nr nf E)))) := by
    refine r_il rfl rfl ?_
    refine r_ic rfl ?_
    refine r_cne rfl rfl (by decide) (by decide) (fun u1 => ?_) (fun u1 => ?_)
    · exact absurd rfl u1
    · refine r_al rfl rfl ?_
      refine r_gf rfl rfl xg_0 rfl ?_
      refine r_v1s rfl rfl xg_39 rfl hfp ?_
      exact r_ret rfl rfl rfl
  obtain ⟨r, h1, h2⟩ := rn_S (vs := [.ref 0, iv (-1)]) rfl (rn_up (N := 100) (M := mm_fuel) (by decide) main)
  have h1 : sX11_balance [.ref 0, iv (-1)] (cW ki ln bt rl cp cs ct cv 14 5 ja ea ma a1 a2 a3 a4 a5 a6 a7 a8 jb eb mb b1 b2 b3 b4 b5 b6 b7 b8 re fl g1 g2 g3 g4 g5 (dW rt la rs rg pd du ds me tt gr su gp mk rf m1 m2 m3 m4 m5 mr mf n1 n2 n3 n4 n5 nr nf E)) = some r := h1
  exact ⟨su', gp', by rw [h1, h2]⟩
theorem c_balC1P0 (hd : 0 ≤ eb ∧ eb ≤ 10) (ha : -2147483648 ≤ a ∧ a ≤ 2147483647) (hn : a ≠ -1) (hv : i3 a 0 7 = false) : sX11_balance [.ref 0, iv (a)] (cW ki ln bt rl cp cs ct cv 14 5 ja ea ma a1 a2 a3 a4 a5 a6 a7 a8 jb eb mb b1 b2 b3 b4 b5 b6 b7 b8 re fl g1 g2 g3 g4 g5 (dW rt la rs rg pd du ds me tt gr su gp mk rf m1 m2 m3 m4 m5 mr mf n1 n2 n3 n4 n5 nr nf E)) = some (some (iv (-1000000)), (cW ki ln bt rl cp cs ct cv 14 5 ja ea ma a1 a2 a3 a4 a5 a6 a7 a8 jb eb mb b1 b2 b3 b4 b5 b6 b7 b8 re fl g1 g2 g3 g4 g5 (dW rt la rs rg pd du ds me tt gr su gp mk rf m1 m2 m3 m4 m5 mr mf n1 n2 n3 n4 n5 nr nf E))) := by
  have main : ∀ Q : mm_R → Prop, Q (some (iv (-1000000)), (cW ki ln bt rl cp cs ct cv 14 5 ja ea ma a1 a2 a3 a4 a5 a6 a7 a8 jb eb mb b1 b2 b3 b4 b5 b6 b7 b8 re fl g1 g2 g3 g4 g5 (dW rt la rs rg pd du ds me tt gr su gp mk rf m1 m2 m3 m4 m5 mr mf n1 n2 n3 n4 n5 nr nf E))) → rn_X11_balance (1000) (0, [(0, .ref 0), (1, iv (a))], [], (cW ki ln bt rl cp cs ct cv 14 5 ja ea ma a1 a2 a3 a4 a5 a6 a7 a8 jb eb mb b1 b2 b3 b4 b5 b6 b7 b8 re fl g1 g2 g3 g4 g5 (dW rt la rs rg pd du ds me tt gr su gp mk rf m1 m2 m3 m4 m5 mr mf n1 n2 n3 n4 n5 nr nf E))) Q := by
    intro Q hQ
    refine r_il rfl rfl ?_
    refine r_ic rfl ?_
    refine r_cne rfl rfl (by omega) (by omega) (fun u1 => ?_) (fun u1 => ?_)
    · refine r_il rfl rfl ?_
      refine r_s1s rfl rfl rfl (c_isPersonC ha) ?_
      rw [hv]
      refine r_zeq rfl rfl (bi_r _) (fun u2 => ?_) (fun u2 => ?_)
      · refine r_ldc (v := iv (-1000000)) rfl rfl ?_
        exact r_ret rfl rfl hQ
      · exact absurd rfl u2
    · exact absurd u1 hn
  obtain ⟨r, h1, h2⟩ := rn_S (vs := [.ref 0, iv (a)]) (Q := fun r => r = (some (iv (-1000000)), (cW ki ln bt rl cp cs ct cv 14 5 ja ea ma a1 a2 a3 a4 a5 a6 a7 a8 jb eb mb b1 b2 b3 b4 b5 b6 b7 b8 re fl g1 g2 g3 g4 g5 (dW rt la rs rg pd du ds me tt gr su gp mk rf m1 m2 m3 m4 m5 mr mf n1 n2 n3 n4 n5 nr nf E)))) rfl (rn_up (N := 1000) (M := mm_fuel) (by decide) (main (fun r => r = (some (iv (-1000000)), (cW ki ln bt rl cp cs ct cv 14 5 ja ea ma a1 a2 a3 a4 a5 a6 a7 a8 jb eb mb b1 b2 b3 b4 b5 b6 b7 b8 re fl g1 g2 g3 g4 g5 (dW rt la rs rg pd du ds me tt gr su gp mk rf m1 m2 m3 m4 m5 mr mf n1 n2 n3 n4 n5 nr nf E)))) rfl))
  have h1 : sX11_balance [.ref 0, iv (a)] (cW ki ln bt rl cp cs ct cv 14 5 ja ea ma a1 a2 a3 a4 a5 a6 a7 a8 jb eb mb b1 b2 b3 b4 b5 b6 b7 b8 re fl g1 g2 g3 g4 g5 (dW rt la rs rg pd du ds me tt gr su gp mk rf m1 m2 m3 m4 m5 mr mf n1 n2 n3 n4 n5 nr nf E)) = some r := h1
  rw [h1, h2]
theorem c_balC1P1 (hd : 0 ≤ eb ∧ eb ≤ 10) (ha : -2147483648 ≤ a ∧ a ≤ 2147483647) (hn : a ≠ -1) (hv : i3 a 0 7 = true) : sX11_balance [.ref 0, iv (a)] (cW ki ln bt rl cp cs ct cv 14 5 ja ea ma a1 a2 a3 a4 a5 a6 a7 a8 jb eb mb b1 b2 b3 b4 b5 b6 b7 b8 re fl g1 g2 g3 g4 g5 (dW rt la rs rg pd du ds me tt gr su gp mk rf m1 m2 m3 m4 m5 mr mf n1 n2 n3 n4 n5 nr nf E)) = some (some (iv (cBf b1 b2 b3 g1 a eb.toNat)), (cW ki ln bt rl cp cs ct cv 14 5 ja ea ma a1 a2 a3 a4 a5 a6 a7 a8 jb eb mb b1 b2 b3 b4 b5 b6 b7 b8 re fl g1 g2 g3 g4 g5 (dW rt la rs rg pd du ds me tt gr su gp mk rf m1 m2 m3 m4 m5 mr mf n1 n2 n3 n4 n5 nr nf E))) := by
  have main : ∀ Q : mm_R → Prop, Q (some (iv (cBf b1 b2 b3 g1 a eb.toNat)), (cW ki ln bt rl cp cs ct cv 14 5 ja ea ma a1 a2 a3 a4 a5 a6 a7 a8 jb eb mb b1 b2 b3 b4 b5 b6 b7 b8 re fl g1 g2 g3 g4 g5 (dW rt la rs rg pd du ds me tt gr su gp mk rf m1 m2 m3 m4 m5 mr mf n1 n2 n3 n4 n5 nr nf E))) → rn_X11_balance (1000) (0, [(0, .ref 0), (1, iv (a))], [], (cW ki ln bt rl cp cs ct cv 14 5 ja ea ma a1 a2 a3 a4 a5 a6 a7 a8 jb eb mb b1 b2 b3 b4 b5 b6 b7 b8 re fl g1 g2 g3 g4 g5 (dW rt la rs rg pd du ds me tt gr su gp mk rf m1 m2 m3 m4 m5 mr mf n1 n2 n3 n4 n5 nr nf E))) Q := by
    intro Q hQ
    refine r_il rfl rfl ?_
    refine r_ic rfl ?_
    refine r_cne rfl rfl (by omega) (by omega) (fun u1 => ?_) (fun u1 => ?_)
    · refine r_il rfl rfl ?_
      refine r_s1s rfl rfl rfl (c_isPersonC ha) ?_
      rw [hv]
      refine r_zeq rfl rfl (bi_r _) (fun u2 => ?_) (fun u2 => ?_)
      · exact absurd u2 (by decide)
      · refine r_al rfl rfl ?_
        refine r_gf rfl rfl xg_0 rfl ?_
        refine r_il rfl rfl ?_
        refine r_v2s rfl rfl xg_39 rfl (c_bf1 hd ha) ?_
        refine r_goto rfl rfl ?_
        exact r_ret rfl rfl hQ
    · exact absurd u1 hn
  obtain ⟨r, h1, h2⟩ := rn_S (vs := [.ref 0, iv (a)]) (Q := fun r => r = (some (iv (cBf b1 b2 b3 g1 a eb.toNat)), (cW ki ln bt rl cp cs ct cv 14 5 ja ea ma a1 a2 a3 a4 a5 a6 a7 a8 jb eb mb b1 b2 b3 b4 b5 b6 b7 b8 re fl g1 g2 g3 g4 g5 (dW rt la rs rg pd du ds me tt gr su gp mk rf m1 m2 m3 m4 m5 mr mf n1 n2 n3 n4 n5 nr nf E)))) rfl (rn_up (N := 1000) (M := mm_fuel) (by decide) (main (fun r => r = (some (iv (cBf b1 b2 b3 g1 a eb.toNat)), (cW ki ln bt rl cp cs ct cv 14 5 ja ea ma a1 a2 a3 a4 a5 a6 a7 a8 jb eb mb b1 b2 b3 b4 b5 b6 b7 b8 re fl g1 g2 g3 g4 g5 (dW rt la rs rg pd du ds me tt gr su gp mk rf m1 m2 m3 m4 m5 mr mf n1 n2 n3 n4 n5 nr nf E)))) rfl))
  have h1 : sX11_balance [.ref 0, iv (a)] (cW ki ln bt rl cp cs ct cv 14 5 ja ea ma a1 a2 a3 a4 a5 a6 a7 a8 jb eb mb b1 b2 b3 b4 b5 b6 b7 b8 re fl g1 g2 g3 g4 g5 (dW rt la rs rg pd du ds me tt gr su gp mk rf m1 m2 m3 m4 m5 mr mf n1 n2 n3 n4 n5 nr nf E)) = some r := h1
  rw [h1, h2]
end BCC
theorem fO_on {B : Nat → Int} : fO ((bSo B 0 8 : Nat) : Int) 16 = bOn B 8 := by
  have hr : bSo B 0 8 < 256 := bSo_r (B := B) (j := 0) 8
  have h1 : ∀ j : Nat, j ≤ 8 → fO ((bSo B 0 8 : Nat) : Int) j = bOn B j := by
    intro j
    induction j with
    | zero => intro _; rfl
    | succ j ih =>
      intro hj
      show fO ((bSo B 0 8 : Nat) : Int) j + bi (zb (Int32.ofInt ((bSo B 0 8 : Nat) : Int)) j) = bOn B j + (if B j = 0 then 0 else 1)
      rw [ih (by omega), zb_nat (by omega), bSo_b 8 (by decide) j (by omega), decide_eq_true (show j < 8 by omega), decide_eq_false (show ¬ j < 0 by omega)]
      by_cases e : B j = 0
      · rw [decide_eq_true e, if_pos e]; rfl
      · rw [decide_eq_false e, if_neg e]; rfl
  have h2 : ∀ k : Nat, fO ((bSo B 0 8 : Nat) : Int) (8 + k) = fO ((bSo B 0 8 : Nat) : Int) 8 := by
    intro k
    induction k with
    | zero => rfl
    | succ k ih =>
      show fO ((bSo B 0 8 : Nat) : Int) (8 + k) + bi (zb (Int32.ofInt ((bSo B 0 8 : Nat) : Int)) (8 + k)) = _
      have p : 2 ^ 8 ≤ 2 ^ (8 + k) := Nat.pow_le_pow_right (by decide) (by omega)
      rw [ih, zb_nat (by omega), Nat.testBit_lt_two_pow (Nat.lt_of_lt_of_le hr p)]
      exact Int.add_zero _
  have := h2 8
  rw [show 8 + 8 = 16 from rfl] at this
  rw [this, h1 8 (by decide)]
theorem BF_eq {db sn re fl p : Int} {c1 c2 c3 c4 c5 c6 c7 c8 g1 g2 g3 g4 g5 s de sd : Nat → Int32} (h : PH db sn re fl c1 c2 c3 c4 c5 c6 c7 c8 g1 g2 g3 g4 g5 s de sd) : ∀ j : Nat, (j : Int) ≤ db → cBf c1 c2 c3 g1 p j = fB de s p j
  | 0, _ => rfl
  | j + 1, hj => by
    obtain ⟨f1, f2, -, -⟩ := P_de h (show 0 ≤ (j : Int) ∧ (j : Int) < db by omega)
    show (cBf c1 c2 c3 g1 p j + (bif decide ((c2 (Int.toNat (j : Int))).toInt = p) then cR c3 g1 (j : Int) else 0)) - (bif decide ((c1 (Int.toNat (j : Int))).toInt = p) then cR c3 g1 (j : Int) else 0) = (fB de s p j + (bif decide ((de (Int.toNat (3 * (j : Int) + 1))).toInt = p) then fR de s (j : Int) else 0)) - (bif decide ((de (Int.toNat (3 * (j : Int)))).toInt = p) then fR de s (j : Int) else 0)
    rw [BF_eq h j (by omega), f1, f2, cR_eq h.1 h.2.1 ⟨by omega, by omega⟩ h.2.2.2.2.1.2]
theorem bSU_r {B : Nat → Int} (h : ∀ k : Nat, -20000 ≤ B k ∧ B k ≤ 20000) {n : Nat} : ∀ j : Nat, -20000 * (j : Int) ≤ bSU B n j ∧ bSU B n j ≤ 20000 * (j : Int)
  | 0 => by show -20000 * (0 : Int) ≤ 0 ∧ (0 : Int) ≤ 20000 * 0; decide
  | j + 1 => by
    have ih := bSU_r h (n := n) j
    have hb := h j
    show -20000 * ((j + 1 : Nat) : Int) ≤ bSU B n j + (bif n.testBit j then B j else 0) ∧ bSU B n j + (bif n.testBit j then B j else 0) ≤ 20000 * ((j + 1 : Nat) : Int)
    cases n.testBit j <;> simp only [cond_true, cond_false] <;> omega
theorem LI_bal0 {mw : List va_E} {a : Int} (ha : -2147483648 ≤ a ∧ a ≤ 2147483647) (h : LI false mw) : ∃ (c : Int) (mw1 mw2 : List va_E), sX11_balance [.ref 0, iv a] mw = some (some (iv c), mw1) ∧ sX12_balance [.ref 56, iv a] mw1 = some (some (iv c), mw2) ∧ LI false mw2 ∧ mid mw1 := by
  refine LI_elim h (fun ki ln bt rl cp cs ct cv rr dr ja ea ma a1 a2 a3 a4 a5 a6 a7 a8 jb eb mb b1 b2 b3 b4 b5 b6 b7 b8 re fl g1 g2 g3 g4 g5 rt la rs rg pd du ds me tt gr su gp mk rf m1 m2 m3 m4 m5 mr mf n1 n2 n3 n4 n5 nr nf th tr db sn dm sm ty nx tk pl va fa lr ri s kp ik tn de sd dd sr tx pa e hh => ?_)
  obtain ⟨⟨⟨hla, hrf⟩, ⟨e1, e2⟩, ⟨q1, q2, q3, q4, q5, q6, q7, q8, q9, q10⟩, r1, r2, r3, r4, r5, r6, r7, r8, r9, r10⟩, hX, hK, ⟨et, hl⟩, hRo, hRo2, hLG, hI0, hI1, hik, htt, hmk⟩ := hh
  subst e
  clear h
  obtain rfl : rr = 5 := e1
  obtain rfl : dr = 14 := e2
  obtain ⟨k1, k2, k3, k4, k5⟩ := hRo rfl
  subst k1
  subst k2
  have hP : PH ea ma re fl a1 a2 a3 a4 a5 a6 a7 a8 g1 g2 g3 g4 g5 s de sd := ⟨hLG, k3, k4, k5, r1, r2, r9, r8, r6, hX⟩
  have eB : ∀ p : Int, cBf a1 a2 a3 g1 p ea.toNat = fB de s p ea.toNat := fun p => BF_eq hP _ (by omega)
  by_cases en : a = -1
  · subst en
    have hB : (fun k : Nat => cBf a1 a2 a3 g1 (k : Int) ea.toNat) = (fun k : Nat => fB de s (k : Int) ea.toNat) := funext (fun k => eB (k : Int))
    have hR : ∀ n : Nat, n < 256 → -2147483648 ≤ bSU (fun k : Nat => fB de s (k : Int) ea.toNat) n 8 ∧ bSU (fun k : Nat => fB de s (k : Int) ea.toNat) n 8 ≤ 2147483647 := fun n _ => by
      have := bSU_r (B := (fun k : Nat => fB de s (k : Int) ea.toNat)) (fun k => by have := fB_r (p := (k : Int)) r6 r8 ea.toNat (by omega); show -20000 ≤ fB de s (k : Int) ea.toNat ∧ fB de s (k : Int) ea.toNat ≤ 20000; omega) (n := n) 8
      omega
    obtain ⟨su', gp', hc⟩ := c_balC0N (E := (rL (ro_ th tr ea ma dm sm ty nx tk pl va fa lr ri) s kp ik tn de sd dd sr tx pa)) (ki := ki) (ln := ln) (bt := bt) (rl := rl) (cp := cp) (cs := cs) (ct := ct) (cv := cv) (ja := ja) (ea := ea) (ma := ma) (a1 := a1) (a2 := a2) (a3 := a3) (a4 := a4) (a5 := a5) (a6 := a6) (a7 := a7) (a8 := a8) (jb := jb) (eb := eb) (mb := mb) (b1 := b1) (b2 := b2) (b3 := b3) (b4 := b4) (b5 := b5) (b6 := b6) (b7 := b7) (b8 := b8) (re := re) (fl := fl) (g1 := g1) (g2 := g2) (g3 := g3) (g4 := g4) (g5 := g5) (rt := rt) (la := la) (rs := rs) (rg := rg) (pd := pd) (du := du) (ds := ds) (me := me) (tt := tt) (gr := gr) (su := su) (gp := gp) (mk := mk) (rf := rf) (m1 := m1) (m2 := m2) (m3 := m3) (m4 := m4) (m5 := m5) (mr := mr) (mf := mf) (n1 := n1) (n2 := n2) (n3 := n3) (n4 := n4) (n5 := n5) (nr := nr) (nf := nf) r1 (by rw [hB]; exact hR)
    obtain ⟨pa', hr, hp⟩ := c_balN (C := (cW ki ln bt rl cp cs ct cv 5 14 ja ea ma a1 a2 a3 a4 a5 a6 a7 a8 jb eb mb b1 b2 b3 b4 b5 b6 b7 b8 re fl g1 g2 g3 g4 g5 (dW rt la rs rg pd du ds me tt gr su' gp' mk rf m1 m2 m3 m4 m5 mr mf n1 n2 n3 n4 n5 nr nf []))) (th := th) (tr := tr) (db := ea) (sn := ma) (dm := dm) (sm := sm) (ty := ty) (nx := nx) (tk := tk) (pl := pl) (va := va) (fa := fa) (lr := lr) (ri := ri) (s := s) (kp := kp) (ik := ik) (tn := tn) (de := de) (sd := sd) (dd := dd) (sr := sr) (tx := tx) (pa := pa) rfl r6 r8 r1 hR r10
    rw [fO_on, ← bT_same, ← hB] at hr
    exact ⟨_, (GW ki ln bt rl cp cs ct cv 5 14 ja ea ma a1 a2 a3 a4 a5 a6 a7 a8 jb eb mb b1 b2 b3 b4 b5 b6 b7 b8 re fl g1 g2 g3 g4 g5 rt la rs rg pd du ds me tt gr su' gp' mk rf m1 m2 m3 m4 m5 mr mf n1 n2 n3 n4 n5 nr nf th tr ea ma dm sm ty nx tk pl va fa lr ri s kp ik tn de sd dd sr tx pa), (GW ki ln bt rl cp cs ct cv 5 14 ja ea ma a1 a2 a3 a4 a5 a6 a7 a8 jb eb mb b1 b2 b3 b4 b5 b6 b7 b8 re fl g1 g2 g3 g4 g5 rt la rs rg pd du ds me tt gr su' gp' mk rf m1 m2 m3 m4 m5 mr mf n1 n2 n3 n4 n5 nr nf 0 tr ea ma dm sm ty nx tk pl va fa lr ri s kp ik tn de sd dd sr tx pa'), hc, hr, LI_to ⟨⟨⟨hla, hrf⟩, ⟨rfl, rfl⟩, ⟨q1, q2, q3, q4, q5, q6, q7, q8, q9, q10⟩, r1, r2, r3, r4, r5, r6, r7, r8, r9, hp⟩, hX, hK, ⟨et, hl⟩, hRo, hRo2, hLG, hI0, hI1, hik, htt, hmk⟩, mid_GW⟩
  · cases hv : i3 a 0 7 with
    | false => exact ⟨-1000000, (GW ki ln bt rl cp cs ct cv 5 14 ja ea ma a1 a2 a3 a4 a5 a6 a7 a8 jb eb mb b1 b2 b3 b4 b5 b6 b7 b8 re fl g1 g2 g3 g4 g5 rt la rs rg pd du ds me tt gr su gp mk rf m1 m2 m3 m4 m5 mr mf n1 n2 n3 n4 n5 nr nf th tr ea ma dm sm ty nx tk pl va fa lr ri s kp ik tn de sd dd sr tx pa), (GW ki ln bt rl cp cs ct cv 5 14 ja ea ma a1 a2 a3 a4 a5 a6 a7 a8 jb eb mb b1 b2 b3 b4 b5 b6 b7 b8 re fl g1 g2 g3 g4 g5 rt la rs rg pd du ds me tt gr su gp mk rf m1 m2 m3 m4 m5 mr mf n1 n2 n3 n4 n5 nr nf 0 tr ea ma dm sm ty nx tk pl va fa lr ri s kp ik tn de sd dd sr tx pa), c_balC0P0 r1 ha en hv, c_balP0 (C := (cW ki ln bt rl cp cs ct cv 5 14 ja ea ma a1 a2 a3 a4 a5 a6 a7 a8 jb eb mb b1 b2 b3 b4 b5 b6 b7 b8 re fl g1 g2 g3 g4 g5 (dW rt la rs rg pd du ds me tt gr su gp mk rf m1 m2 m3 m4 m5 mr mf n1 n2 n3 n4 n5 nr nf []))) (th := th) (tr := tr) (db := ea) (sn := ma) (dm := dm) (sm := sm) (ty := ty) (nx := nx) (tk := tk) (pl := pl) (va := va) (fa := fa) (lr := lr) (ri := ri) (s := s) (kp := kp) (ik := ik) (tn := tn) (de := de) (sd := sd) (dd := dd) (sr := sr) (tx := tx) (pa := pa) rfl r6 r8 r1 ha en hv, LI_to ⟨⟨⟨hla, hrf⟩, ⟨rfl, rfl⟩, ⟨q1, q2, q3, q4, q5, q6, q7, q8, q9, q10⟩, r1, r2, r3, r4, r5, r6, r7, r8, r9, r10⟩, hX, hK, ⟨et, hl⟩, hRo, hRo2, hLG, hI0, hI1, hik, htt, hmk⟩, mid_GW⟩
    | true =>
      refine ⟨fB de s a ea.toNat, (GW ki ln bt rl cp cs ct cv 5 14 ja ea ma a1 a2 a3 a4 a5 a6 a7 a8 jb eb mb b1 b2 b3 b4 b5 b6 b7 b8 re fl g1 g2 g3 g4 g5 rt la rs rg pd du ds me tt gr su gp mk rf m1 m2 m3 m4 m5 mr mf n1 n2 n3 n4 n5 nr nf th tr ea ma dm sm ty nx tk pl va fa lr ri s kp ik tn de sd dd sr tx pa), (GW ki ln bt rl cp cs ct cv 5 14 ja ea ma a1 a2 a3 a4 a5 a6 a7 a8 jb eb mb b1 b2 b3 b4 b5 b6 b7 b8 re fl g1 g2 g3 g4 g5 rt la rs rg pd du ds me tt gr su gp mk rf m1 m2 m3 m4 m5 mr mf n1 n2 n3 n4 n5 nr nf 0 tr ea ma dm sm ty nx tk pl va fa lr ri s kp ik tn de sd dd sr tx pa), ?_, c_balP1 (C := (cW ki ln bt rl cp cs ct cv 5 14 ja ea ma a1 a2 a3 a4 a5 a6 a7 a8 jb eb mb b1 b2 b3 b4 b5 b6 b7 b8 re fl g1 g2 g3 g4 g5 (dW rt la rs rg pd du ds me tt gr su gp mk rf m1 m2 m3 m4 m5 mr mf n1 n2 n3 n4 n5 nr nf []))) (th := th) (tr := tr) (db := ea) (sn := ma) (dm := dm) (sm := sm) (ty := ty) (nx := nx) (tk := tk) (pl := pl) (va := va) (fa := fa) (lr := lr) (ri := ri) (s := s) (kp := kp) (ik := ik) (tn := tn) (de := de) (sd := sd) (dd := dd) (sr := sr) (tx := tx) (pa := pa) rfl r6 r8 r1 ha en hv, LI_to ⟨⟨⟨hla, hrf⟩, ⟨rfl, rfl⟩, ⟨q1, q2, q3, q4, q5, q6, q7, q8, q9, q10⟩, r1, r2, r3, r4, r5, r6, r7, r8, r9, r10⟩, hX, hK, ⟨et, hl⟩, hRo, hRo2, hLG, hI0, hI1, hik, htt, hmk⟩, mid_GW⟩
      rw [← eB a]
      exact c_balC0P1 r1 ha en hv
theorem LI_bal1 {mw : List va_E} {a : Int} (ha : -2147483648 ≤ a ∧ a ≤ 2147483647) (h : LI true mw) : ∃ (c : Int) (mw1 mw2 : List va_E), sX11_balance [.ref 0, iv a] mw = some (some (iv c), mw1) ∧ sX12_balance [.ref 56, iv a] mw1 = some (some (iv c), mw2) ∧ LI true mw2 ∧ mid mw1 := by
  refine LI_elim h (fun ki ln bt rl cp cs ct cv rr dr ja ea ma a1 a2 a3 a4 a5 a6 a7 a8 jb eb mb b1 b2 b3 b4 b5 b6 b7 b8 re fl g1 g2 g3 g4 g5 rt la rs rg pd du ds me tt gr su gp mk rf m1 m2 m3 m4 m5 mr mf n1 n2 n3 n4 n5 nr nf th tr db sn dm sm ty nx tk pl va fa lr ri s kp ik tn de sd dd sr tx pa e hh => ?_)
  obtain ⟨⟨⟨hla, hrf⟩, ⟨e1, e2⟩, ⟨q1, q2, q3, q4, q5, q6, q7, q8, q9, q10⟩, r1, r2, r3, r4, r5, r6, r7, r8, r9, r10⟩, hX, hK, ⟨et, hl⟩, hRo, hRo2, hLG, hI0, hI1, hik, htt, hmk⟩ := hh
  subst e
  clear h
  obtain rfl : rr = 14 := e1
  obtain rfl : dr = 5 := e2
  obtain ⟨k1, k2, k3, k4, k5⟩ := hRo2 rfl
  subst k1
  subst k2
  have hP : PH eb mb re fl b1 b2 b3 b4 b5 b6 b7 b8 g1 g2 g3 g4 g5 s de sd := ⟨hLG, k3, k4, k5, r1, r2, r9, r8, r6, hX⟩
  have eB : ∀ p : Int, cBf b1 b2 b3 g1 p eb.toNat = fB de s p eb.toNat := fun p => BF_eq hP _ (by omega)
  by_cases en : a = -1
  · subst en
    have hB : (fun k : Nat => cBf b1 b2 b3 g1 (k : Int) eb.toNat) = (fun k : Nat => fB de s (k : Int) eb.toNat) := funext (fun k => eB (k : Int))
    have hR : ∀ n : Nat, n < 256 → -2147483648 ≤ bSU (fun k : Nat => fB de s (k : Int) eb.toNat) n 8 ∧ bSU (fun k : Nat => fB de s (k : Int) eb.toNat) n 8 ≤ 2147483647 := fun n _ => by
      have := bSU_r (B := (fun k : Nat => fB de s (k : Int) eb.toNat)) (fun k => by have := fB_r (p := (k : Int)) r6 r8 eb.toNat (by omega); show -20000 ≤ fB de s (k : Int) eb.toNat ∧ fB de s (k : Int) eb.toNat ≤ 20000; omega) (n := n) 8
      omega
    obtain ⟨su', gp', hc⟩ := c_balC1N (E := (rL (ro_ th tr eb mb dm sm ty nx tk pl va fa lr ri) s kp ik tn de sd dd sr tx pa)) (ki := ki) (ln := ln) (bt := bt) (rl := rl) (cp := cp) (cs := cs) (ct := ct) (cv := cv) (ja := ja) (ea := ea) (ma := ma) (a1 := a1) (a2 := a2) (a3 := a3) (a4 := a4) (a5 := a5) (a6 := a6) (a7 := a7) (a8 := a8) (jb := jb) (eb := eb) (mb := mb) (b1 := b1) (b2 := b2) (b3 := b3) (b4 := b4) (b5 := b5) (b6 := b6) (b7 := b7) (b8 := b8) (re := re) (fl := fl) (g1 := g1) (g2 := g2) (g3 := g3) (g4 := g4) (g5 := g5) (rt := rt) (la := la) (rs := rs) (rg := rg) (pd := pd) (du := du) (ds := ds) (me := me) (tt := tt) (gr := gr) (su := su) (gp := gp) (mk := mk) (rf := rf) (m1 := m1) (m2 := m2) (m3 := m3) (m4 := m4) (m5 := m5) (mr := mr) (mf := mf) (n1 := n1) (n2 := n2) (n3 := n3) (n4 := n4) (n5 := n5) (nr := nr) (nf := nf) r1 (by rw [hB]; exact hR)
    obtain ⟨pa', hr, hp⟩ := c_balN (C := (cW ki ln bt rl cp cs ct cv 14 5 ja ea ma a1 a2 a3 a4 a5 a6 a7 a8 jb eb mb b1 b2 b3 b4 b5 b6 b7 b8 re fl g1 g2 g3 g4 g5 (dW rt la rs rg pd du ds me tt gr su' gp' mk rf m1 m2 m3 m4 m5 mr mf n1 n2 n3 n4 n5 nr nf []))) (th := th) (tr := tr) (db := eb) (sn := mb) (dm := dm) (sm := sm) (ty := ty) (nx := nx) (tk := tk) (pl := pl) (va := va) (fa := fa) (lr := lr) (ri := ri) (s := s) (kp := kp) (ik := ik) (tn := tn) (de := de) (sd := sd) (dd := dd) (sr := sr) (tx := tx) (pa := pa) rfl r6 r8 r1 hR r10
    rw [fO_on, ← bT_same, ← hB] at hr
    exact ⟨_, (GW ki ln bt rl cp cs ct cv 14 5 ja ea ma a1 a2 a3 a4 a5 a6 a7 a8 jb eb mb b1 b2 b3 b4 b5 b6 b7 b8 re fl g1 g2 g3 g4 g5 rt la rs rg pd du ds me tt gr su' gp' mk rf m1 m2 m3 m4 m5 mr mf n1 n2 n3 n4 n5 nr nf th tr eb mb dm sm ty nx tk pl va fa lr ri s kp ik tn de sd dd sr tx pa), (GW ki ln bt rl cp cs ct cv 14 5 ja ea ma a1 a2 a3 a4 a5 a6 a7 a8 jb eb mb b1 b2 b3 b4 b5 b6 b7 b8 re fl g1 g2 g3 g4 g5 rt la rs rg pd du ds me tt gr su' gp' mk rf m1 m2 m3 m4 m5 mr mf n1 n2 n3 n4 n5 nr nf 0 tr eb mb dm sm ty nx tk pl va fa lr ri s kp ik tn de sd dd sr tx pa'), hc, hr, LI_to ⟨⟨⟨hla, hrf⟩, ⟨rfl, rfl⟩, ⟨q1, q2, q3, q4, q5, q6, q7, q8, q9, q10⟩, r1, r2, r3, r4, r5, r6, r7, r8, r9, hp⟩, hX, hK, ⟨et, hl⟩, hRo, hRo2, hLG, hI0, hI1, hik, htt, hmk⟩, mid_GW⟩
  · cases hv : i3 a 0 7 with
    | false => exact ⟨-1000000, (GW ki ln bt rl cp cs ct cv 14 5 ja ea ma a1 a2 a3 a4 a5 a6 a7 a8 jb eb mb b1 b2 b3 b4 b5 b6 b7 b8 re fl g1 g2 g3 g4 g5 rt la rs rg pd du ds me tt gr su gp mk rf m1 m2 m3 m4 m5 mr mf n1 n2 n3 n4 n5 nr nf th tr eb mb dm sm ty nx tk pl va fa lr ri s kp ik tn de sd dd sr tx pa), (GW ki ln bt rl cp cs ct cv 14 5 ja ea ma a1 a2 a3 a4 a5 a6 a7 a8 jb eb mb b1 b2 b3 b4 b5 b6 b7 b8 re fl g1 g2 g3 g4 g5 rt la rs rg pd du ds me tt gr su gp mk rf m1 m2 m3 m4 m5 mr mf n1 n2 n3 n4 n5 nr nf 0 tr eb mb dm sm ty nx tk pl va fa lr ri s kp ik tn de sd dd sr tx pa), c_balC1P0 r1 ha en hv, c_balP0 (C := (cW ki ln bt rl cp cs ct cv 14 5 ja ea ma a1 a2 a3 a4 a5 a6 a7 a8 jb eb mb b1 b2 b3 b4 b5 b6 b7 b8 re fl g1 g2 g3 g4 g5 (dW rt la rs rg pd du ds me tt gr su gp mk rf m1 m2 m3 m4 m5 mr mf n1 n2 n3 n4 n5 nr nf []))) (th := th) (tr := tr) (db := eb) (sn := mb) (dm := dm) (sm := sm) (ty := ty) (nx := nx) (tk := tk) (pl := pl) (va := va) (fa := fa) (lr := lr) (ri := ri) (s := s) (kp := kp) (ik := ik) (tn := tn) (de := de) (sd := sd) (dd := dd) (sr := sr) (tx := tx) (pa := pa) rfl r6 r8 r1 ha en hv, LI_to ⟨⟨⟨hla, hrf⟩, ⟨rfl, rfl⟩, ⟨q1, q2, q3, q4, q5, q6, q7, q8, q9, q10⟩, r1, r2, r3, r4, r5, r6, r7, r8, r9, r10⟩, hX, hK, ⟨et, hl⟩, hRo, hRo2, hLG, hI0, hI1, hik, htt, hmk⟩, mid_GW⟩
    | true =>
      refine ⟨fB de s a eb.toNat, (GW ki ln bt rl cp cs ct cv 14 5 ja ea ma a1 a2 a3 a4 a5 a6 a7 a8 jb eb mb b1 b2 b3 b4 b5 b6 b7 b8 re fl g1 g2 g3 g4 g5 rt la rs rg pd du ds me tt gr su gp mk rf m1 m2 m3 m4 m5 mr mf n1 n2 n3 n4 n5 nr nf th tr eb mb dm sm ty nx tk pl va fa lr ri s kp ik tn de sd dd sr tx pa), (GW ki ln bt rl cp cs ct cv 14 5 ja ea ma a1 a2 a3 a4 a5 a6 a7 a8 jb eb mb b1 b2 b3 b4 b5 b6 b7 b8 re fl g1 g2 g3 g4 g5 rt la rs rg pd du ds me tt gr su gp mk rf m1 m2 m3 m4 m5 mr mf n1 n2 n3 n4 n5 nr nf 0 tr eb mb dm sm ty nx tk pl va fa lr ri s kp ik tn de sd dd sr tx pa), ?_, c_balP1 (C := (cW ki ln bt rl cp cs ct cv 14 5 ja ea ma a1 a2 a3 a4 a5 a6 a7 a8 jb eb mb b1 b2 b3 b4 b5 b6 b7 b8 re fl g1 g2 g3 g4 g5 (dW rt la rs rg pd du ds me tt gr su gp mk rf m1 m2 m3 m4 m5 mr mf n1 n2 n3 n4 n5 nr nf []))) (th := th) (tr := tr) (db := eb) (sn := mb) (dm := dm) (sm := sm) (ty := ty) (nx := nx) (tk := tk) (pl := pl) (va := va) (fa := fa) (lr := lr) (ri := ri) (s := s) (kp := kp) (ik := ik) (tn := tn) (de := de) (sd := sd) (dd := dd) (sr := sr) (tx := tx) (pa := pa) rfl r6 r8 r1 ha en hv, LI_to ⟨⟨⟨hla, hrf⟩, ⟨rfl, rfl⟩, ⟨q1, q2, q3, q4, q5, q6, q7, q8, q9, q10⟩, r1, r2, r3, r4, r5, r6, r7, r8, r9, r10⟩, hX, hK, ⟨et, hl⟩, hRo, hRo2, hLG, hI0, hI1, hik, htt, hmk⟩, mid_GW⟩
      rw [← eB a]
      exact c_balC1P1 r1 ha en hv
theorem LI_bal {v : Bool} {mw : List va_E} {a : Int} (ha : -2147483648 ≤ a ∧ a ≤ 2147483647) (h : LI v mw) : ∃ (c : Int) (mw1 mw2 : List va_E), sX11_balance [.ref 0, iv a] mw = some (some (iv c), mw1) ∧ sX12_balance [.ref 56, iv a] mw1 = some (some (iv c), mw2) ∧ LI v mw2 ∧ mid mw1 := by
  cases v with
  | false => exact LI_bal0 ha h
  | true => exact LI_bal1 ha h
