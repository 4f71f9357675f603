/-! ===== worth: the reference ===== -/
def rGb (sd : Nat → Int32) (p d : Int) (j : Nat) : Bool := decide ((sd (Int.toNat (5 * (j : Int)))).toInt = p) && (decide ((sd (Int.toNat (5 * (j : Int) + 1))).toInt = d) && decide ((sd (Int.toNat (5 * (j : Int) + 2))).toInt < 3))
def rGv (de sd s : Nat → Int32) (p d : Int) (j : Nat) : Int := bif rGb sd p d j then lsr (fL s (j : Int)) (fR de s d) else 0
def rGt (de sd s : Nat → Int32) (p d : Int) : Nat → Int
  | 0 => 0
  | j + 1 => bif decide (rGt de sd s p d j < rGv de sd s p d j) then rGv de sd s p d j else rGt de sd s p d j
def rSm (de sd s : Nat → Int32) (sn d x : Int) : Nat → Int
  | 0 => 0
  | j + 1 => rSm de sd s sn d x j + (bif zb (Int32.ofInt x) j then 0 else rGt de sd s (j : Int) d sn.toNat)
def rWt (tn : Nat → Int32) (x : Int) : Nat → Int
  | 0 => 1
  | j + 1 => rWt tn x j * (bif zb (Int32.ofInt x) j then (tn (Int.toNat (j : Int))).toInt else 10 - (tn (Int.toNat (j : Int))).toInt)
def rPW (de sd s : Nat → Int32) (sn d x : Int) : Bool := !zb (Int32.ofInt x) (Int.toNat (de (Int.toNat (3 * d))).toInt) || decide (fR de s d ≤ rSm de sd s sn d x 8)
def rSr (de sd s tn : Nat → Int32) (sn d : Int) : Nat → Int
  | 0 => 0
  | j + 1 => rSr de sd s tn sn d j + (bif rPW de sd s sn d (j : Int) then rWt tn (j : Int) 8 else 0)
theorem rGv_r {de sd s : Nat → Int32} {p d : Int} {j : Nat} (hR : 0 ≤ fR de s d ∧ fR de s d ≤ 999) : 0 ≤ rGv de sd s p d j ∧ rGv de sd s p d j ≤ 999 := by
  unfold rGv
  cases rGb sd p d j with
  | false => show (0 : Int) ≤ 0 ∧ (0 : Int) ≤ 999; decide
  | true =>
    have h1 := fL_r s (j : Int)
    have h2 := lsr_le (fL s (j : Int)) (fR de s d)
    have h3 := lsr_or (fL s (j : Int)) (fR de s d)
    show 0 ≤ lsr _ _ ∧ lsr _ _ ≤ 999
    omega
theorem rGt_r {de sd s : Nat → Int32} {p d : Int} (hR : 0 ≤ fR de s d ∧ fR de s d ≤ 999) : ∀ j : Nat, 0 ≤ rGt de sd s p d j ∧ rGt de sd s p d j ≤ 999
  | 0 => by show (0 : Int) ≤ 0 ∧ (0 : Int) ≤ 999; decide
  | j + 1 => by
    have ih := rGt_r (sd := sd) (p := p) hR j
    have hv := rGv_r (sd := sd) (p := p) (j := j) hR
    show 0 ≤ (bif decide (rGt de sd s p d j < rGv de sd s p d j) then rGv de sd s p d j else rGt de sd s p d j) ∧ (bif decide (rGt de sd s p d j < rGv de sd s p d j) then rGv de sd s p d j else rGt de sd s p d j) ≤ 999
    cases decide (rGt de sd s p d j < rGv de sd s p d j) with
    | true => exact hv
    | false => exact ih
theorem rSm_r {de sd s : Nat → Int32} {sn d x : Int} (hR : 0 ≤ fR de s d ∧ fR de s d ≤ 999) : ∀ j : Nat, 0 ≤ rSm de sd s sn d x j ∧ rSm de sd s sn d x j ≤ 999 * (j : Int)
  | 0 => by show (0 : Int) ≤ 0 ∧ (0 : Int) ≤ 999 * 0; decide
  | j + 1 => by
    have ih := rSm_r (sd := sd) (sn := sn) (x := x) hR j
    have hg := rGt_r (sd := sd) (p := (j : Int)) hR sn.toNat
    show 0 ≤ rSm de sd s sn d x j + (bif zb (Int32.ofInt x) j then 0 else rGt de sd s (j : Int) d sn.toNat) ∧ rSm de sd s sn d x j + (bif zb (Int32.ofInt x) j then 0 else rGt de sd s (j : Int) d sn.toNat) ≤ 999 * ((j + 1 : Nat) : Int)
    cases zb (Int32.ofInt x) j <;> simp only [cond_true, cond_false] <;> omega
section WR
variable {C : List va_E} {tr : Int64} {th db sn dm sm ty nx tk pl va fa lr ri : Int} {s kp ik tn de sd dd sr tx pa : Nat → Int32} {p d x y : Int} {Q : mm_R → Prop} {N : Nat}
abbrev rn_X12_greatest (N : Nat) (c : mm_C) (Q : mm_R → Prop) : Prop := rn (mm_gf gLX12) (mm_pf pLX12) (mm_mv vX12_greatest) (mm_mv zX12_greatest) (mm_kc kLX12) mm_gs0 mm_rf0 mm_ro (some .int) 7 (mm_ins iX12_greatest) N c Q
theorem gt_lp (hC : C.length = 56) (hS : SDr sd) (hR : 0 ≤ fR de s d ∧ fR de s d ≤ 999) (hd : 0 ≤ d ∧ d ≤ 9) {q : Nat} (hq : q ≤ 16) (hp : -2147483648 ≤ p ∧ p ≤ 2147483647) (k : rn_X12_greatest N (108, [(4, iv (((q : Nat) : Int))), (3, iv (rGt de sd s p d q)), (0, .ref 56), (1, iv (p)), (2, iv (d))], [], (C ++ rL (ro_ th tr db (q : Int) dm sm ty nx tk pl va fa lr ri) s kp ik tn de sd dd sr tx pa)) Q) : ∀ (m j : Nat), j + m = q → rn_X12_greatest (N + 120 * m + 120) (5, [(4, iv ((j : Int))), (3, iv (rGt de sd s p d j)), (0, .ref 56), (1, iv (p)), (2, iv (d))], [], (C ++ rL (ro_ th tr db (q : Int) dm sm ty nx tk pl va fa lr ri) s kp ik tn de sd dd sr tx pa)) Q := by
  intro m
  induction m with
  | zero =>
    intro j hj
    have hj : j = q := by omega
    subst hj
    refine rn_up (N := N + 120) (by omega) ?_
    refine r_ilw rfl rfl ?_
    refine r_al rfl rfl ?_
    refine r_gf rfl rfl (rg_56 hC) rfl ?_
    refine r_cge rfl rfl (by omega) (by omega) (fun g1 => ?_) (fun g1 => ?_)
    · exact rn_up (by omega) k
    · omega
  | succ m ih =>
    intro j hj
    obtain ⟨M, hM⟩ : ∃ M, M = N + 120 * m + 120 := ⟨_, rfl⟩
    rw [← hM] at ih
    refine rn_up (N := M + 120) (by omega) ?_
    refine r_ilw rfl rfl ?_
    refine r_al rfl rfl ?_
    refine r_gf rfl rfl (rg_56 hC) rfl ?_
    refine r_cge rfl rfl (by omega) (by omega) (fun g1 => ?_) (fun g1 => ?_)
    · omega
    · have hg := rGt_r (sd := sd) (p := p) hR j
      have hv := rGv_r (sd := sd) (p := p) (j := j) hR
      refine r_al rfl rfl ?_
      refine r_gf rfl rfl (rg_56 hC) rfl ?_
      refine r_ic rfl ?_
      refine r_ilw rfl rfl ?_
      refine r_mul rfl ?_
      refine r_ia rfl (rg_62 hC) (by omega) (by omega) (by decide) ?_
      refine r_il rfl rfl ?_
      have K : rn_X12_greatest (M + 70) (62, [(4, iv ((j : Int))), (3, iv (rGt de sd s p d j)), (0, .ref 56), (1, iv (p)), (2, iv (d))], [iv (bi (rGb sd p d j))], (C ++ rL (ro_ th tr db (q : Int) dm sm ty nx tk pl va fa lr ri) s kp ik tn de sd dd sr tx pa)) Q := by
        refine r_isw (lv' := [(5, _), (4, _), (3, _), (0, _), (1, _), (2, _)]) rfl rfl rfl ?_
        refine r_ilw rfl rfl ?_
        have K2 : rn_X12_greatest (M + 40) (87, [(5, iv (bi (rGb sd p d j))), (4, iv ((j : Int))), (3, iv (rGt de sd s p d j)), (0, .ref 56), (1, iv (p)), (2, iv (d))], [iv (rGv de sd s p d j)], (C ++ rL (ro_ th tr db (q : Int) dm sm ty nx tk pl va fa lr ri) s kp ik tn de sd dd sr tx pa)) Q := by
          refine r_isw (lv' := [(6, _), (5, _), (4, _), (3, _), (0, _), (1, _), (2, _)]) rfl rfl rfl ?_
          refine r_ilw rfl rfl ?_
          refine r_il rfl rfl ?_
          have K3 : rn_X12_greatest (M + 20) (101, [(6, iv (rGv de sd s p d j)), (5, iv (bi (rGb sd p d j))), (4, iv ((j : Int))), (3, iv (rGt de sd s p d j)), (0, .ref 56), (1, iv (p)), (2, iv (d))], [iv (bif decide (rGt de sd s p d j < rGv de sd s p d j) then rGv de sd s p d j else rGt de sd s p d j)], (C ++ rL (ro_ th tr db (q : Int) dm sm ty nx tk pl va fa lr ri) s kp ik tn de sd dd sr tx pa)) Q := by
            refine r_is (lv' := [(3, _), (6, _), (5, _), (4, _), (0, _), (1, _), (2, _)]) rfl rfl rfl ?_
            refine r_inc (lv' := [(4, _), (3, _), (6, _), (5, _), (0, _), (1, _), (2, _)]) rfl rfl rfl rfl ?_
            refine r_goto rfl rfl ?_
            refine rn_LE (a := [(4, iv ((j : Int) + 1)), (3, iv (bif decide (rGt de sd s p d j < rGv de sd s p d j) then rGv de sd s p d j else rGt de sd s p d j)), (0, .ref 56), (1, iv (p)), (2, iv (d))]) ⟨(List.forall_mem_cons.mpr ⟨List.mem_cons_self, (List.forall_mem_cons.mpr ⟨(List.mem_cons_of_mem _ List.mem_cons_self), (List.forall_mem_cons.mpr ⟨(List.mem_cons_of_mem _ (List.mem_cons_of_mem _ (List.mem_cons_of_mem _ (List.mem_cons_of_mem _ List.mem_cons_self)))), (List.forall_mem_cons.mpr ⟨(List.mem_cons_of_mem _ (List.mem_cons_of_mem _ (List.mem_cons_of_mem _ (List.mem_cons_of_mem _ (List.mem_cons_of_mem _ List.mem_cons_self))))), (List.forall_mem_cons.mpr ⟨(List.mem_cons_of_mem _ (List.mem_cons_of_mem _ (List.mem_cons_of_mem _ (List.mem_cons_of_mem _ (List.mem_cons_of_mem _ (List.mem_cons_of_mem _ List.mem_cons_self)))))), (fun _ h => absurd h List.not_mem_nil)⟩)⟩)⟩)⟩)⟩), (by show List.Nodup [4, 3, 0, 1, 2]; decide), (by show List.Nodup [4, 3, 6, 5, 0, 1, 2]; decide)⟩ ?_
            exact rn_up (by omega) (ih (j + 1) (by omega))
          refine r_cle rfl rfl (by omega) (by omega) (fun g7 => ?_) (fun g7 => ?_)
          · refine r_il rfl rfl ?_
            rw [decide_eq_false (Int.not_lt.mpr g7)] at K3
            exact rn_up (N := M + 20) (by omega) K3
          · refine r_ilw rfl rfl ?_
            refine r_goto rfl rfl ?_
            rw [decide_eq_true g7] at K3
            exact rn_up (N := M + 20) (by omega) K3
        refine r_zeq rfl rfl (bi_r _) (fun g6 => ?_) (fun g6 => ?_)
        · refine r_ic rfl ?_
          have e : rGv de sd s p d j = 0 := by unfold rGv; rw [bi_0 g6]; rfl
          rw [e] at K2
          exact rn_up (N := M + 40) (by omega) K2
        · refine r_al rfl rfl ?_
          refine r_ilw rfl rfl ?_
          refine r_v2s rfl rfl (rg_56 hC) rfl (c_leftR hC (by omega)) ?_
          refine r_al rfl rfl ?_
          refine r_il rfl rfl ?_
          refine r_v2s rfl rfl (rg_56 hC) rfl (c_restR hC hd) ?_
          refine r_s2s rfl rfl rfl (c_lesser (by have := fL_r s (j : Int); omega) (by omega)) ?_
          refine r_goto rfl rfl ?_
          have e : rGv de sd s p d j = lsr (fL s (j : Int)) (fR de s d) := by unfold rGv; rw [bi_1 g6]; rfl
          rw [e] at K2
          exact rn_up (N := M + 40) (by omega) K2
      refine r_cne rfl rfl (as_r _) hp (fun g2 => ?_) (fun g2 => ?_)
      · refine r_ic rfl ?_
        have e : rGb sd p d j = false := by unfold rGb; rw [decide_eq_false g2]; rfl
        rw [e] at K
        exact rn_up (N := M + 70) (by omega) K
      · refine r_al rfl rfl ?_
        refine r_gf rfl rfl (rg_56 hC) rfl ?_
        refine r_ic rfl ?_
        refine r_ilw rfl rfl ?_
        refine r_mul rfl ?_
        refine r_ic rfl ?_
        refine r_add rfl ?_
        refine r_ia rfl (rg_62 hC) (by omega) (by omega) (by decide) ?_
        refine r_il rfl rfl ?_
        refine r_cne rfl rfl (as_r _) (by omega) (fun g3 => ?_) (fun g3 => ?_)
        · refine r_ic rfl ?_
          have e : rGb sd p d j = false := by unfold rGb; rw [decide_eq_true g2, decide_eq_false g3]; rfl
          rw [e] at K
          exact rn_up (N := M + 70) (by omega) K
        · refine r_al rfl rfl ?_
          refine r_gf rfl rfl (rg_56 hC) rfl ?_
          refine r_ic rfl ?_
          refine r_ilw rfl rfl ?_
          refine r_mul rfl ?_
          refine r_ic rfl ?_
          refine r_add rfl ?_
          refine r_ia rfl (rg_62 hC) (by omega) (by omega) (by decide) ?_
          refine r_ic rfl ?_
          refine r_cge rfl rfl (as_r _) (by decide) (fun g4 => ?_) (fun g4 => ?_)
          · refine r_ic rfl ?_
            have e : rGb sd p d j = false := by unfold rGb; rw [decide_eq_true g2, decide_eq_true g3, decide_eq_false (Int.not_lt.mpr g4)]; rfl
            rw [e] at K
            exact rn_up (N := M + 70) (by omega) K
          · refine r_ic rfl ?_
            refine r_goto rfl rfl ?_
            have e : rGb sd p d j = true := by unfold rGb; rw [decide_eq_true g2, decide_eq_true g3, decide_eq_true g4]; rfl
            rw [e] at K
            exact rn_up (N := M + 70) (by omega) K
theorem c_gtR (hC : C.length = 56) (hS : SDr sd) (hR : 0 ≤ fR de s d ∧ fR de s d ≤ 999) (hd : 0 ≤ d ∧ d ≤ 9) (hn : 0 ≤ sn ∧ sn ≤ 16) (hp : -2147483648 ≤ p ∧ p ≤ 2147483647) : sX12_greatest [.ref 56, iv p, iv d] (C ++ rL (ro_ th tr db sn dm sm ty nx tk pl va fa lr ri) s kp ik tn de sd dd sr tx pa) = some (some (iv (rGt de sd s p d sn.toNat)), (C ++ rL (ro_ th tr db sn dm sm ty nx tk pl va fa lr ri) s kp ik tn de sd dd sr tx pa)) := by
  obtain ⟨q, rfl⟩ := Int.eq_ofNat_of_zero_le hn.1
  have hq : q ≤ 16 := by omega
  have main : ∀ Q : mm_R → Prop, Q (some (iv (rGt de sd s p d q)), (C ++ rL (ro_ th tr db (q : Int) dm sm ty nx tk pl va fa lr ri) s kp ik tn de sd dd sr tx pa)) → rn_X12_greatest (20 + 120 * 16 + 120 + 20) (0, [(0, .ref 56), (1, iv (p)), (2, iv (d))], [], (C ++ rL (ro_ th tr db (q : Int) dm sm ty nx tk pl va fa lr ri) s kp ik tn de sd dd sr tx pa)) Q := by
    intro Q hQ
    refine r_ic rfl ?_
    refine r_is (lv' := [(3, _), (0, _), (1, _), (2, _)]) rfl rfl rfl ?_
    refine r_ic rfl ?_
    refine r_isw (lv' := [(4, _), (3, _), (0, _), (1, _), (2, _)]) rfl rfl rfl ?_
    refine rn_up (N := 20 + 120 * q + 120) (by omega) (gt_lp (N := 20) hC hS hR hd hq hp ?_ q 0 (by omega))
    refine r_il rfl rfl ?_
    exact r_ret rfl rfl hQ
  obtain ⟨r, h1, h2⟩ := rn_S (vs := [.ref 56, iv p, iv d]) (Q := fun r => r = (some (iv (rGt de sd s p d q)), (C ++ rL (ro_ th tr db (q : Int) dm sm ty nx tk pl va fa lr ri) s kp ik tn de sd dd sr tx pa))) rfl (rn_up (N := 20 + 120 * 16 + 120 + 20) (M := mm_fuel) (by decide) (main (fun r => r = (some (iv (rGt de sd s p d q)), (C ++ rL (ro_ th tr db (q : Int) dm sm ty nx tk pl va fa lr ri) s kp ik tn de sd dd sr tx pa))) rfl))
  have h1 : sX12_greatest [.ref 56, iv p, iv d] (C ++ rL (ro_ th tr db (q : Int) dm sm ty nx tk pl va fa lr ri) s kp ik tn de sd dd sr tx pa) = some r := h1
  rw [h1, h2]
  rfl
abbrev rn_X12_worth (N : Nat) (c : mm_C) (Q : mm_R → Prop) : Prop := rn (mm_gf gLX12) (mm_pf pLX12) (mm_mv vX12_worth) (mm_mv zX12_worth) (mm_kc kLX12) mm_gs0 mm_rf0 mm_ro (some .int) 8 (mm_ins iX12_worth) N c Q
theorem wo_in (hC : C.length = 56) (hS : SDr sd) (hR : 0 ≤ fR de s d ∧ fR de s d ≤ 999) (hd : 0 ≤ d ∧ d ≤ 9) (hn : 0 ≤ sn ∧ sn ≤ 16) (k : rn_X12_worth N (116, [(6, iv (((8 : Nat) : Int))), (5, iv (rSm de sd s sn d x 8)), (4, iv (rWt tn x 8)), (3, iv (x)), (2, iv (y)), (0, .ref 56), (1, iv (d))], [], (C ++ rL (ro_ (0 : Int) tr db sn dm sm ty nx tk pl va fa lr ri) s kp ik tn de sd dd sr tx pa)) Q) : ∀ (m j : Nat), j + m = 8 → rn_X12_worth (N + 110 * m + 110) (35, [(6, iv ((j : Int))), (5, iv (rSm de sd s sn d x j)), (4, iv (rWt tn x j)), (3, iv (x)), (2, iv (y)), (0, .ref 56), (1, iv (d))], [], (C ++ rL (ro_ (0 : Int) tr db sn dm sm ty nx tk pl va fa lr ri) s kp ik tn de sd dd sr tx pa)) Q := by
  intro m
  induction m with
  | zero =>
    intro j hj
    have hj : j = 8 := by omega
    subst hj
    refine rn_up (N := N + 110) (by omega) ?_
    refine r_ilw rfl rfl ?_
    refine r_bi rfl (by decide) ?_
    refine r_cge rfl rfl (by omega) (by omega) (fun g1 => ?_) (fun g1 => ?_)
    · exact rn_up (by omega) k
    · omega
  | succ m ih =>
    intro j hj
    obtain ⟨M, hM⟩ : ∃ M, M = N + 110 * m + 110 := ⟨_, rfl⟩
    rw [← hM] at ih
    refine rn_up (N := M + 110) (by omega) ?_
    refine r_ilw rfl rfl ?_
    refine r_bi rfl (by decide) ?_
    refine r_cge rfl rfl (by omega) (by omega) (fun g1 => ?_) (fun g1 => ?_)
    · omega
    · refine r_il rfl rfl ?_
      refine r_ilw rfl rfl ?_
      refine r_shr rfl ?_
      refine r_ic rfl ?_
      refine r_and rfl ?_
      refine r_eq (zb_bit (by omega)) ?_
      refine r_ic rfl ?_
      have K : rn_X12_worth (M + 80) (57, [(6, iv ((j : Int))), (5, iv (rSm de sd s sn d x j)), (4, iv (rWt tn x j)), (3, iv (x)), (2, iv (y)), (0, .ref 56), (1, iv (d))], [iv (bi (zb (Int32.ofInt x) j))], (C ++ rL (ro_ (0 : Int) tr db sn dm sm ty nx tk pl va fa lr ri) s kp ik tn de sd dd sr tx pa)) Q := by
        refine r_isw (lv' := [(7, _), (6, _), (5, _), (4, _), (3, _), (2, _), (0, _), (1, _)]) rfl rfl rfl ?_
        refine r_ilw rfl rfl ?_
        refine r_ilw rfl rfl ?_
        have K2 : rn_X12_worth (M + 50) (86, [(7, iv (bi (zb (Int32.ofInt x) j))), (6, iv ((j : Int))), (5, iv (rSm de sd s sn d x j)), (4, iv (rWt tn x j)), (3, iv (x)), (2, iv (y)), (0, .ref 56), (1, iv (d))], [iv ((bif zb (Int32.ofInt x) j then (tn (Int.toNat (j : Int))).toInt else 10 - (tn (Int.toNat (j : Int))).toInt)), iv (rWt tn x j)], (C ++ rL (ro_ (0 : Int) tr db sn dm sm ty nx tk pl va fa lr ri) s kp ik tn de sd dd sr tx pa)) Q := by
          refine r_mul rfl ?_
          refine r_isw (lv' := [(4, _), (7, _), (6, _), (5, _), (3, _), (2, _), (0, _), (1, _)]) rfl rfl rfl ?_
          refine r_ilw rfl rfl ?_
          refine r_ilw rfl rfl ?_
          have K3 : rn_X12_worth (M + 20) (107, [(4, iv ((rWt tn x j) * ((bif zb (Int32.ofInt x) j then (tn (Int.toNat (j : Int))).toInt else 10 - (tn (Int.toNat (j : Int))).toInt)))), (7, iv (bi (zb (Int32.ofInt x) j))), (6, iv ((j : Int))), (5, iv (rSm de sd s sn d x j)), (3, iv (x)), (2, iv (y)), (0, .ref 56), (1, iv (d))], [iv ((bif zb (Int32.ofInt x) j then 0 else rGt de sd s (j : Int) d sn.toNat)), iv (rSm de sd s sn d x j)], (C ++ rL (ro_ (0 : Int) tr db sn dm sm ty nx tk pl va fa lr ri) s kp ik tn de sd dd sr tx pa)) Q := by
            refine r_add rfl ?_
            refine r_isw (lv' := [(5, _), (4, _), (7, _), (6, _), (3, _), (2, _), (0, _), (1, _)]) rfl rfl rfl ?_
            refine r_inc (lv' := [(6, _), (5, _), (4, _), (7, _), (3, _), (2, _), (0, _), (1, _)]) rfl rfl rfl rfl ?_
            refine r_goto rfl rfl ?_
            refine rn_LE (a := [(6, iv ((j : Int) + 1)), (5, iv ((rSm de sd s sn d x j) + ((bif zb (Int32.ofInt x) j then 0 else rGt de sd s (j : Int) d sn.toNat)))), (4, iv ((rWt tn x j) * ((bif zb (Int32.ofInt x) j then (tn (Int.toNat (j : Int))).toInt else 10 - (tn (Int.toNat (j : Int))).toInt)))), (3, iv (x)), (2, iv (y)), (0, .ref 56), (1, iv (d))]) ⟨(List.forall_mem_cons.mpr ⟨List.mem_cons_self, (List.forall_mem_cons.mpr ⟨(List.mem_cons_of_mem _ List.mem_cons_self), (List.forall_mem_cons.mpr ⟨(List.mem_cons_of_mem _ (List.mem_cons_of_mem _ List.mem_cons_self)), (List.forall_mem_cons.mpr ⟨(List.mem_cons_of_mem _ (List.mem_cons_of_mem _ (List.mem_cons_of_mem _ (List.mem_cons_of_mem _ List.mem_cons_self)))), (List.forall_mem_cons.mpr ⟨(List.mem_cons_of_mem _ (List.mem_cons_of_mem _ (List.mem_cons_of_mem _ (List.mem_cons_of_mem _ (List.mem_cons_of_mem _ List.mem_cons_self))))), (List.forall_mem_cons.mpr ⟨(List.mem_cons_of_mem _ (List.mem_cons_of_mem _ (List.mem_cons_of_mem _ (List.mem_cons_of_mem _ (List.mem_cons_of_mem _ (List.mem_cons_of_mem _ List.mem_cons_self)))))), (List.forall_mem_cons.mpr ⟨(List.mem_cons_of_mem _ (List.mem_cons_of_mem _ (List.mem_cons_of_mem _ (List.mem_cons_of_mem _ (List.mem_cons_of_mem _ (List.mem_cons_of_mem _ (List.mem_cons_of_mem _ List.mem_cons_self))))))), (fun _ h => absurd h List.not_mem_nil)⟩)⟩)⟩)⟩)⟩)⟩)⟩), (by show List.Nodup [6, 5, 4, 3, 2, 0, 1]; decide), (by show List.Nodup [6, 5, 4, 7, 3, 2, 0, 1]; decide)⟩ ?_
            exact rn_up (by omega) (ih (j + 1) (by omega))
          refine r_zeq rfl rfl (bi_r _) (fun g4 => ?_) (fun g4 => ?_)
          · refine r_al rfl rfl ?_
            refine r_ilw rfl rfl ?_
            refine r_il rfl rfl ?_
            refine r_v3s rfl rfl (rg_56 hC) rfl (c_gtR hC hS hR hd hn (by omega)) ?_
            rw [bi_0 g4] at K3 ⊢
            exact rn_up (N := M + 20) (by omega) K3
          · refine r_ic rfl ?_
            refine r_goto rfl rfl ?_
            rw [bi_1 g4] at K3 ⊢
            exact rn_up (N := M + 20) (by omega) K3
        refine r_zeq rfl rfl (bi_r _) (fun g3 => ?_) (fun g3 => ?_)
        · refine r_bi rfl (by decide) ?_
          refine r_al rfl rfl ?_
          refine r_gf rfl rfl (rg_56 hC) rfl ?_
          refine r_ilw rfl rfl ?_
          refine r_ia rfl (rg_60 hC) (by omega) (by omega) (by decide) ?_
          refine r_sub rfl ?_
          rw [bi_0 g3] at K2 ⊢
          exact rn_up (N := M + 50) (by omega) K2
        · refine r_al rfl rfl ?_
          refine r_gf rfl rfl (rg_56 hC) rfl ?_
          refine r_ilw rfl rfl ?_
          refine r_ia rfl (rg_60 hC) (by omega) (by omega) (by decide) ?_
          refine r_goto rfl rfl ?_
          rw [bi_1 g3] at K2 ⊢
          exact rn_up (N := M + 50) (by omega) K2
      refine r_cne rfl rfl (bi_r _) (by decide) (fun g2 => ?_) (fun g2 => ?_)
      · refine r_ic rfl ?_
        have g2 : zb (Int32.ofInt x) j = false := bi_0 (by have := bi_01 (zb (Int32.ofInt x) j); omega)
        rw [g2] at K
        exact rn_up (N := M + 80) (by omega) K
      · refine r_ic rfl ?_
        refine r_goto rfl rfl ?_
        have g2 : zb (Int32.ofInt x) j = true := bi_1 (by omega)
        rw [g2] at K
        exact rn_up (N := M + 80) (by omega) K
theorem wo_lp (hC : C.length = 56) (hS : SDr sd) (hR : 0 ≤ fR de s d ∧ fR de s d ≤ 999) (hd : 0 ≤ d ∧ d ≤ 9) (hE : DEr de) (hn : 0 ≤ sn ∧ sn ≤ 16) (k : rn_X12_worth N (156, [(3, iv (((256 : Nat) : Int))), (2, iv (rSr de sd s tn sn d 256)), (0, .ref 56), (1, iv (d))], [], (C ++ rL (ro_ (0 : Int) tr db sn dm sm ty nx tk pl va fa lr ri) s kp ik tn de sd dd sr tx pa)) Q) : ∀ (m j : Nat), j + m = 256 → rn_X12_worth (N + 1200 * m + 1200) (19, [(3, iv ((j : Int))), (2, iv (rSr de sd s tn sn d j)), (0, .ref 56), (1, iv (d))], [], (C ++ rL (ro_ (0 : Int) tr db sn dm sm ty nx tk pl va fa lr ri) s kp ik tn de sd dd sr tx pa)) Q := by
  intro m
  induction m with
  | zero =>
    intro j hj
    have hj : j = 256 := by omega
    subst hj
    refine rn_up (N := N + 1200) (by omega) ?_
    refine r_il rfl rfl ?_
    refine r_si rfl (by decide) ?_
    refine r_cge rfl rfl (by omega) (by omega) (fun g1 => ?_) (fun g1 => ?_)
    · exact rn_up (by omega) k
    · omega
  | succ m ih =>
    intro j hj
    obtain ⟨M, hM⟩ : ∃ M, M = N + 1200 * m + 1200 := ⟨_, rfl⟩
    rw [← hM] at ih
    refine rn_up (N := M + 1200) (by omega) ?_
    refine r_il rfl rfl ?_
    refine r_si rfl (by decide) ?_
    refine r_cge rfl rfl (by omega) (by omega) (fun g1 => ?_) (fun g1 => ?_)
    · omega
    · refine r_ic rfl ?_
      refine r_isw (lv' := [(4, _), (3, _), (2, _), (0, _), (1, _)]) rfl rfl rfl ?_
      refine r_ic rfl ?_
      refine r_isw (lv' := [(5, _), (4, _), (3, _), (2, _), (0, _), (1, _)]) rfl rfl rfl ?_
      refine r_ic rfl ?_
      refine r_isw (lv' := [(6, _), (5, _), (4, _), (3, _), (2, _), (0, _), (1, _)]) rfl rfl rfl ?_
      refine rn_up (N := (M + 60) + 110 * 8 + 110) (by omega) (wo_in (N := M + 60) (x := (j : Int)) (y := rSr de sd s tn sn d j) hC hS hR hd hn ?_ 8 0 rfl)
      have hm := rSm_r (sd := sd) (sn := sn) (x := (j : Int)) hR 8
      obtain ⟨dn, hdn⟩ := Int.eq_ofNat_of_zero_le (de_r hE hd).1.1
      have hd7 := (de_r hE hd).1.2
      refine r_il rfl rfl ?_
      refine r_il rfl rfl ?_
      refine r_al rfl rfl ?_
      refine r_gf rfl rfl (rg_56 hC) rfl ?_
      refine r_ic rfl ?_
      refine r_il rfl rfl ?_
      refine r_mul rfl ?_
      refine r_ia rfl (rg_61 hC) (by omega) (by omega) (by decide) ?_
      refine r_shr rfl ?_
      refine r_ic rfl ?_
      refine r_and rfl ?_
      have eb : oAnd (oShr (j : Int) (de (Int.toNat (3 * d))).toInt) 1 = bi (zb (Int32.ofInt (j : Int)) (Int.toNat (de (Int.toNat (3 * d))).toInt)) := by rw [hdn]; exact zb_bit (by omega)
      refine r_eq eb ?_
      have K : rn_X12_worth (M + 30) (148, [(6, iv (((8 : Nat) : Int))), (5, iv (rSm de sd s sn d (j : Int) 8)), (4, iv (rWt tn (j : Int) 8)), (3, iv ((j : Int))), (2, iv (rSr de sd s tn sn d j)), (0, .ref 56), (1, iv (d))], [iv ((bif rPW de sd s sn d (j : Int) then rWt tn (j : Int) 8 else 0)), iv (rSr de sd s tn sn d j)], (C ++ rL (ro_ (0 : Int) tr db sn dm sm ty nx tk pl va fa lr ri) s kp ik tn de sd dd sr tx pa)) Q := by
        refine r_add rfl ?_
        refine r_is (lv' := [(2, _), (6, _), (5, _), (4, _), (3, _), (0, _), (1, _)]) rfl rfl rfl ?_
        refine r_inc (lv' := [(3, _), (2, _), (6, _), (5, _), (4, _), (0, _), (1, _)]) rfl rfl rfl rfl ?_
        refine r_goto rfl rfl ?_
        refine rn_LE (a := [(3, iv ((j : Int) + 1)), (2, iv ((rSr de sd s tn sn d j) + ((bif rPW de sd s sn d (j : Int) then rWt tn (j : Int) 8 else 0)))), (0, .ref 56), (1, iv (d))]) ⟨(List.forall_mem_cons.mpr ⟨List.mem_cons_self, (List.forall_mem_cons.mpr ⟨(List.mem_cons_of_mem _ List.mem_cons_self), (List.forall_mem_cons.mpr ⟨(List.mem_cons_of_mem _ (List.mem_cons_of_mem _ (List.mem_cons_of_mem _ (List.mem_cons_of_mem _ (List.mem_cons_of_mem _ List.mem_cons_self))))), (List.forall_mem_cons.mpr ⟨(List.mem_cons_of_mem _ (List.mem_cons_of_mem _ (List.mem_cons_of_mem _ (List.mem_cons_of_mem _ (List.mem_cons_of_mem _ (List.mem_cons_of_mem _ List.mem_cons_self)))))), (fun _ h => absurd h List.not_mem_nil)⟩)⟩)⟩)⟩), (by show List.Nodup [3, 2, 0, 1]; decide), (by show List.Nodup [3, 2, 6, 5, 4, 0, 1]; decide)⟩ ?_
        exact rn_up (by omega) (ih (j + 1) (by omega))
      refine r_zeq rfl rfl (bi_r _) (fun g2 => ?_) (fun g2 => ?_)
      · refine r_ilw rfl rfl ?_
        refine r_goto rfl rfl ?_
        have e : rPW de sd s sn d (j : Int) = true := by unfold rPW; rw [bi_0 g2]; rfl
        rw [e] at K
        exact rn_up (N := M + 30) (by omega) K
      · refine r_ilw rfl rfl ?_
        refine r_al rfl rfl ?_
        refine r_il rfl rfl ?_
        refine r_v2s rfl rfl (rg_56 hC) rfl (c_restR hC hd) ?_
        refine r_clt rfl rfl (by omega) (by omega) (fun g3 => ?_) (fun g3 => ?_)
        · refine r_ic rfl ?_
          have e : rPW de sd s sn d (j : Int) = false := by unfold rPW; rw [bi_1 g2, decide_eq_false (Int.not_le.mpr g3)]; rfl
          rw [e] at K
          exact rn_up (N := M + 30) (by omega) K
        · refine r_ilw rfl rfl ?_
          refine r_goto rfl rfl ?_
          have e : rPW de sd s sn d (j : Int) = true := by unfold rPW; rw [bi_1 g2, decide_eq_true g3]; rfl
          rw [e] at K
          exact rn_up (N := M + 30) (by omega) K
theorem c_worthR_0 (hC : C.length = 56) (ha : -2147483648 ≤ d ∧ d ≤ 2147483647) (hdb : 0 ≤ db ∧ db ≤ 10) (hb : i3 d 0 (db - 1) = false) : sX12_worth [.ref 56, iv (d)] (C ++ rL (ro_ th tr db sn dm sm ty nx tk pl va fa lr ri) s kp ik tn de sd dd sr tx pa) = some (some (iv (-1)), (C ++ rL (ro_ (0 : Int) tr db sn dm sm ty nx tk pl va fa lr ri) s kp ik tn de sd dd sr tx pa)) := by
  have main : ∀ Q : mm_R → Prop, Q (some (iv (-1)), (C ++ rL (ro_ (0 : Int) tr db sn dm sm ty nx tk pl va fa lr ri) s kp ik tn de sd dd sr tx pa)) → rn_X12_worth (20 + 1200 * 256 + 1200 + 30) (0, [(0, .ref 56), (1, iv (d))], [], (C ++ rL (ro_ th tr db sn dm sm ty nx tk pl va fa lr ri) s kp ik tn de sd dd sr tx pa)) Q := by
    intro Q hQ
    refine r_al rfl rfl ?_
    refine r_ic rfl ?_
    refine r_pf rfl rfl (rg_56 hC) rfl (rp_th hC) ?_
    refine r_al rfl rfl ?_
    refine r_il rfl rfl ?_
    refine r_v2s rfl rfl (rg_56 hC) rfl (c_isDebtR hC ha (by omega)) ?_
    rw [hb]
    refine r_zne rfl rfl (bi_r _) (fun g1 => ?_) (fun g1 => ?_)
    · exact absurd g1 (by decide)
    · refine r_ic rfl ?_
      exact r_ret rfl rfl hQ
  obtain ⟨r, h1, h2⟩ := rn_S (vs := [.ref 56, iv (d)]) (Q := fun r => r = (some (iv (-1)), (C ++ rL (ro_ (0 : Int) tr db sn dm sm ty nx tk pl va fa lr ri) s kp ik tn de sd dd sr tx pa))) rfl (rn_up (N := 20 + 1200 * 256 + 1200 + 30) (M := mm_fuel) (by decide) (main (fun r => r = (some (iv (-1)), (C ++ rL (ro_ (0 : Int) tr db sn dm sm ty nx tk pl va fa lr ri) s kp ik tn de sd dd sr tx pa))) rfl))
  have h1 : sX12_worth [.ref 56, iv (d)] (C ++ rL (ro_ th tr db sn dm sm ty nx tk pl va fa lr ri) s kp ik tn de sd dd sr tx pa) = some r := h1
  rw [h1, h2]
theorem c_worthR_1 (hC : C.length = 56) (hS : SDr sd) (hR : 0 ≤ fR de s d ∧ fR de s d ≤ 999) (hd : 0 ≤ d ∧ d ≤ 9) (hE : DEr de) (hn : 0 ≤ sn ∧ sn ≤ 16) (ha : -2147483648 ≤ d ∧ d ≤ 2147483647) (hdb : 0 ≤ db ∧ db ≤ 10) (hb : i3 d 0 (db - 1) = true) : sX12_worth [.ref 56, iv (d)] (C ++ rL (ro_ th tr db sn dm sm ty nx tk pl va fa lr ri) s kp ik tn de sd dd sr tx pa) = some (some (iv (rSr de sd s tn sn d 256)), (C ++ rL (ro_ (0 : Int) tr db sn dm sm ty nx tk pl va fa lr ri) s kp ik tn de sd dd sr tx pa)) := by
  have main : ∀ Q : mm_R → Prop, Q (some (iv (rSr de sd s tn sn d 256)), (C ++ rL (ro_ (0 : Int) tr db sn dm sm ty nx tk pl va fa lr ri) s kp ik tn de sd dd sr tx pa)) → rn_X12_worth (20 + 1200 * 256 + 1200 + 30) (0, [(0, .ref 56), (1, iv (d))], [], (C ++ rL (ro_ th tr db sn dm sm ty nx tk pl va fa lr ri) s kp ik tn de sd dd sr tx pa)) Q := by
    intro Q hQ
    refine r_al rfl rfl ?_
    refine r_ic rfl ?_
    refine r_pf rfl rfl (rg_56 hC) rfl (rp_th hC) ?_
    refine r_al rfl rfl ?_
    refine r_il rfl rfl ?_
    refine r_v2s rfl rfl (rg_56 hC) rfl (c_isDebtR hC ha (by omega)) ?_
    rw [hb]
    refine r_zne rfl rfl (bi_r _) (fun g1 => ?_) (fun g1 => ?_)
    · refine r_ic rfl ?_
      refine r_is (lv' := [(2, _), (0, _), (1, _)]) rfl rfl rfl ?_
      refine r_ic rfl ?_
      refine r_is (lv' := [(3, _), (2, _), (0, _), (1, _)]) rfl rfl rfl ?_
      refine rn_up (N := 20 + 1200 * 256 + 1200) (by decide) (wo_lp (N := 20) hC hS hR hd hE hn ?_ 256 0 rfl)
      refine r_il rfl rfl ?_
      exact r_ret rfl rfl hQ
    · exact absurd g1 (by decide)
  obtain ⟨r, h1, h2⟩ := rn_S (vs := [.ref 56, iv (d)]) (Q := fun r => r = (some (iv (rSr de sd s tn sn d 256)), (C ++ rL (ro_ (0 : Int) tr db sn dm sm ty nx tk pl va fa lr ri) s kp ik tn de sd dd sr tx pa))) rfl (rn_up (N := 20 + 1200 * 256 + 1200 + 30) (M := mm_fuel) (by decide) (main (fun r => r = (some (iv (rSr de sd s tn sn d 256)), (C ++ rL (ro_ (0 : Int) tr db sn dm sm ty nx tk pl va fa lr ri) s kp ik tn de sd dd sr tx pa))) rfl))
  have h1 : sX12_worth [.ref 56, iv (d)] (C ++ rL (ro_ th tr db sn dm sm ty nx tk pl va fa lr ri) s kp ik tn de sd dd sr tx pa) = some r := h1
  rw [h1, h2]
end WR
theorem GT_eq {db sn re fl d : Int} {c1 c2 c3 c4 c5 c6 c7 c8 g1 g2 g3 g4 g5 s de sd gr : Nat → Int32} (h : PH db sn re fl c1 c2 c3 c4 c5 c6 c7 c8 g1 g2 g3 g4 g5 s de sd) (hd : 0 ≤ d ∧ d < db) : ∀ j : Nat, (j : Int) ≤ sn → ∀ p : Nat, p < 8 → (cGt c3 c4 c5 c6 g1 g2 g3 gr re d j p).toInt = rGt de sd s (p : Int) d j
  | 0, _, p, hp => by
    show (cpy 8 gr zz p).toInt = 0
    rw [cpz_lt hp]
    rfl
  | j + 1, hj, p, hp => by
    obtain ⟨hL, hRd, hRs, hV, hb, hs, hS, hE, hRS, hX⟩ := id h
    have ih := GT_eq (gr := gr) h hd j (by omega)
    obtain ⟨e4, e5, e6, e7, rp, rd, h3⟩ := P_st h (show 0 ≤ (j : Int) ∧ (j : Int) < sn by omega)
    have r3 := (sd_r hS (show 0 ≤ (j : Int) ∧ (j : Int) ≤ 15 by omega)).2.2
    have hR : 0 ≤ fR de s d ∧ fR de s d ≤ 999 := ⟨fR_0 hX (by omega), by
      have hr := (de_r hE (show 0 ≤ d ∧ d ≤ 9 by omega)).2.2
      have hz := hRS.1 (Int.toNat (0 + d)) (by omega)
      unfold i7 at hz
      unfold fR
      omega⟩
    have hg := rGt_r (sd := sd) (p := (p : Int)) hR j
    have hcL := cL_eq hL (show 0 ≤ (j : Int) ∧ (j : Int) < sn by omega) hs.2
    show ((bif decide ((c5 (Int.toNat (j : Int))).toInt = d) && !decide ((c6 (Int.toNat (j : Int))).toInt = 3) then upd (cGt c3 c4 c5 c6 g1 g2 g3 gr re d j) (Int.toNat (c4 (Int.toNat (j : Int))).toInt) (Int32.ofInt (mxI (cGt c3 c4 c5 c6 g1 g2 g3 gr re d j (Int.toNat (c4 (Int.toNat (j : Int))).toInt)).toInt (cLR c3 c5 g1 g2 g3 re (j : Int)))) else cGt c3 c4 c5 c6 g1 g2 g3 gr re d j) p).toInt = (bif decide (rGt de sd s (p : Int) d j < rGv de sd s (p : Int) d j) then rGv de sd s (p : Int) d j else rGt de sd s (p : Int) d j)
    have hB : rGb sd (p : Int) d j = (decide ((sd (Int.toNat (5 * (j : Int)))).toInt = (p : Int)) && (decide ((sd (Int.toNat (5 * (j : Int) + 1))).toInt = d) && !decide ((sd (Int.toNat (5 * (j : Int) + 2))).toInt = 3))) := by
      unfold rGb
      have : decide ((sd (Int.toNat (5 * (j : Int) + 2))).toInt < 3) = !decide ((sd (Int.toNat (5 * (j : Int) + 2))).toInt = 3) := by
        by_cases q : (sd (Int.toNat (5 * (j : Int) + 2))).toInt = 3
        · rw [decide_eq_true q, decide_eq_false (by omega)]; rfl
        · rw [decide_eq_false q, decide_eq_true (by omega)]; rfl
      rw [this]
    rw [e4, e5, e6]
    have keep : rGb sd (p : Int) d j = false → (bif decide (rGt de sd s (p : Int) d j < rGv de sd s (p : Int) d j) then rGv de sd s (p : Int) d j else rGt de sd s (p : Int) d j) = rGt de sd s (p : Int) d j := fun q => by
      have : rGv de sd s (p : Int) d j = 0 := by unfold rGv; rw [q]; rfl
      rw [this, decide_eq_false (by omega)]
      rfl
    by_cases q1 : (sd (Int.toNat (5 * (j : Int) + 1))).toInt = d
    · by_cases q2 : (sd (Int.toNat (5 * (j : Int) + 2))).toInt = 3
      · rw [decide_eq_true q2, Bool.not_true, Bool.and_false, cond_false, keep (by rw [hB, decide_eq_true q2]; simp), ih p hp]
      · rw [decide_eq_true q1, decide_eq_false q2, Bool.not_false, Bool.and_true, cond_true]
        obtain ⟨a, ha⟩ := Int.eq_ofNat_of_zero_le rp.1
        rw [ha, show Int.toNat (a : Int) = a from rfl]
        by_cases q3 : p = a
        · subst q3
          rw [upd_same, ih p hp]
          have eV : rGv de sd s (p : Int) d j = lsr (fL s (j : Int)) (fR de s d) := by
            unfold rGv
            rw [hB, ha, decide_eq_true rfl, decide_eq_true q1, decide_eq_false q2]
            rfl
          rw [eV]
          have eC : cLR c3 c5 g1 g2 g3 re (j : Int) = mnI (nrm (cL g3 g2 re (j : Int))) (fR de s d) := by
            unfold cLR
            rw [e5, q1, cR_eq hL hRd hd hb.2, nrm_s (a := fR de s d) (by omega)]
          rw [eC]
          generalize nrm (cL g3 g2 re (j : Int)) = u at hcL ⊢
          generalize fL s (j : Int) = t at hcL ⊢
          generalize fR de s d = r at hR ⊢
          generalize rGt de sd s (p : Int) d j = g at hg ⊢
          have hm : mxI g (mnI u r) = (bif decide (g < lsr t r) then lsr t r else g) := by
            unfold mxI mnI lsr
            by_cases z : u < 0
            · rw [if_pos z] at hcL
              subst hcL
              rw [decide_eq_false (show ¬ r < u by omega), cond_false, decide_eq_false (show ¬ g < u by omega), cond_false]
              by_cases z2 : (0 : Int) < r
              · rw [decide_eq_true z2, cond_true, decide_eq_false (by omega)]; rfl
              · rw [decide_eq_false z2, cond_false, decide_eq_false (by omega)]; rfl
            · rw [if_neg z] at hcL
              subst hcL
              by_cases z2 : r < t
              · rw [decide_eq_true z2, decide_eq_false (show ¬ t < r by omega)]; rfl
              · by_cases z3 : t < r
                · rw [decide_eq_false z2, decide_eq_true z3]; rfl
                · have : t = r := by omega
                  subst this
                  rw [decide_eq_false z2]
          rw [hm]
          exact iv_to (by
            have h1 := lsr_or t r
            have h2 := lsr_le t r
            cases hz : decide (g < lsr t r) with
            | true => rw [cond_true]; have := of_decide_eq_true hz; omega
            | false => rw [cond_false]; omega)
        · rw [upd_ne q3, ih p hp, keep (by rw [hB, ha, decide_eq_false (show ¬ (a : Int) = (p : Int) by omega)]; rfl)]
    · rw [decide_eq_false q1, Bool.false_and, cond_false, keep (by rw [hB, decide_eq_false q1]; simp), ih p hp]
theorem Wt_eq {tt tn : Nat → Int32} {x : Int} (h : ∀ p : Nat, p < 8 → tt p = tn p) : ∀ j : Nat, j ≤ 8 → cWt tt x j = rWt tn x j
  | 0, _ => rfl
  | j + 1, hj => by
    show cWt tt x j * (bif zb (Int32.ofInt x) j then (tt j).toInt else 10 - (tt j).toInt) = rWt tn x j * (bif zb (Int32.ofInt x) j then (tn j).toInt else 10 - (tn j).toInt)
    rw [Wt_eq h j (by omega), h j (by omega)]
theorem Sm_eq {gr de sd s : Nat → Int32} {sn d x : Int} (h : ∀ p : Nat, p < 8 → (gr p).toInt = rGt de sd s (p : Int) d sn.toNat) : ∀ j : Nat, j ≤ 8 → cSm gr x j = rSm de sd s sn d x j
  | 0, _ => rfl
  | j + 1, hj => by
    show (bif zb (Int32.ofInt x) j then cSm gr x j else cSm gr x j + (gr j).toInt) = rSm de sd s sn d x j + (bif zb (Int32.ofInt x) j then 0 else rGt de sd s (j : Int) d sn.toNat)
    rw [Sm_eq h j (by omega), h j (by omega)]
    cases zb (Int32.ofInt x) j with
    | true => show rSm de sd s sn d x j = rSm de sd s sn d x j + 0; omega
    | false => rfl
theorem Sr_eq {c1 c3 g1 gr tt tn de sd s : Nat → Int32} {sn d : Int} (h1 : (c1 (Int.toNat d)).toInt = (de (Int.toNat (3 * d))).toInt) (h2 : cR c3 g1 d = fR de s d) (hg : ∀ p : Nat, p < 8 → (gr p).toInt = rGt de sd s (p : Int) d sn.toNat) (ht : ∀ p : Nat, p < 8 → tt p = tn p) : ∀ j : Nat, cSr c1 c3 g1 gr tt d j = rSr de sd s tn sn d j
  | 0 => rfl
  | j + 1 => by
    have e : cPW c1 c3 g1 gr d (j : Int) = rPW de sd s sn d (j : Int) := by
      unfold cPW rPW
      rw [h1, h2, Sm_eq hg 8 (by decide)]
    show (bif cPW c1 c3 g1 gr d (j : Int) then cSr c1 c3 g1 gr tt d j + cWt tt (j : Int) 8 else cSr c1 c3 g1 gr tt d j) = rSr de sd s tn sn d j + (bif rPW de sd s sn d (j : Int) then rWt tn (j : Int) 8 else 0)
    rw [e, Sr_eq h1 h2 hg ht j, Wt_eq ht 8 (by decide)]
    cases rPW de sd s sn d (j : Int) with
    | true => rfl
    | false => show rSr de sd s tn sn d j = rSr de sd s tn sn d j + 0; omega
theorem LI_worth0 {mw : List va_E} {d : Int} (hd : -2147483648 ≤ d ∧ d ≤ 2147483647) (h : LI false mw) : ∃ (c : Int) (mw1 mw2 : List va_E), sX11_worth [.ref 0, iv d] mw = some (some (iv c), mw1) ∧ sX12_worth [.ref 56, iv d] mw1 = some (some (iv c), mw2) ∧ LI false mw2 ∧ mid mw1 := by
  refine LI_elim h (fun ki ln bt rl cp cs ct cv rr dr ja ea ma a1 a2 a3 a4 a5 a6 a7 a8 jb eb mb b1 b2 b3 b4 b5 b6 b7 b8 re fl g1 g2 g3 g4 g5 rt la rs rg pd du ds me tt gr su gp mk rf m1 m2 m3 m4 m5 mr mf n1 n2 n3 n4 n5 nr nf th tr db sn dm sm ty nx tk pl va fa lr ri s kp ik tn de sd dd sr tx pa e hh => ?_)
  obtain ⟨⟨⟨hla, hrf⟩, ⟨e1, e2⟩, ⟨q1, q2, q3, q4, q5, q6, q7, q8, q9, q10⟩, r1, r2, r3, r4, r5, r6, r7, r8, r9, r10⟩, hX, hK, ⟨et, hl⟩, hRo, hRo2, hLG, hI0, hI1, hik, htt, hmk⟩ := hh
  subst e
  clear h
  obtain rfl : rr = 5 := e1
  obtain rfl : dr = 14 := e2
  obtain ⟨k1, k2, k3, k4, k5⟩ := hRo rfl
  subst k1
  subst k2
  cases hb : i3 d 0 (ea - 1) with
  | false =>
    refine ⟨-1, (GW ki ln bt rl cp cs ct cv 5 14 ja ea ma a1 a2 a3 a4 a5 a6 a7 a8 jb eb mb b1 b2 b3 b4 b5 b6 b7 b8 re fl g1 g2 g3 g4 g5 rt la rs rg pd du ds me tt gr su gp mk rf m1 m2 m3 m4 m5 mr mf n1 n2 n3 n4 n5 nr nf th tr ea ma dm sm ty nx tk pl va fa lr ri s kp ik tn de sd dd sr tx pa), (GW ki ln bt rl cp cs ct cv 5 14 ja ea ma a1 a2 a3 a4 a5 a6 a7 a8 jb eb mb b1 b2 b3 b4 b5 b6 b7 b8 re fl g1 g2 g3 g4 g5 rt la rs rg pd du ds me tt gr su gp mk rf m1 m2 m3 m4 m5 mr mf n1 n2 n3 n4 n5 nr nf 0 tr ea ma dm sm ty nx tk pl va fa lr ri s kp ik tn de sd dd sr tx pa), c_worthC0_0 hd r1 hb, c_worthR_0 (C := (cW ki ln bt rl cp cs ct cv 5 14 ja ea ma a1 a2 a3 a4 a5 a6 a7 a8 jb eb mb b1 b2 b3 b4 b5 b6 b7 b8 re fl g1 g2 g3 g4 g5 (dW rt la rs rg pd du ds me tt gr su gp mk rf m1 m2 m3 m4 m5 mr mf n1 n2 n3 n4 n5 nr nf []))) (th := th) (tr := tr) (db := ea) (sn := ma) (dm := dm) (sm := sm) (ty := ty) (nx := nx) (tk := tk) (pl := pl) (va := va) (fa := fa) (lr := lr) (ri := ri) (s := s) (kp := kp) (ik := ik) (tn := tn) (de := de) (sd := sd) (dd := dd) (sr := sr) (tx := tx) (pa := pa) rfl hd r1 hb, ?_, mid_GW⟩
    exact LI_to ⟨⟨⟨hla, hrf⟩, ⟨rfl, rfl⟩, ⟨q1, q2, q3, q4, q5, q6, q7, q8, q9, q10⟩, r1, r2, r3, r4, r5, r6, r7, r8, r9, r10⟩, hX, hK, ⟨et, hl⟩, hRo, hRo2, hLG, hI0, hI1, hik, htt, hmk⟩
  | true =>
    have rd := i3_t hb
    have hP : PH ea ma re fl a1 a2 a3 a4 a5 a6 a7 a8 g1 g2 g3 g4 g5 s de sd := ⟨hLG, k3, k4, k5, r1, r2, r9, r8, r6, hX⟩
    have d9 : 0 ≤ d ∧ d ≤ 9 := by omega
    have hRc := cR_eq hLG k3 (show 0 ≤ d ∧ d < ea by omega) r1.2
    have hR : 0 ≤ fR de s d ∧ fR de s d ≤ 999 := ⟨fR_0 hX d9, by
      have hr := (de_r r8 d9).2.2
      have hz := r6.1 (Int.toNat (0 + d)) (by omega)
      unfold i7 at hz
      unfold fR
      omega⟩
    have hGe : ∀ p : Nat, p < 8 → ((cGt a3 a4 a5 a6 g1 g2 g3 gr re d ma.toNat) p).toInt = rGt de sd s (p : Int) d ma.toNat := GT_eq (gr := gr) hP (by omega) ma.toNat (by omega)
    have hG : ∀ p : Nat, p < 8 → 0 ≤ ((cGt a3 a4 a5 a6 g1 g2 g3 gr re d ma.toNat) p).toInt ∧ ((cGt a3 a4 a5 a6 g1 g2 g3 gr re d ma.toNat) p).toInt ≤ 999 := fun p hp => by rw [hGe p hp]; exact rGt_r hR _
    refine ⟨rSr de sd s tn ma d 256, (GW ki ln bt rl cp cs ct cv 5 14 ja ea ma a1 a2 a3 a4 a5 a6 a7 a8 jb eb mb b1 b2 b3 b4 b5 b6 b7 b8 re fl g1 g2 g3 g4 g5 rt la rs rg pd du ds me tt (cGt a3 a4 a5 a6 g1 g2 g3 gr re d ma.toNat) su gp mk rf m1 m2 m3 m4 m5 mr mf n1 n2 n3 n4 n5 nr nf th tr ea ma dm sm ty nx tk pl va fa lr ri s kp ik tn de sd dd sr tx pa), (GW ki ln bt rl cp cs ct cv 5 14 ja ea ma a1 a2 a3 a4 a5 a6 a7 a8 jb eb mb b1 b2 b3 b4 b5 b6 b7 b8 re fl g1 g2 g3 g4 g5 rt la rs rg pd du ds me tt (cGt a3 a4 a5 a6 g1 g2 g3 gr re d ma.toNat) su gp mk rf m1 m2 m3 m4 m5 mr mf n1 n2 n3 n4 n5 nr nf 0 tr ea ma dm sm ty nx tk pl va fa lr ri s kp ik tn de sd dd sr tx pa), ?_, c_worthR_1 (C := (cW ki ln bt rl cp cs ct cv 5 14 ja ea ma a1 a2 a3 a4 a5 a6 a7 a8 jb eb mb b1 b2 b3 b4 b5 b6 b7 b8 re fl g1 g2 g3 g4 g5 (dW rt la rs rg pd du ds me tt (cGt a3 a4 a5 a6 g1 g2 g3 gr re d ma.toNat) su gp mk rf m1 m2 m3 m4 m5 mr mf n1 n2 n3 n4 n5 nr nf []))) (th := th) (tr := tr) (db := ea) (sn := ma) (dm := dm) (sm := sm) (ty := ty) (nx := nx) (tk := tk) (pl := pl) (va := va) (fa := fa) (lr := lr) (ri := ri) (s := s) (kp := kp) (ik := ik) (tn := tn) (de := de) (sd := sd) (dd := dd) (sr := sr) (tx := tx) (pa := pa) rfl r9 hR d9 r8 r2 hd r1 hb, ?_, mid_GW⟩
    · rw [← Sr_eq (P_de hP (show 0 ≤ d ∧ d < ea by omega)).1 hRc hGe (fun p hp => (htt p hp).1) 256]
      exact c_worthC0_1 hd r1 q7 q8 r2 hG (by rw [hRc]; omega) d9 hb
    · exact LI_to ⟨⟨⟨hla, hrf⟩, ⟨rfl, rfl⟩, ⟨q1, q2, q3, q4, q5, q6, q7, q8, q9, q10⟩, r1, r2, r3, r4, r5, r6, r7, r8, r9, r10⟩, hX, hK, ⟨et, hl⟩, hRo, hRo2, hLG, hI0, hI1, hik, htt, hmk⟩
theorem LI_worth1 {mw : List va_E} {d : Int} (hd : -2147483648 ≤ d ∧ d ≤ 2147483647) (h : LI true mw) : ∃ (c : Int) (mw1 mw2 : List va_E), sX11_worth [.ref 0, iv d] mw = some (some (iv c), mw1) ∧ sX12_worth [.ref 56, iv d] mw1 = some (some (iv c), mw2) ∧ LI true mw2 ∧ mid mw1 := by
  refine LI_elim h (fun ki ln bt rl cp cs ct cv rr dr ja ea ma a1 a2 a3 a4 a5 a6 a7 a8 jb eb mb b1 b2 b3 b4 b5 b6 b7 b8 re fl g1 g2 g3 g4 g5 rt la rs rg pd du ds me tt gr su gp mk rf m1 m2 m3 m4 m5 mr mf n1 n2 n3 n4 n5 nr nf th tr db sn dm sm ty nx tk pl va fa lr ri s kp ik tn de sd dd sr tx pa e hh => ?_)
  obtain ⟨⟨⟨hla, hrf⟩, ⟨e1, e2⟩, ⟨q1, q2, q3, q4, q5, q6, q7, q8, q9, q10⟩, r1, r2, r3, r4, r5, r6, r7, r8, r9, r10⟩, hX, hK, ⟨et, hl⟩, hRo, hRo2, hLG, hI0, hI1, hik, htt, hmk⟩ := hh
  subst e
  clear h
  obtain rfl : rr = 14 := e1
  obtain rfl : dr = 5 := e2
  obtain ⟨k1, k2, k3, k4, k5⟩ := hRo2 rfl
  subst k1
  subst k2
  cases hb : i3 d 0 (eb - 1) with
  | false =>
    refine ⟨-1, (GW ki ln bt rl cp cs ct cv 14 5 ja ea ma a1 a2 a3 a4 a5 a6 a7 a8 jb eb mb b1 b2 b3 b4 b5 b6 b7 b8 re fl g1 g2 g3 g4 g5 rt la rs rg pd du ds me tt gr su gp mk rf m1 m2 m3 m4 m5 mr mf n1 n2 n3 n4 n5 nr nf th tr eb mb dm sm ty nx tk pl va fa lr ri s kp ik tn de sd dd sr tx pa), (GW ki ln bt rl cp cs ct cv 14 5 ja ea ma a1 a2 a3 a4 a5 a6 a7 a8 jb eb mb b1 b2 b3 b4 b5 b6 b7 b8 re fl g1 g2 g3 g4 g5 rt la rs rg pd du ds me tt gr su gp mk rf m1 m2 m3 m4 m5 mr mf n1 n2 n3 n4 n5 nr nf 0 tr eb mb dm sm ty nx tk pl va fa lr ri s kp ik tn de sd dd sr tx pa), c_worthC1_0 hd r1 hb, c_worthR_0 (C := (cW ki ln bt rl cp cs ct cv 14 5 ja ea ma a1 a2 a3 a4 a5 a6 a7 a8 jb eb mb b1 b2 b3 b4 b5 b6 b7 b8 re fl g1 g2 g3 g4 g5 (dW rt la rs rg pd du ds me tt gr su gp mk rf m1 m2 m3 m4 m5 mr mf n1 n2 n3 n4 n5 nr nf []))) (th := th) (tr := tr) (db := eb) (sn := mb) (dm := dm) (sm := sm) (ty := ty) (nx := nx) (tk := tk) (pl := pl) (va := va) (fa := fa) (lr := lr) (ri := ri) (s := s) (kp := kp) (ik := ik) (tn := tn) (de := de) (sd := sd) (dd := dd) (sr := sr) (tx := tx) (pa := pa) rfl hd r1 hb, ?_, mid_GW⟩
    exact LI_to ⟨⟨⟨hla, hrf⟩, ⟨rfl, rfl⟩, ⟨q1, q2, q3, q4, q5, q6, q7, q8, q9, q10⟩, r1, r2, r3, r4, r5, r6, r7, r8, r9, r10⟩, hX, hK, ⟨et, hl⟩, hRo, hRo2, hLG, hI0, hI1, hik, htt, hmk⟩
  | true =>
    have rd := i3_t hb
    have hP : PH eb mb re fl b1 b2 b3 b4 b5 b6 b7 b8 g1 g2 g3 g4 g5 s de sd := ⟨hLG, k3, k4, k5, r1, r2, r9, r8, r6, hX⟩
    have d9 : 0 ≤ d ∧ d ≤ 9 := by omega
    have hRc := cR_eq hLG k3 (show 0 ≤ d ∧ d < eb by omega) r1.2
    have hR : 0 ≤ fR de s d ∧ fR de s d ≤ 999 := ⟨fR_0 hX d9, by
      have hr := (de_r r8 d9).2.2
      have hz := r6.1 (Int.toNat (0 + d)) (by omega)
      unfold i7 at hz
      unfold fR
      omega⟩
    have hGe : ∀ p : Nat, p < 8 → ((cGt b3 b4 b5 b6 g1 g2 g3 gr re d mb.toNat) p).toInt = rGt de sd s (p : Int) d mb.toNat := GT_eq (gr := gr) hP (by omega) mb.toNat (by omega)
    have hG : ∀ p : Nat, p < 8 → 0 ≤ ((cGt b3 b4 b5 b6 g1 g2 g3 gr re d mb.toNat) p).toInt ∧ ((cGt b3 b4 b5 b6 g1 g2 g3 gr re d mb.toNat) p).toInt ≤ 999 := fun p hp => by rw [hGe p hp]; exact rGt_r hR _
    refine ⟨rSr de sd s tn mb d 256, (GW ki ln bt rl cp cs ct cv 14 5 ja ea ma a1 a2 a3 a4 a5 a6 a7 a8 jb eb mb b1 b2 b3 b4 b5 b6 b7 b8 re fl g1 g2 g3 g4 g5 rt la rs rg pd du ds me tt (cGt b3 b4 b5 b6 g1 g2 g3 gr re d mb.toNat) su gp mk rf m1 m2 m3 m4 m5 mr mf n1 n2 n3 n4 n5 nr nf th tr eb mb dm sm ty nx tk pl va fa lr ri s kp ik tn de sd dd sr tx pa), (GW ki ln bt rl cp cs ct cv 14 5 ja ea ma a1 a2 a3 a4 a5 a6 a7 a8 jb eb mb b1 b2 b3 b4 b5 b6 b7 b8 re fl g1 g2 g3 g4 g5 rt la rs rg pd du ds me tt (cGt b3 b4 b5 b6 g1 g2 g3 gr re d mb.toNat) su gp mk rf m1 m2 m3 m4 m5 mr mf n1 n2 n3 n4 n5 nr nf 0 tr eb mb dm sm ty nx tk pl va fa lr ri s kp ik tn de sd dd sr tx pa), ?_, c_worthR_1 (C := (cW ki ln bt rl cp cs ct cv 14 5 ja ea ma a1 a2 a3 a4 a5 a6 a7 a8 jb eb mb b1 b2 b3 b4 b5 b6 b7 b8 re fl g1 g2 g3 g4 g5 (dW rt la rs rg pd du ds me tt (cGt b3 b4 b5 b6 g1 g2 g3 gr re d mb.toNat) su gp mk rf m1 m2 m3 m4 m5 mr mf n1 n2 n3 n4 n5 nr nf []))) (th := th) (tr := tr) (db := eb) (sn := mb) (dm := dm) (sm := sm) (ty := ty) (nx := nx) (tk := tk) (pl := pl) (va := va) (fa := fa) (lr := lr) (ri := ri) (s := s) (kp := kp) (ik := ik) (tn := tn) (de := de) (sd := sd) (dd := dd) (sr := sr) (tx := tx) (pa := pa) rfl r9 hR d9 r8 r2 hd r1 hb, ?_, mid_GW⟩
    · rw [← Sr_eq (P_de hP (show 0 ≤ d ∧ d < eb by omega)).1 hRc hGe (fun p hp => (htt p hp).1) 256]
      exact c_worthC1_1 hd r1 q9 q10 r2 hG (by rw [hRc]; omega) d9 hb
    · exact LI_to ⟨⟨⟨hla, hrf⟩, ⟨rfl, rfl⟩, ⟨q1, q2, q3, q4, q5, q6, q7, q8, q9, q10⟩, r1, r2, r3, r4, r5, r6, r7, r8, r9, r10⟩, hX, hK, ⟨et, hl⟩, hRo, hRo2, hLG, hI0, hI1, hik, htt, hmk⟩
theorem LI_worth {v : Bool} {mw : List va_E} {d : Int} (hd : -2147483648 ≤ d ∧ d ≤ 2147483647) (h : LI v mw) : ∃ (c : Int) (mw1 mw2 : List va_E), sX11_worth [.ref 0, iv d] mw = some (some (iv c), mw1) ∧ sX12_worth [.ref 56, iv d] mw1 = some (some (iv c), mw2) ∧ LI v mw2 ∧ mid mw1 := by
  cases v with
  | false => exact LI_worth0 hd h
  | true => exact LI_worth1 hd h
