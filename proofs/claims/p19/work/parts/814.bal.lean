/-! ===== balance: the reference keeps the invariant ===== -/
def fB (de s : Nat → Int32) (p : Int) : Nat → Int
  | 0 => 0
  | j + 1 => (fB de s p j + (bif decide ((de (Int.toNat (3 * (j : Int) + 1))).toInt = p) then fR de s (j : Int) else 0)) - (bif decide ((de (Int.toNat (3 * (j : Int)))).toInt = p) then fR de s (j : Int) else 0)
def fO (a : Int) : Nat → Int
  | 0 => 0
  | j + 1 => fO a j + bi (zb (Int32.ofInt a) j)
theorem fB_r {de s : Nat → Int32} {p : Int} (h1 : RS s) (h2 : DEr de) : ∀ j : Nat, j ≤ 10 → -2000 * (j : Int) ≤ fB de s p j ∧ fB de s p j ≤ 2000 * (j : Int)
  | 0, _ => by show -2000 * (0 : Int) ≤ 0 ∧ (0 : Int) ≤ 2000 * 0; decide
  | j + 1, hj => by
    have ih := fB_r (p := p) h1 h2 j (by omega)
    have hr := fR_r (d := (j : Int)) h1 h2 (by omega)
    show -2000 * ((j + 1 : Nat) : Int) ≤ (fB de s p j + (bif decide ((de (Int.toNat (3 * (j : Int) + 1))).toInt = p) then fR de s (j : Int) else 0)) - (bif decide ((de (Int.toNat (3 * (j : Int)))).toInt = p) then fR de s (j : Int) else 0) ∧ (fB de s p j + (bif decide ((de (Int.toNat (3 * (j : Int) + 1))).toInt = p) then fR de s (j : Int) else 0)) - (bif decide ((de (Int.toNat (3 * (j : Int)))).toInt = p) then fR de s (j : Int) else 0) ≤ 2000 * ((j + 1 : Nat) : Int)
    cases decide ((de (Int.toNat (3 * (j : Int) + 1))).toInt = p) <;> cases decide ((de (Int.toNat (3 * (j : Int)))).toInt = p) <;> simp only [cond_true, cond_false] <;> omega
theorem oAnd_le {a b : Int} (ha : 0 ≤ a ∧ a ≤ 2147483647) : 0 ≤ oAnd a b ∧ oAnd a b ≤ a := by
  unfold oAnd
  have e : (Int32.ofInt a).toInt = a := iv_to ⟨by omega, by omega⟩
  have := as_andR (x := Int32.ofInt b) (y := Int32.ofInt a) (by omega)
  rw [show Int32.ofInt a &&& Int32.ofInt b = Int32.ofInt b &&& Int32.ofInt a from Int32.and_comm _ _]
  omega
theorem oShl_2 : ∀ k : Nat, k < 16 → oShl 1 (k : Int) = 2 ^ k := by decide +kernel
def PAi (t : Nat) (pa : Nat → Int32) : Prop := (∀ j, j < 5226 → i7 (pa j) 0 999) ∧ ∀ j, j < t → (pa j).toInt ≤ (j : Int)
theorem PAi_s {t : Nat} {pa : Nat → Int32} {z : Int} (h : PAi t pa) (ht : t < 256) (hz : 0 ≤ z ∧ z ≤ (t : Int)) : PAi (t + 1) (upd pa (Int.toNat (t : Int)) (Int32.ofInt z)) := by
  have e : (Int32.ofInt z).toInt = z := iv_to ⟨by omega, by omega⟩
  refine ⟨fun j hj => ?_, fun j hj => ?_⟩
  · by_cases q : j = t
    · subst q
      rw [show Int.toNat (j : Int) = j from rfl, upd_same]
      unfold i7
      rw [e]
      omega
    · rw [show Int.toNat (t : Int) = t from rfl, upd_ne q]
      exact h.1 j hj
  · by_cases q : j = t
    · subst q
      rw [show Int.toNat (j : Int) = j from rfl, upd_same, e]
      exact hz.2
    · rw [show Int.toNat (t : Int) = t from rfl, upd_ne q]
      exact h.2 j (by omega)
section BL
variable {C : List va_E} {tr : Int64} {th db sn dm sm ty nx tk pl va fa lr ri : Int} {s kp ik tn de sd dd sr tx pa : Nat → Int32} {a p : Int} {mw : List va_E} {Q : mm_R → Prop} {N : Nat}
abbrev rn_X12_isPerson (N : Nat) (c : mm_C) (Q : mm_R → Prop) : Prop := rn (mm_gf gLX12) (mm_pf pLX12) (mm_mv vX12_isPerson) (mm_mv zX12_isPerson) (mm_kc kLX12) mm_gs0 mm_rf0 mm_ro (some .boolean) 1 (mm_ins iX12_isPerson) N c Q
theorem c_isPersonR (ha : -2147483648 ≤ a ∧ a ≤ 2147483647) : sX12_isPerson [iv (a)] mw = some (some (iv (bi (i3 a 0 7))), mw) := by
  have main : ∀ Q : mm_R → Prop, Q (some (iv (bi (i3 a 0 7))), mw) → rn_X12_isPerson (1000) (0, [(0, iv (a))], [], mw) Q := by
    intro Q hQ
    refine r_il rfl rfl ?_
    refine r_ic rfl ?_
    refine r_bi rfl (by decide) ?_
    refine r_s3s rfl rfl rfl (c_in ha (by decide) (by decide)) ?_
    exact r_retb rfl rfl (bi_01 _) hQ
  obtain ⟨r, h1, h2⟩ := rn_S (vs := [iv (a)]) (Q := fun r => r = (some (iv (bi (i3 a 0 7))), mw)) rfl (rn_up (N := 1000) (M := mm_fuel) (by decide) (main (fun r => r = (some (iv (bi (i3 a 0 7))), mw)) rfl))
  have h1 : sX12_isPerson [iv (a)] mw = some r := h1
  rw [h1, h2]
abbrev rn_X12_ones (N : Nat) (c : mm_C) (Q : mm_R → Prop) : Prop := rn (mm_gf gLX12) (mm_pf pLX12) (mm_mv vX12_ones) (mm_mv zX12_ones) (mm_kc kLX12) mm_gs0 mm_rf0 mm_ro (some .int) 3 (mm_ins iX12_ones) N c Q
theorem ones_lp (k : rn_X12_ones N (24, [(2, iv (((16 : Nat) : Int))), (1, iv (fO a 16)), (0, iv (a))], [], mw) Q) : ∀ (m j : Nat), j + m = 16 → rn_X12_ones (N + 20 * m + 20) (4, [(2, iv ((j : Int))), (1, iv (fO a j)), (0, iv (a))], [], mw) Q := by
  intro m
  induction m with
  | zero =>
    intro j hj
    have hj : j = 16 := by omega
    subst hj
    refine rn_up (N := N + 20) (by omega) ?_
    refine r_il rfl rfl ?_
    refine r_bi rfl (by decide) ?_
    refine r_cge rfl rfl (by omega) (by omega) (fun g1 => ?_) (fun g1 => ?_)
    · exact rn_up (by omega) k
    · omega
  | succ m ih =>
    intro j hj
    refine rn_up (N := N + 20 * m + 20 + 20) (by omega) ?_
    refine r_il rfl rfl ?_
    refine r_bi rfl (by decide) ?_
    refine r_cge rfl rfl (by omega) (by omega) (fun g1 => ?_) (fun g1 => ?_)
    · omega
    · refine r_il rfl rfl ?_
      refine r_il rfl rfl ?_
      refine r_il rfl rfl ?_
      refine r_shr rfl ?_
      refine r_ic rfl ?_
      refine r_and rfl ?_
      refine r_eq (zb_bit (by omega)) ?_
      refine r_add rfl ?_
      refine r_is (lv' := [(1, _), (2, _), (0, _)]) rfl rfl rfl ?_
      refine r_inc (lv' := [(2, _), (1, _), (0, _)]) rfl rfl rfl rfl ?_
      refine r_goto rfl rfl ?_
      exact rn_up (by omega) (ih (j + 1) (by omega))
theorem c_onesR  : sX12_ones [iv (a)] mw = some (some (iv (fO a 16)), mw) := by
  have main : ∀ Q : mm_R → Prop, Q (some (iv (fO a 16)), mw) → rn_X12_ones (20 + 20 * 16 + 20 + 20) (0, [(0, iv (a))], [], mw) Q := by
    intro Q hQ
    refine r_ic rfl ?_
    refine r_is (lv' := [(1, _), (0, _)]) rfl rfl rfl ?_
    refine r_ic rfl ?_
    refine r_is (lv' := [(2, _), (1, _), (0, _)]) rfl rfl rfl ?_
    refine rn_up (N := 20 + 20 * 16 + 20) (by decide) (ones_lp (N := 20) ?_ 16 0 rfl)
    refine r_il rfl rfl ?_
    exact r_ret rfl rfl hQ
  obtain ⟨r, h1, h2⟩ := rn_S (vs := [iv (a)]) (Q := fun r => r = (some (iv (fO a 16)), mw)) rfl (rn_up (N := 20 + 20 * 16 + 20 + 20) (M := mm_fuel) (by decide) (main (fun r => r = (some (iv (fO a 16)), mw)) rfl))
  have h1 : sX12_ones [iv (a)] mw = some r := h1
  rw [h1, h2]
abbrev rn_X12_balanceOf (N : Nat) (c : mm_C) (Q : mm_R → Prop) : Prop := rn (mm_gf gLX12) (mm_pf pLX12) (mm_mv vX12_balanceOf) (mm_mv zX12_balanceOf) (mm_kc kLX12) mm_gs0 mm_rf0 mm_ro (some .int) 4 (mm_ins iX12_balanceOf) N c Q
theorem balOf_lp (hC : C.length = 56) (hp : -2147483648 ≤ p ∧ p ≤ 2147483647) {n : Nat} (hn : n ≤ 10) (k : rn_X12_balanceOf N (68, [(3, iv ((n : Int))), (2, iv (fB de s p n)), (0, .ref 56), (1, iv (p))], [], (C ++ rL (ro_ th tr (n : Int) sn dm sm ty nx tk pl va fa lr ri) s kp ik tn de sd dd sr tx pa)) Q) : ∀ (m j : Nat), j + m = n → rn_X12_balanceOf (N + 60 * m + 60) (4, [(3, iv ((j : Int))), (2, iv (fB de s p j)), (0, .ref 56), (1, iv (p))], [], (C ++ rL (ro_ th tr (n : Int) sn dm sm ty nx tk pl va fa lr ri) s kp ik tn de sd dd sr tx pa)) Q := by
  intro m
  induction m with
  | zero =>
    intro j hj
    have hj : j = n := by omega
    subst hj
    refine rn_up (N := N + 60) (by omega) ?_
    refine r_il rfl rfl ?_
    refine r_al rfl rfl ?_
    refine r_gf rfl rfl (rg_56 hC) rfl ?_
    refine r_cge rfl rfl (by omega) (by omega) (fun g1 => ?_) (fun g1 => ?_)
    · exact rn_up (by omega) k
    · omega
  | succ m ih =>
    intro j hj
    generalize hM : N + 60 * m + 60 = M at ih
    refine rn_up (N := M + 60) (by omega) ?_
    refine r_il rfl rfl ?_
    refine r_al rfl rfl ?_
    refine r_gf rfl rfl (rg_56 hC) rfl ?_
    refine r_cge rfl rfl (by omega) (by omega) (fun g1 => ?_) (fun g1 => ?_)
    · omega
    · refine r_il rfl rfl ?_
      refine r_al rfl rfl ?_
      refine r_gf rfl rfl (rg_56 hC) rfl ?_
      refine r_ic rfl ?_
      refine r_il rfl rfl ?_
      refine r_mul rfl ?_
      refine r_ic rfl ?_
      refine r_add rfl ?_
      refine r_ia rfl (rg_61 hC) (by omega) (by omega) (by decide) ?_
      refine r_il rfl rfl ?_
      have K : rn_X12_balanceOf (M + 40) (36, [(3, iv ((j : Int))), (2, iv (fB de s p j)), (0, .ref 56), (1, iv (p))], [iv ((bif decide ((de (Int.toNat (3 * (j : Int) + 1))).toInt = p) then fR de s (j : Int) else 0)), iv (fB de s p j)], (C ++ rL (ro_ th tr (n : Int) sn dm sm ty nx tk pl va fa lr ri) s kp ik tn de sd dd sr tx pa)) Q := by
        refine r_add rfl ?_
        refine r_is (lv' := [(2, _), (3, _), (0, _), (1, _)]) rfl rfl rfl ?_
        refine r_il rfl rfl ?_
        refine r_al rfl rfl ?_
        refine r_gf rfl rfl (rg_56 hC) rfl ?_
        refine r_ic rfl ?_
        refine r_il rfl rfl ?_
        refine r_mul rfl ?_
        refine r_ia rfl (rg_61 hC) (by omega) (by omega) (by decide) ?_
        refine r_il rfl rfl ?_
        have K2 : rn_X12_balanceOf (M + 15) (60, [(2, iv ((fB de s p j) + ((bif decide ((de (Int.toNat (3 * (j : Int) + 1))).toInt = p) then fR de s (j : Int) else 0)))), (3, iv ((j : Int))), (0, .ref 56), (1, iv (p))], [iv ((bif decide ((de (Int.toNat (3 * (j : Int)))).toInt = p) then fR de s (j : Int) else 0)), iv ((fB de s p j) + ((bif decide ((de (Int.toNat (3 * (j : Int) + 1))).toInt = p) then fR de s (j : Int) else 0)))], (C ++ rL (ro_ th tr (n : Int) sn dm sm ty nx tk pl va fa lr ri) s kp ik tn de sd dd sr tx pa)) Q := by
          refine r_sub rfl ?_
          refine r_is (lv' := [(2, _), (3, _), (0, _), (1, _)]) rfl rfl rfl ?_
          refine r_inc (lv' := [(3, _), (2, _), (0, _), (1, _)]) rfl rfl rfl rfl ?_
          refine r_goto rfl rfl ?_
          exact rn_up (by omega) (ih (j + 1) (by omega))
        refine r_cne rfl rfl (as_r _) hp (fun g3 => ?_) (fun g3 => ?_)
        · refine r_ic rfl ?_
          rw [decide_eq_false g3, cond_false] at K2
          exact rn_up (N := M + 15) (by omega) K2
        · refine r_al rfl rfl ?_
          refine r_il rfl rfl ?_
          refine r_v2s rfl rfl (rg_56 hC) rfl (c_restR hC (by omega)) ?_
          refine r_goto rfl rfl ?_
          rw [decide_eq_true g3, cond_true] at K2
          exact rn_up (N := M + 15) (by omega) K2
      refine r_cne rfl rfl (as_r _) hp (fun g2 => ?_) (fun g2 => ?_)
      · refine r_ic rfl ?_
        rw [decide_eq_false g2, cond_false] at K
        exact rn_up (N := M + 40) (by omega) K
      · refine r_al rfl rfl ?_
        refine r_il rfl rfl ?_
        refine r_v2s rfl rfl (rg_56 hC) rfl (c_restR hC (by omega)) ?_
        refine r_goto rfl rfl ?_
        rw [decide_eq_true g2, cond_true] at K
        exact rn_up (N := M + 40) (by omega) K
theorem c_balanceOfR (hC : C.length = 56) (hp : -2147483648 ≤ p ∧ p ≤ 2147483647) (hd : 0 ≤ db ∧ db ≤ 10) : sX12_balanceOf [.ref 56, iv p] (C ++ rL (ro_ th tr db sn dm sm ty nx tk pl va fa lr ri) s kp ik tn de sd dd sr tx pa) = some (some (iv (fB de s p db.toNat)), (C ++ rL (ro_ th tr db sn dm sm ty nx tk pl va fa lr ri) s kp ik tn de sd dd sr tx pa)) := by
  obtain ⟨n, rfl⟩ := Int.eq_ofNat_of_zero_le hd.1
  have hn : n ≤ 10 := by omega
  have main : ∀ Q : mm_R → Prop, Q (some (iv (fB de s p n)), (C ++ rL (ro_ th tr (n : Int) sn dm sm ty nx tk pl va fa lr ri) s kp ik tn de sd dd sr tx pa)) → rn_X12_balanceOf (20 + 60 * 10 + 60 + 20) (0, [(0, .ref 56), (1, iv (p))], [], (C ++ rL (ro_ th tr (n : Int) sn dm sm ty nx tk pl va fa lr ri) s kp ik tn de sd dd sr tx pa)) Q := by
    intro Q hQ
    refine r_ic rfl ?_
    refine r_is (lv' := [(2, _), (0, _), (1, _)]) rfl rfl rfl ?_
    refine r_ic rfl ?_
    refine r_is (lv' := [(3, _), (2, _), (0, _), (1, _)]) rfl rfl rfl ?_
    refine rn_up (N := 20 + 60 * n + 60) (by omega) (balOf_lp (N := 20) hC hp hn ?_ n 0 (by omega))
    refine r_il rfl rfl ?_
    exact r_ret rfl rfl hQ
  obtain ⟨r, h1, h2⟩ := rn_S (vs := [.ref 56, iv p]) (Q := fun r => r = (some (iv (fB de s p n)), (C ++ rL (ro_ th tr (n : Int) sn dm sm ty nx tk pl va fa lr ri) s kp ik tn de sd dd sr tx pa))) rfl (rn_up (N := 20 + 60 * 10 + 60 + 20) (M := mm_fuel) (by decide) (main (fun r => r = (some (iv (fB de s p n)), (C ++ rL (ro_ th tr (n : Int) sn dm sm ty nx tk pl va fa lr ri) s kp ik tn de sd dd sr tx pa))) rfl))
  have h1 : sX12_balanceOf [.ref 56, iv p] (C ++ rL (ro_ th tr (n : Int) sn dm sm ty nx tk pl va fa lr ri) s kp ik tn de sd dd sr tx pa) = some r := h1
  rw [h1, h2]
  rfl
abbrev rn_X12_balance (N : Nat) (c : mm_C) (Q : mm_R → Prop) : Prop := rn (mm_gf gLX12) (mm_pf pLX12) (mm_mv vX12_balance) (mm_mv zX12_balance) (mm_kc kLX12) mm_gs0 mm_rf0 mm_ro (some .int) 8 (mm_ins iX12_balance) N c Q
theorem bal_in (hC : C.length = 56) (hRS : RS s) (hE : DEr de) (hd : 0 ≤ db ∧ db ≤ 10) {t : Nat} (ht : t < 256) (hP : PAi t pa) {x2 : Int} (k : ∀ (q x7 x4 : Int), 0 ≤ q ∧ (q = 0 ∨ q + 1 ≤ (t : Int)) → (-2147483648 ≤ x4 ∧ x4 ≤ 2147483647) → rn_X12_balance N (130, [(6, iv (((8 : Nat) : Int))), (5, iv (q)), (7, iv (x7)), (4, iv (x4)), (3, iv ((t : Int))), (2, iv (x2)), (0, .ref 56), (1, iv (a))], [], (C ++ rL (ro_ (0 : Int) tr db sn dm sm ty nx tk pl va fa lr ri) s kp ik tn de sd dd sr tx pa)) Q) : ∀ (m j : Nat) (q x7 x4 : Int), j + m = 8 → 0 ≤ q ∧ (q = 0 ∨ q + 1 ≤ (t : Int)) → (-2147483648 ≤ x4 ∧ x4 ≤ 2147483647) → rn_X12_balance (N + 100 * m + 100) (50, [(6, iv ((j : Int))), (5, iv (q)), (7, iv (x7)), (4, iv (x4)), (3, iv ((t : Int))), (2, iv (x2)), (0, .ref 56), (1, iv (a))], [], (C ++ rL (ro_ (0 : Int) tr db sn dm sm ty nx tk pl va fa lr ri) s kp ik tn de sd dd sr tx pa)) Q := by
  intro m
  induction m with
  | zero =>
    intro j q x7 x4 hj hq h4
    have hj : j = 8 := by omega
    subst hj
    refine rn_up (N := N + 100) (by omega) ?_
    refine r_ilw rfl rfl ?_
    refine r_bi rfl (by decide) ?_
    refine r_cge rfl rfl (by omega) (by omega) (fun g1 => ?_) (fun g1 => ?_)
    · exact rn_up (by omega) (k q x7 x4 hq h4)
    · omega
  | succ m ih =>
    intro j q x7 x4 hj hq h4
    generalize hM : N + 100 * m + 100 = M at ih
    refine rn_up (N := M + 100) (by omega) ?_
    refine r_ilw rfl rfl ?_
    refine r_bi rfl (by decide) ?_
    refine r_cge rfl rfl (by omega) (by omega) (fun g1 => ?_) (fun g1 => ?_)
    · omega
    · refine r_ilw rfl rfl ?_
      refine r_il rfl rfl ?_
      refine r_ilw rfl rfl ?_
      refine r_shr rfl ?_
      refine r_ic rfl ?_
      refine r_and rfl ?_
      refine r_eq (zb_bit (by omega)) ?_
      refine r_ic rfl ?_
      have K : ∀ z : Int, rn_X12_balance (M + 70) (80, [(6, iv ((j : Int))), (5, iv (q)), (7, iv (x7)), (4, iv (x4)), (3, iv ((t : Int))), (2, iv (x2)), (0, .ref 56), (1, iv (a))], [iv (z)], (C ++ rL (ro_ (0 : Int) tr db sn dm sm ty nx tk pl va fa lr ri) s kp ik tn de sd dd sr tx pa)) Q := by
        intro z
        refine r_nrm ?_
        have hw := oAnd_le (a := (t : Int)) (b := oXor (oShl 1 ((j : Nat) : Int)) (-1)) (by omega)
        refine r_isw (lv' := [(4, _), (6, _), (5, _), (7, _), (3, _), (2, _), (0, _), (1, _)]) rfl rfl rfl ?_
        refine r_il rfl rfl ?_
        refine r_ic rfl ?_
        refine r_ilw rfl rfl ?_
        refine r_shl rfl ?_
        refine r_ic rfl ?_
        refine r_xor rfl ?_
        refine r_and rfl ?_
        refine r_isw (lv' := [(7, _), (4, _), (6, _), (5, _), (3, _), (2, _), (0, _), (1, _)]) rfl rfl rfl ?_
        refine r_ilw rfl rfl ?_
        refine r_il rfl rfl ?_
        have K2 : ∀ y : Int, 0 ≤ y ∧ (y = 0 ∨ y + 1 ≤ (t : Int)) → rn_X12_balance (M + 10) (122, [(7, iv (oAnd ((t : Int)) (oXor (oShl (1) ((j : Int))) ((-1))))), (4, iv (nrm (z))), (6, iv ((j : Int))), (5, iv (q)), (3, iv ((t : Int))), (2, iv (x2)), (0, .ref 56), (1, iv (a))], [iv (y)], (C ++ rL (ro_ (0 : Int) tr db sn dm sm ty nx tk pl va fa lr ri) s kp ik tn de sd dd sr tx pa)) Q := by
          intro y hy
          refine r_isw (lv' := [(5, _), (7, _), (4, _), (6, _), (3, _), (2, _), (0, _), (1, _)]) rfl rfl rfl ?_
          refine r_inc (lv' := [(6, _), (5, _), (7, _), (4, _), (3, _), (2, _), (0, _), (1, _)]) rfl rfl rfl rfl ?_
          refine r_goto rfl rfl ?_
          exact rn_up (by omega) (ih (j + 1) _ _ _ (by omega) hy (nrm_r _))
        refine r_ceq rfl rfl (by omega) (by omega) (fun g3 => ?_) (fun g3 => ?_)
        · refine r_ilw rfl rfl ?_
          exact rn_up (N := M + 10) (by omega) (K2 _ hq)
        · have hv := hP.2 (Int.toNat (oAnd (t : Int) (oXor (oShl 1 ((j : Nat) : Int)) (-1)))) (by omega)
          have hv0 := hP.1 (Int.toNat (oAnd (t : Int) (oXor (oShl 1 ((j : Nat) : Int)) (-1)))) (by omega)
          unfold i7 at hv0
          refine r_al rfl rfl ?_
          refine r_gf rfl rfl (rg_56 hC) rfl ?_
          refine r_ilw rfl rfl ?_
          refine r_ia rfl (rg_66 hC) (by omega) (by omega) (by decide) ?_
          refine r_ilw rfl rfl ?_
          refine r_cle rfl rfl (by omega) (by omega) (fun g4 => ?_) (fun g4 => ?_)
          · refine r_ilw rfl rfl ?_
            exact rn_up (N := M + 10) (by omega) (K2 _ hq)
          · refine r_al rfl rfl ?_
            refine r_gf rfl rfl (rg_56 hC) rfl ?_
            refine r_ilw rfl rfl ?_
            refine r_ia rfl (rg_66 hC) (by omega) (by omega) (by decide) ?_
            refine r_goto rfl rfl ?_
            exact rn_up (N := M + 10) (by omega) (K2 _ (by omega))
      refine r_cne rfl rfl (bi_r _) (by decide) (fun g2 => ?_) (fun g2 => ?_)
      · refine r_ic rfl ?_
        refine r_add rfl ?_
        exact rn_up (N := M + 70) (by omega) (K _)
      · refine r_al rfl rfl ?_
        refine r_ilw rfl rfl ?_
        refine r_v2s rfl rfl (rg_56 hC) rfl (c_balanceOfR hC (by omega) hd) ?_
        refine r_goto rfl rfl ?_
        refine r_add rfl ?_
        exact rn_up (N := M + 70) (by omega) (K _)
theorem bal_inA (hC : C.length = 56) (hRS : RS s) (hE : DEr de) (hd : 0 ≤ db ∧ db ≤ 10) {t : Nat} (ht : t < 256) (hP : PAi t pa) {x2 : Int} (k : ∀ (q x7 x4 : Int), 0 ≤ q ∧ (q = 0 ∨ q + 1 ≤ (t : Int)) → (-2147483648 ≤ x4 ∧ x4 ≤ 2147483647) → rn_X12_balance N (130, [(6, iv (((8 : Nat) : Int))), (5, iv (q)), (7, iv (x7)), (4, iv (x4)), (3, iv ((t : Int))), (2, iv (x2)), (0, .ref 56), (1, iv (a))], [], (C ++ rL (ro_ (0 : Int) tr db sn dm sm ty nx tk pl va fa lr ri) s kp ik tn de sd dd sr tx pa)) Q) : rn_X12_balance (N + 1000) (50, [(6, iv (((0 : Nat) : Int))), (5, iv (0)), (4, iv (0)), (3, iv ((t : Int))), (2, iv (x2)), (0, .ref 56), (1, iv (a))], [], (C ++ rL (ro_ (0 : Int) tr db sn dm sm ty nx tk pl va fa lr ri) s kp ik tn de sd dd sr tx pa)) Q := by
  have hq : 0 ≤ (0 : Int) ∧ ((0 : Int) = 0 ∨ (0 : Int) + 1 ≤ (t : Int)) := by omega
  generalize hM : N + 100 * 7 + 100 = M
  refine rn_up (N := M + 100) (by omega) ?_
  refine r_ilw rfl rfl ?_
  refine r_bi rfl (by decide) ?_
  refine r_cge rfl rfl (by omega) (by omega) (fun g1 => ?_) (fun g1 => ?_)
  · omega
  · refine r_ilw rfl rfl ?_
    refine r_il rfl rfl ?_
    refine r_ilw rfl rfl ?_
    refine r_shr rfl ?_
    refine r_ic rfl ?_
    refine r_and rfl ?_
    refine r_eq (zb_bit (by omega)) ?_
    refine r_ic rfl ?_
    have K : ∀ z : Int, rn_X12_balance (M + 70) (80, [(6, iv (((0 : Nat) : Int))), (5, iv (0)), (4, iv (0)), (3, iv ((t : Int))), (2, iv (x2)), (0, .ref 56), (1, iv (a))], [iv (z)], (C ++ rL (ro_ (0 : Int) tr db sn dm sm ty nx tk pl va fa lr ri) s kp ik tn de sd dd sr tx pa)) Q := by
      intro z
      refine r_nrm ?_
      have hw := oAnd_le (a := (t : Int)) (b := oXor (oShl 1 ((0 : Nat) : Int)) (-1)) (by omega)
      refine r_isw (lv' := [(4, _), (6, _), (5, _), (3, _), (2, _), (0, _), (1, _)]) rfl rfl rfl ?_
      refine r_il rfl rfl ?_
      refine r_ic rfl ?_
      refine r_ilw rfl rfl ?_
      refine r_shl rfl ?_
      refine r_ic rfl ?_
      refine r_xor rfl ?_
      refine r_and rfl ?_
      refine r_isw (lv' := [(7, _), (4, _), (6, _), (5, _), (3, _), (2, _), (0, _), (1, _)]) rfl rfl rfl ?_
      refine r_ilw rfl rfl ?_
      refine r_il rfl rfl ?_
      have K2 : ∀ y : Int, 0 ≤ y ∧ (y = 0 ∨ y + 1 ≤ (t : Int)) → rn_X12_balance (M + 10) (122, [(7, iv (oAnd ((t : Int)) (oXor (oShl (1) (((0 : Nat) : Int))) ((-1))))), (4, iv (nrm (z))), (6, iv (((0 : Nat) : Int))), (5, iv (0)), (3, iv ((t : Int))), (2, iv (x2)), (0, .ref 56), (1, iv (a))], [iv (y)], (C ++ rL (ro_ (0 : Int) tr db sn dm sm ty nx tk pl va fa lr ri) s kp ik tn de sd dd sr tx pa)) Q := by
        intro y hy
        refine r_isw (lv' := [(5, _), (7, _), (4, _), (6, _), (3, _), (2, _), (0, _), (1, _)]) rfl rfl rfl ?_
        refine r_inc (lv' := [(6, _), (5, _), (7, _), (4, _), (3, _), (2, _), (0, _), (1, _)]) rfl rfl rfl rfl ?_
        refine r_goto rfl rfl ?_
        exact rn_up (by omega) (bal_in hC hRS hE hd ht hP k 7 1 _ _ _ rfl hy (nrm_r _))
      refine r_ceq rfl rfl (by omega) (by omega) (fun g3 => ?_) (fun g3 => ?_)
      · refine r_ilw rfl rfl ?_
        exact rn_up (N := M + 10) (by omega) (K2 _ hq)
      · have hv := hP.2 (Int.toNat (oAnd (t : Int) (oXor (oShl 1 ((0 : Nat) : Int)) (-1)))) (by omega)
        have hv0 := hP.1 (Int.toNat (oAnd (t : Int) (oXor (oShl 1 ((0 : Nat) : Int)) (-1)))) (by omega)
        unfold i7 at hv0
        refine r_al rfl rfl ?_
        refine r_gf rfl rfl (rg_56 hC) rfl ?_
        refine r_ilw rfl rfl ?_
        refine r_ia rfl (rg_66 hC) (by omega) (by omega) (by decide) ?_
        refine r_ilw rfl rfl ?_
        refine r_cle rfl rfl (by omega) (by omega) (fun g4 => ?_) (fun g4 => ?_)
        · refine r_ilw rfl rfl ?_
          exact rn_up (N := M + 10) (by omega) (K2 _ hq)
        · refine r_al rfl rfl ?_
          refine r_gf rfl rfl (rg_56 hC) rfl ?_
          refine r_ilw rfl rfl ?_
          refine r_ia rfl (rg_66 hC) (by omega) (by omega) (by decide) ?_
          refine r_goto rfl rfl ?_
          exact rn_up (N := M + 10) (by omega) (K2 _ (by omega))
    refine r_cne rfl rfl (bi_r _) (by decide) (fun g2 => ?_) (fun g2 => ?_)
    · refine r_ic rfl ?_
      refine r_add rfl ?_
      exact rn_up (N := M + 70) (by omega) (K _)
    · refine r_al rfl rfl ?_
      refine r_ilw rfl rfl ?_
      refine r_v2s rfl rfl (rg_56 hC) rfl (c_balanceOfR hC (by omega) hd) ?_
      refine r_goto rfl rfl ?_
      refine r_add rfl ?_
      exact rn_up (N := M + 70) (by omega) (K _)
theorem bal_inB (hC : C.length = 56) (hRS : RS s) (hE : DEr de) (hd : 0 ≤ db ∧ db ≤ 10) {t : Nat} (ht : t < 256) (hP : PAi t pa) {x2 : Int} {x7 : Int} (k : ∀ (q x7 x4 : Int), 0 ≤ q ∧ (q = 0 ∨ q + 1 ≤ (t : Int)) → (-2147483648 ≤ x4 ∧ x4 ≤ 2147483647) → rn_X12_balance N (130, [(6, iv (((8 : Nat) : Int))), (5, iv (q)), (7, iv (x7)), (4, iv (x4)), (3, iv ((t : Int))), (2, iv (x2)), (0, .ref 56), (1, iv (a))], [], (C ++ rL (ro_ (0 : Int) tr db sn dm sm ty nx tk pl va fa lr ri) s kp ik tn de sd dd sr tx pa)) Q) : rn_X12_balance (N + 1000) (50, [(6, iv (((0 : Nat) : Int))), (5, iv (0)), (4, iv (0)), (3, iv ((t : Int))), (7, iv (x7)), (2, iv (x2)), (0, .ref 56), (1, iv (a))], [], (C ++ rL (ro_ (0 : Int) tr db sn dm sm ty nx tk pl va fa lr ri) s kp ik tn de sd dd sr tx pa)) Q := by
  have hq : 0 ≤ (0 : Int) ∧ ((0 : Int) = 0 ∨ (0 : Int) + 1 ≤ (t : Int)) := by omega
  generalize hM : N + 100 * 7 + 100 = M
  refine rn_up (N := M + 100) (by omega) ?_
  refine r_ilw rfl rfl ?_
  refine r_bi rfl (by decide) ?_
  refine r_cge rfl rfl (by omega) (by omega) (fun g1 => ?_) (fun g1 => ?_)
  · omega
  · refine r_ilw rfl rfl ?_
    refine r_il rfl rfl ?_
    refine r_ilw rfl rfl ?_
    refine r_shr rfl ?_
    refine r_ic rfl ?_
    refine r_and rfl ?_
    refine r_eq (zb_bit (by omega)) ?_
    refine r_ic rfl ?_
    have K : ∀ z : Int, rn_X12_balance (M + 70) (80, [(6, iv (((0 : Nat) : Int))), (5, iv (0)), (4, iv (0)), (3, iv ((t : Int))), (7, iv (x7)), (2, iv (x2)), (0, .ref 56), (1, iv (a))], [iv (z)], (C ++ rL (ro_ (0 : Int) tr db sn dm sm ty nx tk pl va fa lr ri) s kp ik tn de sd dd sr tx pa)) Q := by
      intro z
      refine r_nrm ?_
      have hw := oAnd_le (a := (t : Int)) (b := oXor (oShl 1 ((0 : Nat) : Int)) (-1)) (by omega)
      refine r_isw (lv' := [(4, _), (6, _), (5, _), (3, _), (7, _), (2, _), (0, _), (1, _)]) rfl rfl rfl ?_
      refine r_il rfl rfl ?_
      refine r_ic rfl ?_
      refine r_ilw rfl rfl ?_
      refine r_shl rfl ?_
      refine r_ic rfl ?_
      refine r_xor rfl ?_
      refine r_and rfl ?_
      refine r_isw (lv' := [(7, _), (4, _), (6, _), (5, _), (3, _), (2, _), (0, _), (1, _)]) rfl rfl rfl ?_
      refine r_ilw rfl rfl ?_
      refine r_il rfl rfl ?_
      have K2 : ∀ y : Int, 0 ≤ y ∧ (y = 0 ∨ y + 1 ≤ (t : Int)) → rn_X12_balance (M + 10) (122, [(7, iv (oAnd ((t : Int)) (oXor (oShl (1) (((0 : Nat) : Int))) ((-1))))), (4, iv (nrm (z))), (6, iv (((0 : Nat) : Int))), (5, iv (0)), (3, iv ((t : Int))), (2, iv (x2)), (0, .ref 56), (1, iv (a))], [iv (y)], (C ++ rL (ro_ (0 : Int) tr db sn dm sm ty nx tk pl va fa lr ri) s kp ik tn de sd dd sr tx pa)) Q := by
        intro y hy
        refine r_isw (lv' := [(5, _), (7, _), (4, _), (6, _), (3, _), (2, _), (0, _), (1, _)]) rfl rfl rfl ?_
        refine r_inc (lv' := [(6, _), (5, _), (7, _), (4, _), (3, _), (2, _), (0, _), (1, _)]) rfl rfl rfl rfl ?_
        refine r_goto rfl rfl ?_
        exact rn_up (by omega) (bal_in hC hRS hE hd ht hP k 7 1 _ _ _ rfl hy (nrm_r _))
      refine r_ceq rfl rfl (by omega) (by omega) (fun g3 => ?_) (fun g3 => ?_)
      · refine r_ilw rfl rfl ?_
        exact rn_up (N := M + 10) (by omega) (K2 _ hq)
      · have hv := hP.2 (Int.toNat (oAnd (t : Int) (oXor (oShl 1 ((0 : Nat) : Int)) (-1)))) (by omega)
        have hv0 := hP.1 (Int.toNat (oAnd (t : Int) (oXor (oShl 1 ((0 : Nat) : Int)) (-1)))) (by omega)
        unfold i7 at hv0
        refine r_al rfl rfl ?_
        refine r_gf rfl rfl (rg_56 hC) rfl ?_
        refine r_ilw rfl rfl ?_
        refine r_ia rfl (rg_66 hC) (by omega) (by omega) (by decide) ?_
        refine r_ilw rfl rfl ?_
        refine r_cle rfl rfl (by omega) (by omega) (fun g4 => ?_) (fun g4 => ?_)
        · refine r_ilw rfl rfl ?_
          exact rn_up (N := M + 10) (by omega) (K2 _ hq)
        · refine r_al rfl rfl ?_
          refine r_gf rfl rfl (rg_56 hC) rfl ?_
          refine r_ilw rfl rfl ?_
          refine r_ia rfl (rg_66 hC) (by omega) (by omega) (by decide) ?_
          refine r_goto rfl rfl ?_
          exact rn_up (N := M + 10) (by omega) (K2 _ (by omega))
    refine r_cne rfl rfl (bi_r _) (by decide) (fun g2 => ?_) (fun g2 => ?_)
    · refine r_ic rfl ?_
      refine r_add rfl ?_
      exact rn_up (N := M + 70) (by omega) (K _)
    · refine r_al rfl rfl ?_
      refine r_ilw rfl rfl ?_
      refine r_v2s rfl rfl (rg_56 hC) rfl (c_balanceOfR hC (by omega) hd) ?_
      refine r_goto rfl rfl ?_
      refine r_add rfl ?_
      exact rn_up (N := M + 70) (by omega) (K _)
theorem bal_out (hC : C.length = 56) (hRS : RS s) (hE : DEr de) (hd : 0 ≤ db ∧ db ≤ 10) {x2 : Int} (k : ∀ (pa : Nat → Int32) (x4 x5 x6 x7 : Int), PAi 256 pa → rn_X12_balance N (159, [(3, iv (((256 : Nat) : Int))), (6, iv (x6)), (5, iv (x5)), (7, iv (x7)), (4, iv (x4)), (2, iv (x2)), (0, .ref 56), (1, iv (a))], [], (C ++ rL (ro_ (0 : Int) tr db sn dm sm ty nx tk pl va fa lr ri) s kp ik tn de sd dd sr tx pa)) Q) : ∀ (m t : Nat) (pa : Nat → Int32) (x4 x5 x6 x7 : Int), t + m = 256 → PAi t pa → rn_X12_balance (N + 1100 * m + 1100) (34, [(3, iv ((t : Int))), (6, iv (x6)), (5, iv (x5)), (7, iv (x7)), (4, iv (x4)), (2, iv (x2)), (0, .ref 56), (1, iv (a))], [], (C ++ rL (ro_ (0 : Int) tr db sn dm sm ty nx tk pl va fa lr ri) s kp ik tn de sd dd sr tx pa)) Q := by
  intro m
  induction m with
  | zero =>
    intro t pa x4 x5 x6 x7 hj hP
    have hj : t = 256 := by omega
    subst hj
    refine rn_up (N := N + 1100) (by omega) ?_
    refine r_il rfl rfl ?_
    refine r_si rfl (by decide) ?_
    refine r_cge rfl rfl (by omega) (by omega) (fun g1 => ?_) (fun g1 => ?_)
    · exact rn_up (by omega) (k pa x4 x5 x6 x7 hP)
    · omega
  | succ m ih =>
    intro t pa x4 x5 x6 x7 hj hP
    obtain ⟨M, hM⟩ : ∃ M, M = N + 1100 * m + 1100 := ⟨_, rfl⟩
    rw [← hM] at ih
    refine rn_up (N := M + 1100) (by omega) ?_
    refine r_il rfl rfl ?_
    refine r_si rfl (by decide) ?_
    refine r_cge rfl rfl (by omega) (by omega) (fun g1 => ?_) (fun g1 => ?_)
    · omega
    · refine r_ic rfl ?_
      refine r_isw (lv' := [(4, _), (3, _), (6, _), (5, _), (7, _), (2, _), (0, _), (1, _)]) rfl rfl rfl ?_
      refine r_ic rfl ?_
      refine r_isw (lv' := [(5, _), (4, _), (3, _), (6, _), (7, _), (2, _), (0, _), (1, _)]) rfl rfl rfl ?_
      refine r_ic rfl ?_
      refine r_isw (lv' := [(6, _), (5, _), (4, _), (3, _), (7, _), (2, _), (0, _), (1, _)]) rfl rfl rfl ?_
      refine rn_up (N := (M + 40) + 1000) (by omega) (bal_inB hC hRS hE hd (by omega) hP (fun q x7' x4 hq h4 => ?_))
      refine r_al rfl rfl ?_
      refine r_gf rfl rfl (rg_56 hC) rfl ?_
      refine r_il rfl rfl ?_
      refine r_ilw rfl rfl ?_
      refine r_il rfl rfl ?_
      have K : ∀ y : Int, (0 ≤ y ∧ y ≤ 1 ∧ (y = 1 → 0 < t)) → rn_X12_balance (M + 20) (151, [(6, iv (((8 : Nat) : Int))), (5, iv (q)), (7, iv (x7')), (4, iv (x4)), (3, iv ((t : Int))), (2, iv (x2)), (0, .ref 56), (1, iv (a))], [iv (y), iv (q), iv ((t : Int)), .ref 66], (C ++ rL (ro_ (0 : Int) tr db sn dm sm ty nx tk pl va fa lr ri) s kp ik tn de sd dd sr tx pa)) Q := by
        intro y hy
        refine r_add rfl ?_
        refine r_ias rfl (rg_66 hC) (by omega) (by omega) (by decide) (rs_66 hC) ?_
        refine r_inc (lv' := [(3, _), (6, _), (5, _), (7, _), (4, _), (2, _), (0, _), (1, _)]) rfl rfl rfl rfl ?_
        refine r_goto rfl rfl ?_
        exact rn_up (by omega) (ih (t + 1) _ _ _ _ _ (by omega) (PAi_s hP (by omega) (by omega)))
      refine r_zeq rfl rfl (by omega) (fun g5 => ?_) (fun g5 => ?_)
      · refine r_ic rfl ?_
        exact rn_up (N := M + 20) (by omega) (K 0 (by omega))
      · refine r_ilw rfl rfl ?_
        refine r_zne rfl rfl h4 (fun g6 => ?_) (fun g6 => ?_)
        · refine r_ic rfl ?_
          exact rn_up (N := M + 20) (by omega) (K 0 (by omega))
        · refine r_ic rfl ?_
          refine r_goto rfl rfl ?_
          exact rn_up (N := M + 20) (by omega) (K 1 (by omega))
theorem h2p (j : Nat) : (0 : Int) ≤ 2 ^ j := by
  induction j with
  | zero => decide
  | succ j ih => rw [Int.pow_succ]; omega
theorem bal_sum (hC : C.length = 56) (hRS : RS s) (hE : DEr de) (hd : 0 ≤ db ∧ db ≤ 10) {x4 x5 x6 x7 : Int} (k : ∀ x2 : Int, (0 ≤ x2 ∧ x2 ≤ 255) → rn_X12_balance N (191, [(3, iv (((8 : Nat) : Int))), (2, iv (x2)), (6, iv (x6)), (5, iv (x5)), (7, iv (x7)), (4, iv (x4)), (0, .ref 56), (1, iv (a))], [], (C ++ rL (ro_ (0 : Int) tr db sn dm sm ty nx tk pl va fa lr ri) s kp ik tn de sd dd sr tx pa)) Q) : ∀ (m j : Nat) (x2 : Int), j + m = 8 → (0 ≤ x2 ∧ x2 < 2 ^ j) → rn_X12_balance (N + 40 * m + 40) (161, [(3, iv ((j : Int))), (2, iv (x2)), (6, iv (x6)), (5, iv (x5)), (7, iv (x7)), (4, iv (x4)), (0, .ref 56), (1, iv (a))], [], (C ++ rL (ro_ (0 : Int) tr db sn dm sm ty nx tk pl va fa lr ri) s kp ik tn de sd dd sr tx pa)) Q := by
  intro m
  induction m with
  | zero =>
    intro j x2 hj hx
    have hj : j = 8 := by omega
    subst hj
    have h8 : (2 : Int) ^ 8 = 256 := by decide
    refine rn_up (N := N + 40) (by omega) ?_
    refine r_il rfl rfl ?_
    refine r_bi rfl (by decide) ?_
    refine r_cge rfl rfl (by omega) (by omega) (fun g1 => ?_) (fun g1 => ?_)
    · exact rn_up (by omega) (k x2 (by omega))
    · omega
  | succ m ih =>
    intro j x2 hj hx
    generalize hM : N + 40 * m + 40 = M at ih
    refine rn_up (N := M + 40) (by omega) ?_
    refine r_il rfl rfl ?_
    refine r_bi rfl (by decide) ?_
    refine r_cge rfl rfl (by omega) (by omega) (fun g1 => ?_) (fun g1 => ?_)
    · omega
    · refine r_il rfl rfl ?_
      refine r_al rfl rfl ?_
      refine r_il rfl rfl ?_
      refine r_v2s rfl rfl (rg_56 hC) rfl (c_balanceOfR hC (by omega) hd) ?_
      have K : ∀ y : Int, (0 ≤ y ∧ y ≤ 2 ^ j) → rn_X12_balance (M + 10) (183, [(3, iv ((j : Int))), (2, iv (x2)), (6, iv (x6)), (5, iv (x5)), (7, iv (x7)), (4, iv (x4)), (0, .ref 56), (1, iv (a))], [iv (y), iv (x2)], (C ++ rL (ro_ (0 : Int) tr db sn dm sm ty nx tk pl va fa lr ri) s kp ik tn de sd dd sr tx pa)) Q := by
        intro y hy
        refine r_add rfl ?_
        refine r_is (lv' := [(2, _), (3, _), (6, _), (5, _), (7, _), (4, _), (0, _), (1, _)]) rfl rfl rfl ?_
        refine r_inc (lv' := [(3, _), (2, _), (6, _), (5, _), (7, _), (4, _), (0, _), (1, _)]) rfl rfl rfl rfl ?_
        refine r_goto rfl rfl ?_
        exact rn_up (by omega) (ih (j + 1) _ (by omega) (by rw [Int.pow_succ]; omega))
      refine r_zeq rfl rfl (by have := fB_r (p := ((j : Nat) : Int)) hRS hE db.toNat (by omega); omega) (fun g2 => ?_) (fun g2 => ?_)
      · refine r_ic rfl ?_
        exact rn_up (N := M + 10) (by omega) (K 0 ⟨by decide, h2p j⟩)
      · refine r_ic rfl ?_
        refine r_il rfl rfl ?_
        refine r_shl rfl ?_
        refine r_goto rfl rfl ?_
        exact rn_up (N := M + 10) (by omega) (K _ (by rw [oShl_2 j (by omega)]; exact ⟨h2p j, Int.le_refl _⟩))
theorem bal_rn (hC : C.length = 56) (hRS : RS s) (hE : DEr de) (hd : 0 ≤ db ∧ db ≤ 10) (ha : -2147483648 ≤ a ∧ a ≤ 2147483647) (hPA : ∀ j, j < 5226 → i7 (pa j) 0 999) : ∃ r, sX12_balance [.ref 56, iv a] (C ++ rL (ro_ th tr db sn dm sm ty nx tk pl va fa lr ri) s kp ik tn de sd dd sr tx pa) = some r ∧ (fun r : mm_R => ∃ (c : Int) (pa' : Nat → Int32), r = (some (iv c), (C ++ rL (ro_ (0 : Int) tr db sn dm sm ty nx tk pl va fa lr ri) s kp ik tn de sd dd sr tx pa')) ∧ ∀ j, j < 5226 → i7 (pa' j) 0 999) r := by
  obtain ⟨M, hM⟩ : ∃ M, M = 1000 + 1100 * 256 + 1100 := ⟨_, rfl⟩
  refine rn_S rfl ?_
  refine rn_up (N := M + 2000) (by rw [hM]; decide) ?_
  refine r_al rfl rfl ?_
  refine r_ic rfl ?_
  refine r_pf rfl rfl (rg_56 hC) rfl (rp_th hC) ?_
  refine r_il rfl rfl ?_
  refine r_ic rfl ?_
  refine r_ceq rfl rfl (by omega) (by omega) (fun g1 => ?_) (fun g1 => ?_)
  · refine r_il rfl rfl ?_
    refine r_zlt rfl rfl (by omega) (fun g2 => ?_) (fun g2 => ?_)
    · refine r_ic rfl ?_
      refine r_is (lv' := [(2, _), (0, _), (1, _)]) rfl rfl rfl ?_
      refine r_ic rfl ?_
      refine r_is (lv' := [(3, _), (2, _), (0, _), (1, _)]) rfl rfl rfl ?_
      refine r_il rfl rfl ?_
      refine r_si rfl (by decide) ?_
      refine r_cge rfl rfl (by omega) (by omega) (fun g5 => ?_) (fun g5 => ?_)
      · omega
      · refine r_ic rfl ?_
        refine r_isw (lv' := [(4, _), (3, _), (2, _), (0, _), (1, _)]) rfl rfl rfl ?_
        refine r_ic rfl ?_
        refine r_isw (lv' := [(5, _), (4, _), (3, _), (2, _), (0, _), (1, _)]) rfl rfl rfl ?_
        refine r_ic rfl ?_
        refine r_isw (lv' := [(6, _), (5, _), (4, _), (3, _), (2, _), (0, _), (1, _)]) rfl rfl rfl ?_
        have hP0 : PAi 0 pa := ⟨hPA, fun j hj => by omega⟩
        refine rn_up (N := (M + 40) + 1000) (by omega) (bal_inA (t := 0) hC hRS hE hd (by decide) hP0 (fun q x7' x4 hq h4 => ?_))
        refine r_al rfl rfl ?_
        refine r_gf rfl rfl (rg_56 hC) rfl ?_
        refine r_il rfl rfl ?_
        refine r_ilw rfl rfl ?_
        refine r_il rfl rfl ?_
        refine r_zeq rfl rfl (by omega) (fun g6 => ?_) (fun g6 => ?_)
        · refine r_ic rfl ?_
          refine r_add rfl ?_
          refine r_ias rfl (rg_66 hC) (by omega) (by omega) (by decide) (rs_66 hC) ?_
          refine r_inc (lv' := [(3, _), (6, _), (5, _), (7, _), (4, _), (2, _), (0, _), (1, _)]) rfl rfl rfl rfl ?_
          refine r_goto rfl rfl ?_
          refine rn_up (N := 1000 + 1100 * 255 + 1100) (by omega) (bal_out (N := 1000) hC hRS hE hd (fun pa x4 x5 x6 x7 hP => ?_) 255 1 _ _ _ _ _ rfl (PAi_s hP0 (by decide) (by omega)))
          refine r_ic rfl ?_
          refine r_is (lv' := [(3, _), (6, _), (5, _), (7, _), (4, _), (2, _), (0, _), (1, _)]) rfl rfl rfl ?_
          refine r_il rfl rfl ?_
          refine r_bi rfl (by decide) ?_
          refine r_cge rfl rfl (by omega) (by omega) (fun g7 => ?_) (fun g7 => ?_)
          · omega
          · show rn_X12_balance _ (167, [(3, iv (((0 : Nat) : Int))), (6, iv (x6)), (5, iv (x5)), (7, iv (x7)), (4, iv (x4)), (2, iv (0)), (0, .ref 56), (1, iv (a))], [], (C ++ rL (ro_ (0 : Int) tr db sn dm sm ty nx tk pl va fa lr ri) s kp ik tn de sd dd sr tx pa)) (fun r : mm_R => ∃ (c : Int) (pa' : Nat → Int32), r = (some (iv c), (C ++ rL (ro_ (0 : Int) tr db sn dm sm ty nx tk pl va fa lr ri) s kp ik tn de sd dd sr tx pa')) ∧ ∀ j, j < 5226 → i7 (pa' j) 0 999)
            refine r_il rfl rfl ?_
            refine r_al rfl rfl ?_
            refine r_il rfl rfl ?_
            refine r_v2s rfl rfl (rg_56 hC) rfl (c_balanceOfR hC (by omega) hd) ?_
            have K : ∀ y : Int, (0 ≤ y ∧ y ≤ 2 ^ 0) → rn_X12_balance (500 + 10) (183, [(3, iv (((0 : Nat) : Int))), (6, iv (x6)), (5, iv (x5)), (7, iv (x7)), (4, iv (x4)), (2, iv (0)), (0, .ref 56), (1, iv (a))], [iv (y), iv (0)], (C ++ rL (ro_ (0 : Int) tr db sn dm sm ty nx tk pl va fa lr ri) s kp ik tn de sd dd sr tx pa)) (fun r : mm_R => ∃ (c : Int) (pa' : Nat → Int32), r = (some (iv c), (C ++ rL (ro_ (0 : Int) tr db sn dm sm ty nx tk pl va fa lr ri) s kp ik tn de sd dd sr tx pa')) ∧ ∀ j, j < 5226 → i7 (pa' j) 0 999) := by
              intro y hy
              refine r_add rfl ?_
              refine r_is (lv' := [(2, _), (3, _), (6, _), (5, _), (7, _), (4, _), (0, _), (1, _)]) rfl rfl rfl ?_
              refine r_inc (lv' := [(3, _), (2, _), (6, _), (5, _), (7, _), (4, _), (0, _), (1, _)]) rfl rfl rfl rfl ?_
              refine r_goto rfl rfl ?_
              refine rn_up (N := 100 + 40 * 7 + 40) (by omega) (bal_sum (N := 100) hC hRS hE hd (fun x2 hx => ?_) 7 1 _ rfl (by omega))
              have hv := hP.1 (Int.toNat x2) (by omega)
              refine r_il rfl rfl ?_
              refine r_s1s rfl rfl rfl c_onesR ?_
              refine r_al rfl rfl ?_
              refine r_gf rfl rfl (rg_56 hC) rfl ?_
              refine r_il rfl rfl ?_
              refine r_ia rfl (rg_66 hC) (by omega) (by omega) (by decide) ?_
              refine r_sub rfl ?_
              exact r_ret rfl rfl ⟨_, pa, rfl, hP.1⟩
            refine r_zeq rfl rfl (by have := fB_r (p := ((0 : Nat) : Int)) hRS hE db.toNat (by omega); omega) (fun g2 => ?_) (fun g2 => ?_)
            · refine r_ic rfl ?_
              exact rn_up (N := 500 + 10) (by omega) (K 0 ⟨by decide, h2p 0⟩)
            · refine r_ic rfl ?_
              refine r_il rfl rfl ?_
              refine r_shl rfl ?_
              refine r_goto rfl rfl ?_
              exact rn_up (N := 500 + 10) (by omega) (K _ (by rw [oShl_2 0 (by omega)]; exact ⟨h2p 0, Int.le_refl _⟩))
        · exact absurd rfl g6
    · omega
  · refine r_il rfl rfl ?_
    refine r_s1s rfl rfl rfl (c_isPersonR ha) ?_
    refine r_zne rfl rfl (bi_r _) (fun g2 => ?_) (fun g2 => ?_)
    · have g2 := i3_t (bi_1 g2)
      refine r_il rfl rfl ?_
      refine r_zlt rfl rfl (by omega) (fun g3 => ?_) (fun g3 => ?_)
      · omega
      · refine r_al rfl rfl ?_
        refine r_il rfl rfl ?_
        refine r_v2s rfl rfl (rg_56 hC) rfl (c_balanceOfR hC (by omega) hd) ?_
        exact r_ret rfl rfl ⟨_, pa, rfl, hPA⟩
    · refine r_ldc (v := iv (-1000000)) rfl rfl ?_
      exact r_ret rfl rfl ⟨_, pa, rfl, hPA⟩
end BL
