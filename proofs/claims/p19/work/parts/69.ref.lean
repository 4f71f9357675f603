/-! ===== the reference reads papers ===== -/
def rp_t0 (tx : Nat → Int32) (ty va : Int) (dd sr : Nat → Int32) : pT := (pt_adv tx ty (0, 0, 0, va, -1), 0, 0, dd, sr, 0)
def rp_end (tx : Nat → Int32) (ty va : Int) (dd sr : Nat → Int32) : pT := rp_lp tx ty 27 (rp_t0 tx ty va dd sr)
theorem rp_t0_ok {tx dd sr : Nat → Int32} {ty va : Int} (hty : 0 ≤ ty ∧ ty ≤ 400) (hB : ∀ k : Nat, (k : Int) < ty → 0 ≤ (tx k).toInt ∧ (tx k).toInt ≤ 255) (hva : -2147483648 ≤ va ∧ va ≤ 2147483647) : rp_ok ty (rp_t0 tx ty va dd sr) := by
  have z : pt_ok ty (0, 0, 0, va, -1) := by
    show (0 ≤ (0 : Int) ∧ (0 : Int) ≤ ty) ∧ (0 ≤ (0 : Int) ∧ (0 : Int) ≤ 6) ∧ (0 ≤ (0 : Int) ∧ (0 : Int) ≤ ty) ∧ (-2147483648 ≤ va ∧ va ≤ 2147483647 ∧ ((0 : Int) = 1 → 0 ≤ va ∧ va ≤ 5) ∧ ((0 : Int) = 2 → 0 ≤ va ∧ va ≤ 7) ∧ ((0 : Int) = 3 → 0 ≤ va ∧ va ≤ 999)) ∧ (-1 ≤ (-1 : Int) ∧ (-1 : Int) ≤ ty)
    omega
  refine ⟨pt_adv_ok hty hB z, ?_, ?_, ?_, fun _ i hi => ?_⟩
  · show 0 ≤ (0 : Int) ∧ (0 : Int) ≤ 10; decide
  · show 0 ≤ (0 : Int) ∧ (0 : Int) ≤ 16; decide
  · show 0 ≤ (0 : Int) ∧ (0 : Int) ≤ 1000; decide
  have hi : (i : Int) < 0 := hi
  omega
theorem rp_lp_ok {tx : Nat → Int32} {ty : Int} (hty : 0 ≤ ty ∧ ty ≤ 400) (hB : ∀ k : Nat, (k : Int) < ty → 0 ≤ (tx k).toInt ∧ (tx k).toInt ≤ 255) : ∀ (m : Nat) {t : pT}, rp_ok ty t → t.2.2.2.2.2 + m ≤ 1000 → rp_ok ty (rp_lp tx ty m t)
  | 0, t, h, _ => h
  | m + 1, t, h, hi => by
    show rp_ok ty (bif rp_go t then rp_lp tx ty m (rp_it tx ty t) else t)
    cases rp_go t with
    | false => exact h
    | true =>
      obtain ⟨σ, dm, sm, dd, sr, i⟩ := t
      have hi : i + ((m + 1 : Nat) : Int) ≤ 1000 := hi
      exact rp_lp_ok hty hB m (rp_ok_it hty hB h (by show i ≤ 999; omega)) (by rw [rp_items]; omega)
section R10
variable {C : List va_E} {tr : Int64} {th db sn dm sm ty nx tk pl va fa lr ri : Int} {s kp ik tn de sd dd sr tx pa : Nat → Int32}
theorem c_papersR (hC : C.length = 56) (hty : 0 ≤ ty ∧ ty ≤ 400) (hB : ∀ k : Nat, (k : Int) < ty → 0 ≤ (tx k).toInt ∧ (tx k).toInt ≤ 255) (hva : -2147483648 ≤ va ∧ va ≤ 2147483647) : sX12_papers [.ref 56] (C ++ rL (ro_ th tr db sn dm sm ty nx tk pl va fa lr ri) s kp ik tn de sd dd sr tx pa) = some (bif decide ((rp_end tx ty va dd sr).1.2.2.2.2 < 0) then (some (iv (rp_end tx ty va dd sr).2.2.2.2.2), (C ++ rL (ro_ (0 : Int) tr (rp_end tx ty va dd sr).2.1 (rp_end tx ty va dd sr).2.2.1 (rp_end tx ty va dd sr).2.1 (rp_end tx ty va dd sr).2.2.1 (0 : Int) ((rp_end tx ty va dd sr).1).1 ((rp_end tx ty va dd sr).1).2.1 ((rp_end tx ty va dd sr).1).2.2.1 ((rp_end tx ty va dd sr).1).2.2.2.1 ((rp_end tx ty va dd sr).1).2.2.2.2 lr ri) (lim (rp_end tx ty va dd sr).2.2.1.toNat (cpy 131 s (zrs s)) (cpy (5 * (rp_end tx ty va dd sr).2.2.1.toNat) sd (rp_end tx ty va dd sr).2.2.2.2.1)) kp (upd (upd ik 0 (vp_nar (mm_ty 2) (Int32.ofInt 0))) 1 (vp_nar (mm_ty 2) (Int32.ofInt 0))) tn (cpy (3 * (rp_end tx ty va dd sr).2.1.toNat) de (rp_end tx ty va dd sr).2.2.2.1) (cpy (5 * (rp_end tx ty va dd sr).2.2.1.toNat) sd (rp_end tx ty va dd sr).2.2.2.2.1) (rp_end tx ty va dd sr).2.2.2.1 (rp_end tx ty va dd sr).2.2.2.2.1 tx pa)) else (some (iv ((-10) - (rp_end tx ty va dd sr).1.2.2.2.2)), (C ++ rL (ro_ (0 : Int) tr db sn (rp_end tx ty va dd sr).2.1 (rp_end tx ty va dd sr).2.2.1 ty ((rp_end tx ty va dd sr).1).1 ((rp_end tx ty va dd sr).1).2.1 ((rp_end tx ty va dd sr).1).2.2.1 ((rp_end tx ty va dd sr).1).2.2.2.1 ((rp_end tx ty va dd sr).1).2.2.2.2 lr ri) s kp ik tn de sd (rp_end tx ty va dd sr).2.2.2.1 (rp_end tx ty va dd sr).2.2.2.2.1 tx pa))) := by
  have main : ∀ Q : mm_R → Prop, Q (bif decide ((rp_end tx ty va dd sr).1.2.2.2.2 < 0) then (some (iv (rp_end tx ty va dd sr).2.2.2.2.2), (C ++ rL (ro_ (0 : Int) tr (rp_end tx ty va dd sr).2.1 (rp_end tx ty va dd sr).2.2.1 (rp_end tx ty va dd sr).2.1 (rp_end tx ty va dd sr).2.2.1 (0 : Int) ((rp_end tx ty va dd sr).1).1 ((rp_end tx ty va dd sr).1).2.1 ((rp_end tx ty va dd sr).1).2.2.1 ((rp_end tx ty va dd sr).1).2.2.2.1 ((rp_end tx ty va dd sr).1).2.2.2.2 lr ri) (lim (rp_end tx ty va dd sr).2.2.1.toNat (cpy 131 s (zrs s)) (cpy (5 * (rp_end tx ty va dd sr).2.2.1.toNat) sd (rp_end tx ty va dd sr).2.2.2.2.1)) kp (upd (upd ik 0 (vp_nar (mm_ty 2) (Int32.ofInt 0))) 1 (vp_nar (mm_ty 2) (Int32.ofInt 0))) tn (cpy (3 * (rp_end tx ty va dd sr).2.1.toNat) de (rp_end tx ty va dd sr).2.2.2.1) (cpy (5 * (rp_end tx ty va dd sr).2.2.1.toNat) sd (rp_end tx ty va dd sr).2.2.2.2.1) (rp_end tx ty va dd sr).2.2.2.1 (rp_end tx ty va dd sr).2.2.2.2.1 tx pa)) else (some (iv ((-10) - (rp_end tx ty va dd sr).1.2.2.2.2)), (C ++ rL (ro_ (0 : Int) tr db sn (rp_end tx ty va dd sr).2.1 (rp_end tx ty va dd sr).2.2.1 ty ((rp_end tx ty va dd sr).1).1 ((rp_end tx ty va dd sr).1).2.1 ((rp_end tx ty va dd sr).1).2.2.1 ((rp_end tx ty va dd sr).1).2.2.2.1 ((rp_end tx ty va dd sr).1).2.2.2.2 lr ri) s kp ik tn de sd (rp_end tx ty va dd sr).2.2.2.1 (rp_end tx ty va dd sr).2.2.2.2.1 tx pa))) → rn_X12_papers (50000) (0, [(0, .ref 56)], [], (C ++ rL (ro_ th tr db sn dm sm ty nx tk pl va fa lr ri) s kp ik tn de sd dd sr tx pa)) Q := by
    intro Q hQ
    have h := rp_t0_ok (dd := dd) (sr := sr) hty hB hva
    have he : rp_ok ty (rp_end tx ty va dd sr) := rp_lp_ok hty hB 27 h (by show (0 : Int) + ((27 : Nat) : Int) ≤ 1000; decide)
    refine r_al rfl rfl ?_
    refine r_ic rfl ?_
    refine r_pf rfl rfl (rg_56 hC) rfl (rp_th hC) ?_
    refine r_al rfl rfl ?_
    refine r_ic rfl ?_
    refine r_pf rfl rfl (rg_56 hC) rfl (rp_fa hC) ?_
    refine r_al rfl rfl ?_
    refine r_ic rfl ?_
    refine r_pf rfl rfl (rg_56 hC) rfl (rp_nx hC) ?_
    refine r_al rfl rfl ?_
    refine r_ic rfl ?_
    refine r_pf rfl rfl (rg_56 hC) rfl (rp_dm hC) ?_
    refine r_al rfl rfl ?_
    refine r_ic rfl ?_
    refine r_pf rfl rfl (rg_56 hC) rfl (rp_sm hC) ?_
    refine r_ic rfl ?_
    refine r_is (lv' := [(1, _), (0, _)]) rfl rfl rfl ?_
    refine r_al rfl rfl ?_
    refine r_v1n rfl rfl (rg_56 hC) rfl (c_advances hC hty ⟨Int.le_refl _, hty.1⟩) ?_
    show rn_X12_papers _ (31, [(1, iv (0)), (0, .ref 56)], [], (C ++ rL (ro_ (0 : Int) tr db sn (rp_t0 tx ty va dd sr).2.1 (rp_t0 tx ty va dd sr).2.2.1 ty ((rp_t0 tx ty va dd sr).1).1 ((rp_t0 tx ty va dd sr).1).2.1 ((rp_t0 tx ty va dd sr).1).2.2.1 ((rp_t0 tx ty va dd sr).1).2.2.2.1 ((rp_t0 tx ty va dd sr).1).2.2.2.2 lr ri) s kp ik tn de sd (rp_t0 tx ty va dd sr).2.2.2.1 (rp_t0 tx ty va dd sr).2.2.2.2.1 tx pa)) Q
    refine r_al rfl rfl ?_
    refine r_v1s rfl rfl (rg_56 hC) rfl (c_isWell hC (ok_fa hty h.1)) ?_
    refine r_zeq rfl rfl (bi_r _) (fun g1 => ?_) (fun g1 => ?_)
    · have e : (rp_end tx ty va dd sr) = (rp_t0 tx ty va dd sr) := by show (bif rp_go (rp_t0 tx ty va dd sr) then _ else (rp_t0 tx ty va dd sr)) = _; rw [show rp_go (rp_t0 tx ty va dd sr) = false by unfold rp_go; rw [bi_0 g1]; rfl]; rfl
      rw [e] at hQ he
      exact rn_up (by decide) (pp_endA (σ := (rp_t0 tx ty va dd sr).1) (dm := (rp_t0 tx ty va dd sr).2.1) (sm := (rp_t0 tx ty va dd sr).2.2.1) (dd := (rp_t0 tx ty va dd sr).2.2.2.1) (sr := (rp_t0 tx ty va dd sr).2.2.2.2.1) (i := 0) hC he.2.1 he.2.2.1 (by have := he.1.2.2.2.2; omega) hQ)
    · refine r_al rfl rfl ?_
      refine r_gf rfl rfl (rg_56 hC) rfl ?_
      refine r_zeq rfl rfl (ok_tk h.1) (fun g2 => ?_) (fun g2 => ?_)
      · have e : (rp_end tx ty va dd sr) = (rp_t0 tx ty va dd sr) := by show (bif rp_go (rp_t0 tx ty va dd sr) then _ else (rp_t0 tx ty va dd sr)) = _; rw [show rp_go (rp_t0 tx ty va dd sr) = false by unfold rp_go; rw [decide_eq_true g2, Bool.not_true, Bool.and_false]]; rfl
        rw [e] at hQ he
        exact rn_up (by decide) (pp_endA (σ := (rp_t0 tx ty va dd sr).1) (dm := (rp_t0 tx ty va dd sr).2.1) (sm := (rp_t0 tx ty va dd sr).2.2.1) (dd := (rp_t0 tx ty va dd sr).2.2.2.1) (sr := (rp_t0 tx ty va dd sr).2.2.2.2.1) (i := 0) hC he.2.1 he.2.2.1 (by have := he.1.2.2.2.2; omega) hQ)
      · have hg : rp_go (rp_t0 tx ty va dd sr) = true := by unfold rp_go; rw [bi_1 g1, decide_eq_false g2]; rfl
        have e : (rp_end tx ty va dd sr) = rp_lp tx ty 26 (rp_it tx ty (rp_t0 tx ty va dd sr)) := by show (bif rp_go (rp_t0 tx ty va dd sr) then _ else (rp_t0 tx ty va dd sr)) = _; rw [hg]; rfl
        rw [e] at hQ he
        refine rn_up (N := (9000 + 500 * 26 + 20) + 400) (by decide) (pp_itA (σ := (rp_t0 tx ty va dd sr).1) (dm := (rp_t0 tx ty va dd sr).2.1) (sm := (rp_t0 tx ty va dd sr).2.2.1) (dd := (rp_t0 tx ty va dd sr).2.2.2.1) (sr := (rp_t0 tx ty va dd sr).2.2.2.2.1) (i := 0) hC hty hB h ?_)
        have hx : rp_ok ty (rp_it tx ty (rp_t0 tx ty va dd sr)) := rp_ok_it hty hB h (by show (0 : Int) ≤ 999; decide)
        have hy : (rp_it tx ty (rp_t0 tx ty va dd sr)).2.2.2.2.2 = 0 + 1 := rp_items
        have := pp_loop (C := C) (tr := tr) (th := 0) (db := db) (sn := sn) (lr := lr) (ri := ri) (s := s) (kp := kp) (ik := ik) (tn := tn) (de := de) (sd := sd) (pa := pa) (N := 9000) (Q := Q) hC hty hB 26 (rp_it tx ty (rp_t0 tx ty va dd sr)) (bi (rp_may 0 0 (rp_t0 tx ty va dd sr).1.2.2.2.1)) (pt_tv (rp_b (rp_t0 tx ty va dd sr)) (rp_t0 tx ty va dd sr).1) hx (fun hg2 => by
          have z1 := rp_adds hty hB h hg2
          have z1 : (rp_it tx ty (rp_t0 tx ty va dd sr)).2.1 + (rp_it tx ty (rp_t0 tx ty va dd sr)).2.2.1 = 0 + 0 + 1 := z1
          omega) (by rw [hy]; decide) (fun a w => by
            have e5 := he.1.2.2.2.2
            exact pp_endB (σ := (rp_lp tx ty 26 (rp_it tx ty (rp_t0 tx ty va dd sr))).1) (dm := (rp_lp tx ty 26 (rp_it tx ty (rp_t0 tx ty va dd sr))).2.1) (sm := (rp_lp tx ty 26 (rp_it tx ty (rp_t0 tx ty va dd sr))).2.2.1) (dd := (rp_lp tx ty 26 (rp_it tx ty (rp_t0 tx ty va dd sr))).2.2.2.1) (sr := (rp_lp tx ty 26 (rp_it tx ty (rp_t0 tx ty va dd sr))).2.2.2.2.1) hC he.2.1 he.2.2.1 (by omega) hQ)
        rw [hy] at this
        exact this
  obtain ⟨r, h1, h2⟩ := rn_S (vs := [.ref 56]) (Q := fun r => r = (bif decide ((rp_end tx ty va dd sr).1.2.2.2.2 < 0) then (some (iv (rp_end tx ty va dd sr).2.2.2.2.2), (C ++ rL (ro_ (0 : Int) tr (rp_end tx ty va dd sr).2.1 (rp_end tx ty va dd sr).2.2.1 (rp_end tx ty va dd sr).2.1 (rp_end tx ty va dd sr).2.2.1 (0 : Int) ((rp_end tx ty va dd sr).1).1 ((rp_end tx ty va dd sr).1).2.1 ((rp_end tx ty va dd sr).1).2.2.1 ((rp_end tx ty va dd sr).1).2.2.2.1 ((rp_end tx ty va dd sr).1).2.2.2.2 lr ri) (lim (rp_end tx ty va dd sr).2.2.1.toNat (cpy 131 s (zrs s)) (cpy (5 * (rp_end tx ty va dd sr).2.2.1.toNat) sd (rp_end tx ty va dd sr).2.2.2.2.1)) kp (upd (upd ik 0 (vp_nar (mm_ty 2) (Int32.ofInt 0))) 1 (vp_nar (mm_ty 2) (Int32.ofInt 0))) tn (cpy (3 * (rp_end tx ty va dd sr).2.1.toNat) de (rp_end tx ty va dd sr).2.2.2.1) (cpy (5 * (rp_end tx ty va dd sr).2.2.1.toNat) sd (rp_end tx ty va dd sr).2.2.2.2.1) (rp_end tx ty va dd sr).2.2.2.1 (rp_end tx ty va dd sr).2.2.2.2.1 tx pa)) else (some (iv ((-10) - (rp_end tx ty va dd sr).1.2.2.2.2)), (C ++ rL (ro_ (0 : Int) tr db sn (rp_end tx ty va dd sr).2.1 (rp_end tx ty va dd sr).2.2.1 ty ((rp_end tx ty va dd sr).1).1 ((rp_end tx ty va dd sr).1).2.1 ((rp_end tx ty va dd sr).1).2.2.1 ((rp_end tx ty va dd sr).1).2.2.2.1 ((rp_end tx ty va dd sr).1).2.2.2.2 lr ri) s kp ik tn de sd (rp_end tx ty va dd sr).2.2.2.1 (rp_end tx ty va dd sr).2.2.2.2.1 tx pa)))) rfl (rn_up (N := 50000) (M := mm_fuel) (by decide) (main (fun r => r = (bif decide ((rp_end tx ty va dd sr).1.2.2.2.2 < 0) then (some (iv (rp_end tx ty va dd sr).2.2.2.2.2), (C ++ rL (ro_ (0 : Int) tr (rp_end tx ty va dd sr).2.1 (rp_end tx ty va dd sr).2.2.1 (rp_end tx ty va dd sr).2.1 (rp_end tx ty va dd sr).2.2.1 (0 : Int) ((rp_end tx ty va dd sr).1).1 ((rp_end tx ty va dd sr).1).2.1 ((rp_end tx ty va dd sr).1).2.2.1 ((rp_end tx ty va dd sr).1).2.2.2.1 ((rp_end tx ty va dd sr).1).2.2.2.2 lr ri) (lim (rp_end tx ty va dd sr).2.2.1.toNat (cpy 131 s (zrs s)) (cpy (5 * (rp_end tx ty va dd sr).2.2.1.toNat) sd (rp_end tx ty va dd sr).2.2.2.2.1)) kp (upd (upd ik 0 (vp_nar (mm_ty 2) (Int32.ofInt 0))) 1 (vp_nar (mm_ty 2) (Int32.ofInt 0))) tn (cpy (3 * (rp_end tx ty va dd sr).2.1.toNat) de (rp_end tx ty va dd sr).2.2.2.1) (cpy (5 * (rp_end tx ty va dd sr).2.2.1.toNat) sd (rp_end tx ty va dd sr).2.2.2.2.1) (rp_end tx ty va dd sr).2.2.2.1 (rp_end tx ty va dd sr).2.2.2.2.1 tx pa)) else (some (iv ((-10) - (rp_end tx ty va dd sr).1.2.2.2.2)), (C ++ rL (ro_ (0 : Int) tr db sn (rp_end tx ty va dd sr).2.1 (rp_end tx ty va dd sr).2.2.1 ty ((rp_end tx ty va dd sr).1).1 ((rp_end tx ty va dd sr).1).2.1 ((rp_end tx ty va dd sr).1).2.2.1 ((rp_end tx ty va dd sr).1).2.2.2.1 ((rp_end tx ty va dd sr).1).2.2.2.2 lr ri) s kp ik tn de sd (rp_end tx ty va dd sr).2.2.2.1 (rp_end tx ty va dd sr).2.2.2.2.1 tx pa)))) rfl))
  have h1 : sX12_papers [.ref 56] (C ++ rL (ro_ th tr db sn dm sm ty nx tk pl va fa lr ri) s kp ik tn de sd dd sr tx pa) = some r := h1
  rw [h1, h2]
end R10
