/-! ===== the reference reads papers: the loop ===== -/
section R8
variable {C : List va_E} {tr : Int64} {th db sn dm sm ty lr ri : Int} {σ : pS} {s kp ik tn de sd dd sr tx pa : Nat → Int32} {a w i v : Int} {Q : mm_R → Prop} {N : Nat}
theorem pp_stop (hC : C.length = 56) (hty : 0 ≤ ty ∧ ty ≤ 400) (hB : ∀ k : Nat, (k : Int) < ty → 0 ≤ (tx k).toInt ∧ (tx k).toInt ≤ 255) (hσ : pt_ok ty σ) (k : rn_X12_papers N (31, [(1, iv (i + 1)), (3, iv (w)), (2, iv (a)), (0, .ref 56)], [], (C ++ rL (ro_ th tr db sn dm sm ty ((pt_tk tx ty (bSto σ) σ)).1 ((pt_tk tx ty (bSto σ) σ)).2.1 ((pt_tk tx ty (bSto σ) σ)).2.2.1 ((pt_tk tx ty (bSto σ) σ)).2.2.2.1 ((pt_tk tx ty (bSto σ) σ)).2.2.2.2 lr ri) s kp ik tn de sd dd sr tx pa)) Q) : rn_X12_papers (N + 60) (162, [(3, iv (w)), (2, iv (a)), (1, iv (i)), (0, .ref 56)], [], (C ++ rL (ro_ th tr db sn dm sm ty (σ).1 (σ).2.1 (σ).2.2.1 (σ).2.2.2.1 (σ).2.2.2.2 lr ri) s kp ik tn de sd dd sr tx pa)) Q := by
  have K : rn_X12_papers (N + 20) (176, [(3, iv (w)), (2, iv (a)), (1, iv (i)), (0, .ref 56)], [iv (bi (bSto σ)), .ref 56], (C ++ rL (ro_ th tr db sn dm sm ty (σ).1 (σ).2.1 (σ).2.2.1 (σ).2.2.2.1 (σ).2.2.2.2 lr ri) s kp ik tn de sd dd sr tx pa)) Q := by
    refine r_v2s rfl rfl (rg_56 hC) rfl (c_takes (b := bSto σ) hC hty hσ) ?_
    refine r_pop rfl rfl ?_
    refine r_inc (lv' := [(1, _), (3, _), (2, _), (0, _)]) rfl rfl rfl rfl ?_
    refine r_goto rfl rfl ?_
    exact rn_up (by omega) k
  refine r_al rfl rfl ?_
  refine r_al rfl rfl ?_
  refine r_gf rfl rfl (rg_56 hC) rfl ?_
  refine r_ic rfl ?_
  refine r_cne rfl rfl (ok_tk hσ) (by decide) (fun g1 => ?_) (fun g1 => ?_)
  · refine r_ic rfl ?_
    rw [show bSto σ = false from decide_eq_false g1] at K
    exact rn_up (by omega) K
  · refine r_ic rfl ?_
    refine r_goto rfl rfl ?_
    rw [show bSto σ = true from decide_eq_true g1] at K
    exact rn_up (by omega) K
theorem pp_itA (hC : C.length = 56) (hty : 0 ≤ ty ∧ ty ≤ 400) (hB : ∀ k : Nat, (k : Int) < ty → 0 ≤ (tx k).toInt ∧ (tx k).toInt ≤ 255) (h : rp_ok ty (σ, dm, sm, dd, sr, i)) (k : rn_X12_papers N (31, [(1, iv (i + 1)), (3, iv (pt_tv (rp_b (σ, dm, sm, dd, sr, i)) σ)), (2, iv (bi (rp_may dm sm σ.2.2.2.1))), (0, .ref 56)], [], (C ++ rL (ro_ th tr db sn (rp_it tx ty (σ, dm, sm, dd, sr, i)).2.1 (rp_it tx ty (σ, dm, sm, dd, sr, i)).2.2.1 ty ((rp_it tx ty (σ, dm, sm, dd, sr, i)).1).1 ((rp_it tx ty (σ, dm, sm, dd, sr, i)).1).2.1 ((rp_it tx ty (σ, dm, sm, dd, sr, i)).1).2.2.1 ((rp_it tx ty (σ, dm, sm, dd, sr, i)).1).2.2.2.1 ((rp_it tx ty (σ, dm, sm, dd, sr, i)).1).2.2.2.2 lr ri) s kp ik tn de sd (rp_it tx ty (σ, dm, sm, dd, sr, i)).2.2.2.1 (rp_it tx ty (σ, dm, sm, dd, sr, i)).2.2.2.2.1 tx pa)) Q) : rn_X12_papers (N + 400) (45, [(1, iv (i)), (0, .ref 56)], [], (C ++ rL (ro_ th tr db sn dm sm ty (σ).1 (σ).2.1 (σ).2.2.1 (σ).2.2.2.1 (σ).2.2.2.2 lr ri) s kp ik tn de sd dd sr tx pa)) Q := by
  obtain ⟨hσ, hdm, hsm, hi, hdd⟩ := id h
  have hσ : pt_ok ty σ := hσ
  have hdm : 0 ≤ dm ∧ dm ≤ 10 := hdm
  have hsm : 0 ≤ sm ∧ sm ≤ 16 := hsm
  have hi : 0 ≤ i ∧ i ≤ 1000 := hi
  have hva := ok_va hσ
  have h1 := pt_tk_ok (b := rp_b (σ, dm, sm, dd, sr, i)) hty hB hσ
  have K : rn_X12_papers (N + 350) (91, [(1, iv (i)), (0, .ref 56)], [iv (bi (rp_may dm sm (σ).2.2.2.1))], (C ++ rL (ro_ th tr db sn dm sm ty (σ).1 (σ).2.1 (σ).2.2.1 (σ).2.2.2.1 (σ).2.2.2.2 lr ri) s kp ik tn de sd dd sr tx pa)) Q := by
    refine r_is (lv' := [(2, _), (1, _), (0, _)]) rfl rfl rfl ?_
    have K : rn_X12_papers (N + 300) (110, [(2, iv (bi (rp_may dm sm (σ).2.2.2.1))), (1, iv (i)), (0, .ref 56)], [iv (bi (rp_b (σ, dm, sm, dd, sr, i))), .ref 56], (C ++ rL (ro_ th tr db sn dm sm ty (σ).1 (σ).2.1 (σ).2.2.1 (σ).2.2.2.1 (σ).2.2.2.2 lr ri) s kp ik tn de sd dd sr tx pa)) Q := by
      refine r_v2s rfl rfl (rg_56 hC) rfl (c_takes (b := rp_b (σ, dm, sm, dd, sr, i)) hC hty hσ) ?_
      refine r_is (lv' := [(3, _), (2, _), (1, _), (0, _)]) rfl rfl rfl ?_
      refine r_al rfl rfl ?_
      refine r_v1s rfl rfl (rg_56 hC) rfl (c_isWell hC (ok_fa hty h1)) ?_
      refine r_zeq rfl rfl (bi_r _) (fun g1 => ?_) (fun g1 => ?_)
      · have g1 := bi_0 g1
        refine r_al rfl rfl ?_
        refine r_v1s rfl rfl (rg_56 hC) rfl (c_isWell hC (ok_fa hty h1)) ?_
        refine r_zeq rfl rfl (bi_r _) (fun g2 => ?_) (fun g2 => ?_)
        · refine r_al rfl rfl ?_
          refine r_v1s rfl rfl (rg_56 hC) rfl (c_isWell hC (ok_fa hty h1)) ?_
          refine r_zeq rfl rfl (bi_r _) (fun g3 => ?_) (fun g3 => ?_)
          · have e : rp_rd tx ty (pt_tv (rp_b (σ, dm, sm, dd, sr, i)) σ) (rp_w tx ty (σ, dm, sm, dd, sr, i)) = ((pt_tk tx ty (rp_b (σ, dm, sm, dd, sr, i)) σ), dm, sm, dd, sr, i) := by unfold rp_rd rp_w; simp only; rw [g1]; rfl
            have e2 : (rp_it tx ty (σ, dm, sm, dd, sr, i)) = rp_e tx ty ((pt_tk tx ty (rp_b (σ, dm, sm, dd, sr, i)) σ), dm, sm, dd, sr, i) := by unfold rp_it; rw [e]
            rw [e2] at k
            exact rn_up (by omega) (pp_stop hC hty hB h1 k)
          · rw [g1] at g3
            exact absurd rfl g3
        · rw [g1] at g2
          exact absurd rfl g2
      · have g1 := bi_1 g1
        have gw := of_decide_eq_true g1
        obtain ⟨w1, w2, w3, w4⟩ := tk_well hσ gw
        have w5 : rp_may dm sm σ.2.2.2.1 = true := (Bool.and_eq_true_iff.mp w2).2
        have w6 : σ.2.1 = 1 := of_decide_eq_true (Bool.and_eq_true_iff.mp w2).1
        have hd2 : ∀ i : Nat, (i : Int) < dm → 0 ≤ (dd (3 * i + 2)).toInt ∧ (dd (3 * i + 2)).toInt ≤ 999 := hdd w1
        refine r_il rfl rfl ?_
        refine r_zne rfl rfl (tv_r hσ) (fun g2 => ?_) (fun g2 => ?_)
        · have v1 : sm < 16 := by
            rw [w4] at g2
            unfold rp_may at w5
            rw [decide_eq_false g2] at w5
            exact of_decide_eq_true (Bool.and_eq_true_iff.mp w5).2
          refine r_al rfl rfl ?_
          refine r_v1s rfl rfl (rg_56 hC) rfl (c_isWell hC (ok_fa hty h1)) ?_
          refine r_zeq rfl rfl (bi_r _) (fun g3 => ?_) (fun g3 => ?_)
          · rw [g1] at g3
            exact absurd g3 (by decide)
          · refine r_il rfl rfl ?_
            refine r_ic rfl ?_
            refine r_cne rfl rfl (tv_r hσ) (by decide) (fun g4 => ?_) (fun g4 => ?_)
            · refine r_al rfl rfl ?_
              refine r_v1s rfl rfl (rg_56 hC) rfl (c_isWell hC (ok_fa hty h1)) ?_
              refine r_zeq rfl rfl (bi_r _) (fun g5 => ?_) (fun g5 => ?_)
              · rw [g1] at g5
                exact absurd g5 (by decide)
              · refine r_al rfl rfl ?_
                refine r_v1n rfl rfl (rg_56 hC) rfl (c_readsOver hC hty h1 hB (by omega)) ?_
                have e : rp_rd tx ty (pt_tv (rp_b (σ, dm, sm, dd, sr, i)) σ) (rp_w tx ty (σ, dm, sm, dd, sr, i)) = (rv_σ tx ty sm sr (pt_tk tx ty (rp_b (σ, dm, sm, dd, sr, i)) σ), dm, sm + 1, dd, rv_s tx ty sm sr (pt_tk tx ty (rp_b (σ, dm, sm, dd, sr, i)) σ), i) := by unfold rp_rd rp_w; simp only; rw [g1, decide_eq_false g2, decide_eq_false g4]; rfl
                have e2 : (rp_it tx ty (σ, dm, sm, dd, sr, i)) = rp_e tx ty (rv_σ tx ty sm sr (pt_tk tx ty (rp_b (σ, dm, sm, dd, sr, i)) σ), dm, sm + 1, dd, rv_s tx ty sm sr (pt_tk tx ty (rp_b (σ, dm, sm, dd, sr, i)) σ), i) := by unfold rp_it; rw [e]
                rw [e2] at k
                exact rn_up (by omega) (pp_stop hC hty hB (rv_ok hty hB h1) k)
            · refine r_al rfl rfl ?_
              refine r_v1n rfl rfl (rg_56 hC) rfl (c_readsStand hC hty h1 hB hdm (by omega) hd2) ?_
              refine r_goto rfl rfl ?_
              have e : rp_rd tx ty (pt_tv (rp_b (σ, dm, sm, dd, sr, i)) σ) (rp_w tx ty (σ, dm, sm, dd, sr, i)) = (rs_σ tx ty dm dd (pt_tk tx ty (rp_b (σ, dm, sm, dd, sr, i)) σ), dm, sm + 1, dd, rs_s tx ty dm sm dd sr (pt_tk tx ty (rp_b (σ, dm, sm, dd, sr, i)) σ), i) := by unfold rp_rd rp_w; simp only; rw [g1, decide_eq_false g2, decide_eq_true g4]; rfl
              have e2 : (rp_it tx ty (σ, dm, sm, dd, sr, i)) = rp_e tx ty (rs_σ tx ty dm dd (pt_tk tx ty (rp_b (σ, dm, sm, dd, sr, i)) σ), dm, sm + 1, dd, rs_s tx ty dm sm dd sr (pt_tk tx ty (rp_b (σ, dm, sm, dd, sr, i)) σ), i) := by unfold rp_it; rw [e]
              rw [e2] at k
              exact rn_up (by omega) (pp_stop hC hty hB (rs_ok hty hB h1) k)
        · have v1 : dm < 10 := by
            rw [w4] at g2
            unfold rp_may at w5
            rw [decide_eq_true g2] at w5
            exact of_decide_eq_true w5
          refine r_al rfl rfl ?_
          refine r_v1n rfl rfl (rg_56 hC) rfl (c_readsDebt hC hty h1 hB (by omega)) ?_
          refine r_goto rfl rfl ?_
          have e : rp_rd tx ty (pt_tv (rp_b (σ, dm, sm, dd, sr, i)) σ) (rp_w tx ty (σ, dm, sm, dd, sr, i)) = (rd_σ tx ty (pt_tk tx ty (rp_b (σ, dm, sm, dd, sr, i)) σ), dm + 1, sm, rd_d tx ty dm dd (pt_tk tx ty (rp_b (σ, dm, sm, dd, sr, i)) σ), sr, i) := by unfold rp_rd rp_w; simp only; rw [g1, decide_eq_true g2]; rfl
          have e2 : (rp_it tx ty (σ, dm, sm, dd, sr, i)) = rp_e tx ty (rd_σ tx ty (pt_tk tx ty (rp_b (σ, dm, sm, dd, sr, i)) σ), dm + 1, sm, rd_d tx ty dm dd (pt_tk tx ty (rp_b (σ, dm, sm, dd, sr, i)) σ), sr, i) := by unfold rp_it; rw [e]
          rw [e2] at k
          exact rn_up (by omega) (pp_stop hC hty hB (rd_ok hty hB h1) k)
    refine r_al rfl rfl ?_
    refine r_al rfl rfl ?_
    refine r_gf rfl rfl (rg_56 hC) rfl ?_
    refine r_ic rfl ?_
    refine r_cne rfl rfl (ok_tk hσ) (by decide) (fun g1 => ?_) (fun g1 => ?_)
    · refine r_ic rfl ?_
      have e : rp_b (σ, dm, sm, dd, sr, i) = false := by unfold rp_b; rw [decide_eq_false g1]; rfl
      rw [e] at K
      exact rn_up (by omega) K
    · refine r_il rfl rfl ?_
      refine r_zeq rfl rfl (bi_r _) (fun g2 => ?_) (fun g2 => ?_)
      · refine r_ic rfl ?_
        have e : rp_b (σ, dm, sm, dd, sr, i) = false := by unfold rp_b; rw [bi_0 g2, Bool.and_false]
        rw [e] at K
        exact rn_up (by omega) K
      · refine r_ic rfl ?_
        refine r_goto rfl rfl ?_
        have e : rp_b (σ, dm, sm, dd, sr, i) = true := by unfold rp_b; rw [decide_eq_true g1, bi_1 g2]; rfl
        rw [e] at K
        exact rn_up (by omega) K
  refine r_al rfl rfl ?_
  refine r_gf rfl rfl (rg_56 hC) rfl ?_
  refine r_zne rfl rfl (by omega) (fun g1 => ?_) (fun g1 => ?_)
  · refine r_al rfl rfl ?_
    refine r_gf rfl rfl (rg_56 hC) rfl ?_
    refine r_ic rfl ?_
    refine r_cge rfl rfl (by omega) (by omega) (fun g2 => ?_) (fun g2 => ?_)
    · refine r_ic rfl ?_
      have e : rp_may dm sm σ.2.2.2.1 = false := by unfold rp_may; rw [decide_eq_false g1, decide_eq_false (Int.not_lt.mpr g2)]; rfl
      rw [e] at K
      exact rn_up (by omega) K
    · refine r_al rfl rfl ?_
      refine r_gf rfl rfl (rg_56 hC) rfl ?_
      refine r_bi rfl (by decide) ?_
      refine r_cge rfl rfl (by omega) (by omega) (fun g3 => ?_) (fun g3 => ?_)
      · refine r_ic rfl ?_
        have e : rp_may dm sm σ.2.2.2.1 = false := by unfold rp_may; rw [decide_eq_false g1, decide_eq_true g2, decide_eq_false (Int.not_lt.mpr g3)]; rfl
        rw [e] at K
        exact rn_up (by omega) K
      · refine r_ic rfl ?_
        refine r_goto rfl rfl ?_
        have e : rp_may dm sm σ.2.2.2.1 = true := by unfold rp_may; rw [decide_eq_false g1, decide_eq_true g2, decide_eq_true g3]; rfl
        rw [e] at K
        exact rn_up (by omega) K
  · refine r_al rfl rfl ?_
    refine r_gf rfl rfl (rg_56 hC) rfl ?_
    refine r_bi rfl (by decide) ?_
    refine r_cge rfl rfl (by omega) (by omega) (fun g2 => ?_) (fun g2 => ?_)
    · refine r_ic rfl ?_
      refine r_goto rfl rfl ?_
      have e : rp_may dm sm σ.2.2.2.1 = false := by unfold rp_may; rw [decide_eq_true g1, decide_eq_false (Int.not_lt.mpr g2)]; rfl
      rw [e] at K
      exact rn_up (by omega) K
    · refine r_ic rfl ?_
      refine r_goto rfl rfl ?_
      have e : rp_may dm sm σ.2.2.2.1 = true := by unfold rp_may; rw [decide_eq_true g1, decide_eq_true g2]; rfl
      rw [e] at K
      exact rn_up (by omega) K
theorem pp_itB (hC : C.length = 56) (hty : 0 ≤ ty ∧ ty ≤ 400) (hB : ∀ k : Nat, (k : Int) < ty → 0 ≤ (tx k).toInt ∧ (tx k).toInt ≤ 255) (h : rp_ok ty (σ, dm, sm, dd, sr, i)) (k : rn_X12_papers N (31, [(1, iv (i + 1)), (3, iv (pt_tv (rp_b (σ, dm, sm, dd, sr, i)) σ)), (2, iv (bi (rp_may dm sm σ.2.2.2.1))), (0, .ref 56)], [], (C ++ rL (ro_ th tr db sn (rp_it tx ty (σ, dm, sm, dd, sr, i)).2.1 (rp_it tx ty (σ, dm, sm, dd, sr, i)).2.2.1 ty ((rp_it tx ty (σ, dm, sm, dd, sr, i)).1).1 ((rp_it tx ty (σ, dm, sm, dd, sr, i)).1).2.1 ((rp_it tx ty (σ, dm, sm, dd, sr, i)).1).2.2.1 ((rp_it tx ty (σ, dm, sm, dd, sr, i)).1).2.2.2.1 ((rp_it tx ty (σ, dm, sm, dd, sr, i)).1).2.2.2.2 lr ri) s kp ik tn de sd (rp_it tx ty (σ, dm, sm, dd, sr, i)).2.2.2.1 (rp_it tx ty (σ, dm, sm, dd, sr, i)).2.2.2.2.1 tx pa)) Q) : rn_X12_papers (N + 400) (45, [(1, iv (i)), (3, iv (w)), (2, iv (a)), (0, .ref 56)], [], (C ++ rL (ro_ th tr db sn dm sm ty (σ).1 (σ).2.1 (σ).2.2.1 (σ).2.2.2.1 (σ).2.2.2.2 lr ri) s kp ik tn de sd dd sr tx pa)) Q := by
  obtain ⟨hσ, hdm, hsm, hi, hdd⟩ := id h
  have hσ : pt_ok ty σ := hσ
  have hdm : 0 ≤ dm ∧ dm ≤ 10 := hdm
  have hsm : 0 ≤ sm ∧ sm ≤ 16 := hsm
  have hi : 0 ≤ i ∧ i ≤ 1000 := hi
  have hva := ok_va hσ
  have h1 := pt_tk_ok (b := rp_b (σ, dm, sm, dd, sr, i)) hty hB hσ
  have K : rn_X12_papers (N + 350) (91, [(1, iv (i)), (3, iv (w)), (2, iv (a)), (0, .ref 56)], [iv (bi (rp_may dm sm (σ).2.2.2.1))], (C ++ rL (ro_ th tr db sn dm sm ty (σ).1 (σ).2.1 (σ).2.2.1 (σ).2.2.2.1 (σ).2.2.2.2 lr ri) s kp ik tn de sd dd sr tx pa)) Q := by
    refine r_is (lv' := [(2, _), (1, _), (3, _), (0, _)]) rfl rfl rfl ?_
    have K : rn_X12_papers (N + 300) (110, [(2, iv (bi (rp_may dm sm (σ).2.2.2.1))), (1, iv (i)), (3, iv (w)), (0, .ref 56)], [iv (bi (rp_b (σ, dm, sm, dd, sr, i))), .ref 56], (C ++ rL (ro_ th tr db sn dm sm ty (σ).1 (σ).2.1 (σ).2.2.1 (σ).2.2.2.1 (σ).2.2.2.2 lr ri) s kp ik tn de sd dd sr tx pa)) Q := by
      refine r_v2s rfl rfl (rg_56 hC) rfl (c_takes (b := rp_b (σ, dm, sm, dd, sr, i)) hC hty hσ) ?_
      refine r_is (lv' := [(3, _), (2, _), (1, _), (0, _)]) rfl rfl rfl ?_
      refine r_al rfl rfl ?_
      refine r_v1s rfl rfl (rg_56 hC) rfl (c_isWell hC (ok_fa hty h1)) ?_
      refine r_zeq rfl rfl (bi_r _) (fun g1 => ?_) (fun g1 => ?_)
      · have g1 := bi_0 g1
        refine r_al rfl rfl ?_
        refine r_v1s rfl rfl (rg_56 hC) rfl (c_isWell hC (ok_fa hty h1)) ?_
        refine r_zeq rfl rfl (bi_r _) (fun g2 => ?_) (fun g2 => ?_)
        · refine r_al rfl rfl ?_
          refine r_v1s rfl rfl (rg_56 hC) rfl (c_isWell hC (ok_fa hty h1)) ?_
          refine r_zeq rfl rfl (bi_r _) (fun g3 => ?_) (fun g3 => ?_)
          · have e : rp_rd tx ty (pt_tv (rp_b (σ, dm, sm, dd, sr, i)) σ) (rp_w tx ty (σ, dm, sm, dd, sr, i)) = ((pt_tk tx ty (rp_b (σ, dm, sm, dd, sr, i)) σ), dm, sm, dd, sr, i) := by unfold rp_rd rp_w; simp only; rw [g1]; rfl
            have e2 : (rp_it tx ty (σ, dm, sm, dd, sr, i)) = rp_e tx ty ((pt_tk tx ty (rp_b (σ, dm, sm, dd, sr, i)) σ), dm, sm, dd, sr, i) := by unfold rp_it; rw [e]
            rw [e2] at k
            exact rn_up (by omega) (pp_stop hC hty hB h1 k)
          · rw [g1] at g3
            exact absurd rfl g3
        · rw [g1] at g2
          exact absurd rfl g2
      · have g1 := bi_1 g1
        have gw := of_decide_eq_true g1
        obtain ⟨w1, w2, w3, w4⟩ := tk_well hσ gw
        have w5 : rp_may dm sm σ.2.2.2.1 = true := (Bool.and_eq_true_iff.mp w2).2
        have w6 : σ.2.1 = 1 := of_decide_eq_true (Bool.and_eq_true_iff.mp w2).1
        have hd2 : ∀ i : Nat, (i : Int) < dm → 0 ≤ (dd (3 * i + 2)).toInt ∧ (dd (3 * i + 2)).toInt ≤ 999 := hdd w1
        refine r_il rfl rfl ?_
        refine r_zne rfl rfl (tv_r hσ) (fun g2 => ?_) (fun g2 => ?_)
        · have v1 : sm < 16 := by
            rw [w4] at g2
            unfold rp_may at w5
            rw [decide_eq_false g2] at w5
            exact of_decide_eq_true (Bool.and_eq_true_iff.mp w5).2
          refine r_al rfl rfl ?_
          refine r_v1s rfl rfl (rg_56 hC) rfl (c_isWell hC (ok_fa hty h1)) ?_
          refine r_zeq rfl rfl (bi_r _) (fun g3 => ?_) (fun g3 => ?_)
          · rw [g1] at g3
            exact absurd g3 (by decide)
          · refine r_il rfl rfl ?_
            refine r_ic rfl ?_
            refine r_cne rfl rfl (tv_r hσ) (by decide) (fun g4 => ?_) (fun g4 => ?_)
            · refine r_al rfl rfl ?_
              refine r_v1s rfl rfl (rg_56 hC) rfl (c_isWell hC (ok_fa hty h1)) ?_
              refine r_zeq rfl rfl (bi_r _) (fun g5 => ?_) (fun g5 => ?_)
              · rw [g1] at g5
                exact absurd g5 (by decide)
              · refine r_al rfl rfl ?_
                refine r_v1n rfl rfl (rg_56 hC) rfl (c_readsOver hC hty h1 hB (by omega)) ?_
                have e : rp_rd tx ty (pt_tv (rp_b (σ, dm, sm, dd, sr, i)) σ) (rp_w tx ty (σ, dm, sm, dd, sr, i)) = (rv_σ tx ty sm sr (pt_tk tx ty (rp_b (σ, dm, sm, dd, sr, i)) σ), dm, sm + 1, dd, rv_s tx ty sm sr (pt_tk tx ty (rp_b (σ, dm, sm, dd, sr, i)) σ), i) := by unfold rp_rd rp_w; simp only; rw [g1, decide_eq_false g2, decide_eq_false g4]; rfl
                have e2 : (rp_it tx ty (σ, dm, sm, dd, sr, i)) = rp_e tx ty (rv_σ tx ty sm sr (pt_tk tx ty (rp_b (σ, dm, sm, dd, sr, i)) σ), dm, sm + 1, dd, rv_s tx ty sm sr (pt_tk tx ty (rp_b (σ, dm, sm, dd, sr, i)) σ), i) := by unfold rp_it; rw [e]
                rw [e2] at k
                exact rn_up (by omega) (pp_stop hC hty hB (rv_ok hty hB h1) k)
            · refine r_al rfl rfl ?_
              refine r_v1n rfl rfl (rg_56 hC) rfl (c_readsStand hC hty h1 hB hdm (by omega) hd2) ?_
              refine r_goto rfl rfl ?_
              have e : rp_rd tx ty (pt_tv (rp_b (σ, dm, sm, dd, sr, i)) σ) (rp_w tx ty (σ, dm, sm, dd, sr, i)) = (rs_σ tx ty dm dd (pt_tk tx ty (rp_b (σ, dm, sm, dd, sr, i)) σ), dm, sm + 1, dd, rs_s tx ty dm sm dd sr (pt_tk tx ty (rp_b (σ, dm, sm, dd, sr, i)) σ), i) := by unfold rp_rd rp_w; simp only; rw [g1, decide_eq_false g2, decide_eq_true g4]; rfl
              have e2 : (rp_it tx ty (σ, dm, sm, dd, sr, i)) = rp_e tx ty (rs_σ tx ty dm dd (pt_tk tx ty (rp_b (σ, dm, sm, dd, sr, i)) σ), dm, sm + 1, dd, rs_s tx ty dm sm dd sr (pt_tk tx ty (rp_b (σ, dm, sm, dd, sr, i)) σ), i) := by unfold rp_it; rw [e]
              rw [e2] at k
              exact rn_up (by omega) (pp_stop hC hty hB (rs_ok hty hB h1) k)
        · have v1 : dm < 10 := by
            rw [w4] at g2
            unfold rp_may at w5
            rw [decide_eq_true g2] at w5
            exact of_decide_eq_true w5
          refine r_al rfl rfl ?_
          refine r_v1n rfl rfl (rg_56 hC) rfl (c_readsDebt hC hty h1 hB (by omega)) ?_
          refine r_goto rfl rfl ?_
          have e : rp_rd tx ty (pt_tv (rp_b (σ, dm, sm, dd, sr, i)) σ) (rp_w tx ty (σ, dm, sm, dd, sr, i)) = (rd_σ tx ty (pt_tk tx ty (rp_b (σ, dm, sm, dd, sr, i)) σ), dm + 1, sm, rd_d tx ty dm dd (pt_tk tx ty (rp_b (σ, dm, sm, dd, sr, i)) σ), sr, i) := by unfold rp_rd rp_w; simp only; rw [g1, decide_eq_true g2]; rfl
          have e2 : (rp_it tx ty (σ, dm, sm, dd, sr, i)) = rp_e tx ty (rd_σ tx ty (pt_tk tx ty (rp_b (σ, dm, sm, dd, sr, i)) σ), dm + 1, sm, rd_d tx ty dm dd (pt_tk tx ty (rp_b (σ, dm, sm, dd, sr, i)) σ), sr, i) := by unfold rp_it; rw [e]
          rw [e2] at k
          exact rn_up (by omega) (pp_stop hC hty hB (rd_ok hty hB h1) k)
    refine r_al rfl rfl ?_
    refine r_al rfl rfl ?_
    refine r_gf rfl rfl (rg_56 hC) rfl ?_
    refine r_ic rfl ?_
    refine r_cne rfl rfl (ok_tk hσ) (by decide) (fun g1 => ?_) (fun g1 => ?_)
    · refine r_ic rfl ?_
      have e : rp_b (σ, dm, sm, dd, sr, i) = false := by unfold rp_b; rw [decide_eq_false g1]; rfl
      rw [e] at K
      exact rn_up (by omega) K
    · refine r_il rfl rfl ?_
      refine r_zeq rfl rfl (bi_r _) (fun g2 => ?_) (fun g2 => ?_)
      · refine r_ic rfl ?_
        have e : rp_b (σ, dm, sm, dd, sr, i) = false := by unfold rp_b; rw [bi_0 g2, Bool.and_false]
        rw [e] at K
        exact rn_up (by omega) K
      · refine r_ic rfl ?_
        refine r_goto rfl rfl ?_
        have e : rp_b (σ, dm, sm, dd, sr, i) = true := by unfold rp_b; rw [decide_eq_true g1, bi_1 g2]; rfl
        rw [e] at K
        exact rn_up (by omega) K
  refine r_al rfl rfl ?_
  refine r_gf rfl rfl (rg_56 hC) rfl ?_
  refine r_zne rfl rfl (by omega) (fun g1 => ?_) (fun g1 => ?_)
  · refine r_al rfl rfl ?_
    refine r_gf rfl rfl (rg_56 hC) rfl ?_
    refine r_ic rfl ?_
    refine r_cge rfl rfl (by omega) (by omega) (fun g2 => ?_) (fun g2 => ?_)
    · refine r_ic rfl ?_
      have e : rp_may dm sm σ.2.2.2.1 = false := by unfold rp_may; rw [decide_eq_false g1, decide_eq_false (Int.not_lt.mpr g2)]; rfl
      rw [e] at K
      exact rn_up (by omega) K
    · refine r_al rfl rfl ?_
      refine r_gf rfl rfl (rg_56 hC) rfl ?_
      refine r_bi rfl (by decide) ?_
      refine r_cge rfl rfl (by omega) (by omega) (fun g3 => ?_) (fun g3 => ?_)
      · refine r_ic rfl ?_
        have e : rp_may dm sm σ.2.2.2.1 = false := by unfold rp_may; rw [decide_eq_false g1, decide_eq_true g2, decide_eq_false (Int.not_lt.mpr g3)]; rfl
        rw [e] at K
        exact rn_up (by omega) K
      · refine r_ic rfl ?_
        refine r_goto rfl rfl ?_
        have e : rp_may dm sm σ.2.2.2.1 = true := by unfold rp_may; rw [decide_eq_false g1, decide_eq_true g2, decide_eq_true g3]; rfl
        rw [e] at K
        exact rn_up (by omega) K
  · refine r_al rfl rfl ?_
    refine r_gf rfl rfl (rg_56 hC) rfl ?_
    refine r_bi rfl (by decide) ?_
    refine r_cge rfl rfl (by omega) (by omega) (fun g2 => ?_) (fun g2 => ?_)
    · refine r_ic rfl ?_
      refine r_goto rfl rfl ?_
      have e : rp_may dm sm σ.2.2.2.1 = false := by unfold rp_may; rw [decide_eq_true g1, decide_eq_false (Int.not_lt.mpr g2)]; rfl
      rw [e] at K
      exact rn_up (by omega) K
    · refine r_ic rfl ?_
      refine r_goto rfl rfl ?_
      have e : rp_may dm sm σ.2.2.2.1 = true := by unfold rp_may; rw [decide_eq_true g1, decide_eq_true g2]; rfl
      rw [e] at K
      exact rn_up (by omega) K
end R8
section R9
variable {C : List va_E} {tr : Int64} {th db sn ty lr ri : Int} {s kp ik tn de sd tx pa : Nat → Int32} {t : pT} {a w : Int} {Q : mm_R → Prop} {N : Nat}
theorem rp_items {σ : pS} {dm sm i : Int} {dd sr tx : Nat → Int32} {ty : Int} : (rp_it tx ty (σ, dm, sm, dd, sr, i)).2.2.2.2.2 = i + 1 := by
  unfold rp_it rp_e rp_rd rp_w
  simp only
  cases decide ((pt_tk tx ty (rp_b (σ, dm, sm, dd, sr, i)) σ).2.2.2.2 < 0) with
  | false => rfl
  | true =>
    cases decide (pt_tv (rp_b (σ, dm, sm, dd, sr, i)) σ = 0) with
    | true => rfl
    | false =>
      cases decide (pt_tv (rp_b (σ, dm, sm, dd, sr, i)) σ = 1) with
      | true => rfl
      | false => rfl
theorem pp_loop (hC : C.length = 56) (hty : 0 ≤ ty ∧ ty ≤ 400) (hB : ∀ k : Nat, (k : Int) < ty → 0 ≤ (tx k).toInt ∧ (tx k).toInt ≤ 255) : ∀ (m : Nat) (t : pT) (a w : Int), rp_ok ty t → (rp_go t = true → 26 < t.2.1 + t.2.2.1 + m) → t.2.2.2.2.2 + m ≤ 1000 → (∀ a w : Int, rn_X12_papers N (186, [(1, iv ((rp_lp tx ty m t).2.2.2.2.2)), (3, iv (w)), (2, iv (a)), (0, .ref 56)], [], (C ++ rL (ro_ th tr db sn (rp_lp tx ty m t).2.1 (rp_lp tx ty m t).2.2.1 ty ((rp_lp tx ty m t).1).1 ((rp_lp tx ty m t).1).2.1 ((rp_lp tx ty m t).1).2.2.1 ((rp_lp tx ty m t).1).2.2.2.1 ((rp_lp tx ty m t).1).2.2.2.2 lr ri) s kp ik tn de sd (rp_lp tx ty m t).2.2.2.1 (rp_lp tx ty m t).2.2.2.2.1 tx pa)) Q) → rn_X12_papers (N + 500 * m + 20) (31, [(1, iv (t.2.2.2.2.2)), (3, iv (w)), (2, iv (a)), (0, .ref 56)], [], (C ++ rL (ro_ th tr db sn t.2.1 t.2.2.1 ty (t.1).1 (t.1).2.1 (t.1).2.2.1 (t.1).2.2.2.1 (t.1).2.2.2.2 lr ri) s kp ik tn de sd t.2.2.2.1 t.2.2.2.2.1 tx pa)) Q := by
  intro m
  induction m with
  | zero =>
    intro t a w h hm hi k
    have hg : rp_go t = false := by
      cases hg : rp_go t with
      | false => rfl
      | true =>
        have h1 := hm hg
        have h2 := h.2.1
        have h3 := h.2.2.1
        omega
    refine r_al rfl rfl ?_
    refine r_v1s rfl rfl (rg_56 hC) rfl (c_isWell hC (ok_fa hty h.1)) ?_
    refine r_zeq rfl rfl (bi_r _) (fun g1 => ?_) (fun g1 => ?_)
    · exact rn_up (by omega) (k a w)
    · refine r_al rfl rfl ?_
      refine r_gf rfl rfl (rg_56 hC) rfl ?_
      refine r_zeq rfl rfl (ok_tk h.1) (fun g2 => ?_) (fun g2 => ?_)
      · exact rn_up (by omega) (k a w)
      · rw [show rp_go t = true by unfold rp_go; rw [bi_1 g1, decide_eq_false g2]; rfl] at hg
        cases hg
  | succ m ih =>
    intro t a w h hm hi k
    cases hg : rp_go t with
    | false =>
      have e : rp_lp tx ty (m + 1) t = t := by show (bif rp_go t then _ else t) = t; rw [hg]; rfl
      rw [e] at k
      refine r_al rfl rfl ?_
      refine r_v1s rfl rfl (rg_56 hC) rfl (c_isWell hC (ok_fa hty h.1)) ?_
      refine r_zeq rfl rfl (bi_r _) (fun g1 => ?_) (fun g1 => ?_)
      · exact rn_up (by omega) (k a w)
      · refine r_al rfl rfl ?_
        refine r_gf rfl rfl (rg_56 hC) rfl ?_
        refine r_zeq rfl rfl (ok_tk h.1) (fun g2 => ?_) (fun g2 => ?_)
        · exact rn_up (by omega) (k a w)
        · rw [show rp_go t = true by unfold rp_go; rw [bi_1 g1, decide_eq_false g2]; rfl] at hg
          cases hg
    | true =>
      refine rn_up (N := N + 500 * m + 20 + 450) (by omega) ?_
      refine r_al rfl rfl ?_
      refine r_v1s rfl rfl (rg_56 hC) rfl (c_isWell hC (ok_fa hty h.1)) ?_
      refine r_zeq rfl rfl (bi_r _) (fun g1 => ?_) (fun g1 => ?_)
      · rw [show rp_go t = false by unfold rp_go; rw [bi_0 g1]; rfl] at hg
        cases hg
      · refine r_al rfl rfl ?_
        refine r_gf rfl rfl (rg_56 hC) rfl ?_
        refine r_zeq rfl rfl (ok_tk h.1) (fun g2 => ?_) (fun g2 => ?_)
        · rw [show rp_go t = false by unfold rp_go; rw [decide_eq_true g2, Bool.not_true, Bool.and_false]] at hg
          cases hg
        · obtain ⟨σ, dm, sm, dd, sr, i⟩ := t
          refine rn_up (N := (N + 500 * m + 20) + 400) (by omega) (pp_itB hC hty hB h ?_)
          have hx : rp_ok ty (rp_it tx ty (σ, dm, sm, dd, sr, i)) := rp_ok_it hty hB h (by have : i + ((m + 1 : Nat) : Int) ≤ 1000 := hi; show i ≤ 999; omega)
          have hy : (rp_it tx ty (σ, dm, sm, dd, sr, i)).2.2.2.2.2 = i + 1 := rp_items
          have := ih (rp_it tx ty (σ, dm, sm, dd, sr, i)) (bi (rp_may dm sm σ.2.2.2.1)) (pt_tv (rp_b (σ, dm, sm, dd, sr, i)) σ) hx (fun hg2 => by
            have z1 := rp_adds hty hB h hg2
            have z2 := hm hg
            have z1 : (rp_it tx ty (σ, dm, sm, dd, sr, i)).2.1 + (rp_it tx ty (σ, dm, sm, dd, sr, i)).2.2.1 = dm + sm + 1 := z1
            have z2 : 26 < dm + sm + ((m + 1 : Nat) : Int) := z2
            omega) (by rw [hy]; have : i + ((m + 1 : Nat) : Int) ≤ 1000 := hi; omega) (fun a w => by
              have := k a w
              rw [show rp_lp tx ty (m + 1) (σ, dm, sm, dd, sr, i) = rp_lp tx ty m (rp_it tx ty (σ, dm, sm, dd, sr, i)) by show (bif rp_go (σ, dm, sm, dd, sr, i) then _ else _) = _; rw [hg]; rfl] at this
              exact this)
          rw [hy] at this
          exact this
end R9
