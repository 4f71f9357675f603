/-! ===== the class reads papers ===== -/
section PI
variable {bt tx dd sr : Nat → Int32} {ln dm sm i cp : Int} {σ : pS}
theorem lp_stop {m : Nat} {u : pT} (h : rp_go u = false) : rp_lp tx ln m u = u := by
  cases m with
  | zero => rfl
  | succ m => show (bif rp_go u then _ else u) = u; rw [h]; rfl
theorem lp_go {m : Nat} {u : pT} (h : rp_go u = true) : rp_lp tx ln (m + 1) u = rp_lp tx ln m (rp_it tx ln u) := by
  show (bif rp_go u then _ else u) = _
  rw [h]
  rfl
theorem go_n {u : pT} (h : 0 ≤ u.1.2.2.2.2) : rp_go u = false := by
  unfold rp_go
  rw [decide_eq_false (show ¬ u.1.2.2.2.2 < 0 by omega)]
  rfl
/-- the word can't stand there -/
theorem it_dead (hσ : pt_ok ln σ) (hT : TR bt ln cp σ) (hb : rp_b (σ, dm, sm, dd, sr, i) = false) : (rp_it tx ln (σ, dm, sm, dd, sr, i)).1.2.2.2.2 = ra_pl bt ln cp ∧ 0 ≤ ra_pl bt ln cp := by
  have d := st_n (tx := tx) (b := rp_b (σ, dm, sm, dd, sr, i)) hσ hT hb
  refine ⟨?_, d.2⟩
  unfold rp_it rp_e rp_rd rp_w
  simp only
  rw [decide_eq_false (show ¬ (pt_tk tx ln (rp_b (σ, dm, sm, dd, sr, i)) σ).2.2.2.2 < 0 by omega)]
  simp only [cond_false]
  rw [tk_dead (by omega)]
  exact d.1
theorem it_debt (hσ : pt_ok ln σ) (hT : TR bt ln cp σ) (hb : rp_b (σ, dm, sm, dd, sr, i) = true) (hv : σ.2.2.2.1 = 0) : rp_it tx ln (σ, dm, sm, dd, sr, i) = (pt_tk tx ln (bSto (rd_σ tx ln (pt_tk tx ln (rp_b (σ, dm, sm, dd, sr, i)) σ))) (rd_σ tx ln (pt_tk tx ln (rp_b (σ, dm, sm, dd, sr, i)) σ)), dm + 1, sm, rd_d tx ln dm dd (pt_tk tx ln (rp_b (σ, dm, sm, dd, sr, i)) σ), sr, i + 1) := by
  have e1 : pt_tv (rp_b (σ, dm, sm, dd, sr, i)) σ = 0 := by unfold pt_tv; rw [hb, decide_eq_true hT.1]; exact hv
  have e2 : (pt_tk tx ln (rp_b (σ, dm, sm, dd, sr, i)) σ).2.2.2.2 < 0 := by rw [hb]; unfold pt_tk; rw [decide_eq_true hT.1]; exact hT.1
  unfold rp_it rp_e rp_rd rp_w
  simp only
  rw [e1, decide_eq_true e2]
  rfl
theorem it_stand (hσ : pt_ok ln σ) (hT : TR bt ln cp σ) (hb : rp_b (σ, dm, sm, dd, sr, i) = true) (hv : σ.2.2.2.1 = 1) : rp_it tx ln (σ, dm, sm, dd, sr, i) = (pt_tk tx ln (bSto (rs_σ tx ln dm dd (pt_tk tx ln (rp_b (σ, dm, sm, dd, sr, i)) σ))) (rs_σ tx ln dm dd (pt_tk tx ln (rp_b (σ, dm, sm, dd, sr, i)) σ)), dm, sm + 1, dd, rs_s tx ln dm sm dd sr (pt_tk tx ln (rp_b (σ, dm, sm, dd, sr, i)) σ), i + 1) := by
  have e1 : pt_tv (rp_b (σ, dm, sm, dd, sr, i)) σ = 1 := by unfold pt_tv; rw [hb, decide_eq_true hT.1]; exact hv
  have e2 : (pt_tk tx ln (rp_b (σ, dm, sm, dd, sr, i)) σ).2.2.2.2 < 0 := by rw [hb]; unfold pt_tk; rw [decide_eq_true hT.1]; exact hT.1
  unfold rp_it rp_e rp_rd rp_w
  simp only
  rw [e1, decide_eq_true e2]
  rfl
theorem it_over (hσ : pt_ok ln σ) (hT : TR bt ln cp σ) (hb : rp_b (σ, dm, sm, dd, sr, i) = true) (hv : σ.2.2.2.1 = 2) : rp_it tx ln (σ, dm, sm, dd, sr, i) = (pt_tk tx ln (bSto (rv_σ tx ln sm sr (pt_tk tx ln (rp_b (σ, dm, sm, dd, sr, i)) σ))) (rv_σ tx ln sm sr (pt_tk tx ln (rp_b (σ, dm, sm, dd, sr, i)) σ)), dm, sm + 1, dd, rv_s tx ln sm sr (pt_tk tx ln (rp_b (σ, dm, sm, dd, sr, i)) σ), i + 1) := by
  have e1 : pt_tv (rp_b (σ, dm, sm, dd, sr, i)) σ = 2 := by unfold pt_tv; rw [hb, decide_eq_true hT.1]; exact hv
  have e2 : (pt_tk tx ln (rp_b (σ, dm, sm, dd, sr, i)) σ).2.2.2.2 < 0 := by rw [hb]; unfold pt_tk; rw [decide_eq_true hT.1]; exact hT.1
  unfold rp_it rp_e rp_rd rp_w
  simp only
  rw [e1, decide_eq_true e2]
  rfl
end PI
section C6
variable {ki ln cp cs ct cv ja ea ma jb eb mb re fl : Int} {rr dr : Nat} {rl : Value} {bt a1 a2 a3 a4 a5 a6 a7 a8 b1 b2 b3 b4 b5 b6 b7 b8 g1 g2 g3 g4 g5 : Nat → Int32} {D : List va_E} {tx : Nat → Int32} {Q : mm_R → Prop}
abbrev rn_X7_read (N : Nat) (c : mm_C) (Q : mm_R → Prop) : Prop := rn (mm_gf gLX7) (mm_pf pLX7) (mm_mv vX7_read) (mm_mv zX7_read) (mm_kc kLX7) mm_gs0 mm_rf0 mm_ro (some .boolean) 4 (mm_ins iX7_read) N c Q
theorem c_loop0 (hD : D.length = 38) (hln : 0 ≤ ln ∧ ln ≤ 400) (hl : tx_like bt tx ln) (hB : ∀ k : Nat, (k : Int) < ln → 0 ≤ (tx k).toInt ∧ (tx k).toInt ≤ 255) : ∀ (m : Nat) (u : pT) (i b : Int) {cp cs ct cv : Int} {b1 b2 b3 b4 b5 b6 b7 b8 : Nat → Int32}, rp_ok ln u → TR bt ln cp u.1 → (0 ≤ cp ∧ cp ≤ ln) → RRd u.2.1 b1 b2 b3 u.2.2.2.1 → RRs u.2.2.1 b4 b5 b6 b7 b8 u.2.2.2.2.1 → DWd u.2.1 u.2.2.2.1 → DWs u.2.2.1 u.2.2.2.2.1 → ARd b1 b2 b3 → ARs b4 b5 b6 b7 → (rp_go u = true → 26 < u.2.1 + u.2.2.1 + (m : Int)) → u.2.2.2.2.2 + (m : Int) ≤ 300 → (∀ (y1 y2 y3 y4 : Int) (k1 k2 k3 k4 k5 k6 k7 k8 : Nat → Int32), (rp_lp tx ln m u).1.2.2.2.2 < 0 → RRd (rp_lp tx ln m u).2.1 k1 k2 k3 (rp_lp tx ln m u).2.2.2.1 → RRs (rp_lp tx ln m u).2.2.1 k4 k5 k6 k7 k8 (rp_lp tx ln m u).2.2.2.2.1 → DWd (rp_lp tx ln m u).2.1 (rp_lp tx ln m u).2.2.2.1 → DWs (rp_lp tx ln m u).2.2.1 (rp_lp tx ln m u).2.2.2.2.1 → ARd k1 k2 k3 → ARs k4 k5 k6 k7 → Q (some (iv 1), (cW ki ln bt (.ref 14) y1 y2 y3 y4 rr dr ja ea ma a1 a2 a3 a4 a5 a6 a7 a8 (rp_lp tx ln m u).2.2.2.2.2 (rp_lp tx ln m u).2.1 (rp_lp tx ln m u).2.2.1 k1 k2 k3 k4 k5 k6 k7 k8 re fl g1 g2 g3 g4 g5 D))) → (∀ (y1 y2 y3 y4 : Int) (k1 k2 k3 k4 k5 k6 k7 k8 : Nat → Int32) (z1 z2 z3 : Int), 0 ≤ (rp_lp tx ln m u).1.2.2.2.2 → y2 = (rp_lp tx ln m u).1.2.2.2.2 → (0 ≤ z2 ∧ z2 ≤ 10) → (0 ≤ z3 ∧ z3 ≤ 16) → ARd k1 k2 k3 → ARs k4 k5 k6 k7 → Q (some (iv 0), (cW ki ln bt (.ref 14) y1 y2 y3 y4 rr dr ja ea ma a1 a2 a3 a4 a5 a6 a7 a8 z1 z2 z3 k1 k2 k3 k4 k5 k6 k7 k8 re fl g1 g2 g3 g4 g5 D))) → rn_X7_read (100 * m + 200) (19, [(2, iv (u.2.2.2.2.2)), (3, iv (b)), (0, .ref 3), (1, .ref 14)], [], (cW ki ln bt (.ref 14) cp cs ct cv rr dr ja ea ma a1 a2 a3 a4 a5 a6 a7 a8 u.2.2.2.2.2 u.2.1 u.2.2.1 b1 b2 b3 b4 b5 b6 b7 b8 re fl g1 g2 g3 g4 g5 D)) Q := by
  intro m
  induction m with
  | zero =>
    intro u i0 b cp cs ct cv b1 b2 b3 b4 b5 b6 b7 b8 hok hT hcp hRd hRs hWd hWs hAd hAs hm hi hQ1 hQ0
    obtain ⟨σ, dm, sm, dd, sr, i⟩ := u
    have hok2 := hok
    obtain ⟨hσ, hdm, hsm, hit0, -⟩ := hok2
    have hσ : pt_ok ln σ := hσ
    have hdm : 0 ≤ dm ∧ dm ≤ 10 := hdm
    have hsm : 0 ≤ sm ∧ sm ≤ 16 := hsm
    have hit0 : 0 ≤ i ∧ i ≤ 1000 := hit0
    have hT : TR bt ln cp σ := hT
    obtain ⟨t0, t1, t2, t3⟩ := id hT
    unfold tkrel at t3
    have hi : i + ((0 : Nat) : Int) ≤ 300 := hi
    have hg : rp_go (σ, dm, sm, dd, sr, i) = false := by
      cases hg : rp_go (σ, dm, sm, dd, sr, i) with
      | false => rfl
      | true =>
        have h1 := hm hg
        have h1 : 26 < dm + sm + ((0 : Nat) : Int) := h1
        omega
    have k1 : σ.2.1 = 0 := by
      by_cases q : σ.2.1 = 0
      · exact q
      · rw [show rp_go (σ, dm, sm, dd, sr, i) = true by unfold rp_go; rw [decide_eq_true hT.1, decide_eq_false q]; rfl] at hg
        cases hg
    have k0 : cl_t bt ln cp = 0 := by omega
    have hQ1 : ∀ (y1 y2 y3 y4 : Int) (k1 k2 k3 k4 k5 k6 k7 k8 : Nat → Int32), (σ, dm, sm, dd, sr, i).1.2.2.2.2 < 0 → RRd (σ, dm, sm, dd, sr, i).2.1 k1 k2 k3 (σ, dm, sm, dd, sr, i).2.2.2.1 → RRs (σ, dm, sm, dd, sr, i).2.2.1 k4 k5 k6 k7 k8 (σ, dm, sm, dd, sr, i).2.2.2.2.1 → DWd (σ, dm, sm, dd, sr, i).2.1 (σ, dm, sm, dd, sr, i).2.2.2.1 → DWs (σ, dm, sm, dd, sr, i).2.2.1 (σ, dm, sm, dd, sr, i).2.2.2.2.1 → ARd k1 k2 k3 → ARs k4 k5 k6 k7 → Q (some (iv 1), (cW ki ln bt (.ref 14) y1 y2 y3 y4 rr dr ja ea ma a1 a2 a3 a4 a5 a6 a7 a8 (σ, dm, sm, dd, sr, i).2.2.2.2.2 (σ, dm, sm, dd, sr, i).2.1 (σ, dm, sm, dd, sr, i).2.2.1 k1 k2 k3 k4 k5 k6 k7 k8 re fl g1 g2 g3 g4 g5 D)) := hQ1
    refine r_il rfl rfl ?_
    refine r_si rfl (by decide) ?_
    refine r_cgt rfl rfl (by omega) (by omega) (fun gi => ?_) (fun gi => ?_)
    · omega
    · refine r_al rfl rfl ?_
      refine r_v1n rfl rfl cg_3 rfl (c_readToken hD hln hcp) ?_
      refine r_al rfl rfl ?_
      refine r_gf rfl rfl cg_3 rfl ?_
      refine r_ts (off := 50) rfl (by rw [k0]; decide) (by rw [k0]; rfl) rfl ?_
      refine r_ic rfl ?_
      exact r_retb rfl rfl (by omega) (hQ1 _ _ _ _ _ _ _ _ _ _ _ _ hT.1 hRd hRs hWd hWs hAd hAs)
  | succ m ih =>
    intro u i0 b cp cs ct cv b1 b2 b3 b4 b5 b6 b7 b8 hok hT hcp hRd hRs hWd hWs hAd hAs hm hi hQ1 hQ0
    obtain ⟨σ, dm, sm, dd, sr, i⟩ := u
    have hok2 := hok
    obtain ⟨hσ, hdm, hsm, hit0, -⟩ := hok2
    have hσ : pt_ok ln σ := hσ
    have hdm : 0 ≤ dm ∧ dm ≤ 10 := hdm
    have hsm : 0 ≤ sm ∧ sm ≤ 16 := hsm
    have hit0 : 0 ≤ i ∧ i ≤ 1000 := hit0
    have hT : TR bt ln cp σ := hT
    obtain ⟨t0, t1, t2, t3⟩ := id hT
    unfold tkrel at t3
    have hi : i + ((m + 1 : Nat) : Int) ≤ 300 := hi
    refine rn_up (N := 100 * m + 200 + 100) (by omega) ?_
    refine r_il rfl rfl ?_
    refine r_si rfl (by decide) ?_
    refine r_cgt rfl rfl (by omega) (by omega) (fun gi => ?_) (fun gi => ?_)
    · omega
    · refine r_al rfl rfl ?_
      refine r_v1n rfl rfl cg_3 rfl (c_readToken hD hln hcp) ?_
      refine r_al rfl rfl ?_
      refine r_gf rfl rfl cg_3 rfl ?_
      rcases t3 with ⟨k0, k1⟩ | ⟨k0, k1⟩ | ⟨k0, k1, k2⟩ | ⟨k0, k1, k2⟩ | ⟨k0, k1⟩ | ⟨k0, k1⟩ | ⟨k0, k1, k2, k3⟩
      · refine r_ts (off := 50) rfl (by rw [k0]; decide) (by rw [k0]; rfl) rfl ?_
        have hg : rp_go (σ, dm, sm, dd, sr, i) = false := by unfold rp_go; rw [decide_eq_true k1, Bool.not_true, Bool.and_false]
        have hE : rp_lp tx ln (m + 1) (σ, dm, sm, dd, sr, i) = (σ, dm, sm, dd, sr, i) := lp_stop hg
        rw [hE] at hQ1
        refine r_ic rfl ?_
        exact r_retb rfl rfl (by omega) (hQ1 _ _ _ _ _ _ _ _ _ _ _ _ hT.1 hRd hRs hWd hWs hAd hAs)
      · have hg : rp_go (σ, dm, sm, dd, sr, i) = true := by unfold rp_go; rw [decide_eq_true hT.1, decide_eq_false (show ¬ σ.2.1 = 0 by omega)]; rfl
        refine r_ts (off := 76) rfl (by rw [k0]; decide) (by rw [k0]; rfl) rfl ?_
        have hb : rp_b (σ, dm, sm, dd, sr, i) = false := by unfold rp_b; rw [decide_eq_false (show ¬ σ.2.1 = 1 by omega)]; rfl
        have hd := it_dead (tx := tx) (dd := dd) (sr := sr) (i := i) (dm := dm) (sm := sm) hσ hT hb
        have hE : rp_lp tx ln (m + 1) (σ, dm, sm, dd, sr, i) = rp_it tx ln (σ, dm, sm, dd, sr, i) := by rw [lp_go hg, lp_stop (go_n (by rw [hd.1]; exact hd.2))]
        rw [hE] at hQ0
        refine r_ic rfl ?_
        refine r_is (lv' := [(3, _), (2, _), (0, _), (1, _)]) rfl rfl rfl ?_
        refine r_il rfl rfl ?_
        refine r_zne rfl rfl (by decide) (fun gz => ?_) (fun gz => ?_)
        · exact absurd rfl gz
        · refine r_ic rfl ?_
          exact r_retb rfl rfl (by omega) (hQ0 _ _ _ _ _ _ _ _ _ _ _ _ _ _ _ (by rw [hd.1]; exact hd.2) hd.1.symm (by omega) (by omega) hAd hAs)
      · have hg : rp_go (σ, dm, sm, dd, sr, i) = true := by unfold rp_go; rw [decide_eq_true hT.1, decide_eq_false (show ¬ σ.2.1 = 0 by omega)]; rfl
        refine r_ts (off := 76) rfl (by rw [k0]; decide) (by rw [k0]; rfl) rfl ?_
        have hb : rp_b (σ, dm, sm, dd, sr, i) = false := by unfold rp_b; rw [decide_eq_false (show ¬ σ.2.1 = 1 by omega)]; rfl
        have hd := it_dead (tx := tx) (dd := dd) (sr := sr) (i := i) (dm := dm) (sm := sm) hσ hT hb
        have hE : rp_lp tx ln (m + 1) (σ, dm, sm, dd, sr, i) = rp_it tx ln (σ, dm, sm, dd, sr, i) := by rw [lp_go hg, lp_stop (go_n (by rw [hd.1]; exact hd.2))]
        rw [hE] at hQ0
        refine r_ic rfl ?_
        refine r_is (lv' := [(3, _), (2, _), (0, _), (1, _)]) rfl rfl rfl ?_
        refine r_il rfl rfl ?_
        refine r_zne rfl rfl (by decide) (fun gz => ?_) (fun gz => ?_)
        · exact absurd rfl gz
        · refine r_ic rfl ?_
          exact r_retb rfl rfl (by omega) (hQ0 _ _ _ _ _ _ _ _ _ _ _ _ _ _ _ (by rw [hd.1]; exact hd.2) hd.1.symm (by omega) (by omega) hAd hAs)
      · have hg : rp_go (σ, dm, sm, dd, sr, i) = true := by unfold rp_go; rw [decide_eq_true hT.1, decide_eq_false (show ¬ σ.2.1 = 0 by omega)]; rfl
        refine r_ts (off := 76) rfl (by rw [k0]; decide) (by rw [k0]; rfl) rfl ?_
        have hb : rp_b (σ, dm, sm, dd, sr, i) = false := by unfold rp_b; rw [decide_eq_false (show ¬ σ.2.1 = 1 by omega)]; rfl
        have hd := it_dead (tx := tx) (dd := dd) (sr := sr) (i := i) (dm := dm) (sm := sm) hσ hT hb
        have hE : rp_lp tx ln (m + 1) (σ, dm, sm, dd, sr, i) = rp_it tx ln (σ, dm, sm, dd, sr, i) := by rw [lp_go hg, lp_stop (go_n (by rw [hd.1]; exact hd.2))]
        rw [hE] at hQ0
        refine r_ic rfl ?_
        refine r_is (lv' := [(3, _), (2, _), (0, _), (1, _)]) rfl rfl rfl ?_
        refine r_il rfl rfl ?_
        refine r_zne rfl rfl (by decide) (fun gz => ?_) (fun gz => ?_)
        · exact absurd rfl gz
        · refine r_ic rfl ?_
          exact r_retb rfl rfl (by omega) (hQ0 _ _ _ _ _ _ _ _ _ _ _ _ _ _ _ (by rw [hd.1]; exact hd.2) hd.1.symm (by omega) (by omega) hAd hAs)
      · have hg : rp_go (σ, dm, sm, dd, sr, i) = true := by unfold rp_go; rw [decide_eq_true hT.1, decide_eq_false (show ¬ σ.2.1 = 0 by omega)]; rfl
        refine r_ts (off := 76) rfl (by rw [k0]; decide) (by rw [k0]; rfl) rfl ?_
        have hb : rp_b (σ, dm, sm, dd, sr, i) = false := by unfold rp_b; rw [decide_eq_false (show ¬ σ.2.1 = 1 by omega)]; rfl
        have hd := it_dead (tx := tx) (dd := dd) (sr := sr) (i := i) (dm := dm) (sm := sm) hσ hT hb
        have hE : rp_lp tx ln (m + 1) (σ, dm, sm, dd, sr, i) = rp_it tx ln (σ, dm, sm, dd, sr, i) := by rw [lp_go hg, lp_stop (go_n (by rw [hd.1]; exact hd.2))]
        rw [hE] at hQ0
        refine r_ic rfl ?_
        refine r_is (lv' := [(3, _), (2, _), (0, _), (1, _)]) rfl rfl rfl ?_
        refine r_il rfl rfl ?_
        refine r_zne rfl rfl (by decide) (fun gz => ?_) (fun gz => ?_)
        · exact absurd rfl gz
        · refine r_ic rfl ?_
          exact r_retb rfl rfl (by omega) (hQ0 _ _ _ _ _ _ _ _ _ _ _ _ _ _ _ (by rw [hd.1]; exact hd.2) hd.1.symm (by omega) (by omega) hAd hAs)
      · have hg : rp_go (σ, dm, sm, dd, sr, i) = true := by unfold rp_go; rw [decide_eq_true hT.1, decide_eq_false (show ¬ σ.2.1 = 0 by omega)]; rfl
        refine r_ts (off := 76) rfl (by rw [k0]; decide) (by rw [k0]; rfl) rfl ?_
        have hb : rp_b (σ, dm, sm, dd, sr, i) = false := by unfold rp_b; rw [decide_eq_false (show ¬ σ.2.1 = 1 by omega)]; rfl
        have hd := it_dead (tx := tx) (dd := dd) (sr := sr) (i := i) (dm := dm) (sm := sm) hσ hT hb
        have hE : rp_lp tx ln (m + 1) (σ, dm, sm, dd, sr, i) = rp_it tx ln (σ, dm, sm, dd, sr, i) := by rw [lp_go hg, lp_stop (go_n (by rw [hd.1]; exact hd.2))]
        rw [hE] at hQ0
        refine r_ic rfl ?_
        refine r_is (lv' := [(3, _), (2, _), (0, _), (1, _)]) rfl rfl rfl ?_
        refine r_il rfl rfl ?_
        refine r_zne rfl rfl (by decide) (fun gz => ?_) (fun gz => ?_)
        · exact absurd rfl gz
        · refine r_ic rfl ?_
          exact r_retb rfl rfl (by omega) (hQ0 _ _ _ _ _ _ _ _ _ _ _ _ _ _ _ (by rw [hd.1]; exact hd.2) hd.1.symm (by omega) (by omega) hAd hAs)
      · have hg : rp_go (σ, dm, sm, dd, sr, i) = true := by unfold rp_go; rw [decide_eq_true hT.1, decide_eq_false (show ¬ σ.2.1 = 0 by omega)]; rfl
        have q6 : cl_t bt ln cp = 6 ∨ cl_t bt ln cp = 7 ∨ cl_t bt ln cp = 8 ∨ 9 ≤ cl_t bt ln cp := by omega
        rcases q6 with k0 | k0 | k0 | k0
        · refine r_ts (off := 52) rfl (by rw [k0]; decide) (by rw [k0]; rfl) rfl ?_
          by_cases gc : dm < 10
          · have hb : rp_b (σ, dm, sm, dd, sr, i) = true := by unfold rp_b rp_may; rw [decide_eq_true (show σ.2.1 = 1 from k2), decide_eq_true (show σ.2.2.2.1 = 0 by omega)]; exact decide_eq_true gc
            have hit := it_debt (tx := tx) (dd := dd) (sr := sr) (i := i) (dm := dm) (sm := sm) hσ hT hb (by omega)
            obtain ⟨-, T1, k1'⟩ := st_y (b := rp_b (σ, dm, sm, dd, sr, i)) hln hl hB hσ hT hb
            have r1 : 0 ≤ cl_e bt ln cp ∧ cl_e bt ln cp ≤ ln := by rw [← hT.2.1]; exact hσ.1
            have hE := lp_go (tx := tx) (ln := ln) (m := m) hg
            rw [hE] at hQ1 hQ0
            have hmI : rp_ok ln (rp_it tx ln (σ, dm, sm, dd, sr, i)) := rp_ok_it hln hB hok (by show i ≤ 999; omega)
            have hmG : rp_go (rp_it tx ln (σ, dm, sm, dd, sr, i)) = true → 26 < (rp_it tx ln (σ, dm, sm, dd, sr, i)).2.1 + (rp_it tx ln (σ, dm, sm, dd, sr, i)).2.2.1 + (m : Int) := by
              intro hg2
              have z1 := rp_adds hln hB hok hg2
              have z1 : (rp_it tx ln (σ, dm, sm, dd, sr, i)).2.1 + (rp_it tx ln (σ, dm, sm, dd, sr, i)).2.2.1 = dm + sm + 1 := z1
              have z2 := hm hg
              have z2 : 26 < dm + sm + ((m + 1 : Nat) : Int) := z2
              omega
            rw [hit] at hQ1 hQ0 hmI hmG
            obtain ⟨r, hr, hc⟩ := c_readDebt0 (ki := ki) (ln := ln) (bt := bt) (cp := (cl_e bt ln cp)) (cs := (ra_pl bt ln cp)) (ct := (cl_t bt ln cp)) (cv := (cl_v bt ln cp)) (rr := rr) (dr := dr) (ja := ja) (ea := ea) (ma := ma) (a1 := a1) (a2 := a2) (a3 := a3) (a4 := a4) (a5 := a5) (a6 := a6) (a7 := a7) (a8 := a8) (jb := i) (eb := dm) (mb := sm) (b1 := b1) (b2 := b2) (b3 := b3) (b4 := b4) (b5 := b5) (b6 := b6) (b7 := b7) (b8 := b8) (re := re) (fl := fl) (g1 := g1) (g2 := g2) (g3 := g3) (g4 := g4) (g5 := g5) (D := D)  (tx := tx) (σ := (pt_tk tx ln (rp_b (σ, dm, sm, dd, sr, i)) σ)) hD hln hl hB (h := ⟨by omega, by omega⟩) k1' T1 r1
            rcases hc with ⟨c1, x1, x2, x3, x4, c2, c3, c4⟩ | ⟨c1, x1, x2, x3, x4, c2, c3⟩
            · subst c2
              refine r_al rfl rfl ?_
              refine r_v1s rfl rfl cg_3 rfl hr ?_
              refine r_is (lv' := [(3, _), (2, _), (0, _), (1, _)]) rfl rfl rfl ?_
              refine r_goto rfl rfl ?_
              refine r_il rfl rfl ?_
              refine r_zne rfl rfl (by decide) (fun gz => ?_) (fun gz => ?_)
              · refine r_al rfl rfl ?_
                refine r_gf rfl rfl cg_3 rfl ?_
                refine r_dup rfl rfl ?_
                refine r_gf rfl rfl cg_14 rfl ?_
                refine r_ic rfl ?_
                refine r_add rfl ?_
                refine r_pf rfl rfl cg_14 rfl cp_jb ?_
                refine r_inc (lv' := [(2, _), (3, _), (0, _), (1, _)]) rfl rfl rfl rfl ?_
                refine r_goto rfl rfl ?_
                obtain ⟨d1, d2, -, -⟩ := tk_well (rd_ok hln hB k1') c1
                obtain ⟨e1, e2, e3⟩ := rd_alive hln hB k1' d1
                refine rn_up (by omega) (ih _ (i + 1) 1 hmI c3 c4 (rd_rows hln hB k1' ⟨by omega, by omega⟩ hRd) hRs (rd_DW hln hB k1' ⟨by omega, by omega⟩ d1 hWd) hWs (fun j hj => ?_) hAs hmG (by show i + 1 + (m : Int) ≤ 300; omega) hQ1 hQ0)
                exact ⟨i7_upd (hAd j hj).1 (i7_of e1 (by decide) (by decide)), i7_upd (hAd j hj).2.1 (i7_of e2 (by decide) (by decide)), i7_upd (hAd j hj).2.2 (i7_of (by omega) (by decide) (by decide))⟩
              · exact absurd gz (by decide)
            · subst c2
              refine r_al rfl rfl ?_
              refine r_v1s rfl rfl cg_3 rfl hr ?_
              refine r_is (lv' := [(3, _), (2, _), (0, _), (1, _)]) rfl rfl rfl ?_
              refine r_goto rfl rfl ?_
              refine r_il rfl rfl ?_
              refine r_zne rfl rfl (by decide) (fun gz => ?_) (fun gz => ?_)
              · exact absurd rfl gz
              · rw [lp_stop (go_n c1)] at hQ0
                refine r_ic rfl ?_
                exact r_retb rfl rfl (by omega) (hQ0 _ _ _ _ _ _ _ _ _ _ _ _ _ _ _ c1 c3 (by omega) (by omega) hAd hAs)
          · have hb : rp_b (σ, dm, sm, dd, sr, i) = false := by unfold rp_b rp_may; rw [decide_eq_true (show σ.2.2.2.1 = 0 by omega), decide_eq_false gc, cond_true, Bool.and_false]
            have hd := it_dead (tx := tx) (dd := dd) (sr := sr) (i := i) (dm := dm) (sm := sm) hσ hT hb
            have hE : rp_lp tx ln (m + 1) (σ, dm, sm, dd, sr, i) = rp_it tx ln (σ, dm, sm, dd, sr, i) := by rw [lp_go hg, lp_stop (go_n (by rw [hd.1]; exact hd.2))]
            rw [hE] at hQ0
            refine r_al rfl rfl ?_
            refine r_v1s rfl rfl cg_3 rfl (c_readDebtF0 (show 10 ≤ dm ∧ dm ≤ 100 from ⟨by omega, by omega⟩)) ?_
            refine r_is (lv' := [(3, _), (2, _), (0, _), (1, _)]) rfl rfl rfl ?_
            refine r_goto rfl rfl ?_
            refine r_il rfl rfl ?_
            refine r_zne rfl rfl (by decide) (fun gz => ?_) (fun gz => ?_)
            · exact absurd rfl gz
            · refine r_ic rfl ?_
              exact r_retb rfl rfl (by omega) (hQ0 _ _ _ _ _ _ _ _ _ _ _ _ _ _ _ (by rw [hd.1]; exact hd.2) hd.1.symm (by omega) (by omega) hAd hAs)
        · refine r_ts (off := 60) rfl (by rw [k0]; decide) (by rw [k0]; rfl) rfl ?_
          by_cases gc : sm < 16
          · have hb : rp_b (σ, dm, sm, dd, sr, i) = true := by unfold rp_b rp_may; rw [decide_eq_true (show σ.2.1 = 1 from k2), decide_eq_false (show ¬ σ.2.2.2.1 = 0 by omega), decide_eq_true (show σ.2.2.2.1 < 3 by omega)]; exact decide_eq_true gc
            have hit := it_stand (tx := tx) (dd := dd) (sr := sr) (i := i) (dm := dm) (sm := sm) hσ hT hb (by omega)
            obtain ⟨-, T1, k1'⟩ := st_y (b := rp_b (σ, dm, sm, dd, sr, i)) hln hl hB hσ hT hb
            have r1 : 0 ≤ cl_e bt ln cp ∧ cl_e bt ln cp ≤ ln := by rw [← hT.2.1]; exact hσ.1
            have hE := lp_go (tx := tx) (ln := ln) (m := m) hg
            rw [hE] at hQ1 hQ0
            have hmI : rp_ok ln (rp_it tx ln (σ, dm, sm, dd, sr, i)) := rp_ok_it hln hB hok (by show i ≤ 999; omega)
            have hmG : rp_go (rp_it tx ln (σ, dm, sm, dd, sr, i)) = true → 26 < (rp_it tx ln (σ, dm, sm, dd, sr, i)).2.1 + (rp_it tx ln (σ, dm, sm, dd, sr, i)).2.2.1 + (m : Int) := by
              intro hg2
              have z1 := rp_adds hln hB hok hg2
              have z1 : (rp_it tx ln (σ, dm, sm, dd, sr, i)).2.1 + (rp_it tx ln (σ, dm, sm, dd, sr, i)).2.2.1 = dm + sm + 1 := z1
              have z2 := hm hg
              have z2 : 26 < dm + sm + ((m + 1 : Nat) : Int) := z2
              omega
            rw [hit] at hQ1 hQ0 hmI hmG
            obtain ⟨r, hr, hc⟩ := c_readStand0 (ki := ki) (ln := ln) (bt := bt) (cp := (cl_e bt ln cp)) (cs := (ra_pl bt ln cp)) (ct := (cl_t bt ln cp)) (cv := (cl_v bt ln cp)) (rr := rr) (dr := dr) (ja := ja) (ea := ea) (ma := ma) (a1 := a1) (a2 := a2) (a3 := a3) (a4 := a4) (a5 := a5) (a6 := a6) (a7 := a7) (a8 := a8) (jb := i) (eb := dm) (mb := sm) (b1 := b1) (b2 := b2) (b3 := b3) (b4 := b4) (b5 := b5) (b6 := b6) (b7 := b7) (b8 := b8) (re := re) (fl := fl) (g1 := g1) (g2 := g2) (g3 := g3) (g4 := g4) (g5 := g5) (D := D) (dd := dd) (tx := tx) (σ := (pt_tk tx ln (rp_b (σ, dm, sm, dd, sr, i)) σ)) hD hln hl hB (h := ⟨by omega, by omega⟩) (hd := ⟨by omega, by omega⟩) (hR := hRd) (hW := hWd) k1' T1 r1
            rcases hc with ⟨c1, x1, x2, x3, x4, c2, c3, c4⟩ | ⟨c1, x1, x2, x3, x4, c2, c3⟩
            · subst c2
              refine r_al rfl rfl ?_
              refine r_v1s rfl rfl cg_3 rfl hr ?_
              refine r_is (lv' := [(3, _), (2, _), (0, _), (1, _)]) rfl rfl rfl ?_
              refine r_goto rfl rfl ?_
              refine r_il rfl rfl ?_
              refine r_zne rfl rfl (by decide) (fun gz => ?_) (fun gz => ?_)
              · refine r_al rfl rfl ?_
                refine r_gf rfl rfl cg_3 rfl ?_
                refine r_dup rfl rfl ?_
                refine r_gf rfl rfl cg_14 rfl ?_
                refine r_ic rfl ?_
                refine r_add rfl ?_
                refine r_pf rfl rfl cg_14 rfl cp_jb ?_
                refine r_inc (lv' := [(2, _), (3, _), (0, _), (1, _)]) rfl rfl rfl rfl ?_
                refine r_goto rfl rfl ?_
                obtain ⟨d1, d2, -, -⟩ := tk_well (rs_ok hln hB k1') c1
                obtain ⟨e1, e2, e3⟩ := rs_alive hln hB k1' d1
                refine rn_up (by omega) (ih _ (i + 1) 1 hmI c3 c4 hRd (rs_rows hln hB k1' ⟨by omega, by omega⟩ hRs) hWd (rs_DW hln hB k1' ⟨by omega, by omega⟩ ⟨by omega, by omega⟩ d1 hWs) hAd (fun j hj => ?_) hmG (by show i + 1 + (m : Int) ≤ 300; omega) hQ1 hQ0)
                exact ⟨i7_upd (hAs j hj).1 (i7_of e1 (by decide) (by decide)), i7_upd (hAs j hj).2.1 (i7_of (by omega) (by decide) (by decide)), i7_upd (hAs j hj).2.2.1 (i7_of (by omega) (by decide) (by decide)), i7_upd (hAs j hj).2.2.2 (i7_of (by decide) (by decide) (by decide))⟩
              · exact absurd gz (by decide)
            · subst c2
              refine r_al rfl rfl ?_
              refine r_v1s rfl rfl cg_3 rfl hr ?_
              refine r_is (lv' := [(3, _), (2, _), (0, _), (1, _)]) rfl rfl rfl ?_
              refine r_goto rfl rfl ?_
              refine r_il rfl rfl ?_
              refine r_zne rfl rfl (by decide) (fun gz => ?_) (fun gz => ?_)
              · exact absurd rfl gz
              · rw [lp_stop (go_n c1)] at hQ0
                refine r_ic rfl ?_
                exact r_retb rfl rfl (by omega) (hQ0 _ _ _ _ _ _ _ _ _ _ _ _ _ _ _ c1 c3 (by omega) (by omega) hAd hAs)
          · have hb : rp_b (σ, dm, sm, dd, sr, i) = false := by unfold rp_b rp_may; rw [decide_eq_false (show ¬ σ.2.2.2.1 = 0 by omega), decide_eq_false gc, cond_false, Bool.and_false, Bool.and_false]
            have hd := it_dead (tx := tx) (dd := dd) (sr := sr) (i := i) (dm := dm) (sm := sm) hσ hT hb
            have hE : rp_lp tx ln (m + 1) (σ, dm, sm, dd, sr, i) = rp_it tx ln (σ, dm, sm, dd, sr, i) := by rw [lp_go hg, lp_stop (go_n (by rw [hd.1]; exact hd.2))]
            rw [hE] at hQ0
            refine r_al rfl rfl ?_
            refine r_v1s rfl rfl cg_3 rfl (c_readStandF0 (show 16 ≤ sm ∧ sm ≤ 100 from ⟨by omega, by omega⟩)) ?_
            refine r_is (lv' := [(3, _), (2, _), (0, _), (1, _)]) rfl rfl rfl ?_
            refine r_goto rfl rfl ?_
            refine r_il rfl rfl ?_
            refine r_zne rfl rfl (by decide) (fun gz => ?_) (fun gz => ?_)
            · exact absurd rfl gz
            · refine r_ic rfl ?_
              exact r_retb rfl rfl (by omega) (hQ0 _ _ _ _ _ _ _ _ _ _ _ _ _ _ _ (by rw [hd.1]; exact hd.2) hd.1.symm (by omega) (by omega) hAd hAs)
        · refine r_ts (off := 68) rfl (by rw [k0]; decide) (by rw [k0]; rfl) rfl ?_
          by_cases gc : sm < 16
          · have hb : rp_b (σ, dm, sm, dd, sr, i) = true := by unfold rp_b rp_may; rw [decide_eq_true (show σ.2.1 = 1 from k2), decide_eq_false (show ¬ σ.2.2.2.1 = 0 by omega), decide_eq_true (show σ.2.2.2.1 < 3 by omega)]; exact decide_eq_true gc
            have hit := it_over (tx := tx) (dd := dd) (sr := sr) (i := i) (dm := dm) (sm := sm) hσ hT hb (by omega)
            obtain ⟨-, T1, k1'⟩ := st_y (b := rp_b (σ, dm, sm, dd, sr, i)) hln hl hB hσ hT hb
            have r1 : 0 ≤ cl_e bt ln cp ∧ cl_e bt ln cp ≤ ln := by rw [← hT.2.1]; exact hσ.1
            have hE := lp_go (tx := tx) (ln := ln) (m := m) hg
            rw [hE] at hQ1 hQ0
            have hmI : rp_ok ln (rp_it tx ln (σ, dm, sm, dd, sr, i)) := rp_ok_it hln hB hok (by show i ≤ 999; omega)
            have hmG : rp_go (rp_it tx ln (σ, dm, sm, dd, sr, i)) = true → 26 < (rp_it tx ln (σ, dm, sm, dd, sr, i)).2.1 + (rp_it tx ln (σ, dm, sm, dd, sr, i)).2.2.1 + (m : Int) := by
              intro hg2
              have z1 := rp_adds hln hB hok hg2
              have z1 : (rp_it tx ln (σ, dm, sm, dd, sr, i)).2.1 + (rp_it tx ln (σ, dm, sm, dd, sr, i)).2.2.1 = dm + sm + 1 := z1
              have z2 := hm hg
              have z2 : 26 < dm + sm + ((m + 1 : Nat) : Int) := z2
              omega
            rw [hit] at hQ1 hQ0 hmI hmG
            obtain ⟨r, hr, hc⟩ := c_readOver0 (ki := ki) (ln := ln) (bt := bt) (cp := (cl_e bt ln cp)) (cs := (ra_pl bt ln cp)) (ct := (cl_t bt ln cp)) (cv := (cl_v bt ln cp)) (rr := rr) (dr := dr) (ja := ja) (ea := ea) (ma := ma) (a1 := a1) (a2 := a2) (a3 := a3) (a4 := a4) (a5 := a5) (a6 := a6) (a7 := a7) (a8 := a8) (jb := i) (eb := dm) (mb := sm) (b1 := b1) (b2 := b2) (b3 := b3) (b4 := b4) (b5 := b5) (b6 := b6) (b7 := b7) (b8 := b8) (re := re) (fl := fl) (g1 := g1) (g2 := g2) (g3 := g3) (g4 := g4) (g5 := g5) (D := D) (sr := sr) (tx := tx) (σ := (pt_tk tx ln (rp_b (σ, dm, sm, dd, sr, i)) σ)) hD hln hl hB (h := ⟨by omega, by omega⟩) (hR := hRs) (hW := hWs) k1' T1 r1
            rcases hc with ⟨c1, x1, x2, x3, x4, c2, c3, c4⟩ | ⟨c1, x1, x2, x3, x4, c2, c3⟩
            · subst c2
              refine r_al rfl rfl ?_
              refine r_v1s rfl rfl cg_3 rfl hr ?_
              refine r_is (lv' := [(3, _), (2, _), (0, _), (1, _)]) rfl rfl rfl ?_
              refine r_goto rfl rfl ?_
              refine r_il rfl rfl ?_
              refine r_zne rfl rfl (by decide) (fun gz => ?_) (fun gz => ?_)
              · refine r_al rfl rfl ?_
                refine r_gf rfl rfl cg_3 rfl ?_
                refine r_dup rfl rfl ?_
                refine r_gf rfl rfl cg_14 rfl ?_
                refine r_ic rfl ?_
                refine r_add rfl ?_
                refine r_pf rfl rfl cg_14 rfl cp_jb ?_
                refine r_inc (lv' := [(2, _), (3, _), (0, _), (1, _)]) rfl rfl rfl rfl ?_
                refine r_goto rfl rfl ?_
                obtain ⟨d1, d2, -, -⟩ := tk_well (rv_ok hln hB k1') c1
                obtain ⟨e1, e2, e3⟩ := rv_alive hln hB k1' d1
                refine rn_up (by omega) (ih _ (i + 1) 1 hmI c3 c4 hRd (rv_rows hln hB k1' ⟨by omega, by omega⟩ d1 hRs) hWd (rv_DW hln hB k1' ⟨by omega, by omega⟩ d1 hWs) hAd (fun j hj => ?_) hmG (by show i + 1 + (m : Int) ≤ 300; omega) hQ1 hQ0)
                exact ⟨i7_upd (hAs j hj).1 (i7_of e1 (by decide) (by decide)), i7_upd (hAs j hj).2.1 (by rw [iv_s]; exact (hAs _ (by omega)).2.1), i7_upd (hAs j hj).2.2.1 (i7_of (by decide) (by decide) (by decide)), i7_upd (i7_upd (hAs j hj).2.2.2 (i7_of (by decide) (by decide) (by decide))) (i7_of (by omega) (by decide) (by decide))⟩
              · exact absurd gz (by decide)
            · subst c2
              refine r_al rfl rfl ?_
              refine r_v1s rfl rfl cg_3 rfl hr ?_
              refine r_is (lv' := [(3, _), (2, _), (0, _), (1, _)]) rfl rfl rfl ?_
              refine r_goto rfl rfl ?_
              refine r_il rfl rfl ?_
              refine r_zne rfl rfl (by decide) (fun gz => ?_) (fun gz => ?_)
              · exact absurd rfl gz
              · rw [lp_stop (go_n c1)] at hQ0
                refine r_ic rfl ?_
                exact r_retb rfl rfl (by omega) (hQ0 _ _ _ _ _ _ _ _ _ _ _ _ _ _ _ c1 c3 (by omega) (by omega) hAd hAs)
          · have hb : rp_b (σ, dm, sm, dd, sr, i) = false := by unfold rp_b rp_may; rw [decide_eq_false (show ¬ σ.2.2.2.1 = 0 by omega), decide_eq_false gc, cond_false, Bool.and_false, Bool.and_false]
            have hd := it_dead (tx := tx) (dd := dd) (sr := sr) (i := i) (dm := dm) (sm := sm) hσ hT hb
            have hE : rp_lp tx ln (m + 1) (σ, dm, sm, dd, sr, i) = rp_it tx ln (σ, dm, sm, dd, sr, i) := by rw [lp_go hg, lp_stop (go_n (by rw [hd.1]; exact hd.2))]
            rw [hE] at hQ0
            refine r_al rfl rfl ?_
            refine r_v1s rfl rfl cg_3 rfl (c_readOverF0 (show 16 ≤ sm ∧ sm ≤ 100 from ⟨by omega, by omega⟩)) ?_
            refine r_is (lv' := [(3, _), (2, _), (0, _), (1, _)]) rfl rfl rfl ?_
            refine r_goto rfl rfl ?_
            refine r_il rfl rfl ?_
            refine r_zne rfl rfl (by decide) (fun gz => ?_) (fun gz => ?_)
            · exact absurd rfl gz
            · refine r_ic rfl ?_
              exact r_retb rfl rfl (by omega) (hQ0 _ _ _ _ _ _ _ _ _ _ _ _ _ _ _ (by rw [hd.1]; exact hd.2) hd.1.symm (by omega) (by omega) hAd hAs)
        · have k9 : mm_tsw 76 0 8 #[50, 76, 76, 76, 76, 76, 52, 60, 68] (cl_t bt ln cp) = some 76 := by unfold mm_tsw; rw [decide_eq_true (show 8 < cl_t bt ln cp by omega), Bool.or_true]; rfl
          refine r_ts (off := 76) rfl (by omega) k9 rfl ?_
          have hb : rp_b (σ, dm, sm, dd, sr, i) = false := by unfold rp_b rp_may; rw [decide_eq_false (show ¬ σ.2.2.2.1 = 0 by omega), decide_eq_false (show ¬ σ.2.2.2.1 < 3 by omega)]; simp
          have hd := it_dead (tx := tx) (dd := dd) (sr := sr) (i := i) (dm := dm) (sm := sm) hσ hT hb
          have hE : rp_lp tx ln (m + 1) (σ, dm, sm, dd, sr, i) = rp_it tx ln (σ, dm, sm, dd, sr, i) := by rw [lp_go hg, lp_stop (go_n (by rw [hd.1]; exact hd.2))]
          rw [hE] at hQ0
          refine r_ic rfl ?_
          refine r_is (lv' := [(3, _), (2, _), (0, _), (1, _)]) rfl rfl rfl ?_
          refine r_il rfl rfl ?_
          refine r_zne rfl rfl (by decide) (fun gz => ?_) (fun gz => ?_)
          · exact absurd rfl gz
          · refine r_ic rfl ?_
            exact r_retb rfl rfl (by omega) (hQ0 _ _ _ _ _ _ _ _ _ _ _ _ _ _ _ (by rw [hd.1]; exact hd.2) hd.1.symm (by omega) (by omega) hAd hAs)
theorem c_loopA0 (hD : D.length = 38) (hln : 0 ≤ ln ∧ ln ≤ 400) (hl : tx_like bt tx ln) (hB : ∀ k : Nat, (k : Int) < ln → 0 ≤ (tx k).toInt ∧ (tx k).toInt ≤ 255) : ∀ (m : Nat) (u : pT) {cp cs ct cv : Int} {b1 b2 b3 b4 b5 b6 b7 b8 : Nat → Int32}, rp_ok ln u → TR bt ln cp u.1 → (0 ≤ cp ∧ cp ≤ ln) → RRd u.2.1 b1 b2 b3 u.2.2.2.1 → RRs u.2.2.1 b4 b5 b6 b7 b8 u.2.2.2.2.1 → DWd u.2.1 u.2.2.2.1 → DWs u.2.2.1 u.2.2.2.2.1 → ARd b1 b2 b3 → ARs b4 b5 b6 b7 → (rp_go u = true → 26 < u.2.1 + u.2.2.1 + ((m + 1 : Nat) : Int)) → u.2.2.2.2.2 + ((m + 1 : Nat) : Int) ≤ 300 → (∀ (y1 y2 y3 y4 : Int) (k1 k2 k3 k4 k5 k6 k7 k8 : Nat → Int32), (rp_lp tx ln (m + 1) u).1.2.2.2.2 < 0 → RRd (rp_lp tx ln (m + 1) u).2.1 k1 k2 k3 (rp_lp tx ln (m + 1) u).2.2.2.1 → RRs (rp_lp tx ln (m + 1) u).2.2.1 k4 k5 k6 k7 k8 (rp_lp tx ln (m + 1) u).2.2.2.2.1 → DWd (rp_lp tx ln (m + 1) u).2.1 (rp_lp tx ln (m + 1) u).2.2.2.1 → DWs (rp_lp tx ln (m + 1) u).2.2.1 (rp_lp tx ln (m + 1) u).2.2.2.2.1 → ARd k1 k2 k3 → ARs k4 k5 k6 k7 → Q (some (iv 1), (cW ki ln bt (.ref 14) y1 y2 y3 y4 rr dr ja ea ma a1 a2 a3 a4 a5 a6 a7 a8 (rp_lp tx ln (m + 1) u).2.2.2.2.2 (rp_lp tx ln (m + 1) u).2.1 (rp_lp tx ln (m + 1) u).2.2.1 k1 k2 k3 k4 k5 k6 k7 k8 re fl g1 g2 g3 g4 g5 D))) → (∀ (y1 y2 y3 y4 : Int) (k1 k2 k3 k4 k5 k6 k7 k8 : Nat → Int32) (z1 z2 z3 : Int), 0 ≤ (rp_lp tx ln (m + 1) u).1.2.2.2.2 → y2 = (rp_lp tx ln (m + 1) u).1.2.2.2.2 → (0 ≤ z2 ∧ z2 ≤ 10) → (0 ≤ z3 ∧ z3 ≤ 16) → ARd k1 k2 k3 → ARs k4 k5 k6 k7 → Q (some (iv 0), (cW ki ln bt (.ref 14) y1 y2 y3 y4 rr dr ja ea ma a1 a2 a3 a4 a5 a6 a7 a8 z1 z2 z3 k1 k2 k3 k4 k5 k6 k7 k8 re fl g1 g2 g3 g4 g5 D))) → rn_X7_read (100 * m + 300) (19, [(2, iv (u.2.2.2.2.2)), (0, .ref 3), (1, .ref 14)], [], (cW ki ln bt (.ref 14) cp cs ct cv rr dr ja ea ma a1 a2 a3 a4 a5 a6 a7 a8 u.2.2.2.2.2 u.2.1 u.2.2.1 b1 b2 b3 b4 b5 b6 b7 b8 re fl g1 g2 g3 g4 g5 D)) Q := by
  intro m u cp cs ct cv b1 b2 b3 b4 b5 b6 b7 b8 hok hT hcp hRd hRs hWd hWs hAd hAs hm hi hQ1 hQ0
  obtain ⟨σ, dm, sm, dd, sr, i⟩ := u
  have hok2 := hok
  obtain ⟨hσ, hdm, hsm, hit0, -⟩ := hok2
  have hσ : pt_ok ln σ := hσ
  have hdm : 0 ≤ dm ∧ dm ≤ 10 := hdm
  have hsm : 0 ≤ sm ∧ sm ≤ 16 := hsm
  have hit0 : 0 ≤ i ∧ i ≤ 1000 := hit0
  have hT : TR bt ln cp σ := hT
  obtain ⟨t0, t1, t2, t3⟩ := id hT
  unfold tkrel at t3
  have hi : i + ((m + 1 : Nat) : Int) ≤ 300 := hi
  refine r_il rfl rfl ?_
  refine r_si rfl (by decide) ?_
  refine r_cgt rfl rfl (by omega) (by omega) (fun gi => ?_) (fun gi => ?_)
  · omega
  · refine r_al rfl rfl ?_
    refine r_v1n rfl rfl cg_3 rfl (c_readToken hD hln hcp) ?_
    refine r_al rfl rfl ?_
    refine r_gf rfl rfl cg_3 rfl ?_
    rcases t3 with ⟨k0, k1⟩ | ⟨k0, k1⟩ | ⟨k0, k1, k2⟩ | ⟨k0, k1, k2⟩ | ⟨k0, k1⟩ | ⟨k0, k1⟩ | ⟨k0, k1, k2, k3⟩
    · refine r_ts (off := 50) rfl (by rw [k0]; decide) (by rw [k0]; rfl) rfl ?_
      have hg : rp_go (σ, dm, sm, dd, sr, i) = false := by unfold rp_go; rw [decide_eq_true k1, Bool.not_true, Bool.and_false]
      have hE : rp_lp tx ln (m + 1) (σ, dm, sm, dd, sr, i) = (σ, dm, sm, dd, sr, i) := lp_stop hg
      rw [hE] at hQ1
      refine r_ic rfl ?_
      exact r_retb rfl rfl (by omega) (hQ1 _ _ _ _ _ _ _ _ _ _ _ _ hT.1 hRd hRs hWd hWs hAd hAs)
    · have hg : rp_go (σ, dm, sm, dd, sr, i) = true := by unfold rp_go; rw [decide_eq_true hT.1, decide_eq_false (show ¬ σ.2.1 = 0 by omega)]; rfl
      refine r_ts (off := 76) rfl (by rw [k0]; decide) (by rw [k0]; rfl) rfl ?_
      have hb : rp_b (σ, dm, sm, dd, sr, i) = false := by unfold rp_b; rw [decide_eq_false (show ¬ σ.2.1 = 1 by omega)]; rfl
      have hd := it_dead (tx := tx) (dd := dd) (sr := sr) (i := i) (dm := dm) (sm := sm) hσ hT hb
      have hE : rp_lp tx ln (m + 1) (σ, dm, sm, dd, sr, i) = rp_it tx ln (σ, dm, sm, dd, sr, i) := by rw [lp_go hg, lp_stop (go_n (by rw [hd.1]; exact hd.2))]
      rw [hE] at hQ0
      refine r_ic rfl ?_
      refine r_is (lv' := [(3, _), (2, _), (0, _), (1, _)]) rfl rfl rfl ?_
      refine r_il rfl rfl ?_
      refine r_zne rfl rfl (by decide) (fun gz => ?_) (fun gz => ?_)
      · exact absurd rfl gz
      · refine r_ic rfl ?_
        exact r_retb rfl rfl (by omega) (hQ0 _ _ _ _ _ _ _ _ _ _ _ _ _ _ _ (by rw [hd.1]; exact hd.2) hd.1.symm (by omega) (by omega) hAd hAs)
    · have hg : rp_go (σ, dm, sm, dd, sr, i) = true := by unfold rp_go; rw [decide_eq_true hT.1, decide_eq_false (show ¬ σ.2.1 = 0 by omega)]; rfl
      refine r_ts (off := 76) rfl (by rw [k0]; decide) (by rw [k0]; rfl) rfl ?_
      have hb : rp_b (σ, dm, sm, dd, sr, i) = false := by unfold rp_b; rw [decide_eq_false (show ¬ σ.2.1 = 1 by omega)]; rfl
      have hd := it_dead (tx := tx) (dd := dd) (sr := sr) (i := i) (dm := dm) (sm := sm) hσ hT hb
      have hE : rp_lp tx ln (m + 1) (σ, dm, sm, dd, sr, i) = rp_it tx ln (σ, dm, sm, dd, sr, i) := by rw [lp_go hg, lp_stop (go_n (by rw [hd.1]; exact hd.2))]
      rw [hE] at hQ0
      refine r_ic rfl ?_
      refine r_is (lv' := [(3, _), (2, _), (0, _), (1, _)]) rfl rfl rfl ?_
      refine r_il rfl rfl ?_
      refine r_zne rfl rfl (by decide) (fun gz => ?_) (fun gz => ?_)
      · exact absurd rfl gz
      · refine r_ic rfl ?_
        exact r_retb rfl rfl (by omega) (hQ0 _ _ _ _ _ _ _ _ _ _ _ _ _ _ _ (by rw [hd.1]; exact hd.2) hd.1.symm (by omega) (by omega) hAd hAs)
    · have hg : rp_go (σ, dm, sm, dd, sr, i) = true := by unfold rp_go; rw [decide_eq_true hT.1, decide_eq_false (show ¬ σ.2.1 = 0 by omega)]; rfl
      refine r_ts (off := 76) rfl (by rw [k0]; decide) (by rw [k0]; rfl) rfl ?_
      have hb : rp_b (σ, dm, sm, dd, sr, i) = false := by unfold rp_b; rw [decide_eq_false (show ¬ σ.2.1 = 1 by omega)]; rfl
      have hd := it_dead (tx := tx) (dd := dd) (sr := sr) (i := i) (dm := dm) (sm := sm) hσ hT hb
      have hE : rp_lp tx ln (m + 1) (σ, dm, sm, dd, sr, i) = rp_it tx ln (σ, dm, sm, dd, sr, i) := by rw [lp_go hg, lp_stop (go_n (by rw [hd.1]; exact hd.2))]
      rw [hE] at hQ0
      refine r_ic rfl ?_
      refine r_is (lv' := [(3, _), (2, _), (0, _), (1, _)]) rfl rfl rfl ?_
      refine r_il rfl rfl ?_
      refine r_zne rfl rfl (by decide) (fun gz => ?_) (fun gz => ?_)
      · exact absurd rfl gz
      · refine r_ic rfl ?_
        exact r_retb rfl rfl (by omega) (hQ0 _ _ _ _ _ _ _ _ _ _ _ _ _ _ _ (by rw [hd.1]; exact hd.2) hd.1.symm (by omega) (by omega) hAd hAs)
    · have hg : rp_go (σ, dm, sm, dd, sr, i) = true := by unfold rp_go; rw [decide_eq_true hT.1, decide_eq_false (show ¬ σ.2.1 = 0 by omega)]; rfl
      refine r_ts (off := 76) rfl (by rw [k0]; decide) (by rw [k0]; rfl) rfl ?_
      have hb : rp_b (σ, dm, sm, dd, sr, i) = false := by unfold rp_b; rw [decide_eq_false (show ¬ σ.2.1 = 1 by omega)]; rfl
      have hd := it_dead (tx := tx) (dd := dd) (sr := sr) (i := i) (dm := dm) (sm := sm) hσ hT hb
      have hE : rp_lp tx ln (m + 1) (σ, dm, sm, dd, sr, i) = rp_it tx ln (σ, dm, sm, dd, sr, i) := by rw [lp_go hg, lp_stop (go_n (by rw [hd.1]; exact hd.2))]
      rw [hE] at hQ0
      refine r_ic rfl ?_
      refine r_is (lv' := [(3, _), (2, _), (0, _), (1, _)]) rfl rfl rfl ?_
      refine r_il rfl rfl ?_
      refine r_zne rfl rfl (by decide) (fun gz => ?_) (fun gz => ?_)
      · exact absurd rfl gz
      · refine r_ic rfl ?_
        exact r_retb rfl rfl (by omega) (hQ0 _ _ _ _ _ _ _ _ _ _ _ _ _ _ _ (by rw [hd.1]; exact hd.2) hd.1.symm (by omega) (by omega) hAd hAs)
    · have hg : rp_go (σ, dm, sm, dd, sr, i) = true := by unfold rp_go; rw [decide_eq_true hT.1, decide_eq_false (show ¬ σ.2.1 = 0 by omega)]; rfl
      refine r_ts (off := 76) rfl (by rw [k0]; decide) (by rw [k0]; rfl) rfl ?_
      have hb : rp_b (σ, dm, sm, dd, sr, i) = false := by unfold rp_b; rw [decide_eq_false (show ¬ σ.2.1 = 1 by omega)]; rfl
      have hd := it_dead (tx := tx) (dd := dd) (sr := sr) (i := i) (dm := dm) (sm := sm) hσ hT hb
      have hE : rp_lp tx ln (m + 1) (σ, dm, sm, dd, sr, i) = rp_it tx ln (σ, dm, sm, dd, sr, i) := by rw [lp_go hg, lp_stop (go_n (by rw [hd.1]; exact hd.2))]
      rw [hE] at hQ0
      refine r_ic rfl ?_
      refine r_is (lv' := [(3, _), (2, _), (0, _), (1, _)]) rfl rfl rfl ?_
      refine r_il rfl rfl ?_
      refine r_zne rfl rfl (by decide) (fun gz => ?_) (fun gz => ?_)
      · exact absurd rfl gz
      · refine r_ic rfl ?_
        exact r_retb rfl rfl (by omega) (hQ0 _ _ _ _ _ _ _ _ _ _ _ _ _ _ _ (by rw [hd.1]; exact hd.2) hd.1.symm (by omega) (by omega) hAd hAs)
    · have hg : rp_go (σ, dm, sm, dd, sr, i) = true := by unfold rp_go; rw [decide_eq_true hT.1, decide_eq_false (show ¬ σ.2.1 = 0 by omega)]; rfl
      have q6 : cl_t bt ln cp = 6 ∨ cl_t bt ln cp = 7 ∨ cl_t bt ln cp = 8 ∨ 9 ≤ cl_t bt ln cp := by omega
      rcases q6 with k0 | k0 | k0 | k0
      · refine r_ts (off := 52) rfl (by rw [k0]; decide) (by rw [k0]; rfl) rfl ?_
        by_cases gc : dm < 10
        · have hb : rp_b (σ, dm, sm, dd, sr, i) = true := by unfold rp_b rp_may; rw [decide_eq_true (show σ.2.1 = 1 from k2), decide_eq_true (show σ.2.2.2.1 = 0 by omega)]; exact decide_eq_true gc
          have hit := it_debt (tx := tx) (dd := dd) (sr := sr) (i := i) (dm := dm) (sm := sm) hσ hT hb (by omega)
          obtain ⟨-, T1, k1'⟩ := st_y (b := rp_b (σ, dm, sm, dd, sr, i)) hln hl hB hσ hT hb
          have r1 : 0 ≤ cl_e bt ln cp ∧ cl_e bt ln cp ≤ ln := by rw [← hT.2.1]; exact hσ.1
          have hE := lp_go (tx := tx) (ln := ln) (m := m) hg
          rw [hE] at hQ1 hQ0
          have hmI : rp_ok ln (rp_it tx ln (σ, dm, sm, dd, sr, i)) := rp_ok_it hln hB hok (by show i ≤ 999; omega)
          have hmG : rp_go (rp_it tx ln (σ, dm, sm, dd, sr, i)) = true → 26 < (rp_it tx ln (σ, dm, sm, dd, sr, i)).2.1 + (rp_it tx ln (σ, dm, sm, dd, sr, i)).2.2.1 + (m : Int) := by
            intro hg2
            have z1 := rp_adds hln hB hok hg2
            have z1 : (rp_it tx ln (σ, dm, sm, dd, sr, i)).2.1 + (rp_it tx ln (σ, dm, sm, dd, sr, i)).2.2.1 = dm + sm + 1 := z1
            have z2 := hm hg
            have z2 : 26 < dm + sm + ((m + 1 : Nat) : Int) := z2
            omega
          rw [hit] at hQ1 hQ0 hmI hmG
          obtain ⟨r, hr, hc⟩ := c_readDebt0 (ki := ki) (ln := ln) (bt := bt) (cp := (cl_e bt ln cp)) (cs := (ra_pl bt ln cp)) (ct := (cl_t bt ln cp)) (cv := (cl_v bt ln cp)) (rr := rr) (dr := dr) (ja := ja) (ea := ea) (ma := ma) (a1 := a1) (a2 := a2) (a3 := a3) (a4 := a4) (a5 := a5) (a6 := a6) (a7 := a7) (a8 := a8) (jb := i) (eb := dm) (mb := sm) (b1 := b1) (b2 := b2) (b3 := b3) (b4 := b4) (b5 := b5) (b6 := b6) (b7 := b7) (b8 := b8) (re := re) (fl := fl) (g1 := g1) (g2 := g2) (g3 := g3) (g4 := g4) (g5 := g5) (D := D)  (tx := tx) (σ := (pt_tk tx ln (rp_b (σ, dm, sm, dd, sr, i)) σ)) hD hln hl hB (h := ⟨by omega, by omega⟩) k1' T1 r1
          rcases hc with ⟨c1, x1, x2, x3, x4, c2, c3, c4⟩ | ⟨c1, x1, x2, x3, x4, c2, c3⟩
          · subst c2
            refine r_al rfl rfl ?_
            refine r_v1s rfl rfl cg_3 rfl hr ?_
            refine r_is (lv' := [(3, _), (2, _), (0, _), (1, _)]) rfl rfl rfl ?_
            refine r_goto rfl rfl ?_
            refine r_il rfl rfl ?_
            refine r_zne rfl rfl (by decide) (fun gz => ?_) (fun gz => ?_)
            · refine r_al rfl rfl ?_
              refine r_gf rfl rfl cg_3 rfl ?_
              refine r_dup rfl rfl ?_
              refine r_gf rfl rfl cg_14 rfl ?_
              refine r_ic rfl ?_
              refine r_add rfl ?_
              refine r_pf rfl rfl cg_14 rfl cp_jb ?_
              refine r_inc (lv' := [(2, _), (3, _), (0, _), (1, _)]) rfl rfl rfl rfl ?_
              refine r_goto rfl rfl ?_
              obtain ⟨d1, d2, -, -⟩ := tk_well (rd_ok hln hB k1') c1
              obtain ⟨e1, e2, e3⟩ := rd_alive hln hB k1' d1
              refine rn_up (by omega) (c_loop0 hD hln hl hB m _ (i + 1) 1 hmI c3 c4 (rd_rows hln hB k1' ⟨by omega, by omega⟩ hRd) hRs (rd_DW hln hB k1' ⟨by omega, by omega⟩ d1 hWd) hWs (fun j hj => ?_) hAs hmG (by show i + 1 + (m : Int) ≤ 300; omega) hQ1 hQ0)
              exact ⟨i7_upd (hAd j hj).1 (i7_of e1 (by decide) (by decide)), i7_upd (hAd j hj).2.1 (i7_of e2 (by decide) (by decide)), i7_upd (hAd j hj).2.2 (i7_of (by omega) (by decide) (by decide))⟩
            · exact absurd gz (by decide)
          · subst c2
            refine r_al rfl rfl ?_
            refine r_v1s rfl rfl cg_3 rfl hr ?_
            refine r_is (lv' := [(3, _), (2, _), (0, _), (1, _)]) rfl rfl rfl ?_
            refine r_goto rfl rfl ?_
            refine r_il rfl rfl ?_
            refine r_zne rfl rfl (by decide) (fun gz => ?_) (fun gz => ?_)
            · exact absurd rfl gz
            · rw [lp_stop (go_n c1)] at hQ0
              refine r_ic rfl ?_
              exact r_retb rfl rfl (by omega) (hQ0 _ _ _ _ _ _ _ _ _ _ _ _ _ _ _ c1 c3 (by omega) (by omega) hAd hAs)
        · have hb : rp_b (σ, dm, sm, dd, sr, i) = false := by unfold rp_b rp_may; rw [decide_eq_true (show σ.2.2.2.1 = 0 by omega), decide_eq_false gc, cond_true, Bool.and_false]
          have hd := it_dead (tx := tx) (dd := dd) (sr := sr) (i := i) (dm := dm) (sm := sm) hσ hT hb
          have hE : rp_lp tx ln (m + 1) (σ, dm, sm, dd, sr, i) = rp_it tx ln (σ, dm, sm, dd, sr, i) := by rw [lp_go hg, lp_stop (go_n (by rw [hd.1]; exact hd.2))]
          rw [hE] at hQ0
          refine r_al rfl rfl ?_
          refine r_v1s rfl rfl cg_3 rfl (c_readDebtF0 (show 10 ≤ dm ∧ dm ≤ 100 from ⟨by omega, by omega⟩)) ?_
          refine r_is (lv' := [(3, _), (2, _), (0, _), (1, _)]) rfl rfl rfl ?_
          refine r_goto rfl rfl ?_
          refine r_il rfl rfl ?_
          refine r_zne rfl rfl (by decide) (fun gz => ?_) (fun gz => ?_)
          · exact absurd rfl gz
          · refine r_ic rfl ?_
            exact r_retb rfl rfl (by omega) (hQ0 _ _ _ _ _ _ _ _ _ _ _ _ _ _ _ (by rw [hd.1]; exact hd.2) hd.1.symm (by omega) (by omega) hAd hAs)
      · refine r_ts (off := 60) rfl (by rw [k0]; decide) (by rw [k0]; rfl) rfl ?_
        by_cases gc : sm < 16
        · have hb : rp_b (σ, dm, sm, dd, sr, i) = true := by unfold rp_b rp_may; rw [decide_eq_true (show σ.2.1 = 1 from k2), decide_eq_false (show ¬ σ.2.2.2.1 = 0 by omega), decide_eq_true (show σ.2.2.2.1 < 3 by omega)]; exact decide_eq_true gc
          have hit := it_stand (tx := tx) (dd := dd) (sr := sr) (i := i) (dm := dm) (sm := sm) hσ hT hb (by omega)
          obtain ⟨-, T1, k1'⟩ := st_y (b := rp_b (σ, dm, sm, dd, sr, i)) hln hl hB hσ hT hb
          have r1 : 0 ≤ cl_e bt ln cp ∧ cl_e bt ln cp ≤ ln := by rw [← hT.2.1]; exact hσ.1
          have hE := lp_go (tx := tx) (ln := ln) (m := m) hg
          rw [hE] at hQ1 hQ0
          have hmI : rp_ok ln (rp_it tx ln (σ, dm, sm, dd, sr, i)) := rp_ok_it hln hB hok (by show i ≤ 999; omega)
          have hmG : rp_go (rp_it tx ln (σ, dm, sm, dd, sr, i)) = true → 26 < (rp_it tx ln (σ, dm, sm, dd, sr, i)).2.1 + (rp_it tx ln (σ, dm, sm, dd, sr, i)).2.2.1 + (m : Int) := by
            intro hg2
            have z1 := rp_adds hln hB hok hg2
            have z1 : (rp_it tx ln (σ, dm, sm, dd, sr, i)).2.1 + (rp_it tx ln (σ, dm, sm, dd, sr, i)).2.2.1 = dm + sm + 1 := z1
            have z2 := hm hg
            have z2 : 26 < dm + sm + ((m + 1 : Nat) : Int) := z2
            omega
          rw [hit] at hQ1 hQ0 hmI hmG
          obtain ⟨r, hr, hc⟩ := c_readStand0 (ki := ki) (ln := ln) (bt := bt) (cp := (cl_e bt ln cp)) (cs := (ra_pl bt ln cp)) (ct := (cl_t bt ln cp)) (cv := (cl_v bt ln cp)) (rr := rr) (dr := dr) (ja := ja) (ea := ea) (ma := ma) (a1 := a1) (a2 := a2) (a3 := a3) (a4 := a4) (a5 := a5) (a6 := a6) (a7 := a7) (a8 := a8) (jb := i) (eb := dm) (mb := sm) (b1 := b1) (b2 := b2) (b3 := b3) (b4 := b4) (b5 := b5) (b6 := b6) (b7 := b7) (b8 := b8) (re := re) (fl := fl) (g1 := g1) (g2 := g2) (g3 := g3) (g4 := g4) (g5 := g5) (D := D) (dd := dd) (tx := tx) (σ := (pt_tk tx ln (rp_b (σ, dm, sm, dd, sr, i)) σ)) hD hln hl hB (h := ⟨by omega, by omega⟩) (hd := ⟨by omega, by omega⟩) (hR := hRd) (hW := hWd) k1' T1 r1
          rcases hc with ⟨c1, x1, x2, x3, x4, c2, c3, c4⟩ | ⟨c1, x1, x2, x3, x4, c2, c3⟩
          · subst c2
            refine r_al rfl rfl ?_
            refine r_v1s rfl rfl cg_3 rfl hr ?_
            refine r_is (lv' := [(3, _), (2, _), (0, _), (1, _)]) rfl rfl rfl ?_
            refine r_goto rfl rfl ?_
            refine r_il rfl rfl ?_
            refine r_zne rfl rfl (by decide) (fun gz => ?_) (fun gz => ?_)
            · refine r_al rfl rfl ?_
              refine r_gf rfl rfl cg_3 rfl ?_
              refine r_dup rfl rfl ?_
              refine r_gf rfl rfl cg_14 rfl ?_
              refine r_ic rfl ?_
              refine r_add rfl ?_
              refine r_pf rfl rfl cg_14 rfl cp_jb ?_
              refine r_inc (lv' := [(2, _), (3, _), (0, _), (1, _)]) rfl rfl rfl rfl ?_
              refine r_goto rfl rfl ?_
              obtain ⟨d1, d2, -, -⟩ := tk_well (rs_ok hln hB k1') c1
              obtain ⟨e1, e2, e3⟩ := rs_alive hln hB k1' d1
              refine rn_up (by omega) (c_loop0 hD hln hl hB m _ (i + 1) 1 hmI c3 c4 hRd (rs_rows hln hB k1' ⟨by omega, by omega⟩ hRs) hWd (rs_DW hln hB k1' ⟨by omega, by omega⟩ ⟨by omega, by omega⟩ d1 hWs) hAd (fun j hj => ?_) hmG (by show i + 1 + (m : Int) ≤ 300; omega) hQ1 hQ0)
              exact ⟨i7_upd (hAs j hj).1 (i7_of e1 (by decide) (by decide)), i7_upd (hAs j hj).2.1 (i7_of (by omega) (by decide) (by decide)), i7_upd (hAs j hj).2.2.1 (i7_of (by omega) (by decide) (by decide)), i7_upd (hAs j hj).2.2.2 (i7_of (by decide) (by decide) (by decide))⟩
            · exact absurd gz (by decide)
          · subst c2
            refine r_al rfl rfl ?_
            refine r_v1s rfl rfl cg_3 rfl hr ?_
            refine r_is (lv' := [(3, _), (2, _), (0, _), (1, _)]) rfl rfl rfl ?_
            refine r_goto rfl rfl ?_
            refine r_il rfl rfl ?_
            refine r_zne rfl rfl (by decide) (fun gz => ?_) (fun gz => ?_)
            · exact absurd rfl gz
            · rw [lp_stop (go_n c1)] at hQ0
              refine r_ic rfl ?_
              exact r_retb rfl rfl (by omega) (hQ0 _ _ _ _ _ _ _ _ _ _ _ _ _ _ _ c1 c3 (by omega) (by omega) hAd hAs)
        · have hb : rp_b (σ, dm, sm, dd, sr, i) = false := by unfold rp_b rp_may; rw [decide_eq_false (show ¬ σ.2.2.2.1 = 0 by omega), decide_eq_false gc, cond_false, Bool.and_false, Bool.and_false]
          have hd := it_dead (tx := tx) (dd := dd) (sr := sr) (i := i) (dm := dm) (sm := sm) hσ hT hb
          have hE : rp_lp tx ln (m + 1) (σ, dm, sm, dd, sr, i) = rp_it tx ln (σ, dm, sm, dd, sr, i) := by rw [lp_go hg, lp_stop (go_n (by rw [hd.1]; exact hd.2))]
          rw [hE] at hQ0
          refine r_al rfl rfl ?_
          refine r_v1s rfl rfl cg_3 rfl (c_readStandF0 (show 16 ≤ sm ∧ sm ≤ 100 from ⟨by omega, by omega⟩)) ?_
          refine r_is (lv' := [(3, _), (2, _), (0, _), (1, _)]) rfl rfl rfl ?_
          refine r_goto rfl rfl ?_
          refine r_il rfl rfl ?_
          refine r_zne rfl rfl (by decide) (fun gz => ?_) (fun gz => ?_)
          · exact absurd rfl gz
          · refine r_ic rfl ?_
            exact r_retb rfl rfl (by omega) (hQ0 _ _ _ _ _ _ _ _ _ _ _ _ _ _ _ (by rw [hd.1]; exact hd.2) hd.1.symm (by omega) (by omega) hAd hAs)
      · refine r_ts (off := 68) rfl (by rw [k0]; decide) (by rw [k0]; rfl) rfl ?_
        by_cases gc : sm < 16
        · have hb : rp_b (σ, dm, sm, dd, sr, i) = true := by unfold rp_b rp_may; rw [decide_eq_true (show σ.2.1 = 1 from k2), decide_eq_false (show ¬ σ.2.2.2.1 = 0 by omega), decide_eq_true (show σ.2.2.2.1 < 3 by omega)]; exact decide_eq_true gc
          have hit := it_over (tx := tx) (dd := dd) (sr := sr) (i := i) (dm := dm) (sm := sm) hσ hT hb (by omega)
          obtain ⟨-, T1, k1'⟩ := st_y (b := rp_b (σ, dm, sm, dd, sr, i)) hln hl hB hσ hT hb
          have r1 : 0 ≤ cl_e bt ln cp ∧ cl_e bt ln cp ≤ ln := by rw [← hT.2.1]; exact hσ.1
          have hE := lp_go (tx := tx) (ln := ln) (m := m) hg
          rw [hE] at hQ1 hQ0
          have hmI : rp_ok ln (rp_it tx ln (σ, dm, sm, dd, sr, i)) := rp_ok_it hln hB hok (by show i ≤ 999; omega)
          have hmG : rp_go (rp_it tx ln (σ, dm, sm, dd, sr, i)) = true → 26 < (rp_it tx ln (σ, dm, sm, dd, sr, i)).2.1 + (rp_it tx ln (σ, dm, sm, dd, sr, i)).2.2.1 + (m : Int) := by
            intro hg2
            have z1 := rp_adds hln hB hok hg2
            have z1 : (rp_it tx ln (σ, dm, sm, dd, sr, i)).2.1 + (rp_it tx ln (σ, dm, sm, dd, sr, i)).2.2.1 = dm + sm + 1 := z1
            have z2 := hm hg
            have z2 : 26 < dm + sm + ((m + 1 : Nat) : Int) := z2
            omega
          rw [hit] at hQ1 hQ0 hmI hmG
          obtain ⟨r, hr, hc⟩ := c_readOver0 (ki := ki) (ln := ln) (bt := bt) (cp := (cl_e bt ln cp)) (cs := (ra_pl bt ln cp)) (ct := (cl_t bt ln cp)) (cv := (cl_v bt ln cp)) (rr := rr) (dr := dr) (ja := ja) (ea := ea) (ma := ma) (a1 := a1) (a2 := a2) (a3 := a3) (a4 := a4) (a5 := a5) (a6 := a6) (a7 := a7) (a8 := a8) (jb := i) (eb := dm) (mb := sm) (b1 := b1) (b2 := b2) (b3 := b3) (b4 := b4) (b5 := b5) (b6 := b6) (b7 := b7) (b8 := b8) (re := re) (fl := fl) (g1 := g1) (g2 := g2) (g3 := g3) (g4 := g4) (g5 := g5) (D := D) (sr := sr) (tx := tx) (σ := (pt_tk tx ln (rp_b (σ, dm, sm, dd, sr, i)) σ)) hD hln hl hB (h := ⟨by omega, by omega⟩) (hR := hRs) (hW := hWs) k1' T1 r1
          rcases hc with ⟨c1, x1, x2, x3, x4, c2, c3, c4⟩ | ⟨c1, x1, x2, x3, x4, c2, c3⟩
          · subst c2
            refine r_al rfl rfl ?_
            refine r_v1s rfl rfl cg_3 rfl hr ?_
            refine r_is (lv' := [(3, _), (2, _), (0, _), (1, _)]) rfl rfl rfl ?_
            refine r_goto rfl rfl ?_
            refine r_il rfl rfl ?_
            refine r_zne rfl rfl (by decide) (fun gz => ?_) (fun gz => ?_)
            · refine r_al rfl rfl ?_
              refine r_gf rfl rfl cg_3 rfl ?_
              refine r_dup rfl rfl ?_
              refine r_gf rfl rfl cg_14 rfl ?_
              refine r_ic rfl ?_
              refine r_add rfl ?_
              refine r_pf rfl rfl cg_14 rfl cp_jb ?_
              refine r_inc (lv' := [(2, _), (3, _), (0, _), (1, _)]) rfl rfl rfl rfl ?_
              refine r_goto rfl rfl ?_
              obtain ⟨d1, d2, -, -⟩ := tk_well (rv_ok hln hB k1') c1
              obtain ⟨e1, e2, e3⟩ := rv_alive hln hB k1' d1
              refine rn_up (by omega) (c_loop0 hD hln hl hB m _ (i + 1) 1 hmI c3 c4 hRd (rv_rows hln hB k1' ⟨by omega, by omega⟩ d1 hRs) hWd (rv_DW hln hB k1' ⟨by omega, by omega⟩ d1 hWs) hAd (fun j hj => ?_) hmG (by show i + 1 + (m : Int) ≤ 300; omega) hQ1 hQ0)
              exact ⟨i7_upd (hAs j hj).1 (i7_of e1 (by decide) (by decide)), i7_upd (hAs j hj).2.1 (by rw [iv_s]; exact (hAs _ (by omega)).2.1), i7_upd (hAs j hj).2.2.1 (i7_of (by decide) (by decide) (by decide)), i7_upd (i7_upd (hAs j hj).2.2.2 (i7_of (by decide) (by decide) (by decide))) (i7_of (by omega) (by decide) (by decide))⟩
            · exact absurd gz (by decide)
          · subst c2
            refine r_al rfl rfl ?_
            refine r_v1s rfl rfl cg_3 rfl hr ?_
            refine r_is (lv' := [(3, _), (2, _), (0, _), (1, _)]) rfl rfl rfl ?_
            refine r_goto rfl rfl ?_
            refine r_il rfl rfl ?_
            refine r_zne rfl rfl (by decide) (fun gz => ?_) (fun gz => ?_)
            · exact absurd rfl gz
            · rw [lp_stop (go_n c1)] at hQ0
              refine r_ic rfl ?_
              exact r_retb rfl rfl (by omega) (hQ0 _ _ _ _ _ _ _ _ _ _ _ _ _ _ _ c1 c3 (by omega) (by omega) hAd hAs)
        · have hb : rp_b (σ, dm, sm, dd, sr, i) = false := by unfold rp_b rp_may; rw [decide_eq_false (show ¬ σ.2.2.2.1 = 0 by omega), decide_eq_false gc, cond_false, Bool.and_false, Bool.and_false]
          have hd := it_dead (tx := tx) (dd := dd) (sr := sr) (i := i) (dm := dm) (sm := sm) hσ hT hb
          have hE : rp_lp tx ln (m + 1) (σ, dm, sm, dd, sr, i) = rp_it tx ln (σ, dm, sm, dd, sr, i) := by rw [lp_go hg, lp_stop (go_n (by rw [hd.1]; exact hd.2))]
          rw [hE] at hQ0
          refine r_al rfl rfl ?_
          refine r_v1s rfl rfl cg_3 rfl (c_readOverF0 (show 16 ≤ sm ∧ sm ≤ 100 from ⟨by omega, by omega⟩)) ?_
          refine r_is (lv' := [(3, _), (2, _), (0, _), (1, _)]) rfl rfl rfl ?_
          refine r_goto rfl rfl ?_
          refine r_il rfl rfl ?_
          refine r_zne rfl rfl (by decide) (fun gz => ?_) (fun gz => ?_)
          · exact absurd rfl gz
          · refine r_ic rfl ?_
            exact r_retb rfl rfl (by omega) (hQ0 _ _ _ _ _ _ _ _ _ _ _ _ _ _ _ (by rw [hd.1]; exact hd.2) hd.1.symm (by omega) (by omega) hAd hAs)
      · have k9 : mm_tsw 76 0 8 #[50, 76, 76, 76, 76, 76, 52, 60, 68] (cl_t bt ln cp) = some 76 := by unfold mm_tsw; rw [decide_eq_true (show 8 < cl_t bt ln cp by omega), Bool.or_true]; rfl
        refine r_ts (off := 76) rfl (by omega) k9 rfl ?_
        have hb : rp_b (σ, dm, sm, dd, sr, i) = false := by unfold rp_b rp_may; rw [decide_eq_false (show ¬ σ.2.2.2.1 = 0 by omega), decide_eq_false (show ¬ σ.2.2.2.1 < 3 by omega)]; simp
        have hd := it_dead (tx := tx) (dd := dd) (sr := sr) (i := i) (dm := dm) (sm := sm) hσ hT hb
        have hE : rp_lp tx ln (m + 1) (σ, dm, sm, dd, sr, i) = rp_it tx ln (σ, dm, sm, dd, sr, i) := by rw [lp_go hg, lp_stop (go_n (by rw [hd.1]; exact hd.2))]
        rw [hE] at hQ0
        refine r_ic rfl ?_
        refine r_is (lv' := [(3, _), (2, _), (0, _), (1, _)]) rfl rfl rfl ?_
        refine r_il rfl rfl ?_
        refine r_zne rfl rfl (by decide) (fun gz => ?_) (fun gz => ?_)
        · exact absurd rfl gz
        · refine r_ic rfl ?_
          exact r_retb rfl rfl (by omega) (hQ0 _ _ _ _ _ _ _ _ _ _ _ _ _ _ _ (by rw [hd.1]; exact hd.2) hd.1.symm (by omega) (by omega) hAd hAs)
theorem c_loop1 (hD : D.length = 38) (hln : 0 ≤ ln ∧ ln ≤ 400) (hl : tx_like bt tx ln) (hB : ∀ k : Nat, (k : Int) < ln → 0 ≤ (tx k).toInt ∧ (tx k).toInt ≤ 255) : ∀ (m : Nat) (u : pT) (i b : Int) {cp cs ct cv : Int} {a1 a2 a3 a4 a5 a6 a7 a8 : Nat → Int32}, rp_ok ln u → TR bt ln cp u.1 → (0 ≤ cp ∧ cp ≤ ln) → RRd u.2.1 a1 a2 a3 u.2.2.2.1 → RRs u.2.2.1 a4 a5 a6 a7 a8 u.2.2.2.2.1 → DWd u.2.1 u.2.2.2.1 → DWs u.2.2.1 u.2.2.2.2.1 → ARd a1 a2 a3 → ARs a4 a5 a6 a7 → (rp_go u = true → 26 < u.2.1 + u.2.2.1 + (m : Int)) → u.2.2.2.2.2 + (m : Int) ≤ 300 → (∀ (y1 y2 y3 y4 : Int) (k1 k2 k3 k4 k5 k6 k7 k8 : Nat → Int32), (rp_lp tx ln m u).1.2.2.2.2 < 0 → RRd (rp_lp tx ln m u).2.1 k1 k2 k3 (rp_lp tx ln m u).2.2.2.1 → RRs (rp_lp tx ln m u).2.2.1 k4 k5 k6 k7 k8 (rp_lp tx ln m u).2.2.2.2.1 → DWd (rp_lp tx ln m u).2.1 (rp_lp tx ln m u).2.2.2.1 → DWs (rp_lp tx ln m u).2.2.1 (rp_lp tx ln m u).2.2.2.2.1 → ARd k1 k2 k3 → ARs k4 k5 k6 k7 → Q (some (iv 1), (cW ki ln bt (.ref 5) y1 y2 y3 y4 rr dr (rp_lp tx ln m u).2.2.2.2.2 (rp_lp tx ln m u).2.1 (rp_lp tx ln m u).2.2.1 k1 k2 k3 k4 k5 k6 k7 k8 jb eb mb b1 b2 b3 b4 b5 b6 b7 b8 re fl g1 g2 g3 g4 g5 D))) → (∀ (y1 y2 y3 y4 : Int) (k1 k2 k3 k4 k5 k6 k7 k8 : Nat → Int32) (z1 z2 z3 : Int), 0 ≤ (rp_lp tx ln m u).1.2.2.2.2 → y2 = (rp_lp tx ln m u).1.2.2.2.2 → (0 ≤ z2 ∧ z2 ≤ 10) → (0 ≤ z3 ∧ z3 ≤ 16) → ARd k1 k2 k3 → ARs k4 k5 k6 k7 → Q (some (iv 0), (cW ki ln bt (.ref 5) y1 y2 y3 y4 rr dr z1 z2 z3 k1 k2 k3 k4 k5 k6 k7 k8 jb eb mb b1 b2 b3 b4 b5 b6 b7 b8 re fl g1 g2 g3 g4 g5 D))) → rn_X7_read (100 * m + 200) (19, [(2, iv (u.2.2.2.2.2)), (3, iv (b)), (0, .ref 3), (1, .ref 5)], [], (cW ki ln bt (.ref 5) cp cs ct cv rr dr u.2.2.2.2.2 u.2.1 u.2.2.1 a1 a2 a3 a4 a5 a6 a7 a8 jb eb mb b1 b2 b3 b4 b5 b6 b7 b8 re fl g1 g2 g3 g4 g5 D)) Q := by
  intro m
  induction m with
  | zero =>
    intro u i0 b cp cs ct cv a1 a2 a3 a4 a5 a6 a7 a8 hok hT hcp hRd hRs hWd hWs hAd hAs hm hi hQ1 hQ0
    obtain ⟨σ, dm, sm, dd, sr, i⟩ := u
    have hok2 := hok
    obtain ⟨hσ, hdm, hsm, hit0, -⟩ := hok2
    have hσ : pt_ok ln σ := hσ
    have hdm : 0 ≤ dm ∧ dm ≤ 10 := hdm
    have hsm : 0 ≤ sm ∧ sm ≤ 16 := hsm
    have hit0 : 0 ≤ i ∧ i ≤ 1000 := hit0
    have hT : TR bt ln cp σ := hT
    obtain ⟨t0, t1, t2, t3⟩ := id hT
    unfold tkrel at t3
    have hi : i + ((0 : Nat) : Int) ≤ 300 := hi
    have hg : rp_go (σ, dm, sm, dd, sr, i) = false := by
      cases hg : rp_go (σ, dm, sm, dd, sr, i) with
      | false => rfl
      | true =>
        have h1 := hm hg
        have h1 : 26 < dm + sm + ((0 : Nat) : Int) := h1
        omega
    have k1 : σ.2.1 = 0 := by
      by_cases q : σ.2.1 = 0
      · exact q
      · rw [show rp_go (σ, dm, sm, dd, sr, i) = true by unfold rp_go; rw [decide_eq_true hT.1, decide_eq_false q]; rfl] at hg
        cases hg
    have k0 : cl_t bt ln cp = 0 := by omega
    have hQ1 : ∀ (y1 y2 y3 y4 : Int) (k1 k2 k3 k4 k5 k6 k7 k8 : Nat → Int32), (σ, dm, sm, dd, sr, i).1.2.2.2.2 < 0 → RRd (σ, dm, sm, dd, sr, i).2.1 k1 k2 k3 (σ, dm, sm, dd, sr, i).2.2.2.1 → RRs (σ, dm, sm, dd, sr, i).2.2.1 k4 k5 k6 k7 k8 (σ, dm, sm, dd, sr, i).2.2.2.2.1 → DWd (σ, dm, sm, dd, sr, i).2.1 (σ, dm, sm, dd, sr, i).2.2.2.1 → DWs (σ, dm, sm, dd, sr, i).2.2.1 (σ, dm, sm, dd, sr, i).2.2.2.2.1 → ARd k1 k2 k3 → ARs k4 k5 k6 k7 → Q (some (iv 1), (cW ki ln bt (.ref 5) y1 y2 y3 y4 rr dr (σ, dm, sm, dd, sr, i).2.2.2.2.2 (σ, dm, sm, dd, sr, i).2.1 (σ, dm, sm, dd, sr, i).2.2.1 k1 k2 k3 k4 k5 k6 k7 k8 jb eb mb b1 b2 b3 b4 b5 b6 b7 b8 re fl g1 g2 g3 g4 g5 D)) := hQ1
    refine r_il rfl rfl ?_
    refine r_si rfl (by decide) ?_
    refine r_cgt rfl rfl (by omega) (by omega) (fun gi => ?_) (fun gi => ?_)
    · omega
    · refine r_al rfl rfl ?_
      refine r_v1n rfl rfl cg_3 rfl (c_readToken hD hln hcp) ?_
      refine r_al rfl rfl ?_
      refine r_gf rfl rfl cg_3 rfl ?_
      refine r_ts (off := 50) rfl (by rw [k0]; decide) (by rw [k0]; rfl) rfl ?_
      refine r_ic rfl ?_
      exact r_retb rfl rfl (by omega) (hQ1 _ _ _ _ _ _ _ _ _ _ _ _ hT.1 hRd hRs hWd hWs hAd hAs)
  | succ m ih =>
    intro u i0 b cp cs ct cv a1 a2 a3 a4 a5 a6 a7 a8 hok hT hcp hRd hRs hWd hWs hAd hAs hm hi hQ1 hQ0
    obtain ⟨σ, dm, sm, dd, sr, i⟩ := u
    have hok2 := hok
    obtain ⟨hσ, hdm, hsm, hit0, -⟩ := hok2
    have hσ : pt_ok ln σ := hσ
    have hdm : 0 ≤ dm ∧ dm ≤ 10 := hdm
    have hsm : 0 ≤ sm ∧ sm ≤ 16 := hsm
    have hit0 : 0 ≤ i ∧ i ≤ 1000 := hit0
    have hT : TR bt ln cp σ := hT
    obtain ⟨t0, t1, t2, t3⟩ := id hT
    unfold tkrel at t3
    have hi : i + ((m + 1 : Nat) : Int) ≤ 300 := hi
    refine rn_up (N := 100 * m + 200 + 100) (by omega) ?_
    refine r_il rfl rfl ?_
    refine r_si rfl (by decide) ?_
    refine r_cgt rfl rfl (by omega) (by omega) (fun gi => ?_) (fun gi => ?_)
    · omega
    · refine r_al rfl rfl ?_
      refine r_v1n rfl rfl cg_3 rfl (c_readToken hD hln hcp) ?_
      refine r_al rfl rfl ?_
      refine r_gf rfl rfl cg_3 rfl ?_
      rcases t3 with ⟨k0, k1⟩ | ⟨k0, k1⟩ | ⟨k0, k1, k2⟩ | ⟨k0, k1, k2⟩ | ⟨k0, k1⟩ | ⟨k0, k1⟩ | ⟨k0, k1, k2, k3⟩
      · refine r_ts (off := 50) rfl (by rw [k0]; decide) (by rw [k0]; rfl) rfl ?_
        have hg : rp_go (σ, dm, sm, dd, sr, i) = false := by unfold rp_go; rw [decide_eq_true k1, Bool.not_true, Bool.and_false]
        have hE : rp_lp tx ln (m + 1) (σ, dm, sm, dd, sr, i) = (σ, dm, sm, dd, sr, i) := lp_stop hg
        rw [hE] at hQ1
        refine r_ic rfl ?_
        exact r_retb rfl rfl (by omega) (hQ1 _ _ _ _ _ _ _ _ _ _ _ _ hT.1 hRd hRs hWd hWs hAd hAs)
      · have hg : rp_go (σ, dm, sm, dd, sr, i) = true := by unfold rp_go; rw [decide_eq_true hT.1, decide_eq_false (show ¬ σ.2.1 = 0 by omega)]; rfl
        refine r_ts (off := 76) rfl (by rw [k0]; decide) (by rw [k0]; rfl) rfl ?_
        have hb : rp_b (σ, dm, sm, dd, sr, i) = false := by unfold rp_b; rw [decide_eq_false (show ¬ σ.2.1 = 1 by omega)]; rfl
        have hd := it_dead (tx := tx) (dd := dd) (sr := sr) (i := i) (dm := dm) (sm := sm) hσ hT hb
        have hE : rp_lp tx ln (m + 1) (σ, dm, sm, dd, sr, i) = rp_it tx ln (σ, dm, sm, dd, sr, i) := by rw [lp_go hg, lp_stop (go_n (by rw [hd.1]; exact hd.2))]
        rw [hE] at hQ0
        refine r_ic rfl ?_
        refine r_is (lv' := [(3, _), (2, _), (0, _), (1, _)]) rfl rfl rfl ?_
        refine r_il rfl rfl ?_
        refine r_zne rfl rfl (by decide) (fun gz => ?_) (fun gz => ?_)
        · exact absurd rfl gz
        · refine r_ic rfl ?_
          exact r_retb rfl rfl (by omega) (hQ0 _ _ _ _ _ _ _ _ _ _ _ _ _ _ _ (by rw [hd.1]; exact hd.2) hd.1.symm (by omega) (by omega) hAd hAs)
      · have hg : rp_go (σ, dm, sm, dd, sr, i) = true := by unfold rp_go; rw [decide_eq_true hT.1, decide_eq_false (show ¬ σ.2.1 = 0 by omega)]; rfl
        refine r_ts (off := 76) rfl (by rw [k0]; decide) (by rw [k0]; rfl) rfl ?_
        have hb : rp_b (σ, dm, sm, dd, sr, i) = false := by unfold rp_b; rw [decide_eq_false (show ¬ σ.2.1 = 1 by omega)]; rfl
        have hd := it_dead (tx := tx) (dd := dd) (sr := sr) (i := i) (dm := dm) (sm := sm) hσ hT hb
        have hE : rp_lp tx ln (m + 1) (σ, dm, sm, dd, sr, i) = rp_it tx ln (σ, dm, sm, dd, sr, i) := by rw [lp_go hg, lp_stop (go_n (by rw [hd.1]; exact hd.2))]
        rw [hE] at hQ0
        refine r_ic rfl ?_
        refine r_is (lv' := [(3, _), (2, _), (0, _), (1, _)]) rfl rfl rfl ?_
        refine r_il rfl rfl ?_
        refine r_zne rfl rfl (by decide) (fun gz => ?_) (fun gz => ?_)
        · exact absurd rfl gz
        · refine r_ic rfl ?_
          exact r_retb rfl rfl (by omega) (hQ0 _ _ _ _ _ _ _ _ _ _ _ _ _ _ _ (by rw [hd.1]; exact hd.2) hd.1.symm (by omega) (by omega) hAd hAs)
      · have hg : rp_go (σ, dm, sm, dd, sr, i) = true := by unfold rp_go; rw [decide_eq_true hT.1, decide_eq_false (show ¬ σ.2.1 = 0 by omega)]; rfl
        refine r_ts (off := 76) rfl (by rw [k0]; decide) (by rw [k0]; rfl) rfl ?_
        have hb : rp_b (σ, dm, sm, dd, sr, i) = false := by unfold rp_b; rw [decide_eq_false (show ¬ σ.2.1 = 1 by omega)]; rfl
        have hd := it_dead (tx := tx) (dd := dd) (sr := sr) (i := i) (dm := dm) (sm := sm) hσ hT hb
        have hE : rp_lp tx ln (m + 1) (σ, dm, sm, dd, sr, i) = rp_it tx ln (σ, dm, sm, dd, sr, i) := by rw [lp_go hg, lp_stop (go_n (by rw [hd.1]; exact hd.2))]
        rw [hE] at hQ0
        refine r_ic rfl ?_
        refine r_is (lv' := [(3, _), (2, _), (0, _), (1, _)]) rfl rfl rfl ?_
        refine r_il rfl rfl ?_
        refine r_zne rfl rfl (by decide) (fun gz => ?_) (fun gz => ?_)
        · exact absurd rfl gz
        · refine r_ic rfl ?_
          exact r_retb rfl rfl (by omega) (hQ0 _ _ _ _ _ _ _ _ _ _ _ _ _ _ _ (by rw [hd.1]; exact hd.2) hd.1.symm (by omega) (by omega) hAd hAs)
      · have hg : rp_go (σ, dm, sm, dd, sr, i) = true := by unfold rp_go; rw [decide_eq_true hT.1, decide_eq_false (show ¬ σ.2.1 = 0 by omega)]; rfl
        refine r_ts (off := 76) rfl (by rw [k0]; decide) (by rw [k0]; rfl) rfl ?_
        have hb : rp_b (σ, dm, sm, dd, sr, i) = false := by unfold rp_b; rw [decide_eq_false (show ¬ σ.2.1 = 1 by omega)]; rfl
        have hd := it_dead (tx := tx) (dd := dd) (sr := sr) (i := i) (dm := dm) (sm := sm) hσ hT hb
        have hE : rp_lp tx ln (m + 1) (σ, dm, sm, dd, sr, i) = rp_it tx ln (σ, dm, sm, dd, sr, i) := by rw [lp_go hg, lp_stop (go_n (by rw [hd.1]; exact hd.2))]
        rw [hE] at hQ0
        refine r_ic rfl ?_
        refine r_is (lv' := [(3, _), (2, _), (0, _), (1, _)]) rfl rfl rfl ?_
        refine r_il rfl rfl ?_
        refine r_zne rfl rfl (by decide) (fun gz => ?_) (fun gz => ?_)
        · exact absurd rfl gz
        · refine r_ic rfl ?_
          exact r_retb rfl rfl (by omega) (hQ0 _ _ _ _ _ _ _ _ _ _ _ _ _ _ _ (by rw [hd.1]; exact hd.2) hd.1.symm (by omega) (by omega) hAd hAs)
      · have hg : rp_go (σ, dm, sm, dd, sr, i) = true := by unfold rp_go; rw [decide_eq_true hT.1, decide_eq_false (show ¬ σ.2.1 = 0 by omega)]; rfl
        refine r_ts (off := 76) rfl (by rw [k0]; decide) (by rw [k0]; rfl) rfl ?_
        have hb : rp_b (σ, dm, sm, dd, sr, i) = false := by unfold rp_b; rw [decide_eq_false (show ¬ σ.2.1 = 1 by omega)]; rfl
        have hd := it_dead (tx := tx) (dd := dd) (sr := sr) (i := i) (dm := dm) (sm := sm) hσ hT hb
        have hE : rp_lp tx ln (m + 1) (σ, dm, sm, dd, sr, i) = rp_it tx ln (σ, dm, sm, dd, sr, i) := by rw [lp_go hg, lp_stop (go_n (by rw [hd.1]; exact hd.2))]
        rw [hE] at hQ0
        refine r_ic rfl ?_
        refine r_is (lv' := [(3, _), (2, _), (0, _), (1, _)]) rfl rfl rfl ?_
        refine r_il rfl rfl ?_
        refine r_zne rfl rfl (by decide) (fun gz => ?_) (fun gz => ?_)
        · exact absurd rfl gz
        · refine r_ic rfl ?_
          exact r_retb rfl rfl (by omega) (hQ0 _ _ _ _ _ _ _ _ _ _ _ _ _ _ _ (by rw [hd.1]; exact hd.2) hd.1.symm (by omega) (by omega) hAd hAs)
      · have hg : rp_go (σ, dm, sm, dd, sr, i) = true := by unfold rp_go; rw [decide_eq_true hT.1, decide_eq_false (show ¬ σ.2.1 = 0 by omega)]; rfl
        have q6 : cl_t bt ln cp = 6 ∨ cl_t bt ln cp = 7 ∨ cl_t bt ln cp = 8 ∨ 9 ≤ cl_t bt ln cp := by omega
        rcases q6 with k0 | k0 | k0 | k0
        · refine r_ts (off := 52) rfl (by rw [k0]; decide) (by rw [k0]; rfl) rfl ?_
          by_cases gc : dm < 10
          · have hb : rp_b (σ, dm, sm, dd, sr, i) = true := by unfold rp_b rp_may; rw [decide_eq_true (show σ.2.1 = 1 from k2), decide_eq_true (show σ.2.2.2.1 = 0 by omega)]; exact decide_eq_true gc
            have hit := it_debt (tx := tx) (dd := dd) (sr := sr) (i := i) (dm := dm) (sm := sm) hσ hT hb (by omega)
            obtain ⟨-, T1, k1'⟩ := st_y (b := rp_b (σ, dm, sm, dd, sr, i)) hln hl hB hσ hT hb
            have r1 : 0 ≤ cl_e bt ln cp ∧ cl_e bt ln cp ≤ ln := by rw [← hT.2.1]; exact hσ.1
            have hE := lp_go (tx := tx) (ln := ln) (m := m) hg
            rw [hE] at hQ1 hQ0
            have hmI : rp_ok ln (rp_it tx ln (σ, dm, sm, dd, sr, i)) := rp_ok_it hln hB hok (by show i ≤ 999; omega)
            have hmG : rp_go (rp_it tx ln (σ, dm, sm, dd, sr, i)) = true → 26 < (rp_it tx ln (σ, dm, sm, dd, sr, i)).2.1 + (rp_it tx ln (σ, dm, sm, dd, sr, i)).2.2.1 + (m : Int) := by
              intro hg2
              have z1 := rp_adds hln hB hok hg2
              have z1 : (rp_it tx ln (σ, dm, sm, dd, sr, i)).2.1 + (rp_it tx ln (σ, dm, sm, dd, sr, i)).2.2.1 = dm + sm + 1 := z1
              have z2 := hm hg
              have z2 : 26 < dm + sm + ((m + 1 : Nat) : Int) := z2
              omega
            rw [hit] at hQ1 hQ0 hmI hmG
            obtain ⟨r, hr, hc⟩ := c_readDebt1 (ki := ki) (ln := ln) (bt := bt) (cp := (cl_e bt ln cp)) (cs := (ra_pl bt ln cp)) (ct := (cl_t bt ln cp)) (cv := (cl_v bt ln cp)) (rr := rr) (dr := dr) (ja := i) (ea := dm) (ma := sm) (a1 := a1) (a2 := a2) (a3 := a3) (a4 := a4) (a5 := a5) (a6 := a6) (a7 := a7) (a8 := a8) (jb := jb) (eb := eb) (mb := mb) (b1 := b1) (b2 := b2) (b3 := b3) (b4 := b4) (b5 := b5) (b6 := b6) (b7 := b7) (b8 := b8) (re := re) (fl := fl) (g1 := g1) (g2 := g2) (g3 := g3) (g4 := g4) (g5 := g5) (D := D)  (tx := tx) (σ := (pt_tk tx ln (rp_b (σ, dm, sm, dd, sr, i)) σ)) hD hln hl hB (h := ⟨by omega, by omega⟩) k1' T1 r1
            rcases hc with ⟨c1, x1, x2, x3, x4, c2, c3, c4⟩ | ⟨c1, x1, x2, x3, x4, c2, c3⟩
            · subst c2
              refine r_al rfl rfl ?_
              refine r_v1s rfl rfl cg_3 rfl hr ?_
              refine r_is (lv' := [(3, _), (2, _), (0, _), (1, _)]) rfl rfl rfl ?_
              refine r_goto rfl rfl ?_
              refine r_il rfl rfl ?_
              refine r_zne rfl rfl (by decide) (fun gz => ?_) (fun gz => ?_)
              · refine r_al rfl rfl ?_
                refine r_gf rfl rfl cg_3 rfl ?_
                refine r_dup rfl rfl ?_
                refine r_gf rfl rfl cg_5 rfl ?_
                refine r_ic rfl ?_
                refine r_add rfl ?_
                refine r_pf rfl rfl cg_5 rfl cp_ja ?_
                refine r_inc (lv' := [(2, _), (3, _), (0, _), (1, _)]) rfl rfl rfl rfl ?_
                refine r_goto rfl rfl ?_
                obtain ⟨d1, d2, -, -⟩ := tk_well (rd_ok hln hB k1') c1
                obtain ⟨e1, e2, e3⟩ := rd_alive hln hB k1' d1
                refine rn_up (by omega) (ih _ (i + 1) 1 hmI c3 c4 (rd_rows hln hB k1' ⟨by omega, by omega⟩ hRd) hRs (rd_DW hln hB k1' ⟨by omega, by omega⟩ d1 hWd) hWs (fun j hj => ?_) hAs hmG (by show i + 1 + (m : Int) ≤ 300; omega) hQ1 hQ0)
                exact ⟨i7_upd (hAd j hj).1 (i7_of e1 (by decide) (by decide)), i7_upd (hAd j hj).2.1 (i7_of e2 (by decide) (by decide)), i7_upd (hAd j hj).2.2 (i7_of (by omega) (by decide) (by decide))⟩
              · exact absurd gz (by decide)
            · subst c2
              refine r_al rfl rfl ?_
              refine r_v1s rfl rfl cg_3 rfl hr ?_
              refine r_is (lv' := [(3, _), (2, _), (0, _), (1, _)]) rfl rfl rfl ?_
              refine r_goto rfl rfl ?_
              refine r_il rfl rfl ?_
              refine r_zne rfl rfl (by decide) (fun gz => ?_) (fun gz => ?_)
              · exact absurd rfl gz
              · rw [lp_stop (go_n c1)] at hQ0
                refine r_ic rfl ?_
                exact r_retb rfl rfl (by omega) (hQ0 _ _ _ _ _ _ _ _ _ _ _ _ _ _ _ c1 c3 (by omega) (by omega) hAd hAs)
          · have hb : rp_b (σ, dm, sm, dd, sr, i) = false := by unfold rp_b rp_may; rw [decide_eq_true (show σ.2.2.2.1 = 0 by omega), decide_eq_false gc, cond_true, Bool.and_false]
            have hd := it_dead (tx := tx) (dd := dd) (sr := sr) (i := i) (dm := dm) (sm := sm) hσ hT hb
            have hE : rp_lp tx ln (m + 1) (σ, dm, sm, dd, sr, i) = rp_it tx ln (σ, dm, sm, dd, sr, i) := by rw [lp_go hg, lp_stop (go_n (by rw [hd.1]; exact hd.2))]
            rw [hE] at hQ0
            refine r_al rfl rfl ?_
            refine r_v1s rfl rfl cg_3 rfl (c_readDebtF1 (show 10 ≤ dm ∧ dm ≤ 100 from ⟨by omega, by omega⟩)) ?_
            refine r_is (lv' := [(3, _), (2, _), (0, _), (1, _)]) rfl rfl rfl ?_
            refine r_goto rfl rfl ?_
            refine r_il rfl rfl ?_
            refine r_zne rfl rfl (by decide) (fun gz => ?_) (fun gz => ?_)
            · exact absurd rfl gz
            · refine r_ic rfl ?_
              exact r_retb rfl rfl (by omega) (hQ0 _ _ _ _ _ _ _ _ _ _ _ _ _ _ _ (by rw [hd.1]; exact hd.2) hd.1.symm (by omega) (by omega) hAd hAs)
        · refine r_ts (off := 60) rfl (by rw [k0]; decide) (by rw [k0]; rfl) rfl ?_
          by_cases gc : sm < 16
          · have hb : rp_b (σ, dm, sm, dd, sr, i) = true := by unfold rp_b rp_may; rw [decide_eq_true (show σ.2.1 = 1 from k2), decide_eq_false (show ¬ σ.2.2.2.1 = 0 by omega), decide_eq_true (show σ.2.2.2.1 < 3 by omega)]; exact decide_eq_true gc
            have hit := it_stand (tx := tx) (dd := dd) (sr := sr) (i := i) (dm := dm) (sm := sm) hσ hT hb (by omega)
            obtain ⟨-, T1, k1'⟩ := st_y (b := rp_b (σ, dm, sm, dd, sr, i)) hln hl hB hσ hT hb
            have r1 : 0 ≤ cl_e bt ln cp ∧ cl_e bt ln cp ≤ ln := by rw [← hT.2.1]; exact hσ.1
            have hE := lp_go (tx := tx) (ln := ln) (m := m) hg
            rw [hE] at hQ1 hQ0
            have hmI : rp_ok ln (rp_it tx ln (σ, dm, sm, dd, sr, i)) := rp_ok_it hln hB hok (by show i ≤ 999; omega)
            have hmG : rp_go (rp_it tx ln (σ, dm, sm, dd, sr, i)) = true → 26 < (rp_it tx ln (σ, dm, sm, dd, sr, i)).2.1 + (rp_it tx ln (σ, dm, sm, dd, sr, i)).2.2.1 + (m : Int) := by
              intro hg2
              have z1 := rp_adds hln hB hok hg2
              have z1 : (rp_it tx ln (σ, dm, sm, dd, sr, i)).2.1 + (rp_it tx ln (σ, dm, sm, dd, sr, i)).2.2.1 = dm + sm + 1 := z1
              have z2 := hm hg
              have z2 : 26 < dm + sm + ((m + 1 : Nat) : Int) := z2
              omega
            rw [hit] at hQ1 hQ0 hmI hmG
            obtain ⟨r, hr, hc⟩ := c_readStand1 (ki := ki) (ln := ln) (bt := bt) (cp := (cl_e bt ln cp)) (cs := (ra_pl bt ln cp)) (ct := (cl_t bt ln cp)) (cv := (cl_v bt ln cp)) (rr := rr) (dr := dr) (ja := i) (ea := dm) (ma := sm) (a1 := a1) (a2 := a2) (a3 := a3) (a4 := a4) (a5 := a5) (a6 := a6) (a7 := a7) (a8 := a8) (jb := jb) (eb := eb) (mb := mb) (b1 := b1) (b2 := b2) (b3 := b3) (b4 := b4) (b5 := b5) (b6 := b6) (b7 := b7) (b8 := b8) (re := re) (fl := fl) (g1 := g1) (g2 := g2) (g3 := g3) (g4 := g4) (g5 := g5) (D := D) (dd := dd) (tx := tx) (σ := (pt_tk tx ln (rp_b (σ, dm, sm, dd, sr, i)) σ)) hD hln hl hB (h := ⟨by omega, by omega⟩) (hd := ⟨by omega, by omega⟩) (hR := hRd) (hW := hWd) k1' T1 r1
            rcases hc with ⟨c1, x1, x2, x3, x4, c2, c3, c4⟩ | ⟨c1, x1, x2, x3, x4, c2, c3⟩
            · subst c2
              refine r_al rfl rfl ?_
              refine r_v1s rfl rfl cg_3 rfl hr ?_
              refine r_is (lv' := [(3, _), (2, _), (0, _), (1, _)]) rfl rfl rfl ?_
              refine r_goto rfl rfl ?_
              refine r_il rfl rfl ?_
              refine r_zne rfl rfl (by decide) (fun gz => ?_) (fun gz => ?_)
              · refine r_al rfl rfl ?_
                refine r_gf rfl rfl cg_3 rfl ?_
                refine r_dup rfl rfl ?_
                refine r_gf rfl rfl cg_5 rfl ?_
                refine r_ic rfl ?_
                refine r_add rfl ?_
                refine r_pf rfl rfl cg_5 rfl cp_ja ?_
                refine r_inc (lv' := [(2, _), (3, _), (0, _), (1, _)]) rfl rfl rfl rfl ?_
                refine r_goto rfl rfl ?_
                obtain ⟨d1, d2, -, -⟩ := tk_well (rs_ok hln hB k1') c1
                obtain ⟨e1, e2, e3⟩ := rs_alive hln hB k1' d1
                refine rn_up (by omega) (ih _ (i + 1) 1 hmI c3 c4 hRd (rs_rows hln hB k1' ⟨by omega, by omega⟩ hRs) hWd (rs_DW hln hB k1' ⟨by omega, by omega⟩ ⟨by omega, by omega⟩ d1 hWs) hAd (fun j hj => ?_) hmG (by show i + 1 + (m : Int) ≤ 300; omega) hQ1 hQ0)
                exact ⟨i7_upd (hAs j hj).1 (i7_of e1 (by decide) (by decide)), i7_upd (hAs j hj).2.1 (i7_of (by omega) (by decide) (by decide)), i7_upd (hAs j hj).2.2.1 (i7_of (by omega) (by decide) (by decide)), i7_upd (hAs j hj).2.2.2 (i7_of (by decide) (by decide) (by decide))⟩
              · exact absurd gz (by decide)
            · subst c2
              refine r_al rfl rfl ?_
              refine r_v1s rfl rfl cg_3 rfl hr ?_
              refine r_is (lv' := [(3, _), (2, _), (0, _), (1, _)]) rfl rfl rfl ?_
              refine r_goto rfl rfl ?_
              refine r_il rfl rfl ?_
              refine r_zne rfl rfl (by decide) (fun gz => ?_) (fun gz => ?_)
              · exact absurd rfl gz
              · rw [lp_stop (go_n c1)] at hQ0
                refine r_ic rfl ?_
                exact r_retb rfl rfl (by omega) (hQ0 _ _ _ _ _ _ _ _ _ _ _ _ _ _ _ c1 c3 (by omega) (by omega) hAd hAs)
          · have hb : rp_b (σ, dm, sm, dd, sr, i) = false := by unfold rp_b rp_may; rw [decide_eq_false (show ¬ σ.2.2.2.1 = 0 by omega), decide_eq_false gc, cond_false, Bool.and_false, Bool.and_false]
            have hd := it_dead (tx := tx) (dd := dd) (sr := sr) (i := i) (dm := dm) (sm := sm) hσ hT hb
            have hE : rp_lp tx ln (m + 1) (σ, dm, sm, dd, sr, i) = rp_it tx ln (σ, dm, sm, dd, sr, i) := by rw [lp_go hg, lp_stop (go_n (by rw [hd.1]; exact hd.2))]
            rw [hE] at hQ0
            refine r_al rfl rfl ?_
            refine r_v1s rfl rfl cg_3 rfl (c_readStandF1 (show 16 ≤ sm ∧ sm ≤ 100 from ⟨by omega, by omega⟩)) ?_
            refine r_is (lv' := [(3, _), (2, _), (0, _), (1, _)]) rfl rfl rfl ?_
            refine r_goto rfl rfl ?_
            refine r_il rfl rfl ?_
            refine r_zne rfl rfl (by decide) (fun gz => ?_) (fun gz => ?_)
            · exact absurd rfl gz
            · refine r_ic rfl ?_
              exact r_retb rfl rfl (by omega) (hQ0 _ _ _ _ _ _ _ _ _ _ _ _ _ _ _ (by rw [hd.1]; exact hd.2) hd.1.symm (by omega) (by omega) hAd hAs)
        · refine r_ts (off := 68) rfl (by rw [k0]; decide) (by rw [k0]; rfl) rfl ?_
          by_cases gc : sm < 16
          · have hb : rp_b (σ, dm, sm, dd, sr, i) = true := by unfold rp_b rp_may; rw [decide_eq_true (show σ.2.1 = 1 from k2), decide_eq_false (show ¬ σ.2.2.2.1 = 0 by omega), decide_eq_true (show σ.2.2.2.1 < 3 by omega)]; exact decide_eq_true gc
            have hit := it_over (tx := tx) (dd := dd) (sr := sr) (i := i) (dm := dm) (sm := sm) hσ hT hb (by omega)
            obtain ⟨-, T1, k1'⟩ := st_y (b := rp_b (σ, dm, sm, dd, sr, i)) hln hl hB hσ hT hb
            have r1 : 0 ≤ cl_e bt ln cp ∧ cl_e bt ln cp ≤ ln := by rw [← hT.2.1]; exact hσ.1
            have hE := lp_go (tx := tx) (ln := ln) (m := m) hg
            rw [hE] at hQ1 hQ0
            have hmI : rp_ok ln (rp_it tx ln (σ, dm, sm, dd, sr, i)) := rp_ok_it hln hB hok (by show i ≤ 999; omega)
            have hmG : rp_go (rp_it tx ln (σ, dm, sm, dd, sr, i)) = true → 26 < (rp_it tx ln (σ, dm, sm, dd, sr, i)).2.1 + (rp_it tx ln (σ, dm, sm, dd, sr, i)).2.2.1 + (m : Int) := by
              intro hg2
              have z1 := rp_adds hln hB hok hg2
              have z1 : (rp_it tx ln (σ, dm, sm, dd, sr, i)).2.1 + (rp_it tx ln (σ, dm, sm, dd, sr, i)).2.2.1 = dm + sm + 1 := z1
              have z2 := hm hg
              have z2 : 26 < dm + sm + ((m + 1 : Nat) : Int) := z2
              omega
            rw [hit] at hQ1 hQ0 hmI hmG
            obtain ⟨r, hr, hc⟩ := c_readOver1 (ki := ki) (ln := ln) (bt := bt) (cp := (cl_e bt ln cp)) (cs := (ra_pl bt ln cp)) (ct := (cl_t bt ln cp)) (cv := (cl_v bt ln cp)) (rr := rr) (dr := dr) (ja := i) (ea := dm) (ma := sm) (a1 := a1) (a2 := a2) (a3 := a3) (a4 := a4) (a5 := a5) (a6 := a6) (a7 := a7) (a8 := a8) (jb := jb) (eb := eb) (mb := mb) (b1 := b1) (b2 := b2) (b3 := b3) (b4 := b4) (b5 := b5) (b6 := b6) (b7 := b7) (b8 := b8) (re := re) (fl := fl) (g1 := g1) (g2 := g2) (g3 := g3) (g4 := g4) (g5 := g5) (D := D) (sr := sr) (tx := tx) (σ := (pt_tk tx ln (rp_b (σ, dm, sm, dd, sr, i)) σ)) hD hln hl hB (h := ⟨by omega, by omega⟩) (hR := hRs) (hW := hWs) k1' T1 r1
            rcases hc with ⟨c1, x1, x2, x3, x4, c2, c3, c4⟩ | ⟨c1, x1, x2, x3, x4, c2, c3⟩
            · subst c2
              refine r_al rfl rfl ?_
              refine r_v1s rfl rfl cg_3 rfl hr ?_
              refine r_is (lv' := [(3, _), (2, _), (0, _), (1, _)]) rfl rfl rfl ?_
              refine r_goto rfl rfl ?_
              refine r_il rfl rfl ?_
              refine r_zne rfl rfl (by decide) (fun gz => ?_) (fun gz => ?_)
              · refine r_al rfl rfl ?_
                refine r_gf rfl rfl cg_3 rfl ?_
                refine r_dup rfl rfl ?_
                refine r_gf rfl rfl cg_5 rfl ?_
                refine r_ic rfl ?_
                refine r_add rfl ?_
                refine r_pf rfl rfl cg_5 rfl cp_ja ?_
                refine r_inc (lv' := [(2, _), (3, _), (0, _), (1, _)]) rfl rfl rfl rfl ?_
                refine r_goto rfl rfl ?_
                obtain ⟨d1, d2, -, -⟩ := tk_well (rv_ok hln hB k1') c1
                obtain ⟨e1, e2, e3⟩ := rv_alive hln hB k1' d1
                refine rn_up (by omega) (ih _ (i + 1) 1 hmI c3 c4 hRd (rv_rows hln hB k1' ⟨by omega, by omega⟩ d1 hRs) hWd (rv_DW hln hB k1' ⟨by omega, by omega⟩ d1 hWs) hAd (fun j hj => ?_) hmG (by show i + 1 + (m : Int) ≤ 300; omega) hQ1 hQ0)
                exact ⟨i7_upd (hAs j hj).1 (i7_of e1 (by decide) (by decide)), i7_upd (hAs j hj).2.1 (by rw [iv_s]; exact (hAs _ (by omega)).2.1), i7_upd (hAs j hj).2.2.1 (i7_of (by decide) (by decide) (by decide)), i7_upd (i7_upd (hAs j hj).2.2.2 (i7_of (by decide) (by decide) (by decide))) (i7_of (by omega) (by decide) (by decide))⟩
              · exact absurd gz (by decide)
            · subst c2
              refine r_al rfl rfl ?_
              refine r_v1s rfl rfl cg_3 rfl hr ?_
              refine r_is (lv' := [(3, _), (2, _), (0, _), (1, _)]) rfl rfl rfl ?_
              refine r_goto rfl rfl ?_
              refine r_il rfl rfl ?_
              refine r_zne rfl rfl (by decide) (fun gz => ?_) (fun gz => ?_)
              · exact absurd rfl gz
              · rw [lp_stop (go_n c1)] at hQ0
                refine r_ic rfl ?_
                exact r_retb rfl rfl (by omega) (hQ0 _ _ _ _ _ _ _ _ _ _ _ _ _ _ _ c1 c3 (by omega) (by omega) hAd hAs)
          · have hb : rp_b (σ, dm, sm, dd, sr, i) = false := by unfold rp_b rp_may; rw [decide_eq_false (show ¬ σ.2.2.2.1 = 0 by omega), decide_eq_false gc, cond_false, Bool.and_false, Bool.and_false]
            have hd := it_dead (tx := tx) (dd := dd) (sr := sr) (i := i) (dm := dm) (sm := sm) hσ hT hb
            have hE : rp_lp tx ln (m + 1) (σ, dm, sm, dd, sr, i) = rp_it tx ln (σ, dm, sm, dd, sr, i) := by rw [lp_go hg, lp_stop (go_n (by rw [hd.1]; exact hd.2))]
            rw [hE] at hQ0
            refine r_al rfl rfl ?_
            refine r_v1s rfl rfl cg_3 rfl (c_readOverF1 (show 16 ≤ sm ∧ sm ≤ 100 from ⟨by omega, by omega⟩)) ?_
            refine r_is (lv' := [(3, _), (2, _), (0, _), (1, _)]) rfl rfl rfl ?_
            refine r_goto rfl rfl ?_
            refine r_il rfl rfl ?_
            refine r_zne rfl rfl (by decide) (fun gz => ?_) (fun gz => ?_)
            · exact absurd rfl gz
            · refine r_ic rfl ?_
              exact r_retb rfl rfl (by omega) (hQ0 _ _ _ _ _ _ _ _ _ _ _ _ _ _ _ (by rw [hd.1]; exact hd.2) hd.1.symm (by omega) (by omega) hAd hAs)
        · have k9 : mm_tsw 76 0 8 #[50, 76, 76, 76, 76, 76, 52, 60, 68] (cl_t bt ln cp) = some 76 := by unfold mm_tsw; rw [decide_eq_true (show 8 < cl_t bt ln cp by omega), Bool.or_true]; rfl
          refine r_ts (off := 76) rfl (by omega) k9 rfl ?_
          have hb : rp_b (σ, dm, sm, dd, sr, i) = false := by unfold rp_b rp_may; rw [decide_eq_false (show ¬ σ.2.2.2.1 = 0 by omega), decide_eq_false (show ¬ σ.2.2.2.1 < 3 by omega)]; simp
          have hd := it_dead (tx := tx) (dd := dd) (sr := sr) (i := i) (dm := dm) (sm := sm) hσ hT hb
          have hE : rp_lp tx ln (m + 1) (σ, dm, sm, dd, sr, i) = rp_it tx ln (σ, dm, sm, dd, sr, i) := by rw [lp_go hg, lp_stop (go_n (by rw [hd.1]; exact hd.2))]
          rw [hE] at hQ0
          refine r_ic rfl ?_
          refine r_is (lv' := [(3, _), (2, _), (0, _), (1, _)]) rfl rfl rfl ?_
          refine r_il rfl rfl ?_
          refine r_zne rfl rfl (by decide) (fun gz => ?_) (fun gz => ?_)
          · exact absurd rfl gz
          · refine r_ic rfl ?_
            exact r_retb rfl rfl (by omega) (hQ0 _ _ _ _ _ _ _ _ _ _ _ _ _ _ _ (by rw [hd.1]; exact hd.2) hd.1.symm (by omega) (by omega) hAd hAs)
theorem c_loopA1 (hD : D.length = 38) (hln : 0 ≤ ln ∧ ln ≤ 400) (hl : tx_like bt tx ln) (hB : ∀ k : Nat, (k : Int) < ln → 0 ≤ (tx k).toInt ∧ (tx k).toInt ≤ 255) : ∀ (m : Nat) (u : pT) {cp cs ct cv : Int} {a1 a2 a3 a4 a5 a6 a7 a8 : Nat → Int32}, rp_ok ln u → TR bt ln cp u.1 → (0 ≤ cp ∧ cp ≤ ln) → RRd u.2.1 a1 a2 a3 u.2.2.2.1 → RRs u.2.2.1 a4 a5 a6 a7 a8 u.2.2.2.2.1 → DWd u.2.1 u.2.2.2.1 → DWs u.2.2.1 u.2.2.2.2.1 → ARd a1 a2 a3 → ARs a4 a5 a6 a7 → (rp_go u = true → 26 < u.2.1 + u.2.2.1 + ((m + 1 : Nat) : Int)) → u.2.2.2.2.2 + ((m + 1 : Nat) : Int) ≤ 300 → (∀ (y1 y2 y3 y4 : Int) (k1 k2 k3 k4 k5 k6 k7 k8 : Nat → Int32), (rp_lp tx ln (m + 1) u).1.2.2.2.2 < 0 → RRd (rp_lp tx ln (m + 1) u).2.1 k1 k2 k3 (rp_lp tx ln (m + 1) u).2.2.2.1 → RRs (rp_lp tx ln (m + 1) u).2.2.1 k4 k5 k6 k7 k8 (rp_lp tx ln (m + 1) u).2.2.2.2.1 → DWd (rp_lp tx ln (m + 1) u).2.1 (rp_lp tx ln (m + 1) u).2.2.2.1 → DWs (rp_lp tx ln (m + 1) u).2.2.1 (rp_lp tx ln (m + 1) u).2.2.2.2.1 → ARd k1 k2 k3 → ARs k4 k5 k6 k7 → Q (some (iv 1), (cW ki ln bt (.ref 5) y1 y2 y3 y4 rr dr (rp_lp tx ln (m + 1) u).2.2.2.2.2 (rp_lp tx ln (m + 1) u).2.1 (rp_lp tx ln (m + 1) u).2.2.1 k1 k2 k3 k4 k5 k6 k7 k8 jb eb mb b1 b2 b3 b4 b5 b6 b7 b8 re fl g1 g2 g3 g4 g5 D))) → (∀ (y1 y2 y3 y4 : Int) (k1 k2 k3 k4 k5 k6 k7 k8 : Nat → Int32) (z1 z2 z3 : Int), 0 ≤ (rp_lp tx ln (m + 1) u).1.2.2.2.2 → y2 = (rp_lp tx ln (m + 1) u).1.2.2.2.2 → (0 ≤ z2 ∧ z2 ≤ 10) → (0 ≤ z3 ∧ z3 ≤ 16) → ARd k1 k2 k3 → ARs k4 k5 k6 k7 → Q (some (iv 0), (cW ki ln bt (.ref 5) y1 y2 y3 y4 rr dr z1 z2 z3 k1 k2 k3 k4 k5 k6 k7 k8 jb eb mb b1 b2 b3 b4 b5 b6 b7 b8 re fl g1 g2 g3 g4 g5 D))) → rn_X7_read (100 * m + 300) (19, [(2, iv (u.2.2.2.2.2)), (0, .ref 3), (1, .ref 5)], [], (cW ki ln bt (.ref 5) cp cs ct cv rr dr u.2.2.2.2.2 u.2.1 u.2.2.1 a1 a2 a3 a4 a5 a6 a7 a8 jb eb mb b1 b2 b3 b4 b5 b6 b7 b8 re fl g1 g2 g3 g4 g5 D)) Q := by
  intro m u cp cs ct cv a1 a2 a3 a4 a5 a6 a7 a8 hok hT hcp hRd hRs hWd hWs hAd hAs hm hi hQ1 hQ0
  obtain ⟨σ, dm, sm, dd, sr, i⟩ := u
  have hok2 := hok
  obtain ⟨hσ, hdm, hsm, hit0, -⟩ := hok2
  have hσ : pt_ok ln σ := hσ
  have hdm : 0 ≤ dm ∧ dm ≤ 10 := hdm
  have hsm : 0 ≤ sm ∧ sm ≤ 16 := hsm
  have hit0 : 0 ≤ i ∧ i ≤ 1000 := hit0
  have hT : TR bt ln cp σ := hT
  obtain ⟨t0, t1, t2, t3⟩ := id hT
  unfold tkrel at t3
  have hi : i + ((m + 1 : Nat) : Int) ≤ 300 := hi
  refine r_il rfl rfl ?_
  refine r_si rfl (by decide) ?_
  refine r_cgt rfl rfl (by omega) (by omega) (fun gi => ?_) (fun gi => ?_)
  · omega
  · refine r_al rfl rfl ?_
    refine r_v1n rfl rfl cg_3 rfl (c_readToken hD hln hcp) ?_
    refine r_al rfl rfl ?_
    refine r_gf rfl rfl cg_3 rfl ?_
    rcases t3 with ⟨k0, k1⟩ | ⟨k0, k1⟩ | ⟨k0, k1, k2⟩ | ⟨k0, k1, k2⟩ | ⟨k0, k1⟩ | ⟨k0, k1⟩ | ⟨k0, k1, k2, k3⟩
    · refine r_ts (off := 50) rfl (by rw [k0]; decide) (by rw [k0]; rfl) rfl ?_
      have hg : rp_go (σ, dm, sm, dd, sr, i) = false := by unfold rp_go; rw [decide_eq_true k1, Bool.not_true, Bool.and_false]
      have hE : rp_lp tx ln (m + 1) (σ, dm, sm, dd, sr, i) = (σ, dm, sm, dd, sr, i) := lp_stop hg
      rw [hE] at hQ1
      refine r_ic rfl ?_
      exact r_retb rfl rfl (by omega) (hQ1 _ _ _ _ _ _ _ _ _ _ _ _ hT.1 hRd hRs hWd hWs hAd hAs)
    · have hg : rp_go (σ, dm, sm, dd, sr, i) = true := by unfold rp_go; rw [decide_eq_true hT.1, decide_eq_false (show ¬ σ.2.1 = 0 by omega)]; rfl
      refine r_ts (off := 76) rfl (by rw [k0]; decide) (by rw [k0]; rfl) rfl ?_
      have hb : rp_b (σ, dm, sm, dd, sr, i) = false := by unfold rp_b; rw [decide_eq_false (show ¬ σ.2.1 = 1 by omega)]; rfl
      have hd := it_dead (tx := tx) (dd := dd) (sr := sr) (i := i) (dm := dm) (sm := sm) hσ hT hb
      have hE : rp_lp tx ln (m + 1) (σ, dm, sm, dd, sr, i) = rp_it tx ln (σ, dm, sm, dd, sr, i) := by rw [lp_go hg, lp_stop (go_n (by rw [hd.1]; exact hd.2))]
      rw [hE] at hQ0
      refine r_ic rfl ?_
      refine r_is (lv' := [(3, _), (2, _), (0, _), (1, _)]) rfl rfl rfl ?_
      refine r_il rfl rfl ?_
      refine r_zne rfl rfl (by decide) (fun gz => ?_) (fun gz => ?_)
      · exact absurd rfl gz
      · refine r_ic rfl ?_
        exact r_retb rfl rfl (by omega) (hQ0 _ _ _ _ _ _ _ _ _ _ _ _ _ _ _ (by rw [hd.1]; exact hd.2) hd.1.symm (by omega) (by omega) hAd hAs)
    · have hg : rp_go (σ, dm, sm, dd, sr, i) = true := by unfold rp_go; rw [decide_eq_true hT.1, decide_eq_false (show ¬ σ.2.1 = 0 by omega)]; rfl
      refine r_ts (off := 76) rfl (by rw [k0]; decide) (by rw [k0]; rfl) rfl ?_
      have hb : rp_b (σ, dm, sm, dd, sr, i) = false := by unfold rp_b; rw [decide_eq_false (show ¬ σ.2.1 = 1 by omega)]; rfl
      have hd := it_dead (tx := tx) (dd := dd) (sr := sr) (i := i) (dm := dm) (sm := sm) hσ hT hb
      have hE : rp_lp tx ln (m + 1) (σ, dm, sm, dd, sr, i) = rp_it tx ln (σ, dm, sm, dd, sr, i) := by rw [lp_go hg, lp_stop (go_n (by rw [hd.1]; exact hd.2))]
      rw [hE] at hQ0
      refine r_ic rfl ?_
      refine r_is (lv' := [(3, _), (2, _), (0, _), (1, _)]) rfl rfl rfl ?_
      refine r_il rfl rfl ?_
      refine r_zne rfl rfl (by decide) (fun gz => ?_) (fun gz => ?_)
      · exact absurd rfl gz
      · refine r_ic rfl ?_
        exact r_retb rfl rfl (by omega) (hQ0 _ _ _ _ _ _ _ _ _ _ _ _ _ _ _ (by rw [hd.1]; exact hd.2) hd.1.symm (by omega) (by omega) hAd hAs)
    · have hg : rp_go (σ, dm, sm, dd, sr, i) = true := by unfold rp_go; rw [decide_eq_true hT.1, decide_eq_false (show ¬ σ.2.1 = 0 by omega)]; rfl
      refine r_ts (off := 76) rfl (by rw [k0]; decide) (by rw [k0]; rfl) rfl ?_
      have hb : rp_b (σ, dm, sm, dd, sr, i) = false := by unfold rp_b; rw [decide_eq_false (show ¬ σ.2.1 = 1 by omega)]; rfl
      have hd := it_dead (tx := tx) (dd := dd) (sr := sr) (i := i) (dm := dm) (sm := sm) hσ hT hb
      have hE : rp_lp tx ln (m + 1) (σ, dm, sm, dd, sr, i) = rp_it tx ln (σ, dm, sm, dd, sr, i) := by rw [lp_go hg, lp_stop (go_n (by rw [hd.1]; exact hd.2))]
      rw [hE] at hQ0
      refine r_ic rfl ?_
      refine r_is (lv' := [(3, _), (2, _), (0, _), (1, _)]) rfl rfl rfl ?_
      refine r_il rfl rfl ?_
      refine r_zne rfl rfl (by decide) (fun gz => ?_) (fun gz => ?_)
      · exact absurd rfl gz
      · refine r_ic rfl ?_
        exact r_retb rfl rfl (by omega) (hQ0 _ _ _ _ _ _ _ _ _ _ _ _ _ _ _ (by rw [hd.1]; exact hd.2) hd.1.symm (by omega) (by omega) hAd hAs)
    · have hg : rp_go (σ, dm, sm, dd, sr, i) = true := by unfold rp_go; rw [decide_eq_true hT.1, decide_eq_false (show ¬ σ.2.1 = 0 by omega)]; rfl
      refine r_ts (off := 76) rfl (by rw [k0]; decide) (by rw [k0]; rfl) rfl ?_
      have hb : rp_b (σ, dm, sm, dd, sr, i) = false := by unfold rp_b; rw [decide_eq_false (show ¬ σ.2.1 = 1 by omega)]; rfl
      have hd := it_dead (tx := tx) (dd := dd) (sr := sr) (i := i) (dm := dm) (sm := sm) hσ hT hb
      have hE : rp_lp tx ln (m + 1) (σ, dm, sm, dd, sr, i) = rp_it tx ln (σ, dm, sm, dd, sr, i) := by rw [lp_go hg, lp_stop (go_n (by rw [hd.1]; exact hd.2))]
      rw [hE] at hQ0
      refine r_ic rfl ?_
      refine r_is (lv' := [(3, _), (2, _), (0, _), (1, _)]) rfl rfl rfl ?_
      refine r_il rfl rfl ?_
      refine r_zne rfl rfl (by decide) (fun gz => ?_) (fun gz => ?_)
      · exact absurd rfl gz
      · refine r_ic rfl ?_
        exact r_retb rfl rfl (by omega) (hQ0 _ _ _ _ _ _ _ _ _ _ _ _ _ _ _ (by rw [hd.1]; exact hd.2) hd.1.symm (by omega) (by omega) hAd hAs)
    · have hg : rp_go (σ, dm, sm, dd, sr, i) = true := by unfold rp_go; rw [decide_eq_true hT.1, decide_eq_false (show ¬ σ.2.1 = 0 by omega)]; rfl
      refine r_ts (off := 76) rfl (by rw [k0]; decide) (by rw [k0]; rfl) rfl ?_
      have hb : rp_b (σ, dm, sm, dd, sr, i) = false := by unfold rp_b; rw [decide_eq_false (show ¬ σ.2.1 = 1 by omega)]; rfl
      have hd := it_dead (tx := tx) (dd := dd) (sr := sr) (i := i) (dm := dm) (sm := sm) hσ hT hb
      have hE : rp_lp tx ln (m + 1) (σ, dm, sm, dd, sr, i) = rp_it tx ln (σ, dm, sm, dd, sr, i) := by rw [lp_go hg, lp_stop (go_n (by rw [hd.1]; exact hd.2))]
      rw [hE] at hQ0
      refine r_ic rfl ?_
      refine r_is (lv' := [(3, _), (2, _), (0, _), (1, _)]) rfl rfl rfl ?_
      refine r_il rfl rfl ?_
      refine r_zne rfl rfl (by decide) (fun gz => ?_) (fun gz => ?_)
      · exact absurd rfl gz
      · refine r_ic rfl ?_
        exact r_retb rfl rfl (by omega) (hQ0 _ _ _ _ _ _ _ _ _ _ _ _ _ _ _ (by rw [hd.1]; exact hd.2) hd.1.symm (by omega) (by omega) hAd hAs)
    · have hg : rp_go (σ, dm, sm, dd, sr, i) = true := by unfold rp_go; rw [decide_eq_true hT.1, decide_eq_false (show ¬ σ.2.1 = 0 by omega)]; rfl
      have q6 : cl_t bt ln cp = 6 ∨ cl_t bt ln cp = 7 ∨ cl_t bt ln cp = 8 ∨ 9 ≤ cl_t bt ln cp := by omega
      rcases q6 with k0 | k0 | k0 | k0
      · refine r_ts (off := 52) rfl (by rw [k0]; decide) (by rw [k0]; rfl) rfl ?_
        by_cases gc : dm < 10
        · have hb : rp_b (σ, dm, sm, dd, sr, i) = true := by unfold rp_b rp_may; rw [decide_eq_true (show σ.2.1 = 1 from k2), decide_eq_true (show σ.2.2.2.1 = 0 by omega)]; exact decide_eq_true gc
          have hit := it_debt (tx := tx) (dd := dd) (sr := sr) (i := i) (dm := dm) (sm := sm) hσ hT hb (by omega)
          obtain ⟨-, T1, k1'⟩ := st_y (b := rp_b (σ, dm, sm, dd, sr, i)) hln hl hB hσ hT hb
          have r1 : 0 ≤ cl_e bt ln cp ∧ cl_e bt ln cp ≤ ln := by rw [← hT.2.1]; exact hσ.1
          have hE := lp_go (tx := tx) (ln := ln) (m := m) hg
          rw [hE] at hQ1 hQ0
          have hmI : rp_ok ln (rp_it tx ln (σ, dm, sm, dd, sr, i)) := rp_ok_it hln hB hok (by show i ≤ 999; omega)
          have hmG : rp_go (rp_it tx ln (σ, dm, sm, dd, sr, i)) = true → 26 < (rp_it tx ln (σ, dm, sm, dd, sr, i)).2.1 + (rp_it tx ln (σ, dm, sm, dd, sr, i)).2.2.1 + (m : Int) := by
            intro hg2
            have z1 := rp_adds hln hB hok hg2
            have z1 : (rp_it tx ln (σ, dm, sm, dd, sr, i)).2.1 + (rp_it tx ln (σ, dm, sm, dd, sr, i)).2.2.1 = dm + sm + 1 := z1
            have z2 := hm hg
            have z2 : 26 < dm + sm + ((m + 1 : Nat) : Int) := z2
            omega
          rw [hit] at hQ1 hQ0 hmI hmG
          obtain ⟨r, hr, hc⟩ := c_readDebt1 (ki := ki) (ln := ln) (bt := bt) (cp := (cl_e bt ln cp)) (cs := (ra_pl bt ln cp)) (ct := (cl_t bt ln cp)) (cv := (cl_v bt ln cp)) (rr := rr) (dr := dr) (ja := i) (ea := dm) (ma := sm) (a1 := a1) (a2 := a2) (a3 := a3) (a4 := a4) (a5 := a5) (a6 := a6) (a7 := a7) (a8 := a8) (jb := jb) (eb := eb) (mb := mb) (b1 := b1) (b2 := b2) (b3 := b3) (b4 := b4) (b5 := b5) (b6 := b6) (b7 := b7) (b8 := b8) (re := re) (fl := fl) (g1 := g1) (g2 := g2) (g3 := g3) (g4 := g4) (g5 := g5) (D := D)  (tx := tx) (σ := (pt_tk tx ln (rp_b (σ, dm, sm, dd, sr, i)) σ)) hD hln hl hB (h := ⟨by omega, by omega⟩) k1' T1 r1
          rcases hc with ⟨c1, x1, x2, x3, x4, c2, c3, c4⟩ | ⟨c1, x1, x2, x3, x4, c2, c3⟩
          · subst c2
            refine r_al rfl rfl ?_
            refine r_v1s rfl rfl cg_3 rfl hr ?_
            refine r_is (lv' := [(3, _), (2, _), (0, _), (1, _)]) rfl rfl rfl ?_
            refine r_goto rfl rfl ?_
            refine r_il rfl rfl ?_
            refine r_zne rfl rfl (by decide) (fun gz => ?_) (fun gz => ?_)
            · refine r_al rfl rfl ?_
              refine r_gf rfl rfl cg_3 rfl ?_
              refine r_dup rfl rfl ?_
              refine r_gf rfl rfl cg_5 rfl ?_
              refine r_ic rfl ?_
              refine r_add rfl ?_
              refine r_pf rfl rfl cg_5 rfl cp_ja ?_
              refine r_inc (lv' := [(2, _), (3, _), (0, _), (1, _)]) rfl rfl rfl rfl ?_
              refine r_goto rfl rfl ?_
              obtain ⟨d1, d2, -, -⟩ := tk_well (rd_ok hln hB k1') c1
              obtain ⟨e1, e2, e3⟩ := rd_alive hln hB k1' d1
              refine rn_up (by omega) (c_loop1 hD hln hl hB m _ (i + 1) 1 hmI c3 c4 (rd_rows hln hB k1' ⟨by omega, by omega⟩ hRd) hRs (rd_DW hln hB k1' ⟨by omega, by omega⟩ d1 hWd) hWs (fun j hj => ?_) hAs hmG (by show i + 1 + (m : Int) ≤ 300; omega) hQ1 hQ0)
              exact ⟨i7_upd (hAd j hj).1 (i7_of e1 (by decide) (by decide)), i7_upd (hAd j hj).2.1 (i7_of e2 (by decide) (by decide)), i7_upd (hAd j hj).2.2 (i7_of (by omega) (by decide) (by decide))⟩
            · exact absurd gz (by decide)
          · subst c2
            refine r_al rfl rfl ?_
            refine r_v1s rfl rfl cg_3 rfl hr ?_
            refine r_is (lv' := [(3, _), (2, _), (0, _), (1, _)]) rfl rfl rfl ?_
            refine r_goto rfl rfl ?_
            refine r_il rfl rfl ?_
            refine r_zne rfl rfl (by decide) (fun gz => ?_) (fun gz => ?_)
            · exact absurd rfl gz
            · rw [lp_stop (go_n c1)] at hQ0
              refine r_ic rfl ?_
              exact r_retb rfl rfl (by omega) (hQ0 _ _ _ _ _ _ _ _ _ _ _ _ _ _ _ c1 c3 (by omega) (by omega) hAd hAs)
        · have hb : rp_b (σ, dm, sm, dd, sr, i) = false := by unfold rp_b rp_may; rw [decide_eq_true (show σ.2.2.2.1 = 0 by omega), decide_eq_false gc, cond_true, Bool.and_false]
          have hd := it_dead (tx := tx) (dd := dd) (sr := sr) (i := i) (dm := dm) (sm := sm) hσ hT hb
          have hE : rp_lp tx ln (m + 1) (σ, dm, sm, dd, sr, i) = rp_it tx ln (σ, dm, sm, dd, sr, i) := by rw [lp_go hg, lp_stop (go_n (by rw [hd.1]; exact hd.2))]
          rw [hE] at hQ0
          refine r_al rfl rfl ?_
          refine r_v1s rfl rfl cg_3 rfl (c_readDebtF1 (show 10 ≤ dm ∧ dm ≤ 100 from ⟨by omega, by omega⟩)) ?_
          refine r_is (lv' := [(3, _), (2, _), (0, _), (1, _)]) rfl rfl rfl ?_
          refine r_goto rfl rfl ?_
          refine r_il rfl rfl ?_
          refine r_zne rfl rfl (by decide) (fun gz => ?_) (fun gz => ?_)
          · exact absurd rfl gz
          · refine r_ic rfl ?_
            exact r_retb rfl rfl (by omega) (hQ0 _ _ _ _ _ _ _ _ _ _ _ _ _ _ _ (by rw [hd.1]; exact hd.2) hd.1.symm (by omega) (by omega) hAd hAs)
      · refine r_ts (off := 60) rfl (by rw [k0]; decide) (by rw [k0]; rfl) rfl ?_
        by_cases gc : sm < 16
        · have hb : rp_b (σ, dm, sm, dd, sr, i) = true := by unfold rp_b rp_may; rw [decide_eq_true (show σ.2.1 = 1 from k2), decide_eq_false (show ¬ σ.2.2.2.1 = 0 by omega), decide_eq_true (show σ.2.2.2.1 < 3 by omega)]; exact decide_eq_true gc
          have hit := it_stand (tx := tx) (dd := dd) (sr := sr) (i := i) (dm := dm) (sm := sm) hσ hT hb (by omega)
          obtain ⟨-, T1, k1'⟩ := st_y (b := rp_b (σ, dm, sm, dd, sr, i)) hln hl hB hσ hT hb
          have r1 : 0 ≤ cl_e bt ln cp ∧ cl_e bt ln cp ≤ ln := by rw [← hT.2.1]; exact hσ.1
          have hE := lp_go (tx := tx) (ln := ln) (m := m) hg
          rw [hE] at hQ1 hQ0
          have hmI : rp_ok ln (rp_it tx ln (σ, dm, sm, dd, sr, i)) := rp_ok_it hln hB hok (by show i ≤ 999; omega)
          have hmG : rp_go (rp_it tx ln (σ, dm, sm, dd, sr, i)) = true → 26 < (rp_it tx ln (σ, dm, sm, dd, sr, i)).2.1 + (rp_it tx ln (σ, dm, sm, dd, sr, i)).2.2.1 + (m : Int) := by
            intro hg2
            have z1 := rp_adds hln hB hok hg2
            have z1 : (rp_it tx ln (σ, dm, sm, dd, sr, i)).2.1 + (rp_it tx ln (σ, dm, sm, dd, sr, i)).2.2.1 = dm + sm + 1 := z1
            have z2 := hm hg
            have z2 : 26 < dm + sm + ((m + 1 : Nat) : Int) := z2
            omega
          rw [hit] at hQ1 hQ0 hmI hmG
          obtain ⟨r, hr, hc⟩ := c_readStand1 (ki := ki) (ln := ln) (bt := bt) (cp := (cl_e bt ln cp)) (cs := (ra_pl bt ln cp)) (ct := (cl_t bt ln cp)) (cv := (cl_v bt ln cp)) (rr := rr) (dr := dr) (ja := i) (ea := dm) (ma := sm) (a1 := a1) (a2 := a2) (a3 := a3) (a4 := a4) (a5 := a5) (a6 := a6) (a7 := a7) (a8 := a8) (jb := jb) (eb := eb) (mb := mb) (b1 := b1) (b2 := b2) (b3 := b3) (b4 := b4) (b5 := b5) (b6 := b6) (b7 := b7) (b8 := b8) (re := re) (fl := fl) (g1 := g1) (g2 := g2) (g3 := g3) (g4 := g4) (g5 := g5) (D := D) (dd := dd) (tx := tx) (σ := (pt_tk tx ln (rp_b (σ, dm, sm, dd, sr, i)) σ)) hD hln hl hB (h := ⟨by omega, by omega⟩) (hd := ⟨by omega, by omega⟩) (hR := hRd) (hW := hWd) k1' T1 r1
          rcases hc with ⟨c1, x1, x2, x3, x4, c2, c3, c4⟩ | ⟨c1, x1, x2, x3, x4, c2, c3⟩
          · subst c2
            refine r_al rfl rfl ?_
            refine r_v1s rfl rfl cg_3 rfl hr ?_
            refine r_is (lv' := [(3, _), (2, _), (0, _), (1, _)]) rfl rfl rfl ?_
            refine r_goto rfl rfl ?_
            refine r_il rfl rfl ?_
            refine r_zne rfl rfl (by decide) (fun gz => ?_) (fun gz => ?_)
            · refine r_al rfl rfl ?_
              refine r_gf rfl rfl cg_3 rfl ?_
              refine r_dup rfl rfl ?_
              refine r_gf rfl rfl cg_5 rfl ?_
              refine r_ic rfl ?_
              refine r_add rfl ?_
              refine r_pf rfl rfl cg_5 rfl cp_ja ?_
              refine r_inc (lv' := [(2, _), (3, _), (0, _), (1, _)]) rfl rfl rfl rfl ?_
              refine r_goto rfl rfl ?_
              obtain ⟨d1, d2, -, -⟩ := tk_well (rs_ok hln hB k1') c1
              obtain ⟨e1, e2, e3⟩ := rs_alive hln hB k1' d1
              refine rn_up (by omega) (c_loop1 hD hln hl hB m _ (i + 1) 1 hmI c3 c4 hRd (rs_rows hln hB k1' ⟨by omega, by omega⟩ hRs) hWd (rs_DW hln hB k1' ⟨by omega, by omega⟩ ⟨by omega, by omega⟩ d1 hWs) hAd (fun j hj => ?_) hmG (by show i + 1 + (m : Int) ≤ 300; omega) hQ1 hQ0)
              exact ⟨i7_upd (hAs j hj).1 (i7_of e1 (by decide) (by decide)), i7_upd (hAs j hj).2.1 (i7_of (by omega) (by decide) (by decide)), i7_upd (hAs j hj).2.2.1 (i7_of (by omega) (by decide) (by decide)), i7_upd (hAs j hj).2.2.2 (i7_of (by decide) (by decide) (by decide))⟩
            · exact absurd gz (by decide)
          · subst c2
            refine r_al rfl rfl ?_
            refine r_v1s rfl rfl cg_3 rfl hr ?_
            refine r_is (lv' := [(3, _), (2, _), (0, _), (1, _)]) rfl rfl rfl ?_
            refine r_goto rfl rfl ?_
            refine r_il rfl rfl ?_
            refine r_zne rfl rfl (by decide) (fun gz => ?_) (fun gz => ?_)
            · exact absurd rfl gz
            · rw [lp_stop (go_n c1)] at hQ0
              refine r_ic rfl ?_
              exact r_retb rfl rfl (by omega) (hQ0 _ _ _ _ _ _ _ _ _ _ _ _ _ _ _ c1 c3 (by omega) (by omega) hAd hAs)
        · have hb : rp_b (σ, dm, sm, dd, sr, i) = false := by unfold rp_b rp_may; rw [decide_eq_false (show ¬ σ.2.2.2.1 = 0 by omega), decide_eq_false gc, cond_false, Bool.and_false, Bool.and_false]
          have hd := it_dead (tx := tx) (dd := dd) (sr := sr) (i := i) (dm := dm) (sm := sm) hσ hT hb
          have hE : rp_lp tx ln (m + 1) (σ, dm, sm, dd, sr, i) = rp_it tx ln (σ, dm, sm, dd, sr, i) := by rw [lp_go hg, lp_stop (go_n (by rw [hd.1]; exact hd.2))]
          rw [hE] at hQ0
          refine r_al rfl rfl ?_
          refine r_v1s rfl rfl cg_3 rfl (c_readStandF1 (show 16 ≤ sm ∧ sm ≤ 100 from ⟨by omega, by omega⟩)) ?_
          refine r_is (lv' := [(3, _), (2, _), (0, _), (1, _)]) rfl rfl rfl ?_
          refine r_goto rfl rfl ?_
          refine r_il rfl rfl ?_
          refine r_zne rfl rfl (by decide) (fun gz => ?_) (fun gz => ?_)
          · exact absurd rfl gz
          · refine r_ic rfl ?_
            exact r_retb rfl rfl (by omega) (hQ0 _ _ _ _ _ _ _ _ _ _ _ _ _ _ _ (by rw [hd.1]; exact hd.2) hd.1.symm (by omega) (by omega) hAd hAs)
      · refine r_ts (off := 68) rfl (by rw [k0]; decide) (by rw [k0]; rfl) rfl ?_
        by_cases gc : sm < 16
        · have hb : rp_b (σ, dm, sm, dd, sr, i) = true := by unfold rp_b rp_may; rw [decide_eq_true (show σ.2.1 = 1 from k2), decide_eq_false (show ¬ σ.2.2.2.1 = 0 by omega), decide_eq_true (show σ.2.2.2.1 < 3 by omega)]; exact decide_eq_true gc
          have hit := it_over (tx := tx) (dd := dd) (sr := sr) (i := i) (dm := dm) (sm := sm) hσ hT hb (by omega)
          obtain ⟨-, T1, k1'⟩ := st_y (b := rp_b (σ, dm, sm, dd, sr, i)) hln hl hB hσ hT hb
          have r1 : 0 ≤ cl_e bt ln cp ∧ cl_e bt ln cp ≤ ln := by rw [← hT.2.1]; exact hσ.1
          have hE := lp_go (tx := tx) (ln := ln) (m := m) hg
          rw [hE] at hQ1 hQ0
          have hmI : rp_ok ln (rp_it tx ln (σ, dm, sm, dd, sr, i)) := rp_ok_it hln hB hok (by show i ≤ 999; omega)
          have hmG : rp_go (rp_it tx ln (σ, dm, sm, dd, sr, i)) = true → 26 < (rp_it tx ln (σ, dm, sm, dd, sr, i)).2.1 + (rp_it tx ln (σ, dm, sm, dd, sr, i)).2.2.1 + (m : Int) := by
            intro hg2
            have z1 := rp_adds hln hB hok hg2
            have z1 : (rp_it tx ln (σ, dm, sm, dd, sr, i)).2.1 + (rp_it tx ln (σ, dm, sm, dd, sr, i)).2.2.1 = dm + sm + 1 := z1
            have z2 := hm hg
            have z2 : 26 < dm + sm + ((m + 1 : Nat) : Int) := z2
            omega
          rw [hit] at hQ1 hQ0 hmI hmG
          obtain ⟨r, hr, hc⟩ := c_readOver1 (ki := ki) (ln := ln) (bt := bt) (cp := (cl_e bt ln cp)) (cs := (ra_pl bt ln cp)) (ct := (cl_t bt ln cp)) (cv := (cl_v bt ln cp)) (rr := rr) (dr := dr) (ja := i) (ea := dm) (ma := sm) (a1 := a1) (a2 := a2) (a3 := a3) (a4 := a4) (a5 := a5) (a6 := a6) (a7 := a7) (a8 := a8) (jb := jb) (eb := eb) (mb := mb) (b1 := b1) (b2 := b2) (b3 := b3) (b4 := b4) (b5 := b5) (b6 := b6) (b7 := b7) (b8 := b8) (re := re) (fl := fl) (g1 := g1) (g2 := g2) (g3 := g3) (g4 := g4) (g5 := g5) (D := D) (sr := sr) (tx := tx) (σ := (pt_tk tx ln (rp_b (σ, dm, sm, dd, sr, i)) σ)) hD hln hl hB (h := ⟨by omega, by omega⟩) (hR := hRs) (hW := hWs) k1' T1 r1
          rcases hc with ⟨c1, x1, x2, x3, x4, c2, c3, c4⟩ | ⟨c1, x1, x2, x3, x4, c2, c3⟩
          · subst c2
            refine r_al rfl rfl ?_
            refine r_v1s rfl rfl cg_3 rfl hr ?_
            refine r_is (lv' := [(3, _), (2, _), (0, _), (1, _)]) rfl rfl rfl ?_
            refine r_goto rfl rfl ?_
            refine r_il rfl rfl ?_
            refine r_zne rfl rfl (by decide) (fun gz => ?_) (fun gz => ?_)
            · refine r_al rfl rfl ?_
              refine r_gf rfl rfl cg_3 rfl ?_
              refine r_dup rfl rfl ?_
              refine r_gf rfl rfl cg_5 rfl ?_
              refine r_ic rfl ?_
              refine r_add rfl ?_
              refine r_pf rfl rfl cg_5 rfl cp_ja ?_
              refine r_inc (lv' := [(2, _), (3, _), (0, _), (1, _)]) rfl rfl rfl rfl ?_
              refine r_goto rfl rfl ?_
              obtain ⟨d1, d2, -, -⟩ := tk_well (rv_ok hln hB k1') c1
              obtain ⟨e1, e2, e3⟩ := rv_alive hln hB k1' d1
              refine rn_up (by omega) (c_loop1 hD hln hl hB m _ (i + 1) 1 hmI c3 c4 hRd (rv_rows hln hB k1' ⟨by omega, by omega⟩ d1 hRs) hWd (rv_DW hln hB k1' ⟨by omega, by omega⟩ d1 hWs) hAd (fun j hj => ?_) hmG (by show i + 1 + (m : Int) ≤ 300; omega) hQ1 hQ0)
              exact ⟨i7_upd (hAs j hj).1 (i7_of e1 (by decide) (by decide)), i7_upd (hAs j hj).2.1 (by rw [iv_s]; exact (hAs _ (by omega)).2.1), i7_upd (hAs j hj).2.2.1 (i7_of (by decide) (by decide) (by decide)), i7_upd (i7_upd (hAs j hj).2.2.2 (i7_of (by decide) (by decide) (by decide))) (i7_of (by omega) (by decide) (by decide))⟩
            · exact absurd gz (by decide)
          · subst c2
            refine r_al rfl rfl ?_
            refine r_v1s rfl rfl cg_3 rfl hr ?_
            refine r_is (lv' := [(3, _), (2, _), (0, _), (1, _)]) rfl rfl rfl ?_
            refine r_goto rfl rfl ?_
            refine r_il rfl rfl ?_
            refine r_zne rfl rfl (by decide) (fun gz => ?_) (fun gz => ?_)
            · exact absurd rfl gz
            · rw [lp_stop (go_n c1)] at hQ0
              refine r_ic rfl ?_
              exact r_retb rfl rfl (by omega) (hQ0 _ _ _ _ _ _ _ _ _ _ _ _ _ _ _ c1 c3 (by omega) (by omega) hAd hAs)
        · have hb : rp_b (σ, dm, sm, dd, sr, i) = false := by unfold rp_b rp_may; rw [decide_eq_false (show ¬ σ.2.2.2.1 = 0 by omega), decide_eq_false gc, cond_false, Bool.and_false, Bool.and_false]
          have hd := it_dead (tx := tx) (dd := dd) (sr := sr) (i := i) (dm := dm) (sm := sm) hσ hT hb
          have hE : rp_lp tx ln (m + 1) (σ, dm, sm, dd, sr, i) = rp_it tx ln (σ, dm, sm, dd, sr, i) := by rw [lp_go hg, lp_stop (go_n (by rw [hd.1]; exact hd.2))]
          rw [hE] at hQ0
          refine r_al rfl rfl ?_
          refine r_v1s rfl rfl cg_3 rfl (c_readOverF1 (show 16 ≤ sm ∧ sm ≤ 100 from ⟨by omega, by omega⟩)) ?_
          refine r_is (lv' := [(3, _), (2, _), (0, _), (1, _)]) rfl rfl rfl ?_
          refine r_goto rfl rfl ?_
          refine r_il rfl rfl ?_
          refine r_zne rfl rfl (by decide) (fun gz => ?_) (fun gz => ?_)
          · exact absurd rfl gz
          · refine r_ic rfl ?_
            exact r_retb rfl rfl (by omega) (hQ0 _ _ _ _ _ _ _ _ _ _ _ _ _ _ _ (by rw [hd.1]; exact hd.2) hd.1.symm (by omega) (by omega) hAd hAs)
      · have k9 : mm_tsw 76 0 8 #[50, 76, 76, 76, 76, 76, 52, 60, 68] (cl_t bt ln cp) = some 76 := by unfold mm_tsw; rw [decide_eq_true (show 8 < cl_t bt ln cp by omega), Bool.or_true]; rfl
        refine r_ts (off := 76) rfl (by omega) k9 rfl ?_
        have hb : rp_b (σ, dm, sm, dd, sr, i) = false := by unfold rp_b rp_may; rw [decide_eq_false (show ¬ σ.2.2.2.1 = 0 by omega), decide_eq_false (show ¬ σ.2.2.2.1 < 3 by omega)]; simp
        have hd := it_dead (tx := tx) (dd := dd) (sr := sr) (i := i) (dm := dm) (sm := sm) hσ hT hb
        have hE : rp_lp tx ln (m + 1) (σ, dm, sm, dd, sr, i) = rp_it tx ln (σ, dm, sm, dd, sr, i) := by rw [lp_go hg, lp_stop (go_n (by rw [hd.1]; exact hd.2))]
        rw [hE] at hQ0
        refine r_ic rfl ?_
        refine r_is (lv' := [(3, _), (2, _), (0, _), (1, _)]) rfl rfl rfl ?_
        refine r_il rfl rfl ?_
        refine r_zne rfl rfl (by decide) (fun gz => ?_) (fun gz => ?_)
        · exact absurd rfl gz
        · refine r_ic rfl ?_
          exact r_retb rfl rfl (by omega) (hQ0 _ _ _ _ _ _ _ _ _ _ _ _ _ _ _ (by rw [hd.1]; exact hd.2) hd.1.symm (by omega) (by omega) hAd hAs)
end C6
