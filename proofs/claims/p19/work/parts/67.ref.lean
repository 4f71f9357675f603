/-! ===== the reference reads papers: the machine ===== -/
def cpy (j : Nat) (f g : Nat → Int32) : Nat → Int32 := fun k => bif Nat.ble (k + 1) j then g k else f k
theorem cpy_0 (f g : Nat → Int32) : cpy 0 f g = f := by funext k; unfold cpy; cases h : Nat.ble (k + 1) 0 with | false => rfl | true => exact absurd (Nat.le_of_ble_eq_true h) (by omega)
theorem cpy_lt {j k : Nat} {f g : Nat → Int32} (h : k < j) : cpy j f g k = g k := by unfold cpy; rw [Nat.ble_eq_true_of_le (Nat.succ_le_of_lt h)]; rfl
theorem cpy_ge {j k : Nat} {f g : Nat → Int32} (h : j ≤ k) : cpy j f g k = f k := by
  unfold cpy
  cases hb : Nat.ble (k + 1) j with
  | false => rfl
  | true => have := Nat.le_of_ble_eq_true hb; omega
theorem cpy_s {j : Nat} {f g : Nat → Int32} {x : Int32} (hx : x = g j) : upd (cpy j f g) j x = cpy (j + 1) f g := by
  funext k
  by_cases h : k = j
  · rw [h, upd_same, cpy_lt (by omega), hx]
  · rw [upd_ne h]
    by_cases h2 : k < j
    · rw [cpy_lt h2, cpy_lt (by omega)]
    · rw [cpy_ge (by omega), cpy_ge (by omega)]
/-- nothing but what lies beside stays -/
def zrs (s : Nat → Int32) : Nat → Int32 := fun k => bif i3 k 122 129 then s k else Int32.ofInt 0
def lim (j : Nat) (f sd : Nat → Int32) : Nat → Int32 := fun k => bif Nat.ble 26 k && Nat.ble (k + 1) (26 + j) then sd (5 * (k - 26) + 4) else f k
theorem lim_0 (f sd : Nat → Int32) : lim 0 f sd = f := by
  funext k
  unfold lim
  cases h : Nat.ble 26 k && Nat.ble (k + 1) (26 + 0) with
  | false => rfl
  | true =>
    have h := Bool.and_eq_true_iff.mp h
    have h1 := Nat.le_of_ble_eq_true h.1
    have h2 := Nat.le_of_ble_eq_true h.2
    omega
theorem lim_s {j : Nat} {f sd : Nat → Int32} {x : Int32} (hx : x = sd (5 * j + 4)) : upd (lim j f sd) (26 + j) x = lim (j + 1) f sd := by
  funext k
  by_cases h : k = 26 + j
  · rw [h, upd_same, hx]
    unfold lim
    rw [Nat.ble_eq_true_of_le (show 26 ≤ 26 + j by omega), Nat.ble_eq_true_of_le (show 26 + j + 1 ≤ 26 + (j + 1) by omega), show 26 + j - 26 = j by omega]
    rfl
  · rw [upd_ne h]
    unfold lim
    cases h1 : Nat.ble 26 k with
    | false => rfl
    | true =>
      have e : Nat.ble (k + 1) (26 + j) = Nat.ble (k + 1) (26 + (j + 1)) := by
        cases h2 : Nat.ble (k + 1) (26 + j) with
        | true => have := Nat.le_of_ble_eq_true h2; exact (Nat.ble_eq_true_of_le (by omega)).symm
        | false =>
          cases h3 : Nat.ble (k + 1) (26 + (j + 1)) with
          | false => rfl
          | true =>
            have h3 := Nat.le_of_ble_eq_true h3
            have : ¬ (k + 1 ≤ 26 + j) := fun q => by rw [Nat.ble_eq_true_of_le q] at h2; cases h2
            omega
      rw [e]
theorem iv_s (z : Int32) : Int32.ofInt z.toInt = z := Int32.ofInt_toInt z
abbrev rn_X12_papers (N : Nat) (c : mm_C) (Q : mm_R → Prop) : Prop := rn (mm_gf gLX12) (mm_pf pLX12) (mm_mv vX12_papers) (mm_mv zX12_papers) (mm_kc kLX12) mm_gs0 mm_rf0 mm_ro (some .int) 4 (mm_ins iX12_papers) N c Q
section R7
variable {C : List va_E} {tr : Int64} {th db sn dm sm ty lr ri : Int} {σ : pS} {s kp ik tn de sd dd sr tx pa : Nat → Int32} {a w i : Int} {Q : mm_R → Prop} {N : Nat}
theorem pp_sA  (hC : C.length = 56)  (k : rn_X12_papers N (279, [(2, iv (((131 : Nat) : Int))), (1, iv (i)), (0, .ref 56)], [], (C ++ rL (ro_ th tr db sn dm sm ty (σ).1 (σ).2.1 (σ).2.2.1 (σ).2.2.2.1 (σ).2.2.2.2 lr ri) (cpy 131 s (zrs s)) kp ik tn de sd dd sr tx pa)) Q) : ∀ (m j : Nat), j + m = 131 → rn_X12_papers (N + 30 * m + 30) (238, [(2, iv ((j : Int))), (1, iv (i)), (0, .ref 56)], [], (C ++ rL (ro_ th tr db sn dm sm ty (σ).1 (σ).2.1 (σ).2.2.1 (σ).2.2.2.1 (σ).2.2.2.2 lr ri) (cpy j s (zrs s)) kp ik tn de sd dd sr tx pa)) Q := by
  intro m
  induction m with
  | zero =>
    intro j hj
    have hj : j = 131 := by omega
    subst hj
    refine rn_up (N := N + 30) (by omega) ?_
    refine r_il rfl rfl ?_
    refine r_si rfl (by decide) ?_
    refine r_cge rfl rfl (by omega) (by omega) (fun g1 => ?_) (fun g1 => ?_)
    · exact rn_up (by omega) k
    · omega
  | succ m ih =>
    intro j hj
    refine rn_up (N := N + 30 * m + 30 + 30) (by omega) ?_
    refine r_il rfl rfl ?_
    refine r_si rfl (by decide) ?_
    refine r_cge rfl rfl (by omega) (by omega) (fun g1 => ?_) (fun g1 => ?_)
    · omega
    · refine r_al rfl rfl ?_
      refine r_gf rfl rfl (rg_56 hC) rfl ?_
      refine r_il rfl rfl ?_
      refine r_il rfl rfl ?_
      refine r_bi rfl (by decide) ?_
      refine r_si rfl (by decide) ?_
      refine r_s3s rfl rfl rfl (c_in (by omega) (by decide) (by decide)) ?_
      refine r_zeq rfl rfl (bi_r _) (fun g2 => ?_) (fun g2 => ?_)
      · refine r_ic rfl ?_
        refine r_ias rfl (rg_57 hC) (by omega) (by omega) (by decide) (rs_57 hC) ?_
        refine r_inc (lv' := [(2, _), (1, _), (0, _)]) rfl rfl rfl rfl ?_
        refine r_goto rfl rfl ?_
        rw [show Int.toNat (j : Int) = j from rfl, cpy_s (show Int32.ofInt 0 = zrs s j by unfold zrs; rw [bi_0 g2]; rfl)]
        exact rn_up (by omega) (ih (j + 1) (by omega))
      · refine r_al rfl rfl ?_
        refine r_gf rfl rfl (rg_56 hC) rfl ?_
        refine r_il rfl rfl ?_
        refine r_ia rfl (rg_57 hC) (by omega) (by omega) (by decide) ?_
        refine r_goto rfl rfl ?_
        refine r_ias rfl (rg_57 hC) (by omega) (by omega) (by decide) (rs_57 hC) ?_
        refine r_inc (lv' := [(2, _), (1, _), (0, _)]) rfl rfl rfl rfl ?_
        refine r_goto rfl rfl ?_
        rw [show Int.toNat (j : Int) = j from rfl, cpy_s (show Int32.ofInt (cpy j s (zrs s) j).toInt = zrs s j by rw [iv_s, cpy_ge (Nat.le_refl _)]; unfold zrs; rw [bi_1 g2]; rfl)]
        exact rn_up (by omega) (ih (j + 1) (by omega))
theorem pp_dA {n : Nat} (hC : C.length = 56) (hn : n ≤ 10) (k : rn_X12_papers N (309, [(2, iv ((((3 * n) : Nat) : Int))), (1, iv (i)), (0, .ref 56)], [], (C ++ rL (ro_ th tr (n : Int) sn dm sm ty (σ).1 (σ).2.1 (σ).2.2.1 (σ).2.2.2.1 (σ).2.2.2.2 lr ri) s kp ik tn (cpy (3 * n) de dd) sd dd sr tx pa)) Q) : ∀ (m j : Nat), j + m = (3 * n) → rn_X12_papers (N + 30 * m + 30) (281, [(2, iv ((j : Int))), (1, iv (i)), (0, .ref 56)], [], (C ++ rL (ro_ th tr (n : Int) sn dm sm ty (σ).1 (σ).2.1 (σ).2.2.1 (σ).2.2.2.1 (σ).2.2.2.2 lr ri) s kp ik tn (cpy j de dd) sd dd sr tx pa)) Q := by
  intro m
  induction m with
  | zero =>
    intro j hj
    have hj : j = (3 * n) := by omega
    subst hj
    refine rn_up (N := N + 30) (by omega) ?_
    refine r_il rfl rfl ?_
    refine r_ic rfl ?_
    refine r_al rfl rfl ?_
    refine r_gf rfl rfl (rg_56 hC) rfl ?_
    refine r_mul rfl ?_
    refine r_cge rfl rfl (by omega) (by omega) (fun g1 => ?_) (fun g1 => ?_)
    · exact rn_up (by omega) k
    · omega
  | succ m ih =>
    intro j hj
    refine rn_up (N := N + 30 * m + 30 + 30) (by omega) ?_
    refine r_il rfl rfl ?_
    refine r_ic rfl ?_
    refine r_al rfl rfl ?_
    refine r_gf rfl rfl (rg_56 hC) rfl ?_
    refine r_mul rfl ?_
    refine r_cge rfl rfl (by omega) (by omega) (fun g1 => ?_) (fun g1 => ?_)
    · omega
    · refine r_al rfl rfl ?_
      refine r_gf rfl rfl (rg_56 hC) rfl ?_
      refine r_il rfl rfl ?_
      refine r_al rfl rfl ?_
      refine r_gf rfl rfl (rg_56 hC) rfl ?_
      refine r_il rfl rfl ?_
      refine r_ia rfl (rg_63 hC) (by omega) (by omega) (by decide) ?_
      refine r_ias rfl (rg_61 hC) (by omega) (by omega) (by decide) (rs_61 hC) ?_
      refine r_inc (lv' := [(2, _), (1, _), (0, _)]) rfl rfl rfl rfl ?_
      refine r_goto rfl rfl ?_
      rw [show Int.toNat (j : Int) = j from rfl, cpy_s (show Int32.ofInt (dd j).toInt = dd j from iv_s _)]
      exact rn_up (by omega) (ih (j + 1) (by omega))
theorem pp_tA {n : Nat} (hC : C.length = 56) (hn : n ≤ 16) (k : rn_X12_papers N (339, [(2, iv ((((5 * n) : Nat) : Int))), (1, iv (i)), (0, .ref 56)], [], (C ++ rL (ro_ th tr db (n : Int) dm sm ty (σ).1 (σ).2.1 (σ).2.2.1 (σ).2.2.2.1 (σ).2.2.2.2 lr ri) s kp ik tn de (cpy (5 * n) sd sr) dd sr tx pa)) Q) : ∀ (m j : Nat), j + m = (5 * n) → rn_X12_papers (N + 30 * m + 30) (311, [(2, iv ((j : Int))), (1, iv (i)), (0, .ref 56)], [], (C ++ rL (ro_ th tr db (n : Int) dm sm ty (σ).1 (σ).2.1 (σ).2.2.1 (σ).2.2.2.1 (σ).2.2.2.2 lr ri) s kp ik tn de (cpy j sd sr) dd sr tx pa)) Q := by
  intro m
  induction m with
  | zero =>
    intro j hj
    have hj : j = (5 * n) := by omega
    subst hj
    refine rn_up (N := N + 30) (by omega) ?_
    refine r_il rfl rfl ?_
    refine r_ic rfl ?_
    refine r_al rfl rfl ?_
    refine r_gf rfl rfl (rg_56 hC) rfl ?_
    refine r_mul rfl ?_
    refine r_cge rfl rfl (by omega) (by omega) (fun g1 => ?_) (fun g1 => ?_)
    · exact rn_up (by omega) k
    · omega
  | succ m ih =>
    intro j hj
    refine rn_up (N := N + 30 * m + 30 + 30) (by omega) ?_
    refine r_il rfl rfl ?_
    refine r_ic rfl ?_
    refine r_al rfl rfl ?_
    refine r_gf rfl rfl (rg_56 hC) rfl ?_
    refine r_mul rfl ?_
    refine r_cge rfl rfl (by omega) (by omega) (fun g1 => ?_) (fun g1 => ?_)
    · omega
    · refine r_al rfl rfl ?_
      refine r_gf rfl rfl (rg_56 hC) rfl ?_
      refine r_il rfl rfl ?_
      refine r_al rfl rfl ?_
      refine r_gf rfl rfl (rg_56 hC) rfl ?_
      refine r_il rfl rfl ?_
      refine r_ia rfl (rg_64 hC) (by omega) (by omega) (by decide) ?_
      refine r_ias rfl (rg_62 hC) (by omega) (by omega) (by decide) (rs_62 hC) ?_
      refine r_inc (lv' := [(2, _), (1, _), (0, _)]) rfl rfl rfl rfl ?_
      refine r_goto rfl rfl ?_
      rw [show Int.toNat (j : Int) = j from rfl, cpy_s (show Int32.ofInt (sr j).toInt = sr j from iv_s _)]
      exact rn_up (by omega) (ih (j + 1) (by omega))
theorem pp_lA {n : Nat} (hC : C.length = 56) (hn : n ≤ 16) (k : rn_X12_papers N (374, [(2, iv (((n : Nat) : Int))), (1, iv (i)), (0, .ref 56)], [], (C ++ rL (ro_ th tr db (n : Int) dm sm ty (σ).1 (σ).2.1 (σ).2.2.1 (σ).2.2.2.1 (σ).2.2.2.2 lr ri) (lim n s sd) kp ik tn de sd dd sr tx pa)) Q) : ∀ (m j : Nat), j + m = n → rn_X12_papers (N + 30 * m + 30) (341, [(2, iv ((j : Int))), (1, iv (i)), (0, .ref 56)], [], (C ++ rL (ro_ th tr db (n : Int) dm sm ty (σ).1 (σ).2.1 (σ).2.2.1 (σ).2.2.2.1 (σ).2.2.2.2 lr ri) (lim j s sd) kp ik tn de sd dd sr tx pa)) Q := by
  intro m
  induction m with
  | zero =>
    intro j hj
    have hj : j = n := by omega
    subst hj
    refine rn_up (N := N + 30) (by omega) ?_
    refine r_il rfl rfl ?_
    refine r_al rfl rfl ?_
    refine r_gf rfl rfl (rg_56 hC) rfl ?_
    refine r_cge rfl rfl (by omega) (by omega) (fun g1 => ?_) (fun g1 => ?_)
    · exact rn_up (by omega) k
    · omega
  | succ m ih =>
    intro j hj
    refine rn_up (N := N + 30 * m + 30 + 30) (by omega) ?_
    refine r_il rfl rfl ?_
    refine r_al rfl rfl ?_
    refine r_gf rfl rfl (rg_56 hC) rfl ?_
    refine r_cge rfl rfl (by omega) (by omega) (fun g1 => ?_) (fun g1 => ?_)
    · omega
    · refine r_al rfl rfl ?_
      refine r_gf rfl rfl (rg_56 hC) rfl ?_
      refine r_bi rfl (by decide) ?_
      refine r_il rfl rfl ?_
      refine r_add rfl ?_
      refine r_al rfl rfl ?_
      refine r_gf rfl rfl (rg_56 hC) rfl ?_
      refine r_ic rfl ?_
      refine r_il rfl rfl ?_
      refine r_mul rfl ?_
      refine r_ic rfl ?_
      refine r_add rfl ?_
      refine r_ia rfl (rg_62 hC) (by omega) (by omega) (by decide) ?_
      refine r_ias rfl (rg_57 hC) (by omega) (by omega) (by decide) (rs_57 hC) ?_
      refine r_inc (lv' := [(2, _), (1, _), (0, _)]) rfl rfl rfl rfl ?_
      refine r_goto rfl rfl ?_
      rw [show Int.toNat (26 + (j : Int)) = 26 + j by omega, show Int.toNat (5 * (j : Int) + 4) = 5 * j + 4 by omega, lim_s (iv_s _)]
      exact rn_up (by omega) (ih (j + 1) (by omega))
theorem pp_sB  (hC : C.length = 56)  (k : rn_X12_papers N (279, [(2, iv (((131 : Nat) : Int))), (1, iv (i)), (3, iv (w)), (0, .ref 56)], [], (C ++ rL (ro_ th tr db sn dm sm ty (σ).1 (σ).2.1 (σ).2.2.1 (σ).2.2.2.1 (σ).2.2.2.2 lr ri) (cpy 131 s (zrs s)) kp ik tn de sd dd sr tx pa)) Q) : ∀ (m j : Nat), j + m = 131 → rn_X12_papers (N + 30 * m + 30) (238, [(2, iv ((j : Int))), (1, iv (i)), (3, iv (w)), (0, .ref 56)], [], (C ++ rL (ro_ th tr db sn dm sm ty (σ).1 (σ).2.1 (σ).2.2.1 (σ).2.2.2.1 (σ).2.2.2.2 lr ri) (cpy j s (zrs s)) kp ik tn de sd dd sr tx pa)) Q := by
  intro m
  induction m with
  | zero =>
    intro j hj
    have hj : j = 131 := by omega
    subst hj
    refine rn_up (N := N + 30) (by omega) ?_
    refine r_il rfl rfl ?_
    refine r_si rfl (by decide) ?_
    refine r_cge rfl rfl (by omega) (by omega) (fun g1 => ?_) (fun g1 => ?_)
    · exact rn_up (by omega) k
    · omega
  | succ m ih =>
    intro j hj
    refine rn_up (N := N + 30 * m + 30 + 30) (by omega) ?_
    refine r_il rfl rfl ?_
    refine r_si rfl (by decide) ?_
    refine r_cge rfl rfl (by omega) (by omega) (fun g1 => ?_) (fun g1 => ?_)
    · omega
    · refine r_al rfl rfl ?_
      refine r_gf rfl rfl (rg_56 hC) rfl ?_
      refine r_il rfl rfl ?_
      refine r_il rfl rfl ?_
      refine r_bi rfl (by decide) ?_
      refine r_si rfl (by decide) ?_
      refine r_s3s rfl rfl rfl (c_in (by omega) (by decide) (by decide)) ?_
      refine r_zeq rfl rfl (bi_r _) (fun g2 => ?_) (fun g2 => ?_)
      · refine r_ic rfl ?_
        refine r_ias rfl (rg_57 hC) (by omega) (by omega) (by decide) (rs_57 hC) ?_
        refine r_inc (lv' := [(2, _), (1, _), (3, _), (0, _)]) rfl rfl rfl rfl ?_
        refine r_goto rfl rfl ?_
        rw [show Int.toNat (j : Int) = j from rfl, cpy_s (show Int32.ofInt 0 = zrs s j by unfold zrs; rw [bi_0 g2]; rfl)]
        exact rn_up (by omega) (ih (j + 1) (by omega))
      · refine r_al rfl rfl ?_
        refine r_gf rfl rfl (rg_56 hC) rfl ?_
        refine r_il rfl rfl ?_
        refine r_ia rfl (rg_57 hC) (by omega) (by omega) (by decide) ?_
        refine r_goto rfl rfl ?_
        refine r_ias rfl (rg_57 hC) (by omega) (by omega) (by decide) (rs_57 hC) ?_
        refine r_inc (lv' := [(2, _), (1, _), (3, _), (0, _)]) rfl rfl rfl rfl ?_
        refine r_goto rfl rfl ?_
        rw [show Int.toNat (j : Int) = j from rfl, cpy_s (show Int32.ofInt (cpy j s (zrs s) j).toInt = zrs s j by rw [iv_s, cpy_ge (Nat.le_refl _)]; unfold zrs; rw [bi_1 g2]; rfl)]
        exact rn_up (by omega) (ih (j + 1) (by omega))
theorem pp_dB {n : Nat} (hC : C.length = 56) (hn : n ≤ 10) (k : rn_X12_papers N (309, [(2, iv ((((3 * n) : Nat) : Int))), (1, iv (i)), (3, iv (w)), (0, .ref 56)], [], (C ++ rL (ro_ th tr (n : Int) sn dm sm ty (σ).1 (σ).2.1 (σ).2.2.1 (σ).2.2.2.1 (σ).2.2.2.2 lr ri) s kp ik tn (cpy (3 * n) de dd) sd dd sr tx pa)) Q) : ∀ (m j : Nat), j + m = (3 * n) → rn_X12_papers (N + 30 * m + 30) (281, [(2, iv ((j : Int))), (1, iv (i)), (3, iv (w)), (0, .ref 56)], [], (C ++ rL (ro_ th tr (n : Int) sn dm sm ty (σ).1 (σ).2.1 (σ).2.2.1 (σ).2.2.2.1 (σ).2.2.2.2 lr ri) s kp ik tn (cpy j de dd) sd dd sr tx pa)) Q := by
  intro m
  induction m with
  | zero =>
    intro j hj
    have hj : j = (3 * n) := by omega
    subst hj
    refine rn_up (N := N + 30) (by omega) ?_
    refine r_il rfl rfl ?_
    refine r_ic rfl ?_
    refine r_al rfl rfl ?_
    refine r_gf rfl rfl (rg_56 hC) rfl ?_
    refine r_mul rfl ?_
    refine r_cge rfl rfl (by omega) (by omega) (fun g1 => ?_) (fun g1 => ?_)
    · exact rn_up (by omega) k
    · omega
  | succ m ih =>
    intro j hj
    refine rn_up (N := N + 30 * m + 30 + 30) (by omega) ?_
    refine r_il rfl rfl ?_
    refine r_ic rfl ?_
    refine r_al rfl rfl ?_
    refine r_gf rfl rfl (rg_56 hC) rfl ?_
    refine r_mul rfl ?_
    refine r_cge rfl rfl (by omega) (by omega) (fun g1 => ?_) (fun g1 => ?_)
    · omega
    · refine r_al rfl rfl ?_
      refine r_gf rfl rfl (rg_56 hC) rfl ?_
      refine r_il rfl rfl ?_
      refine r_al rfl rfl ?_
      refine r_gf rfl rfl (rg_56 hC) rfl ?_
      refine r_il rfl rfl ?_
      refine r_ia rfl (rg_63 hC) (by omega) (by omega) (by decide) ?_
      refine r_ias rfl (rg_61 hC) (by omega) (by omega) (by decide) (rs_61 hC) ?_
      refine r_inc (lv' := [(2, _), (1, _), (3, _), (0, _)]) rfl rfl rfl rfl ?_
      refine r_goto rfl rfl ?_
      rw [show Int.toNat (j : Int) = j from rfl, cpy_s (show Int32.ofInt (dd j).toInt = dd j from iv_s _)]
      exact rn_up (by omega) (ih (j + 1) (by omega))
theorem pp_tB {n : Nat} (hC : C.length = 56) (hn : n ≤ 16) (k : rn_X12_papers N (339, [(2, iv ((((5 * n) : Nat) : Int))), (1, iv (i)), (3, iv (w)), (0, .ref 56)], [], (C ++ rL (ro_ th tr db (n : Int) dm sm ty (σ).1 (σ).2.1 (σ).2.2.1 (σ).2.2.2.1 (σ).2.2.2.2 lr ri) s kp ik tn de (cpy (5 * n) sd sr) dd sr tx pa)) Q) : ∀ (m j : Nat), j + m = (5 * n) → rn_X12_papers (N + 30 * m + 30) (311, [(2, iv ((j : Int))), (1, iv (i)), (3, iv (w)), (0, .ref 56)], [], (C ++ rL (ro_ th tr db (n : Int) dm sm ty (σ).1 (σ).2.1 (σ).2.2.1 (σ).2.2.2.1 (σ).2.2.2.2 lr ri) s kp ik tn de (cpy j sd sr) dd sr tx pa)) Q := by
  intro m
  induction m with
  | zero =>
    intro j hj
    have hj : j = (5 * n) := by omega
    subst hj
    refine rn_up (N := N + 30) (by omega) ?_
    refine r_il rfl rfl ?_
    refine r_ic rfl ?_
    refine r_al rfl rfl ?_
    refine r_gf rfl rfl (rg_56 hC) rfl ?_
    refine r_mul rfl ?_
    refine r_cge rfl rfl (by omega) (by omega) (fun g1 => ?_) (fun g1 => ?_)
    · exact rn_up (by omega) k
    · omega
  | succ m ih =>
    intro j hj
    refine rn_up (N := N + 30 * m + 30 + 30) (by omega) ?_
    refine r_il rfl rfl ?_
    refine r_ic rfl ?_
    refine r_al rfl rfl ?_
    refine r_gf rfl rfl (rg_56 hC) rfl ?_
    refine r_mul rfl ?_
    refine r_cge rfl rfl (by omega) (by omega) (fun g1 => ?_) (fun g1 => ?_)
    · omega
    · refine r_al rfl rfl ?_
      refine r_gf rfl rfl (rg_56 hC) rfl ?_
      refine r_il rfl rfl ?_
      refine r_al rfl rfl ?_
      refine r_gf rfl rfl (rg_56 hC) rfl ?_
      refine r_il rfl rfl ?_
      refine r_ia rfl (rg_64 hC) (by omega) (by omega) (by decide) ?_
      refine r_ias rfl (rg_62 hC) (by omega) (by omega) (by decide) (rs_62 hC) ?_
      refine r_inc (lv' := [(2, _), (1, _), (3, _), (0, _)]) rfl rfl rfl rfl ?_
      refine r_goto rfl rfl ?_
      rw [show Int.toNat (j : Int) = j from rfl, cpy_s (show Int32.ofInt (sr j).toInt = sr j from iv_s _)]
      exact rn_up (by omega) (ih (j + 1) (by omega))
theorem pp_lB {n : Nat} (hC : C.length = 56) (hn : n ≤ 16) (k : rn_X12_papers N (374, [(2, iv (((n : Nat) : Int))), (1, iv (i)), (3, iv (w)), (0, .ref 56)], [], (C ++ rL (ro_ th tr db (n : Int) dm sm ty (σ).1 (σ).2.1 (σ).2.2.1 (σ).2.2.2.1 (σ).2.2.2.2 lr ri) (lim n s sd) kp ik tn de sd dd sr tx pa)) Q) : ∀ (m j : Nat), j + m = n → rn_X12_papers (N + 30 * m + 30) (341, [(2, iv ((j : Int))), (1, iv (i)), (3, iv (w)), (0, .ref 56)], [], (C ++ rL (ro_ th tr db (n : Int) dm sm ty (σ).1 (σ).2.1 (σ).2.2.1 (σ).2.2.2.1 (σ).2.2.2.2 lr ri) (lim j s sd) kp ik tn de sd dd sr tx pa)) Q := by
  intro m
  induction m with
  | zero =>
    intro j hj
    have hj : j = n := by omega
    subst hj
    refine rn_up (N := N + 30) (by omega) ?_
    refine r_il rfl rfl ?_
    refine r_al rfl rfl ?_
    refine r_gf rfl rfl (rg_56 hC) rfl ?_
    refine r_cge rfl rfl (by omega) (by omega) (fun g1 => ?_) (fun g1 => ?_)
    · exact rn_up (by omega) k
    · omega
  | succ m ih =>
    intro j hj
    refine rn_up (N := N + 30 * m + 30 + 30) (by omega) ?_
    refine r_il rfl rfl ?_
    refine r_al rfl rfl ?_
    refine r_gf rfl rfl (rg_56 hC) rfl ?_
    refine r_cge rfl rfl (by omega) (by omega) (fun g1 => ?_) (fun g1 => ?_)
    · omega
    · refine r_al rfl rfl ?_
      refine r_gf rfl rfl (rg_56 hC) rfl ?_
      refine r_bi rfl (by decide) ?_
      refine r_il rfl rfl ?_
      refine r_add rfl ?_
      refine r_al rfl rfl ?_
      refine r_gf rfl rfl (rg_56 hC) rfl ?_
      refine r_ic rfl ?_
      refine r_il rfl rfl ?_
      refine r_mul rfl ?_
      refine r_ic rfl ?_
      refine r_add rfl ?_
      refine r_ia rfl (rg_62 hC) (by omega) (by omega) (by decide) ?_
      refine r_ias rfl (rg_57 hC) (by omega) (by omega) (by decide) (rs_57 hC) ?_
      refine r_inc (lv' := [(2, _), (1, _), (3, _), (0, _)]) rfl rfl rfl rfl ?_
      refine r_goto rfl rfl ?_
      rw [show Int.toNat (26 + (j : Int)) = 26 + j by omega, show Int.toNat (5 * (j : Int) + 4) = 5 * j + 4 by omega, lim_s (iv_s _)]
      exact rn_up (by omega) (ih (j + 1) (by omega))
theorem pp_endA (hC : C.length = 56) (hdm : 0 ≤ dm ∧ dm ≤ 10) (hsm : 0 ≤ sm ∧ sm ≤ 16) (hfa : -1 ≤ σ.2.2.2.2 ∧ σ.2.2.2.2 ≤ 400) (hQ : Q (bif decide (σ.2.2.2.2 < 0) then (some (iv i), (C ++ rL (ro_ th tr dm sm dm sm (0 : Int) (σ).1 (σ).2.1 (σ).2.2.1 (σ).2.2.2.1 (σ).2.2.2.2 lr ri) (lim sm.toNat (cpy 131 s (zrs s)) (cpy (5 * sm.toNat) sd sr)) kp (upd (upd ik 0 (vp_nar (mm_ty 2) (Int32.ofInt 0))) 1 (vp_nar (mm_ty 2) (Int32.ofInt 0))) tn (cpy (3 * dm.toNat) de dd) (cpy (5 * sm.toNat) sd sr) dd sr tx pa)) else (some (iv ((-10) - (σ.2.2.2.2))), (C ++ rL (ro_ th tr db sn dm sm ty (σ).1 (σ).2.1 (σ).2.2.1 (σ).2.2.2.1 (σ).2.2.2.2 lr ri) s kp ik tn de sd dd sr tx pa)))) : rn_X12_papers (9000) (186, [(1, iv (i)), (0, .ref 56)], [], (C ++ rL (ro_ th tr db sn dm sm ty (σ).1 (σ).2.1 (σ).2.2.1 (σ).2.2.2.1 (σ).2.2.2.2 lr ri) s kp ik tn de sd dd sr tx pa)) Q := by
  refine r_al rfl rfl ?_
  refine r_v1s rfl rfl (rg_56 hC) rfl (c_isWell hC (by omega)) ?_
  refine r_zne rfl rfl (bi_r _) (fun g1 => ?_) (fun g1 => ?_)
  · have g1 := bi_1 g1
    rw [g1] at hQ
    obtain ⟨n, hn⟩ := Int.eq_ofNat_of_zero_le hdm.1
    obtain ⟨q, hq⟩ := Int.eq_ofNat_of_zero_le hsm.1
    subst hn
    subst hq
    refine r_al rfl rfl ?_
    refine r_al rfl rfl ?_
    refine r_gf rfl rfl (rg_56 hC) rfl ?_
    refine r_pf rfl rfl (rg_56 hC) rfl (rp_db hC) ?_
    refine r_al rfl rfl ?_
    refine r_al rfl rfl ?_
    refine r_gf rfl rfl (rg_56 hC) rfl ?_
    refine r_pf rfl rfl (rg_56 hC) rfl (rp_sn hC) ?_
    refine r_al rfl rfl ?_
    refine r_ic rfl ?_
    refine r_pf rfl rfl (rg_56 hC) rfl (rp_ty hC) ?_
    refine r_al rfl rfl ?_
    refine r_gf rfl rfl (rg_56 hC) rfl ?_
    refine r_ic rfl ?_
    refine r_ic rfl ?_
    refine r_zas rfl (rg_59 hC) (by omega) (by omega) (by decide) (rs_59 hC) ?_
    refine r_al rfl rfl ?_
    refine r_gf rfl rfl (rg_56 hC) rfl ?_
    refine r_ic rfl ?_
    refine r_ic rfl ?_
    refine r_zas rfl (rg_59 hC) (by omega) (by omega) (by decide) (rs_59 hC) ?_
    refine r_ic rfl ?_
    refine r_is (lv' := [(2, _), (1, _), (0, _)]) rfl rfl rfl ?_
    rw [← cpy_0 s (zrs s)]
    refine rn_up (N := 4000 + 30 * 131 + 30) (by decide) (pp_sA hC ?_ 131 0 rfl)
    refine r_ic rfl ?_
    refine r_is (lv' := [(2, _), (1, _), (0, _)]) rfl rfl rfl ?_
    rw [← cpy_0 de dd]
    refine rn_up (N := 3000 - 30 + 30 * (3 * n) + 30) (by omega) (pp_dA hC (by omega) ?_ (3 * n) 0 (by omega))
    refine r_ic rfl ?_
    refine r_is (lv' := [(2, _), (1, _), (0, _)]) rfl rfl rfl ?_
    rw [← cpy_0 sd sr]
    refine rn_up (N := 530 + 30 * (5 * q) + 30) (by omega) (pp_tA hC (by omega) ?_ (5 * q) 0 (by omega))
    refine r_ic rfl ?_
    refine r_is (lv' := [(2, _), (1, _), (0, _)]) rfl rfl rfl ?_
    rw [← lim_0 (cpy 131 s (zrs s)) (cpy (5 * q) sd sr)]
    refine rn_up (N := 10 + 30 * q + 30) (by omega) (pp_lA hC (by omega) ?_ q 0 (by omega))
    refine r_il rfl rfl ?_
    exact r_ret rfl rfl hQ
  · have g1 := bi_0 g1
    rw [g1] at hQ
    refine r_bi rfl (by decide) ?_
    refine r_al rfl rfl ?_
    refine r_gf rfl rfl (rg_56 hC) rfl ?_
    refine r_sub rfl ?_
    exact r_ret rfl rfl hQ
theorem pp_endB (hC : C.length = 56) (hdm : 0 ≤ dm ∧ dm ≤ 10) (hsm : 0 ≤ sm ∧ sm ≤ 16) (hfa : -1 ≤ σ.2.2.2.2 ∧ σ.2.2.2.2 ≤ 400) (hQ : Q (bif decide (σ.2.2.2.2 < 0) then (some (iv i), (C ++ rL (ro_ th tr dm sm dm sm (0 : Int) (σ).1 (σ).2.1 (σ).2.2.1 (σ).2.2.2.1 (σ).2.2.2.2 lr ri) (lim sm.toNat (cpy 131 s (zrs s)) (cpy (5 * sm.toNat) sd sr)) kp (upd (upd ik 0 (vp_nar (mm_ty 2) (Int32.ofInt 0))) 1 (vp_nar (mm_ty 2) (Int32.ofInt 0))) tn (cpy (3 * dm.toNat) de dd) (cpy (5 * sm.toNat) sd sr) dd sr tx pa)) else (some (iv ((-10) - (σ.2.2.2.2))), (C ++ rL (ro_ th tr db sn dm sm ty (σ).1 (σ).2.1 (σ).2.2.1 (σ).2.2.2.1 (σ).2.2.2.2 lr ri) s kp ik tn de sd dd sr tx pa)))) : rn_X12_papers (9000) (186, [(1, iv (i)), (3, iv (w)), (2, iv (a)), (0, .ref 56)], [], (C ++ rL (ro_ th tr db sn dm sm ty (σ).1 (σ).2.1 (σ).2.2.1 (σ).2.2.2.1 (σ).2.2.2.2 lr ri) s kp ik tn de sd dd sr tx pa)) Q := by
  refine r_al rfl rfl ?_
  refine r_v1s rfl rfl (rg_56 hC) rfl (c_isWell hC (by omega)) ?_
  refine r_zne rfl rfl (bi_r _) (fun g1 => ?_) (fun g1 => ?_)
  · have g1 := bi_1 g1
    rw [g1] at hQ
    obtain ⟨n, hn⟩ := Int.eq_ofNat_of_zero_le hdm.1
    obtain ⟨q, hq⟩ := Int.eq_ofNat_of_zero_le hsm.1
    subst hn
    subst hq
    refine r_al rfl rfl ?_
    refine r_al rfl rfl ?_
    refine r_gf rfl rfl (rg_56 hC) rfl ?_
    refine r_pf rfl rfl (rg_56 hC) rfl (rp_db hC) ?_
    refine r_al rfl rfl ?_
    refine r_al rfl rfl ?_
    refine r_gf rfl rfl (rg_56 hC) rfl ?_
    refine r_pf rfl rfl (rg_56 hC) rfl (rp_sn hC) ?_
    refine r_al rfl rfl ?_
    refine r_ic rfl ?_
    refine r_pf rfl rfl (rg_56 hC) rfl (rp_ty hC) ?_
    refine r_al rfl rfl ?_
    refine r_gf rfl rfl (rg_56 hC) rfl ?_
    refine r_ic rfl ?_
    refine r_ic rfl ?_
    refine r_zas rfl (rg_59 hC) (by omega) (by omega) (by decide) (rs_59 hC) ?_
    refine r_al rfl rfl ?_
    refine r_gf rfl rfl (rg_56 hC) rfl ?_
    refine r_ic rfl ?_
    refine r_ic rfl ?_
    refine r_zas rfl (rg_59 hC) (by omega) (by omega) (by decide) (rs_59 hC) ?_
    refine r_ic rfl ?_
    refine r_is (lv' := [(2, _), (1, _), (3, _), (0, _)]) rfl rfl rfl ?_
    rw [← cpy_0 s (zrs s)]
    refine rn_up (N := 4000 + 30 * 131 + 30) (by decide) (pp_sB hC ?_ 131 0 rfl)
    refine r_ic rfl ?_
    refine r_is (lv' := [(2, _), (1, _), (3, _), (0, _)]) rfl rfl rfl ?_
    rw [← cpy_0 de dd]
    refine rn_up (N := 3000 - 30 + 30 * (3 * n) + 30) (by omega) (pp_dB hC (by omega) ?_ (3 * n) 0 (by omega))
    refine r_ic rfl ?_
    refine r_is (lv' := [(2, _), (1, _), (3, _), (0, _)]) rfl rfl rfl ?_
    rw [← cpy_0 sd sr]
    refine rn_up (N := 530 + 30 * (5 * q) + 30) (by omega) (pp_tB hC (by omega) ?_ (5 * q) 0 (by omega))
    refine r_ic rfl ?_
    refine r_is (lv' := [(2, _), (1, _), (3, _), (0, _)]) rfl rfl rfl ?_
    rw [← lim_0 (cpy 131 s (zrs s)) (cpy (5 * q) sd sr)]
    refine rn_up (N := 10 + 30 * q + 30) (by omega) (pp_lB hC (by omega) ?_ q 0 (by omega))
    refine r_il rfl rfl ?_
    exact r_ret rfl rfl hQ
  · have g1 := bi_0 g1
    rw [g1] at hQ
    refine r_bi rfl (by decide) ?_
    refine r_al rfl rfl ?_
    refine r_gf rfl rfl (rg_56 hC) rfl ?_
    refine r_sub rfl ?_
    exact r_ret rfl rfl hQ
end R7
