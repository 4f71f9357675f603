/-! ===== the reference takes tokens ===== -/
abbrev pS : Type := Int × Int × Int × Int × Int
def pt_adv (B : Nat → Int32) (n : Int) (σ : pS) : pS := (ra_nx B n σ.1, ra_tk B n σ.1, ra_pl B n σ.1, ra_va B n σ.1 σ.2.2.2.1, σ.2.2.2.2)
def pt_tk (B : Nat → Int32) (n : Int) (b : Bool) (σ : pS) : pS := bif decide (σ.2.2.2.2 < 0) then (bif b then pt_adv B n σ else (σ.1, σ.2.1, σ.2.2.1, σ.2.2.2.1, σ.2.2.1)) else σ
def pt_tv (b : Bool) (σ : pS) : Int := bif decide (σ.2.2.2.2 < 0) && b then σ.2.2.2.1 else 0
def pt_ok (n : Int) (σ : pS) : Prop := (0 ≤ σ.1 ∧ σ.1 ≤ n) ∧ (0 ≤ σ.2.1 ∧ σ.2.1 ≤ 6) ∧ (0 ≤ σ.2.2.1 ∧ σ.2.2.1 ≤ n) ∧ (-2147483648 ≤ σ.2.2.2.1 ∧ σ.2.2.2.1 ≤ 2147483647 ∧ (σ.2.1 = 1 → 0 ≤ σ.2.2.2.1 ∧ σ.2.2.2.1 ≤ 5) ∧ (σ.2.1 = 2 → 0 ≤ σ.2.2.2.1 ∧ σ.2.2.2.1 ≤ 7) ∧ (σ.2.1 = 3 → 0 ≤ σ.2.2.2.1 ∧ σ.2.2.2.1 ≤ 999)) ∧ (-1 ≤ σ.2.2.2.2 ∧ σ.2.2.2.2 ≤ n)
theorem pt_adv_ok {B : Nat → Int32} {n : Int} {σ : pS} (hn : 0 ≤ n ∧ n ≤ 400) (hB : ∀ k : Nat, (k : Int) < n → 0 ≤ (B k).toInt ∧ (B k).toInt ≤ 255) (h : pt_ok n σ) : pt_ok n (pt_adv B n σ) := by
  obtain ⟨h1, h2, h3, h4, h5⟩ := h
  have hp := pt_skip_r (f := pt_spc) (B := B) (n := n) rfl 400 (p := σ.1) h1.2 (by omega)
  have hc : ra_c B n σ.1 = -1 ∧ ra_pl B n σ.1 = n ∨ (0 ≤ ra_c B n σ.1 ∧ ra_c B n σ.1 ≤ 255 ∧ ra_pl B n σ.1 < n) := by
    unfold ra_c
    have hp : σ.1 ≤ ra_pl B n σ.1 ∧ ra_pl B n σ.1 ≤ n := hp
    by_cases hl : ra_pl B n σ.1 < n
    · right
      rw [pt_at_lt hl]
      have := hB (ra_pl B n σ.1).toNat (by omega)
      exact ⟨this.1, this.2, hl⟩
    · left
      exact ⟨pt_at_ge (by omega), by omega⟩
  have hp : σ.1 ≤ ra_pl B n σ.1 ∧ ra_pl B n σ.1 ≤ n := hp
  have hl := pt_skip_r (f := pt_low) (B := B) (n := n) rfl 400 (p := ra_pl B n σ.1) hp.2 (by omega)
  have hd := pt_skip_r (f := pt_dig) (B := B) (n := n) rfl 400 (p := ra_pl B n σ.1) hp.2 (by omega)
  have hw := pw_of_r (pt_wv B n (ra_pl B n σ.1) (pt_skip pt_low B n (ra_pl B n σ.1) - ra_pl B n σ.1).toNat (ra_pl B n σ.1) 0)
  have hw : -9 ≤ ra_w B n σ.1 ∧ ra_w B n σ.1 ≤ 5 := hw
  have hw2 : ra_w B n σ.1 = -9 ∨ 0 ≤ ra_w B n σ.1 := by
    unfold ra_w pw_of
    generalize pt_wv B n (ra_pl B n σ.1) (pt_skip pt_low B n (ra_pl B n σ.1) - ra_pl B n σ.1).toNat (ra_pl B n σ.1) 0 = z
    cases decide (z = 1684365940) <;> cases decide (z = 495873781348) <;> cases decide (z = 1870030194) <;> cases decide (z = 512853240933) <;> cases decide (z = 1885434484) <;> cases decide (z = 108187682958948) <;> decide
  have hnr := pt_num_r (B := B) (n := n) (pt_skip pt_dig B n (ra_pl B n σ.1) - ra_pl B n σ.1).toNat (q := ra_pl B n σ.1) (v := 0) (fun p a1 a2 => i3_t (pt_skip_in (f := pt_dig) rfl 400 (p := ra_pl B n σ.1) (by omega) p a1 (by omega))) (by omega) (by omega)
  have hnr : 0 ≤ ra_n B n σ.1 ∧ ra_n B n σ.1 ≤ 9999 := hnr
  unfold pt_ok pt_adv
  simp only
  unfold ra_nx ra_tk ra_va
  generalize ra_c B n σ.1 = c at hc ⊢
  generalize ra_w B n σ.1 = w at hw hw2 ⊢
  generalize ra_n B n σ.1 = v at hnr ⊢
  generalize pt_skip pt_low B n (ra_pl B n σ.1) = q1 at hl ⊢
  generalize pt_skip pt_dig B n (ra_pl B n σ.1) = q2 at hd ⊢
  generalize ra_pl B n σ.1 = p at hp hc hl hd ⊢
  by_cases g1 : c < 0
  · rw [decide_eq_true g1]
    simp only [cond_true]
    omega
  · rw [decide_eq_false g1]
    simp only [cond_false]
    cases g2 : pt_low c with
    | true =>
      simp only [cond_true]
      by_cases g3 : w = -9
      · rw [decide_eq_true g3]
        simp only [cond_true]
        omega
      · rw [decide_eq_false g3]
        simp only [cond_false]
        omega
    | false =>
      simp only [cond_false]
      cases g3 : pt_dig c with
      | true =>
        simp only [cond_true]
        cases g4 : (decide (999 < v) || (decide (c = 48) && decide (1 < q2 - p))) with
        | true =>
          simp only [cond_true]
          omega
        | false =>
          have g4 : ¬ 999 < v := by
            intro q
            rw [decide_eq_true q] at g4
            cases g4
          simp only [cond_false]
          omega
      | false =>
        simp only [cond_false]
        cases g4 : i3 c 65 72 with
        | true =>
          have := i3_t g4
          simp only [cond_true]
          omega
        | false =>
          simp only [cond_false]
          cases decide (c = 47) <;> cases decide (c = 59) <;> simp only [cond_true, cond_false] <;> omega
theorem pt_tk_ok {B : Nat → Int32} {n : Int} {σ : pS} {b : Bool} (hn : 0 ≤ n ∧ n ≤ 400) (hB : ∀ k : Nat, (k : Int) < n → 0 ≤ (B k).toInt ∧ (B k).toInt ≤ 255) (h : pt_ok n σ) : pt_ok n (pt_tk B n b σ) := by
  unfold pt_tk
  cases decide (σ.2.2.2.2 < 0) with
  | false => exact h
  | true =>
    cases b with
    | true => exact pt_adv_ok hn hB h
    | false =>
      obtain ⟨h1, h2, h3, h4, h5⟩ := h
      exact ⟨h1, h2, h3, h4, by show -1 ≤ σ.2.2.1 ∧ σ.2.2.1 ≤ n; omega⟩
def nb (l m : Int) (σ : pS) : Bool := decide (σ.2.1 = 3) && i3 σ.2.2.2.1 l m
section R5
variable {C : List va_E} {tr : Int64} {th db sn dm sm ty lr ri : Int} {σ : pS} {s kp ik tn de sd dd sr tx pa : Nat → Int32} {b : Bool} {l m : Int}
abbrev rn_X12_takes (N : Nat) (c : mm_C) (Q : mm_R → Prop) : Prop := rn (mm_gf gLX12) (mm_pf pLX12) (mm_mv vX12_takes) (mm_mv zX12_takes) (mm_kc kLX12) mm_gs0 mm_rf0 mm_ro (some .int) 3 (mm_ins iX12_takes) N c Q
theorem c_takes (hC : C.length = 56) (hty : 0 ≤ ty ∧ ty ≤ 400) (hσ : pt_ok ty σ) : sX12_takes [.ref 56, iv (bi b)] (C ++ rL (ro_ th tr db sn dm sm ty (σ).1 (σ).2.1 (σ).2.2.1 (σ).2.2.2.1 (σ).2.2.2.2 lr ri) s kp ik tn de sd dd sr tx pa) = some (some (iv (pt_tv b σ)), (C ++ rL (ro_ th tr db sn dm sm ty (pt_tk tx ty b σ).1 (pt_tk tx ty b σ).2.1 (pt_tk tx ty b σ).2.2.1 (pt_tk tx ty b σ).2.2.2.1 (pt_tk tx ty b σ).2.2.2.2 lr ri) s kp ik tn de sd dd sr tx pa)) := by
  have main : ∀ Q : mm_R → Prop, Q (some (iv (pt_tv b σ)), (C ++ rL (ro_ th tr db sn dm sm ty (pt_tk tx ty b σ).1 (pt_tk tx ty b σ).2.1 (pt_tk tx ty b σ).2.2.1 (pt_tk tx ty b σ).2.2.2.1 (pt_tk tx ty b σ).2.2.2.2 lr ri) s kp ik tn de sd dd sr tx pa)) → rn_X12_takes (1000) (0, [(0, .ref 56), (1, iv (bi b))], [], (C ++ rL (ro_ th tr db sn dm sm ty (σ).1 (σ).2.1 (σ).2.2.1 (σ).2.2.2.1 (σ).2.2.2.2 lr ri) s kp ik tn de sd dd sr tx pa)) Q := by
    intro Q hQ
    obtain ⟨k1, k2, k3, k4, k5⟩ := id hσ
    refine r_al rfl rfl ?_
    refine r_v1s rfl rfl (rg_56 hC) rfl (c_isWell hC (by omega)) ?_
    refine r_zne rfl rfl (bi_r _) (fun g1 => ?_) (fun g1 => ?_)
    · have g1 := bi_1 g1
      refine r_il rfl rfl ?_
      refine r_zne rfl rfl (bi_r _) (fun g2 => ?_) (fun g2 => ?_)
      · have g2 := bi_1 g2
        have e1 : pt_tk tx ty b σ = pt_adv tx ty σ := by unfold pt_tk; rw [g1, g2]; rfl
        have e2 : pt_tv b σ = σ.2.2.2.1 := by unfold pt_tv; rw [g1, g2]; rfl
        rw [e1, e2] at hQ
        refine r_al rfl rfl ?_
        refine r_gf rfl rfl (rg_56 hC) rfl ?_
        refine r_is (lv' := [(2, _), (0, _), (1, _)]) rfl rfl rfl ?_
        refine r_al rfl rfl ?_
        refine r_v1n rfl rfl (rg_56 hC) rfl (c_advances hC hty k1) ?_
        refine r_il rfl rfl ?_
        exact r_ret rfl rfl hQ
      · have g2 := bi_0 g2
        have e1 : pt_tk tx ty b σ = (σ.1, σ.2.1, σ.2.2.1, σ.2.2.2.1, σ.2.2.1) := by unfold pt_tk; rw [g1, g2]; rfl
        have e2 : pt_tv b σ = 0 := by unfold pt_tv; rw [g1, g2]; rfl
        rw [e1, e2] at hQ
        refine r_al rfl rfl ?_
        refine r_al rfl rfl ?_
        refine r_gf rfl rfl (rg_56 hC) rfl ?_
        refine r_pf rfl rfl (rg_56 hC) rfl (rp_fa hC) ?_
        refine r_ic rfl ?_
        exact r_ret rfl rfl hQ
    · have g1 := bi_0 g1
      have e1 : pt_tk tx ty b σ = σ := by unfold pt_tk; rw [g1]; rfl
      have e2 : pt_tv b σ = 0 := by unfold pt_tv; rw [g1]; rfl
      rw [e1, e2] at hQ
      refine r_ic rfl ?_
      exact r_ret rfl rfl hQ
  obtain ⟨r, h1, h2⟩ := rn_S (vs := [.ref 56, iv (bi b)]) (Q := fun r => r = (some (iv (pt_tv b σ)), (C ++ rL (ro_ th tr db sn dm sm ty (pt_tk tx ty b σ).1 (pt_tk tx ty b σ).2.1 (pt_tk tx ty b σ).2.2.1 (pt_tk tx ty b σ).2.2.2.1 (pt_tk tx ty b σ).2.2.2.2 lr ri) s kp ik tn de sd dd sr tx pa))) rfl (rn_up (N := 1000) (M := mm_fuel) (by decide) (main (fun r => r = (some (iv (pt_tv b σ)), (C ++ rL (ro_ th tr db sn dm sm ty (pt_tk tx ty b σ).1 (pt_tk tx ty b σ).2.1 (pt_tk tx ty b σ).2.2.1 (pt_tk tx ty b σ).2.2.2.1 (pt_tk tx ty b σ).2.2.2.2 lr ri) s kp ik tn de sd dd sr tx pa))) rfl))
  have h1 : sX12_takes [.ref 56, iv (bi b)] (C ++ rL (ro_ th tr db sn dm sm ty (σ).1 (σ).2.1 (σ).2.2.1 (σ).2.2.2.1 (σ).2.2.2.2 lr ri) s kp ik tn de sd dd sr tx pa) = some r := h1
  rw [h1, h2]
abbrev rn_X12_number (N : Nat) (c : mm_C) (Q : mm_R → Prop) : Prop := rn (mm_gf gLX12) (mm_pf pLX12) (mm_mv vX12_number) (mm_mv zX12_number) (mm_kc kLX12) mm_gs0 mm_rf0 mm_ro (some .int) 3 (mm_ins iX12_number) N c Q
theorem c_number (hC : C.length = 56) (hty : 0 ≤ ty ∧ ty ≤ 400) (hσ : pt_ok ty σ) (hl : -2147483648 ≤ l ∧ l ≤ 2147483647) (hm : -2147483648 ≤ m ∧ m ≤ 2147483647) : sX12_number [.ref 56, iv (l), iv (m)] (C ++ rL (ro_ th tr db sn dm sm ty (σ).1 (σ).2.1 (σ).2.2.1 (σ).2.2.2.1 (σ).2.2.2.2 lr ri) s kp ik tn de sd dd sr tx pa) = some (some (iv (pt_tv (nb l m σ) σ)), (C ++ rL (ro_ th tr db sn dm sm ty (pt_tk tx ty (nb l m σ) σ).1 (pt_tk tx ty (nb l m σ) σ).2.1 (pt_tk tx ty (nb l m σ) σ).2.2.1 (pt_tk tx ty (nb l m σ) σ).2.2.2.1 (pt_tk tx ty (nb l m σ) σ).2.2.2.2 lr ri) s kp ik tn de sd dd sr tx pa)) := by
  have main : ∀ Q : mm_R → Prop, Q (some (iv (pt_tv (nb l m σ) σ)), (C ++ rL (ro_ th tr db sn dm sm ty (pt_tk tx ty (nb l m σ) σ).1 (pt_tk tx ty (nb l m σ) σ).2.1 (pt_tk tx ty (nb l m σ) σ).2.2.1 (pt_tk tx ty (nb l m σ) σ).2.2.2.1 (pt_tk tx ty (nb l m σ) σ).2.2.2.2 lr ri) s kp ik tn de sd dd sr tx pa)) → rn_X12_number (1000) (0, [(0, .ref 56), (1, iv (l)), (2, iv (m))], [], (C ++ rL (ro_ th tr db sn dm sm ty (σ).1 (σ).2.1 (σ).2.2.1 (σ).2.2.2.1 (σ).2.2.2.2 lr ri) s kp ik tn de sd dd sr tx pa)) Q := by
    intro Q hQ
    obtain ⟨k1, k2, k3, k4, k5⟩ := id hσ
    have K : rn_X12_number (500) (26, [(0, .ref 56), (1, iv (l)), (2, iv (m))], [iv (bi (nb l m σ)), .ref 56], (C ++ rL (ro_ th tr db sn dm sm ty (σ).1 (σ).2.1 (σ).2.2.1 (σ).2.2.2.1 (σ).2.2.2.2 lr ri) s kp ik tn de sd dd sr tx pa)) Q := by
      refine r_v2s rfl rfl (rg_56 hC) rfl (c_takes (b := nb l m σ) hC hty hσ) ?_
      exact r_ret rfl rfl hQ
    refine r_al rfl rfl ?_
    refine r_al rfl rfl ?_
    refine r_gf rfl rfl (rg_56 hC) rfl ?_
    refine r_ic rfl ?_
    refine r_cne rfl rfl (by omega) (by omega) (fun g1 => ?_) (fun g1 => ?_)
    · refine r_ic rfl ?_
      have e : nb l m σ = false := by unfold nb; rw [decide_eq_false g1]; rfl
      rw [e] at K
      exact rn_up (by decide) K
    · refine r_al rfl rfl ?_
      refine r_gf rfl rfl (rg_56 hC) rfl ?_
      refine r_il rfl rfl ?_
      refine r_il rfl rfl ?_
      refine r_s3s rfl rfl rfl (c_in (by omega) hl hm) ?_
      refine r_zeq rfl rfl (bi_r _) (fun g2 => ?_) (fun g2 => ?_)
      · refine r_ic rfl ?_
        have e : nb l m σ = false := by unfold nb; rw [bi_0 g2, Bool.and_false]
        rw [e] at K
        exact rn_up (by decide) K
      · refine r_ic rfl ?_
        refine r_goto rfl rfl ?_
        have e : nb l m σ = true := by unfold nb; rw [decide_eq_true g1, bi_1 g2]; rfl
        rw [e] at K
        exact rn_up (by decide) K
  obtain ⟨r, h1, h2⟩ := rn_S (vs := [.ref 56, iv (l), iv (m)]) (Q := fun r => r = (some (iv (pt_tv (nb l m σ) σ)), (C ++ rL (ro_ th tr db sn dm sm ty (pt_tk tx ty (nb l m σ) σ).1 (pt_tk tx ty (nb l m σ) σ).2.1 (pt_tk tx ty (nb l m σ) σ).2.2.1 (pt_tk tx ty (nb l m σ) σ).2.2.2.1 (pt_tk tx ty (nb l m σ) σ).2.2.2.2 lr ri) s kp ik tn de sd dd sr tx pa))) rfl (rn_up (N := 1000) (M := mm_fuel) (by decide) (main (fun r => r = (some (iv (pt_tv (nb l m σ) σ)), (C ++ rL (ro_ th tr db sn dm sm ty (pt_tk tx ty (nb l m σ) σ).1 (pt_tk tx ty (nb l m σ) σ).2.1 (pt_tk tx ty (nb l m σ) σ).2.2.1 (pt_tk tx ty (nb l m σ) σ).2.2.2.1 (pt_tk tx ty (nb l m σ) σ).2.2.2.2 lr ri) s kp ik tn de sd dd sr tx pa))) rfl))
  have h1 : sX12_number [.ref 56, iv (l), iv (m)] (C ++ rL (ro_ th tr db sn dm sm ty (σ).1 (σ).2.1 (σ).2.2.1 (σ).2.2.2.1 (σ).2.2.2.2 lr ri) s kp ik tn de sd dd sr tx pa) = some r := h1
  rw [h1, h2]
end R5
