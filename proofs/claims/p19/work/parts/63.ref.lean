/-! ===== the reference reads a token: advances ===== -/
abbrev rnA (N : Nat) (c : mm_C) (Q : mm_R → Prop) : Prop := rn (mm_gf gLX12) (mm_pf pLX12) (mm_mv vX12_advances) (mm_mv zX12_advances) (mm_kc kLX12) mm_gs0 mm_rf0 mm_ro none 4 (mm_ins iX12_advances) N c Q
section R4
variable {C : List va_E} {tr : Int64} {th db sn dm sm ty nx tk pl va fa lr ri : Int} {s kp ik tn de sd dd sr tx pa : Nat → Int32} {mw : List va_E} {a b c d e f k z : Int} {N : Nat} {Q : mm_R → Prop}
theorem adv_sp (hC : C.length = 56) (hty : 0 ≤ ty ∧ ty ≤ 400) (k : rnA N (26, [(0, .ref 56)], [], (C ++ rL (ro_ th tr db sn dm sm ty (pt_skip pt_spc tx ty nx) tk pl va fa lr ri) s kp ik tn de sd dd sr tx pa)) Q) (h0 : 0 ≤ nx) (h1 : nx ≤ ty) : ∀ m : Nat, (ty - nx).toNat ≤ m → rnA (N + 20 * m + 20) (0, [(0, .ref 56)], [], (C ++ rL (ro_ th tr db sn dm sm ty nx tk pl va fa lr ri) s kp ik tn de sd dd sr tx pa)) Q := by
  intro m
  induction m generalizing nx with
  | zero =>
    intro hm
    refine rn_up (N := N + 20) (by omega) ?_
    refine r_al rfl rfl ?_
    refine r_al rfl rfl ?_
    refine r_gf rfl rfl (rg_56 hC) rfl ?_
    refine r_v2s rfl rfl (rg_56 hC) rfl (c_byteAt hC (by omega) hty) ?_
    refine r_bi rfl (by decide) ?_
    refine r_cne rfl rfl (pt_at_r _ _ _) (by decide) (fun h2 => ?_) (fun h2 => ?_)
    · have e : pt_skip pt_spc tx ty nx = nx := pt_skip_n (by simp [pt_spc, h2])
      rw [e] at k
      exact rn_up (by omega) k
    · obtain ⟨e, e2⟩ := pt_skip_y (f := pt_spc) (B := tx) (n := ty) (p := nx) rfl (by simp [pt_spc, h2])
      omega
  | succ m ih =>
    intro hm
    refine rn_up (N := N + 20 * m + 20 + 20) (by omega) ?_
    refine r_al rfl rfl ?_
    refine r_al rfl rfl ?_
    refine r_gf rfl rfl (rg_56 hC) rfl ?_
    refine r_v2s rfl rfl (rg_56 hC) rfl (c_byteAt hC (by omega) hty) ?_
    refine r_bi rfl (by decide) ?_
    refine r_cne rfl rfl (pt_at_r _ _ _) (by decide) (fun h2 => ?_) (fun h2 => ?_)
    · have e : pt_skip pt_spc tx ty nx = nx := pt_skip_n (by simp [pt_spc, h2])
      rw [e] at k
      exact rn_up (by omega) k
    · obtain ⟨e, e2⟩ := pt_skip_y (f := pt_spc) (B := tx) (n := ty) (p := nx) rfl (by simp [pt_spc, h2])
      rw [e] at k
      refine r_al rfl rfl ?_
      refine r_dup rfl rfl ?_
      refine r_gf rfl rfl (rg_56 hC) rfl ?_
      refine r_ic rfl ?_
      refine r_add rfl ?_
      refine r_pf rfl rfl (rg_56 hC) rfl (rp_nx hC) ?_
      refine r_goto rfl rfl ?_
      exact rn_up (by omega) (ih k (by omega) (by omega) (by omega))
theorem adv_lo (hC : C.length = 56) (hty : 0 ≤ ty ∧ ty ≤ 400) (hp : 0 ≤ pl ∧ pl ≤ nx) (k : rnA N (130, [(2, lgv (pt_wv tx ty pl (pt_skip pt_low tx ty nx - nx).toNat nx z)), (1, iv c), (0, .ref 56)], [], (C ++ rL (ro_ th tr db sn dm sm ty (pt_skip pt_low tx ty nx) tk pl va fa lr ri) s kp ik tn de sd dd sr tx pa)) Q) (h0 : 0 ≤ nx) (h1 : nx ≤ ty) : ∀ m : Nat, (ty - nx).toNat ≤ m → rnA (N + 50 * m + 50) (68, [(2, lgv z), (1, iv c), (0, .ref 56)], [], (C ++ rL (ro_ th tr db sn dm sm ty nx tk pl va fa lr ri) s kp ik tn de sd dd sr tx pa)) Q := by
  intro m
  induction m generalizing nx z with
  | zero =>
    intro hm
    refine rn_up (N := N + 50) (by omega) ?_
    refine r_al rfl rfl ?_
    refine r_al rfl rfl ?_
    refine r_gf rfl rfl (rg_56 hC) rfl ?_
    refine r_v2s rfl rfl (rg_56 hC) rfl (c_byteAt hC (by omega) hty) ?_
    refine r_bi rfl (by decide) ?_
    refine r_bi rfl (by decide) ?_
    refine r_s3s rfl rfl rfl (c_in (pt_at_r _ _ _) (by decide) (by decide)) ?_
    refine r_zeq rfl rfl (bi_r _) (fun h2 => ?_) (fun h2 => ?_)
    · have e : pt_skip pt_low tx ty nx = nx := pt_skip_n (bi_0 h2)
      rw [e, Int.sub_self] at k
      exact rn_up (by omega) k
    · obtain ⟨e, e2⟩ := pt_skip_y (f := pt_low) (B := tx) (n := ty) (p := nx) rfl (bi_1 h2)
      omega
  | succ m ih =>
    intro hm
    refine rn_up (N := N + 50 * m + 50 + 50) (by omega) ?_
    refine r_al rfl rfl ?_
    refine r_al rfl rfl ?_
    refine r_gf rfl rfl (rg_56 hC) rfl ?_
    refine r_v2s rfl rfl (rg_56 hC) rfl (c_byteAt hC (by omega) hty) ?_
    refine r_bi rfl (by decide) ?_
    refine r_bi rfl (by decide) ?_
    refine r_s3s rfl rfl rfl (c_in (pt_at_r _ _ _) (by decide) (by decide)) ?_
    refine r_zeq rfl rfl (bi_r _) (fun h2 => ?_) (fun h2 => ?_)
    · have e : pt_skip pt_low tx ty nx = nx := pt_skip_n (bi_0 h2)
      rw [e, Int.sub_self] at k
      exact rn_up (by omega) k
    · obtain ⟨e, e2⟩ := pt_skip_y (f := pt_low) (B := tx) (n := ty) (p := nx) rfl (bi_1 h2)
      have r2 := pt_skip_r (f := pt_low) (B := tx) (n := ty) rfl (ty - (nx + 1)).toNat (p := nx + 1) (by omega) (by omega)
      have e3 : (pt_skip pt_low tx ty nx - nx).toNat = (pt_skip pt_low tx ty (nx + 1) - (nx + 1)).toNat + 1 := by rw [e]; omega
      have hl := i3_t (bi_1 h2)
      rw [e3, e] at k
      refine r_al rfl rfl ?_
      refine r_gf rfl rfl (rg_56 hC) rfl ?_
      refine r_al rfl rfl ?_
      refine r_gf rfl rfl (rg_56 hC) rfl ?_
      refine r_sub rfl ?_
      refine r_bi rfl (by decide) ?_
      refine r_cge rfl rfl (by omega) (by omega) (fun h3 => ?_) (fun h3 => ?_)
      · have e4 : (bif decide (nx - pl < 7) then 256 * z + pt_at tx ty nx else z) = z := by rw [decide_eq_false (show ¬ nx - pl < 7 by omega)]; rfl
        refine r_ll rfl rfl ?_
        refine r_ls (lv' := [(2, _), (1, _), (0, _)]) rfl rfl rfl ?_
        refine r_al rfl rfl ?_
        refine r_dup rfl rfl ?_
        refine r_gf rfl rfl (rg_56 hC) rfl ?_
        refine r_ic rfl ?_
        refine r_add rfl ?_
        refine r_pf rfl rfl (rg_56 hC) rfl (rp_nx hC) ?_
        refine r_goto rfl rfl ?_
        refine rn_up (by omega) (ih (z := z) ⟨hp.1, by omega⟩ ?_ (by omega) (by omega) (by omega))
        rw [← e4]
        exact k
      · have e4 : (bif decide (nx - pl < 7) then 256 * z + pt_at tx ty nx else z) = wadd z (pt_at tx ty nx) := by rw [decide_eq_true (show nx - pl < 7 by omega)]; unfold wadd; rw [decide_eq_false (show ¬ pt_at tx ty nx = 0 by omega)]; rfl
        refine r_ll rfl rfl ?_
        refine r_al rfl rfl ?_
        refine r_al rfl rfl ?_
        refine r_gf rfl rfl (rg_56 hC) rfl ?_
        refine r_v2s rfl rfl (rg_56 hC) rfl (c_byteAt hC (by omega) hty) ?_
        refine r_s2s rfl rfl rfl (c_add (pt_at_r _ _ _)) ?_
        refine r_goto rfl rfl ?_
        refine r_ls (lv' := [(2, _), (1, _), (0, _)]) rfl rfl rfl ?_
        refine r_al rfl rfl ?_
        refine r_dup rfl rfl ?_
        refine r_gf rfl rfl (rg_56 hC) rfl ?_
        refine r_ic rfl ?_
        refine r_add rfl ?_
        refine r_pf rfl rfl (rg_56 hC) rfl (rp_nx hC) ?_
        refine r_goto rfl rfl ?_
        refine rn_up (by omega) (ih (z := wadd z (pt_at tx ty nx)) ⟨hp.1, by omega⟩ ?_ (by omega) (by omega) (by omega))
        rw [← e4]
        exact k
theorem adv_di (hC : C.length = 56) (hty : 0 ≤ ty ∧ ty ≤ 400) (hv : 0 ≤ va ∧ va ≤ 9999) (k : rnA N (247, [(1, iv c), (0, .ref 56)], [], (C ++ rL (ro_ th tr db sn dm sm ty (pt_skip pt_dig tx ty nx) tk pl (pt_num tx ty (pt_skip pt_dig tx ty nx - nx).toNat nx va) fa lr ri) s kp ik tn de sd dd sr tx pa)) Q) (h0 : 0 ≤ nx) (h1 : nx ≤ ty) : ∀ m : Nat, (ty - nx).toNat ≤ m → rnA (N + 50 * m + 50) (176, [(1, iv c), (0, .ref 56)], [], (C ++ rL (ro_ th tr db sn dm sm ty nx tk pl va fa lr ri) s kp ik tn de sd dd sr tx pa)) Q := by
  intro m
  induction m generalizing nx va with
  | zero =>
    intro hm
    refine rn_up (N := N + 50) (by omega) ?_
    refine r_al rfl rfl ?_
    refine r_al rfl rfl ?_
    refine r_gf rfl rfl (rg_56 hC) rfl ?_
    refine r_v2s rfl rfl (rg_56 hC) rfl (c_byteAt hC (by omega) hty) ?_
    refine r_bi rfl (by decide) ?_
    refine r_bi rfl (by decide) ?_
    refine r_s3s rfl rfl rfl (c_in (pt_at_r _ _ _) (by decide) (by decide)) ?_
    refine r_zeq rfl rfl (bi_r _) (fun h2 => ?_) (fun h2 => ?_)
    · have e : pt_skip pt_dig tx ty nx = nx := pt_skip_n (bi_0 h2)
      rw [e, Int.sub_self] at k
      exact rn_up (by omega) k
    · obtain ⟨e, e2⟩ := pt_skip_y (f := pt_dig) (B := tx) (n := ty) (p := nx) rfl (bi_1 h2)
      omega
  | succ m ih =>
    intro hm
    refine rn_up (N := N + 50 * m + 50 + 50) (by omega) ?_
    refine r_al rfl rfl ?_
    refine r_al rfl rfl ?_
    refine r_gf rfl rfl (rg_56 hC) rfl ?_
    refine r_v2s rfl rfl (rg_56 hC) rfl (c_byteAt hC (by omega) hty) ?_
    refine r_bi rfl (by decide) ?_
    refine r_bi rfl (by decide) ?_
    refine r_s3s rfl rfl rfl (c_in (pt_at_r _ _ _) (by decide) (by decide)) ?_
    refine r_zeq rfl rfl (bi_r _) (fun h2 => ?_) (fun h2 => ?_)
    · have e : pt_skip pt_dig tx ty nx = nx := pt_skip_n (bi_0 h2)
      rw [e, Int.sub_self] at k
      exact rn_up (by omega) k
    · obtain ⟨e, e2⟩ := pt_skip_y (f := pt_dig) (B := tx) (n := ty) (p := nx) rfl (bi_1 h2)
      have r2 := pt_skip_r (f := pt_dig) (B := tx) (n := ty) rfl (ty - (nx + 1)).toNat (p := nx + 1) (by omega) (by omega)
      have e3 : (pt_skip pt_dig tx ty nx - nx).toNat = (pt_skip pt_dig tx ty (nx + 1) - (nx + 1)).toNat + 1 := by rw [e]; omega
      have hl := i3_t (bi_1 h2)
      rw [e3, e] at k
      refine r_al rfl rfl ?_
      refine r_al rfl rfl ?_
      refine r_gf rfl rfl (rg_56 hC) rfl ?_
      refine r_si rfl (by decide) ?_
      refine r_cle rfl rfl (by omega) (by omega) (fun h3 => ?_) (fun h3 => ?_)
      · have e4 : (bif decide (999 < va) then va else 10 * va + pt_at tx ty nx - 48) = 10 * va + pt_at tx ty nx - 48 := by rw [decide_eq_false (show ¬ 999 < va by omega)]; rfl
        refine r_bi rfl (by decide) ?_
        refine r_al rfl rfl ?_
        refine r_gf rfl rfl (rg_56 hC) rfl ?_
        refine r_mul rfl ?_
        refine r_al rfl rfl ?_
        refine r_al rfl rfl ?_
        refine r_gf rfl rfl (rg_56 hC) rfl ?_
        refine r_v2s rfl rfl (rg_56 hC) rfl (c_byteAt hC (by omega) hty) ?_
        refine r_add rfl ?_
        refine r_bi rfl (by decide) ?_
        refine r_sub rfl ?_
        refine r_pf rfl rfl (rg_56 hC) rfl (rp_va hC) ?_
        refine r_al rfl rfl ?_
        refine r_dup rfl rfl ?_
        refine r_gf rfl rfl (rg_56 hC) rfl ?_
        refine r_ic rfl ?_
        refine r_add rfl ?_
        refine r_pf rfl rfl (rg_56 hC) rfl (rp_nx hC) ?_
        refine r_goto rfl rfl ?_
        refine rn_up (by omega) (ih (va := 10 * va + pt_at tx ty nx - 48) (by omega) ?_ (by omega) (by omega) (by omega))
        rw [← e4]
        exact k
      · have e4 : (bif decide (999 < va) then va else 10 * va + pt_at tx ty nx - 48) = va := by rw [decide_eq_true (show 999 < va by omega)]; rfl
        refine r_al rfl rfl ?_
        refine r_gf rfl rfl (rg_56 hC) rfl ?_
        refine r_goto rfl rfl ?_
        refine r_pf rfl rfl (rg_56 hC) rfl (rp_va hC) ?_
        refine r_al rfl rfl ?_
        refine r_dup rfl rfl ?_
        refine r_gf rfl rfl (rg_56 hC) rfl ?_
        refine r_ic rfl ?_
        refine r_add rfl ?_
        refine r_pf rfl rfl (rg_56 hC) rfl (rp_nx hC) ?_
        refine r_goto rfl rfl ?_
        refine rn_up (by omega) (ih (va := va) (by omega) ?_ (by omega) (by omega) (by omega))
        rw [← e4]
        exact k
theorem pt_wv_r {B : Nat → Int32} {n b : Int} : ∀ (m : Nat) {q z : Int}, b ≤ q → q + m ≤ n → (∀ p : Int, q ≤ p → p < q + m → 97 ≤ pt_at B n p ∧ pt_at B n p ≤ 122) → 0 ≤ z → (q - b ≤ 7 → z < 256 ^ (q - b).toNat) → (7 ≤ q - b → z < 256 ^ 7) → 0 ≤ pt_wv B n b m q z ∧ pt_wv B n b m q z < 256 ^ 7
  | 0, q, z, h1, h2, h3, h4, h5, h6 => by
    refine ⟨h4, ?_⟩
    show z < 256 ^ 7
    by_cases hq : 7 ≤ q - b
    · exact h6 hq
    · have h7 := h5 (by omega)
      have h8 : 256 ^ (q - b).toNat ≤ (256 : Nat) ^ 7 := Nat.pow_le_pow_right (by omega) (by omega)
      have h9 : ((256 ^ (q - b).toNat : Nat) : Int) ≤ ((256 ^ 7 : Nat) : Int) := Int.ofNat_le.mpr h8
      rw [Int.natCast_pow, Int.natCast_pow] at h9
      have h9 : (256 : Int) ^ (q - b).toNat ≤ 256 ^ 7 := h9
      omega
  | m + 1, q, z, h1, h2, h3, h4, h5, h6 => by
    have hq := h3 q (by omega) (by omega)
    show 0 ≤ pt_wv B n b m (q + 1) _ ∧ pt_wv B n b m (q + 1) _ < 256 ^ 7
    by_cases hd : q - b < 7
    · rw [decide_eq_true hd]
      show 0 ≤ pt_wv B n b m (q + 1) (256 * z + pt_at B n q) ∧ _
      have e1 : (q + 1 - b).toNat = (q - b).toNat + 1 := by omega
      have e2 := h5 (by omega)
      have e3 : 256 * z + pt_at B n q < 256 ^ (q + 1 - b).toNat := by rw [e1, Int.pow_succ]; omega
      refine pt_wv_r m (by omega) (by omega) (fun p a1 a2 => h3 p (by omega) (by omega)) (by omega) (fun _ => e3) (fun h7 => ?_)
      have e4 : (q + 1 - b).toNat = 7 := by omega
      rw [e4] at e3
      exact e3
    · rw [decide_eq_false hd]
      show 0 ≤ pt_wv B n b m (q + 1) z ∧ _
      refine pt_wv_r m (by omega) (by omega) (fun p a1 a2 => h3 p (by omega) (by omega)) h4 (fun h7 => ?_) (fun _ => h6 (by omega))
      omega
theorem pt_skip_in {f : Int → Bool} {B : Nat → Int32} {n : Int} (hf : f (-1) = false) : ∀ (m : Nat) {p : Int}, (n - p).toNat ≤ m → ∀ q : Int, p ≤ q → q < pt_skip f B n p → f (pt_at B n q) = true
  | m, p, hm, q, h1, h2 => by
    cases h : f (pt_at B n p) with
    | false => rw [pt_skip_n h] at h2; omega
    | true =>
      by_cases hq : q = p
      · rw [hq]; exact h
      · obtain ⟨e, e1⟩ := pt_skip_y hf h
        rw [e] at h2
        match m, hm with
        | 0, hm => omega
        | m + 1, hm => exact pt_skip_in hf m (p := p + 1) (by omega) q (by omega) h2
theorem pt_num_r {B : Nat → Int32} {n : Int} : ∀ (m : Nat) {q v : Int}, (∀ p : Int, q ≤ p → p < q + m → 48 ≤ pt_at B n p ∧ pt_at B n p ≤ 57) → 0 ≤ v → v ≤ 9999 → 0 ≤ pt_num B n m q v ∧ pt_num B n m q v ≤ 9999
  | 0, q, v, _, h1, h2 => ⟨h1, h2⟩
  | m + 1, q, v, h0, h1, h2 => by
    have hq := h0 q (by omega) (by omega)
    show 0 ≤ pt_num B n m (q + 1) _ ∧ pt_num B n m (q + 1) _ ≤ 9999
    by_cases hd : 999 < v
    · rw [decide_eq_true hd]
      exact pt_num_r m (fun p a1 a2 => h0 p (by omega) (by omega)) h1 h2
    · rw [decide_eq_false hd]
      show 0 ≤ pt_num B n m (q + 1) (10 * v + pt_at B n q - 48) ∧ _
      exact pt_num_r m (fun p a1 a2 => h0 p (by omega) (by omega)) (by omega) (by omega)
theorem c_advances (hC : C.length = 56) (hty : 0 ≤ ty ∧ ty ≤ 400) (hn : 0 ≤ nx ∧ nx ≤ ty) : sX12_advances [.ref 56] (C ++ rL (ro_ th tr db sn dm sm ty nx tk pl va fa lr ri) s kp ik tn de sd dd sr tx pa) = some (none, (C ++ rL (ro_ th tr db sn dm sm ty (ra_nx tx ty nx) (ra_tk tx ty nx) (ra_pl tx ty nx) (ra_va tx ty nx va) fa lr ri) s kp ik tn de sd dd sr tx pa)) := by
  suffices K : ∃ r, sX12_advances [.ref 56] (C ++ rL (ro_ th tr db sn dm sm ty nx tk pl va fa lr ri) s kp ik tn de sd dd sr tx pa) = some r ∧ r = (none, (C ++ rL (ro_ th tr db sn dm sm ty (ra_nx tx ty nx) (ra_tk tx ty nx) (ra_pl tx ty nx) (ra_va tx ty nx va) fa lr ri) s kp ik tn de sd dd sr tx pa)) by
    obtain ⟨r, h1, h2⟩ := K
    rw [h1, h2]
  refine rn_S rfl ?_
  refine rn_up (N := 100000 + 20 * 400 + 20) (by decide) ?_
  refine adv_sp hC hty ?_ hn.1 hn.2 400 (by omega)
  have hp := pt_skip_r (f := pt_spc) (B := tx) (n := ty) rfl 400 (p := nx) hn.2 (by omega)
  have hp0 : ra_pl tx ty nx = pt_skip pt_spc tx ty nx := rfl
  have hc0 : ra_c tx ty nx = pt_at tx ty (pt_skip pt_spc tx ty nx) := rfl
  have hcr := pt_at_r tx ty (pt_skip pt_spc tx ty nx)
  unfold ra_nx ra_tk ra_va
  rw [hc0, hp0]
  unfold ra_w ra_n
  rw [hp0]
  generalize pt_skip pt_spc tx ty nx = p0 at hp hcr ⊢
  generalize hc : pt_at tx ty p0 = c0 at hcr ⊢
  refine r_al rfl rfl ?_
  refine r_al rfl rfl ?_
  refine r_gf rfl rfl (rg_56 hC) rfl ?_
  refine r_pf rfl rfl (rg_56 hC) rfl (rp_pl hC) ?_
  refine r_al rfl rfl ?_
  refine r_al rfl rfl ?_
  refine r_gf rfl rfl (rg_56 hC) rfl ?_
  refine r_v2s rfl rfl (rg_56 hC) rfl (c_byteAt hC (by omega) hty) ?_
  rw [hc]
  refine r_is (lv' := [(1, _), (0, _)]) rfl rfl rfl ?_
  refine r_il rfl rfl ?_
  refine r_zge rfl rfl (by omega) (fun g1 => ?_) (fun g1 => ?_)
  · rw [decide_eq_false (show ¬ c0 < 0 by omega)]
    refine r_il rfl rfl ?_
    refine r_bi rfl (by decide) ?_
    refine r_bi rfl (by decide) ?_
    refine r_s3s rfl rfl rfl (c_in hcr (by decide) (by decide)) ?_
    refine r_zeq rfl rfl (bi_r _) (fun g2 => ?_) (fun g2 => ?_)
    · have g2 := bi_0 g2
      have g2 : pt_low c0 = false := g2
      rw [g2]
      refine r_il rfl rfl ?_
      refine r_bi rfl (by decide) ?_
      refine r_bi rfl (by decide) ?_
      refine r_s3s rfl rfl rfl (c_in hcr (by decide) (by decide)) ?_
      refine r_zeq rfl rfl (bi_r _) (fun g3 => ?_) (fun g3 => ?_)
      · have g3 : pt_dig c0 = false := bi_0 g3
        rw [g3]
        refine r_al rfl rfl ?_
        refine r_dup rfl rfl ?_
        refine r_gf rfl rfl (rg_56 hC) rfl ?_
        refine r_ic rfl ?_
        refine r_add rfl ?_
        refine r_pf rfl rfl (rg_56 hC) rfl (rp_nx hC) ?_
        refine r_al rfl rfl ?_
        refine r_il rfl rfl ?_
        refine r_bi rfl (by decide) ?_
        refine r_sub rfl ?_
        refine r_pf rfl rfl (rg_56 hC) rfl (rp_va hC) ?_
        refine r_al rfl rfl ?_
        refine r_il rfl rfl ?_
        refine r_bi rfl (by decide) ?_
        refine r_bi rfl (by decide) ?_
        refine r_s3s rfl rfl rfl (c_in hcr (by decide) (by decide)) ?_
        refine r_zeq rfl rfl (bi_r _) (fun g4 => ?_) (fun g4 => ?_)
        · rw [show i3 c0 65 72 = false from bi_0 g4]
          refine r_il rfl rfl ?_
          refine r_bi rfl (by decide) ?_
          refine r_cne rfl rfl (by omega) (by omega) (fun g5 => ?_) (fun g5 => ?_)
          · rw [decide_eq_false g5]
            refine r_il rfl rfl ?_
            refine r_bi rfl (by decide) ?_
            refine r_cne rfl rfl (by omega) (by omega) (fun g6 => ?_) (fun g6 => ?_)
            · rw [decide_eq_false g6]
              refine r_bi rfl (by decide) ?_
              refine r_pf rfl rfl (rg_56 hC) rfl (rp_tk hC) ?_
              exact r_retv rfl rfl rfl
            · rw [decide_eq_true g6]
              refine r_ic rfl ?_
              refine r_goto rfl rfl ?_
              refine r_pf rfl rfl (rg_56 hC) rfl (rp_tk hC) ?_
              exact r_retv rfl rfl rfl
          · rw [decide_eq_true g5]
            refine r_ic rfl ?_
            refine r_goto rfl rfl ?_
            refine r_pf rfl rfl (rg_56 hC) rfl (rp_tk hC) ?_
            exact r_retv rfl rfl rfl
        · rw [show i3 c0 65 72 = true from bi_1 g4]
          refine r_ic rfl ?_
          refine r_goto rfl rfl ?_
          refine r_pf rfl rfl (rg_56 hC) rfl (rp_tk hC) ?_
          exact r_retv rfl rfl rfl
      · have g3 : pt_dig c0 = true := bi_1 g3
        rw [g3]
        have hs := pt_skip_r (f := pt_dig) (B := tx) (n := ty) rfl 400 (p := p0) hp.2 (by omega)
        have hnr := pt_num_r (B := tx) (n := ty) (pt_skip pt_dig tx ty p0 - p0).toNat (q := p0) (v := 0) (fun p a1 a2 => i3_t (pt_skip_in (f := pt_dig) rfl 400 (p := p0) (by omega) p a1 (by omega))) (by omega) (by omega)
        refine r_al rfl rfl ?_
        refine r_ic rfl ?_
        refine r_pf rfl rfl (rg_56 hC) rfl (rp_va hC) ?_
        refine rn_up (N := 1000 + 50 * 400 + 50) (by omega) ?_
        refine adv_di hC hty (by omega) ?_ (by omega) (by omega) 400 (by omega)
        generalize pt_num tx ty (pt_skip pt_dig tx ty p0 - p0).toNat p0 0 = v0 at hnr ⊢
        generalize pt_skip pt_dig tx ty p0 = q0 at hs ⊢
        refine r_al rfl rfl ?_
        refine r_al rfl rfl ?_
        refine r_gf rfl rfl (rg_56 hC) rfl ?_
        refine r_si rfl (by decide) ?_
        refine r_cgt rfl rfl (by omega) (by omega) (fun g4 => ?_) (fun g4 => ?_)
        · rw [decide_eq_true g4]
          refine r_bi rfl (by decide) ?_
          refine r_goto rfl rfl ?_
          refine r_pf rfl rfl (rg_56 hC) rfl (rp_tk hC) ?_
          refine r_goto rfl rfl ?_
          exact r_retv rfl rfl rfl
        · rw [decide_eq_false (show ¬ 999 < v0 by omega)]
          refine r_il rfl rfl ?_
          refine r_bi rfl (by decide) ?_
          refine r_cne rfl rfl (by omega) (by omega) (fun g5 => ?_) (fun g5 => ?_)
          · rw [decide_eq_false g5]
            refine r_ic rfl ?_
            refine r_pf rfl rfl (rg_56 hC) rfl (rp_tk hC) ?_
            refine r_goto rfl rfl ?_
            exact r_retv rfl rfl rfl
          · rw [decide_eq_true g5]
            refine r_al rfl rfl ?_
            refine r_gf rfl rfl (rg_56 hC) rfl ?_
            refine r_al rfl rfl ?_
            refine r_gf rfl rfl (rg_56 hC) rfl ?_
            refine r_sub rfl ?_
            refine r_ic rfl ?_
            refine r_cle rfl rfl (by omega) (by omega) (fun g6 => ?_) (fun g6 => ?_)
            · rw [decide_eq_false (show ¬ 1 < q0 - p0 by omega)]
              refine r_ic rfl ?_
              refine r_pf rfl rfl (rg_56 hC) rfl (rp_tk hC) ?_
              refine r_goto rfl rfl ?_
              exact r_retv rfl rfl rfl
            · rw [decide_eq_true g6]
              refine r_bi rfl (by decide) ?_
              refine r_goto rfl rfl ?_
              refine r_pf rfl rfl (rg_56 hC) rfl (rp_tk hC) ?_
              refine r_goto rfl rfl ?_
              exact r_retv rfl rfl rfl
    · have g2 : pt_low c0 = true := bi_1 g2
      rw [g2]
      have hs := pt_skip_r (f := pt_low) (B := tx) (n := ty) rfl 400 (p := p0) hp.2 (by omega)
      have hnr := pt_wv_r (B := tx) (n := ty) (b := p0) (pt_skip pt_low tx ty p0 - p0).toNat (q := p0) (z := 0) (by omega) (by omega) (fun p a1 a2 => i3_t (pt_skip_in (f := pt_low) rfl 400 (p := p0) (by omega) p a1 (by omega))) (by omega) (fun _ => by rw [Int.sub_self]; decide) (fun _ => by decide)
      refine r_lc0 rfl ?_
      refine r_ls (lv' := [(2, _), (1, _), (0, _)]) rfl rfl rfl ?_
      refine rn_up (N := 1000 + 50 * 400 + 50) (by omega) ?_
      refine adv_lo hC hty (by omega) ?_ (by omega) (by omega) 400 (by omega)
      generalize pt_wv tx ty p0 (pt_skip pt_low tx ty p0 - p0).toNat p0 0 = v0 at hnr ⊢
      generalize pt_skip pt_low tx ty p0 = q0 at hs ⊢
      have hw := pw_of_r v0
      refine r_al rfl rfl ?_
      refine r_ll rfl rfl ?_
      refine r_s1s rfl rfl rfl (c_wordOf (by omega)) ?_
      refine r_pf rfl rfl (rg_56 hC) rfl (rp_va hC) ?_
      refine r_al rfl rfl ?_
      refine r_al rfl rfl ?_
      refine r_gf rfl rfl (rg_56 hC) rfl ?_
      refine r_bi rfl (by decide) ?_
      refine r_cne rfl rfl (by omega) (by omega) (fun g4 => ?_) (fun g4 => ?_)
      · rw [decide_eq_false g4]
        refine r_ic rfl ?_
        refine r_pf rfl rfl (rg_56 hC) rfl (rp_tk hC) ?_
        refine r_goto rfl rfl ?_
        exact r_retv rfl rfl rfl
      · rw [decide_eq_true g4]
        refine r_bi rfl (by decide) ?_
        refine r_goto rfl rfl ?_
        refine r_pf rfl rfl (rg_56 hC) rfl (rp_tk hC) ?_
        refine r_goto rfl rfl ?_
        exact r_retv rfl rfl rfl
  · rw [decide_eq_true g1]
    refine r_al rfl rfl ?_
    refine r_ic rfl ?_
    refine r_pf rfl rfl (rg_56 hC) rfl (rp_tk hC) ?_
    refine r_goto rfl rfl ?_
    exact r_retv rfl rfl rfl
end R4
