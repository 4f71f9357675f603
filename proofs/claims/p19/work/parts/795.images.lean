/-! ===== images of the reference ===== -/
def sumB (s : Nat → Int32) : Nat → Int
  | 0 => 0
  | m + 1 => sumB s m + (s (122 + m)).toInt
def kcp (i j : Nat) (kp s : Nat → Int32) : Nat → Int32 := fun k => if 131 * i ≤ k ∧ k < 131 * i + j then s (k - 131 * i) else kp k
def kof (i : Nat) (kp : Nat → Int32) : Nat → Int32 := fun k => kp (131 * i + k)
theorem kcp_0 {i : Nat} {kp s : Nat → Int32} : kcp i 0 kp s = kp := by
  funext k
  unfold kcp
  rw [if_neg (by omega)]
theorem kcp_s {i j : Nat} {kp s : Nat → Int32} : upd (kcp i j kp s) (131 * i + j) (s j) = kcp i (j + 1) kp s := by
  funext k
  by_cases e : k = 131 * i + j
  · subst e
    rw [upd_same]
    unfold kcp
    rw [if_pos (by omega), Nat.add_sub_cancel_left]
  · rw [upd_ne e]
    unfold kcp
    by_cases q : 131 * i ≤ k ∧ k < 131 * i + j
    · rw [if_pos q, if_pos (by omega)]
    · rw [if_neg q, if_neg (by omega)]
theorem kcp_in {i j k : Nat} {kp s : Nat → Int32} (h : k < j) : kcp i j kp s (131 * i + k) = s k := by
  unfold kcp
  rw [if_pos (by omega), Nat.add_sub_cancel_left]
theorem kcp_out {i j k : Nat} {kp s : Nat → Int32} (h : ¬ (131 * i ≤ k ∧ k < 131 * i + j)) : kcp i j kp s k = kp k := by
  unfold kcp
  rw [if_neg h]
section IM
variable {C : List va_E} {tr : Int64} {th db sn dm sm ty nx tk pl va fa lr ri : Int} {s kp ik tn de sd dd sr tx pa : Nat → Int32} {a : Int} {i : Nat} {Q : mm_R → Prop} {N : Nat}
abbrev rn_X12_coins (N : Nat) (c : mm_C) (Q : mm_R → Prop) : Prop := rn (mm_gf gLX12) (mm_pf pLX12) (mm_mv vX12_coins) (mm_mv zX12_coins) (mm_kc kLX12) mm_gs0 mm_rf0 mm_ro (some .int) 3 (mm_ins iX12_coins) N c Q
theorem coins_lp (hC : C.length = 56)  (k : rn_X12_coins N (28, [(2, iv (((8 : Nat) : Int))), (1, iv (sumB s 8)), (0, .ref 56)], [], (C ++ rL (ro_ th tr db sn dm sm ty nx tk pl va fa lr ri) s kp ik tn de sd dd sr tx pa)) Q) : ∀ (m j : Nat), j + m = 8 → rn_X12_coins (N + 20 * m + 20) (4, [(2, iv (((j : Nat) : Int))), (1, iv (sumB s j)), (0, .ref 56)], [], (C ++ rL (ro_ th tr db sn dm sm ty nx tk pl va fa lr ri) s kp ik tn de sd dd sr tx pa)) Q := by
  intro m
  induction m with
  | zero =>
    intro j hj
    have hj : j = 8 := by omega
    subst hj
    refine rn_up (N := N + 20) (by omega) ?_
    refine r_il rfl rfl ?_
    refine r_bi rfl (by decide) ?_
    refine r_cge rfl rfl (by omega) (by omega) (fun g1 => ?_) (fun g1 => ?_)
    · exact rn_up (by omega) k
    · omega
  | succ m ih =>
    intro j hj
    refine rn_up (N := N + 20 * m + 20 + 20) (by omega) ?_
    refine r_il rfl rfl ?_
    refine r_bi rfl (by decide) ?_
    refine r_cge rfl rfl (by omega) (by omega) (fun g1 => ?_) (fun g1 => ?_)
    · omega
    · refine r_il rfl rfl ?_
      refine r_al rfl rfl ?_
      refine r_gf rfl rfl (rg_56 hC) rfl ?_
      refine r_bi rfl (by decide) ?_
      refine r_il rfl rfl ?_
      refine r_add rfl ?_
      refine r_ia rfl (rg_57 hC) (by omega) (by omega) (by decide) ?_
      refine r_add rfl ?_
      refine r_is (lv' := [(1, _), (2, _), (0, _)]) rfl rfl rfl ?_
      refine r_inc (lv' := [(2, _), (1, _), (0, _)]) rfl rfl rfl rfl ?_
      refine r_goto rfl rfl ?_
      rw [show Int.toNat (122 + (j : Int)) = 122 + j by omega]
      exact rn_up (by omega) (ih (j + 1) (by omega))
theorem c_coinsR (hC : C.length = 56) : sX12_coins [.ref 56] (C ++ rL (ro_ th tr db sn dm sm ty nx tk pl va fa lr ri) s kp ik tn de sd dd sr tx pa) = some (some (iv (sumB s 8)), (C ++ rL (ro_ th tr db sn dm sm ty nx tk pl va fa lr ri) s kp ik tn de sd dd sr tx pa)) := by
  have main : ∀ Q : mm_R → Prop, Q (some (iv (sumB s 8)), (C ++ rL (ro_ th tr db sn dm sm ty nx tk pl va fa lr ri) s kp ik tn de sd dd sr tx pa)) → rn_X12_coins (50 + 20 * 8 + 20 + 20) (0, [(0, .ref 56)], [], (C ++ rL (ro_ th tr db sn dm sm ty nx tk pl va fa lr ri) s kp ik tn de sd dd sr tx pa)) Q := by
    intro Q hQ
    refine r_ic rfl ?_
    refine r_is (lv' := [(1, _), (0, _)]) rfl rfl rfl ?_
    refine r_ic rfl ?_
    refine r_is (lv' := [(2, _), (1, _), (0, _)]) rfl rfl rfl ?_
    refine rn_up (N := 50 + 20 * 8 + 20) (by decide) (coins_lp (N := 50) hC ?_ 8 0 rfl)
    refine r_il rfl rfl ?_
    exact r_ret rfl rfl hQ
  obtain ⟨r, h1, h2⟩ := rn_S (vs := [.ref 56]) (Q := fun r => r = (some (iv (sumB s 8)), (C ++ rL (ro_ th tr db sn dm sm ty nx tk pl va fa lr ri) s kp ik tn de sd dd sr tx pa))) rfl (rn_up (N := 50 + 20 * 8 + 20 + 20) (M := mm_fuel) (by decide) (main (fun r => r = (some (iv (sumB s 8)), (C ++ rL (ro_ th tr db sn dm sm ty nx tk pl va fa lr ri) s kp ik tn de sd dd sr tx pa))) rfl))
  have h1 : sX12_coins [.ref 56] (C ++ rL (ro_ th tr db sn dm sm ty nx tk pl va fa lr ri) s kp ik tn de sd dd sr tx pa) = some r := h1
  rw [h1, h2]
abbrev rn_X12_keep (N : Nat) (c : mm_C) (Q : mm_R → Prop) : Prop := rn (mm_gf gLX12) (mm_pf pLX12) (mm_mv vX12_keep) (mm_mv zX12_keep) (mm_kc kLX12) mm_gs0 mm_rf0 mm_ro (some .int) 3 (mm_ins iX12_keep) N c Q
theorem keep_lp (hC : C.length = 56) (hi : i < 2) (k : rn_X12_keep N (49, [(2, iv (((131 : Nat) : Int))), (0, .ref 56), (1, iv ((i : Int)))], [], (C ++ rL (ro_ (0 : Int) tr db sn dm sm ty nx tk pl va fa lr ri) s (kcp i 131 kp s) ik tn de sd dd sr tx pa)) Q) : ∀ (m j : Nat), j + m = 131 → rn_X12_keep (N + 30 * m + 30) (18, [(2, iv (((j : Nat) : Int))), (0, .ref 56), (1, iv ((i : Int)))], [], (C ++ rL (ro_ (0 : Int) tr db sn dm sm ty nx tk pl va fa lr ri) s (kcp i j kp s) ik tn de sd dd sr tx pa)) Q := by
  intro m
  induction m with
  | zero =>
    intro j hj
    have hj : j = 131 := by omega
    subst hj
    refine rn_up (N := N + 30) (by omega) ?_
    refine r_il rfl rfl ?_
    refine r_si rfl (by decide) ?_
    refine r_cge rfl rfl (by omega) (by omega) (fun g1 => ?_) (fun g1 => ?_)
    · exact rn_up (by omega) k
    · omega
  | succ m ih =>
    intro j hj
    refine rn_up (N := N + 30 * m + 30 + 30) (by omega) ?_
    refine r_il rfl rfl ?_
    refine r_si rfl (by decide) ?_
    refine r_cge rfl rfl (by omega) (by omega) (fun g1 => ?_) (fun g1 => ?_)
    · omega
    · refine r_al rfl rfl ?_
      refine r_gf rfl rfl (rg_56 hC) rfl ?_
      refine r_si rfl (by decide) ?_
      refine r_il rfl rfl ?_
      refine r_mul rfl ?_
      refine r_il rfl rfl ?_
      refine r_add rfl ?_
      refine r_al rfl rfl ?_
      refine r_gf rfl rfl (rg_56 hC) rfl ?_
      refine r_il rfl rfl ?_
      refine r_ia rfl (rg_57 hC) (by omega) (by omega) (by decide) ?_
      refine r_ias rfl (rg_58 hC) (by omega) (by omega) (by decide) (rs_58 hC) ?_
      refine r_inc (lv' := [(2, _), (0, _), (1, _)]) rfl rfl rfl rfl ?_
      refine r_goto rfl rfl ?_
      rw [show Int.toNat (131 * (i : Int) + (j : Int)) = 131 * i + j by omega, show Int.toNat (j : Int) = j from rfl, Int32.ofInt_toInt, kcp_s]
      exact rn_up (by omega) (ih (j + 1) (by omega))
theorem c_keepR (hC : C.length = 56) (hi : i < 2) : sX12_keep [.ref 56, iv ((i : Int))] (C ++ rL (ro_ th tr db sn dm sm ty nx tk pl va fa lr ri) s kp ik tn de sd dd sr tx pa) = some (some (iv (sumB s 8)), (C ++ rL (ro_ (0 : Int) tr db sn dm sm ty nx tk pl va fa lr ri) s (kcp i 131 kp s) (upd ik i (vp_nar (mm_ty 2) (Int32.ofInt 1))) tn de sd dd sr tx pa)) := by
  have main : ∀ Q : mm_R → Prop, Q (some (iv (sumB s 8)), (C ++ rL (ro_ (0 : Int) tr db sn dm sm ty nx tk pl va fa lr ri) s (kcp i 131 kp s) (upd ik i (vp_nar (mm_ty 2) (Int32.ofInt 1))) tn de sd dd sr tx pa)) → rn_X12_keep (100 + 30 * 131 + 30 + 50) (0, [(0, .ref 56), (1, iv ((i : Int)))], [], (C ++ rL (ro_ th tr db sn dm sm ty nx tk pl va fa lr ri) s kp ik tn de sd dd sr tx pa)) Q := by
    intro Q hQ
    refine r_al rfl rfl ?_
    refine r_ic rfl ?_
    refine r_pf rfl rfl (rg_56 hC) rfl (rp_th hC) ?_
    refine r_il rfl rfl ?_
    refine r_ic rfl ?_
    refine r_ic rfl ?_
    refine r_s3s rfl rfl rfl (c_in (by omega) (by decide) (by decide)) ?_
    have e3 : i3 (i : Int) 0 1 = true := by simp [i3]; omega
    rw [e3]
    refine r_zne rfl rfl (bi_r _) (fun g1 => ?_) (fun g1 => ?_)
    · refine r_ic rfl ?_
      refine r_is (lv' := [(2, _), (0, _), (1, _)]) rfl rfl rfl ?_
      rw [← kcp_0 (i := i) (kp := kp) (s := s)]
      refine rn_up (N := 100 + 30 * 131 + 30) (by decide) (keep_lp (N := 100) hC hi ?_ 131 0 rfl)
      refine r_al rfl rfl ?_
      refine r_gf rfl rfl (rg_56 hC) rfl ?_
      refine r_il rfl rfl ?_
      refine r_ic rfl ?_
      refine r_zas rfl (rg_59 hC) (by omega) (by omega) (by decide) (rs_59 hC) ?_
      refine r_al rfl rfl ?_
      refine r_v1s rfl rfl (rg_56 hC) rfl (c_coinsR hC) ?_
      exact r_ret rfl rfl hQ
    · exact absurd g1 (by decide)
  obtain ⟨r, h1, h2⟩ := rn_S (vs := [.ref 56, iv ((i : Int))]) (Q := fun r => r = (some (iv (sumB s 8)), (C ++ rL (ro_ (0 : Int) tr db sn dm sm ty nx tk pl va fa lr ri) s (kcp i 131 kp s) (upd ik i (vp_nar (mm_ty 2) (Int32.ofInt 1))) tn de sd dd sr tx pa))) rfl (rn_up (N := 100 + 30 * 131 + 30 + 50) (M := mm_fuel) (by decide) (main (fun r => r = (some (iv (sumB s 8)), (C ++ rL (ro_ (0 : Int) tr db sn dm sm ty nx tk pl va fa lr ri) s (kcp i 131 kp s) (upd ik i (vp_nar (mm_ty 2) (Int32.ofInt 1))) tn de sd dd sr tx pa))) rfl))
  have h1 : sX12_keep [.ref 56, iv ((i : Int))] (C ++ rL (ro_ th tr db sn dm sm ty nx tk pl va fa lr ri) s kp ik tn de sd dd sr tx pa) = some r := h1
  rw [h1, h2]
theorem c_keepN (hC : C.length = 56) (ha : -2147483648 ≤ a ∧ a ≤ 2147483647) (hb : i3 a 0 1 = false) : sX12_keep [.ref 56, iv (a)] (C ++ rL (ro_ th tr db sn dm sm ty nx tk pl va fa lr ri) s kp ik tn de sd dd sr tx pa) = some (some (iv (-1)), (C ++ rL (ro_ (0 : Int) tr db sn dm sm ty nx tk pl va fa lr ri) s kp ik tn de sd dd sr tx pa)) := by
  have main : ∀ Q : mm_R → Prop, Q (some (iv (-1)), (C ++ rL (ro_ (0 : Int) tr db sn dm sm ty nx tk pl va fa lr ri) s kp ik tn de sd dd sr tx pa)) → rn_X12_keep (100) (0, [(0, .ref 56), (1, iv (a))], [], (C ++ rL (ro_ th tr db sn dm sm ty nx tk pl va fa lr ri) s kp ik tn de sd dd sr tx pa)) Q := by
    intro Q hQ
    refine r_al rfl rfl ?_
    refine r_ic rfl ?_
    refine r_pf rfl rfl (rg_56 hC) rfl (rp_th hC) ?_
    refine r_il rfl rfl ?_
    refine r_ic rfl ?_
    refine r_ic rfl ?_
    refine r_s3s rfl rfl rfl (c_in ha (by decide) (by decide)) ?_
    rw [hb]
    refine r_zne rfl rfl (bi_r _) (fun g1 => ?_) (fun g1 => ?_)
    · exact absurd rfl g1
    · refine r_ic rfl ?_
      exact r_ret rfl rfl hQ
  obtain ⟨r, h1, h2⟩ := rn_S (vs := [.ref 56, iv (a)]) (Q := fun r => r = (some (iv (-1)), (C ++ rL (ro_ (0 : Int) tr db sn dm sm ty nx tk pl va fa lr ri) s kp ik tn de sd dd sr tx pa))) rfl (rn_up (N := 100) (M := mm_fuel) (by decide) (main (fun r => r = (some (iv (-1)), (C ++ rL (ro_ (0 : Int) tr db sn dm sm ty nx tk pl va fa lr ri) s kp ik tn de sd dd sr tx pa))) rfl))
  have h1 : sX12_keep [.ref 56, iv (a)] (C ++ rL (ro_ th tr db sn dm sm ty nx tk pl va fa lr ri) s kp ik tn de sd dd sr tx pa) = some r := h1
  rw [h1, h2]
abbrev rn_X12_restore (N : Nat) (c : mm_C) (Q : mm_R → Prop) : Prop := rn (mm_gf gLX12) (mm_pf pLX12) (mm_mv vX12_restore) (mm_mv zX12_restore) (mm_kc kLX12) mm_gs0 mm_rf0 mm_ro (some .int) 3 (mm_ins iX12_restore) N c Q
theorem restore_lp (hC : C.length = 56) (hi : i < 2) (k : rn_X12_restore N (61, [(2, iv (((131 : Nat) : Int))), (0, .ref 56), (1, iv ((i : Int)))], [], (C ++ rL (ro_ (0 : Int) tr db sn dm sm ty nx tk pl va fa lr ri) (cpy 131 s (kof i kp)) kp ik tn de sd dd sr tx pa)) Q) : ∀ (m j : Nat), j + m = 131 → rn_X12_restore (N + 30 * m + 30) (30, [(2, iv (((j : Nat) : Int))), (0, .ref 56), (1, iv ((i : Int)))], [], (C ++ rL (ro_ (0 : Int) tr db sn dm sm ty nx tk pl va fa lr ri) (cpy j s (kof i kp)) kp ik tn de sd dd sr tx pa)) Q := by
  intro m
  induction m with
  | zero =>
    intro j hj
    have hj : j = 131 := by omega
    subst hj
    refine rn_up (N := N + 30) (by omega) ?_
    refine r_il rfl rfl ?_
    refine r_si rfl (by decide) ?_
    refine r_cge rfl rfl (by omega) (by omega) (fun g1 => ?_) (fun g1 => ?_)
    · exact rn_up (by omega) k
    · omega
  | succ m ih =>
    intro j hj
    refine rn_up (N := N + 30 * m + 30 + 30) (by omega) ?_
    refine r_il rfl rfl ?_
    refine r_si rfl (by decide) ?_
    refine r_cge rfl rfl (by omega) (by omega) (fun g1 => ?_) (fun g1 => ?_)
    · omega
    · refine r_al rfl rfl ?_
      refine r_gf rfl rfl (rg_56 hC) rfl ?_
      refine r_il rfl rfl ?_
      refine r_al rfl rfl ?_
      refine r_gf rfl rfl (rg_56 hC) rfl ?_
      refine r_si rfl (by decide) ?_
      refine r_il rfl rfl ?_
      refine r_mul rfl ?_
      refine r_il rfl rfl ?_
      refine r_add rfl ?_
      refine r_ia rfl (rg_58 hC) (by omega) (by omega) (by decide) ?_
      refine r_ias rfl (rg_57 hC) (by omega) (by omega) (by decide) (rs_57 hC) ?_
      refine r_inc (lv' := [(2, _), (0, _), (1, _)]) rfl rfl rfl rfl ?_
      refine r_goto rfl rfl ?_
      rw [show Int.toNat (131 * (i : Int) + (j : Int)) = 131 * i + j by omega, show Int.toNat (j : Int) = j from rfl, Int32.ofInt_toInt, cpy_s (show kp (131 * i + j) = kof i kp j from rfl)]
      exact rn_up (by omega) (ih (j + 1) (by omega))
theorem c_restoreR (hC : C.length = 56) (hi : i < 2) (hz : ¬ (ik i).toInt = 0) : sX12_restore [.ref 56, iv ((i : Int))] (C ++ rL (ro_ th tr db sn dm sm ty nx tk pl va fa lr ri) s kp ik tn de sd dd sr tx pa) = some (some (iv (sumB (cpy 131 s (kof i kp)) 8)), (C ++ rL (ro_ (0 : Int) tr db sn dm sm ty nx tk pl va fa lr ri) (cpy 131 s (kof i kp)) kp ik tn de sd dd sr tx pa)) := by
  have main : ∀ Q : mm_R → Prop, Q (some (iv (sumB (cpy 131 s (kof i kp)) 8)), (C ++ rL (ro_ (0 : Int) tr db sn dm sm ty nx tk pl va fa lr ri) (cpy 131 s (kof i kp)) kp ik tn de sd dd sr tx pa)) → rn_X12_restore (100 + 30 * 131 + 30 + 50) (0, [(0, .ref 56), (1, iv ((i : Int)))], [], (C ++ rL (ro_ th tr db sn dm sm ty nx tk pl va fa lr ri) s kp ik tn de sd dd sr tx pa)) Q := by
    intro Q hQ
    refine r_al rfl rfl ?_
    refine r_ic rfl ?_
    refine r_pf rfl rfl (rg_56 hC) rfl (rp_th hC) ?_
    refine r_il rfl rfl ?_
    refine r_ic rfl ?_
    refine r_ic rfl ?_
    refine r_s3s rfl rfl rfl (c_in (by omega) (by decide) (by decide)) ?_
    have e3 : i3 (i : Int) 0 1 = true := by simp [i3]; omega
    rw [e3]
    refine r_zne rfl rfl (bi_r _) (fun g1 => ?_) (fun g1 => ?_)
    · refine r_al rfl rfl ?_
      refine r_gf rfl rfl (rg_56 hC) rfl ?_
      refine r_il rfl rfl ?_
      refine r_za rfl (rg_59 hC) (by omega) (by omega) (by decide) ?_
      refine r_zne rfl rfl (as_r _) (fun g2 => ?_) (fun g2 => ?_)
      · refine r_ic rfl ?_
        refine r_is (lv' := [(2, _), (0, _), (1, _)]) rfl rfl rfl ?_
        rw [← cpy_0 s (kof i kp)]
        refine rn_up (N := 100 + 30 * 131 + 30) (by decide) (restore_lp (N := 100) hC hi ?_ 131 0 rfl)
        refine r_al rfl rfl ?_
        refine r_v1s rfl rfl (rg_56 hC) rfl (c_coinsR hC) ?_
        exact r_ret rfl rfl hQ
      · exact absurd g2 hz
    · exact absurd g1 (by decide)
  obtain ⟨r, h1, h2⟩ := rn_S (vs := [.ref 56, iv ((i : Int))]) (Q := fun r => r = (some (iv (sumB (cpy 131 s (kof i kp)) 8)), (C ++ rL (ro_ (0 : Int) tr db sn dm sm ty nx tk pl va fa lr ri) (cpy 131 s (kof i kp)) kp ik tn de sd dd sr tx pa))) rfl (rn_up (N := 100 + 30 * 131 + 30 + 50) (M := mm_fuel) (by decide) (main (fun r => r = (some (iv (sumB (cpy 131 s (kof i kp)) 8)), (C ++ rL (ro_ (0 : Int) tr db sn dm sm ty nx tk pl va fa lr ri) (cpy 131 s (kof i kp)) kp ik tn de sd dd sr tx pa))) rfl))
  have h1 : sX12_restore [.ref 56, iv ((i : Int))] (C ++ rL (ro_ th tr db sn dm sm ty nx tk pl va fa lr ri) s kp ik tn de sd dd sr tx pa) = some r := h1
  rw [h1, h2]
theorem c_restoreS (hC : C.length = 56) (hi : i < 2) (hz : (ik i).toInt = 0) : sX12_restore [.ref 56, iv ((i : Int))] (C ++ rL (ro_ th tr db sn dm sm ty nx tk pl va fa lr ri) s kp ik tn de sd dd sr tx pa) = some (some (iv (-2)), (C ++ rL (ro_ (0 : Int) tr db sn dm sm ty nx tk pl va fa lr ri) s kp ik tn de sd dd sr tx pa)) := by
  have main : ∀ Q : mm_R → Prop, Q (some (iv (-2)), (C ++ rL (ro_ (0 : Int) tr db sn dm sm ty nx tk pl va fa lr ri) s kp ik tn de sd dd sr tx pa)) → rn_X12_restore (100) (0, [(0, .ref 56), (1, iv ((i : Int)))], [], (C ++ rL (ro_ th tr db sn dm sm ty nx tk pl va fa lr ri) s kp ik tn de sd dd sr tx pa)) Q := by
    intro Q hQ
    refine r_al rfl rfl ?_
    refine r_ic rfl ?_
    refine r_pf rfl rfl (rg_56 hC) rfl (rp_th hC) ?_
    refine r_il rfl rfl ?_
    refine r_ic rfl ?_
    refine r_ic rfl ?_
    refine r_s3s rfl rfl rfl (c_in (by omega) (by decide) (by decide)) ?_
    have e3 : i3 (i : Int) 0 1 = true := by simp [i3]; omega
    rw [e3]
    refine r_zne rfl rfl (bi_r _) (fun g1 => ?_) (fun g1 => ?_)
    · refine r_al rfl rfl ?_
      refine r_gf rfl rfl (rg_56 hC) rfl ?_
      refine r_il rfl rfl ?_
      refine r_za rfl (rg_59 hC) (by omega) (by omega) (by decide) ?_
      refine r_zne rfl rfl (as_r _) (fun g2 => ?_) (fun g2 => ?_)
      · exact absurd hz g2
      · refine r_bi rfl (by decide) ?_
        exact r_ret rfl rfl hQ
    · exact absurd g1 (by decide)
  obtain ⟨r, h1, h2⟩ := rn_S (vs := [.ref 56, iv ((i : Int))]) (Q := fun r => r = (some (iv (-2)), (C ++ rL (ro_ (0 : Int) tr db sn dm sm ty nx tk pl va fa lr ri) s kp ik tn de sd dd sr tx pa))) rfl (rn_up (N := 100) (M := mm_fuel) (by decide) (main (fun r => r = (some (iv (-2)), (C ++ rL (ro_ (0 : Int) tr db sn dm sm ty nx tk pl va fa lr ri) s kp ik tn de sd dd sr tx pa))) rfl))
  have h1 : sX12_restore [.ref 56, iv ((i : Int))] (C ++ rL (ro_ th tr db sn dm sm ty nx tk pl va fa lr ri) s kp ik tn de sd dd sr tx pa) = some r := h1
  rw [h1, h2]
theorem c_restoreN (hC : C.length = 56) (ha : -2147483648 ≤ a ∧ a ≤ 2147483647) (hb : i3 a 0 1 = false) : sX12_restore [.ref 56, iv (a)] (C ++ rL (ro_ th tr db sn dm sm ty nx tk pl va fa lr ri) s kp ik tn de sd dd sr tx pa) = some (some (iv (-1)), (C ++ rL (ro_ (0 : Int) tr db sn dm sm ty nx tk pl va fa lr ri) s kp ik tn de sd dd sr tx pa)) := by
  have main : ∀ Q : mm_R → Prop, Q (some (iv (-1)), (C ++ rL (ro_ (0 : Int) tr db sn dm sm ty nx tk pl va fa lr ri) s kp ik tn de sd dd sr tx pa)) → rn_X12_restore (100) (0, [(0, .ref 56), (1, iv (a))], [], (C ++ rL (ro_ th tr db sn dm sm ty nx tk pl va fa lr ri) s kp ik tn de sd dd sr tx pa)) Q := by
    intro Q hQ
    refine r_al rfl rfl ?_
    refine r_ic rfl ?_
    refine r_pf rfl rfl (rg_56 hC) rfl (rp_th hC) ?_
    refine r_il rfl rfl ?_
    refine r_ic rfl ?_
    refine r_ic rfl ?_
    refine r_s3s rfl rfl rfl (c_in ha (by decide) (by decide)) ?_
    rw [hb]
    refine r_zne rfl rfl (bi_r _) (fun g1 => ?_) (fun g1 => ?_)
    · exact absurd rfl g1
    · refine r_ic rfl ?_
      exact r_ret rfl rfl hQ
  obtain ⟨r, h1, h2⟩ := rn_S (vs := [.ref 56, iv (a)]) (Q := fun r => r = (some (iv (-1)), (C ++ rL (ro_ (0 : Int) tr db sn dm sm ty nx tk pl va fa lr ri) s kp ik tn de sd dd sr tx pa))) rfl (rn_up (N := 100) (M := mm_fuel) (by decide) (main (fun r => r = (some (iv (-1)), (C ++ rL (ro_ (0 : Int) tr db sn dm sm ty nx tk pl va fa lr ri) s kp ik tn de sd dd sr tx pa))) rfl))
  have h1 : sX12_restore [.ref 56, iv (a)] (C ++ rL (ro_ th tr db sn dm sm ty nx tk pl va fa lr ri) s kp ik tn de sd dd sr tx pa) = some r := h1
  rw [h1, h2]
end IM
