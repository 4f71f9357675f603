/-! ===== type and clear ===== -/
theorem by_r (w : Int64) : ((w &&& 255).toInt32).toInt = w.toInt % 256 := by
  have h1 : (w &&& 255).toBitVec.toNat = w.toBitVec.toNat % 256 := by
    rw [Int64.toBitVec_and, BitVec.toNat_and]
    exact Nat.and_two_pow_sub_one_eq_mod _ 8
  have h2 : (w &&& 255).toInt = (w.toBitVec.toNat % 256 : Nat) := by
    have h3 : (w &&& 255).toInt = if 2 * (w &&& 255).toBitVec.toNat < 2 ^ 64 then ((w &&& 255).toBitVec.toNat : Int) else ((w &&& 255).toBitVec.toNat : Int) - ((2 ^ 64 : Nat) : Int) := BitVec.toInt_eq_toNat_cond _
    rw [h3, h1, if_pos (by omega)]
  have h4 : w.toInt = if 2 * w.toBitVec.toNat < 2 ^ 64 then (w.toBitVec.toNat : Int) else (w.toBitVec.toNat : Int) - ((2 ^ 64 : Nat) : Int) := BitVec.toInt_eq_toNat_cond _
  have h5 : w.toInt % 256 = (w.toBitVec.toNat % 256 : Nat) := by
    rw [h4]
    split <;> omega
  rw [Int64.toInt_toInt32, h2, h5]
  apply Int.bmod_eq_of_le <;> omega
theorem by_c (w : Int64) : (vp_nar .byte (Int32.ofInt ((Int32.ofInt (Int64.toInt32 w).toInt).toInt8.toInt32).toInt)).toInt % 256 = w.toInt % 256 ∧ -128 ≤ (vp_nar .byte (Int32.ofInt ((Int32.ofInt (Int64.toInt32 w).toInt).toInt8.toInt32).toInt)).toInt ∧ (vp_nar .byte (Int32.ofInt ((Int32.ofInt (Int64.toInt32 w).toInt).toInt8.toInt32).toInt)).toInt ≤ 127 := by
  rw [vp_nar_byte, iv_s, iv_s, Int8.toInt_toInt32, Int32.toInt_toInt8, Int8.toInt_toInt32, Int32.toInt_toInt8, Int64.toInt_toInt32]
  have a1 : ∀ x : Int, x.bmod 256 % 256 = x % 256 := fun x => Int.bmod_emod ..
  have a2 : ∀ x : Int, x.bmod 4294967296 % 256 = x % 256 := fun x => by
    rw [Int.bmod_def]
    split <;> omega
  have b1 : ∀ x : Int, -128 ≤ x.bmod 256 ∧ x.bmod 256 ≤ 127 := fun x => by
    rw [Int.bmod_def]
    split <;> omega
  refine ⟨?_, b1 _⟩
  show ((((w.toInt.bmod 4294967296).bmod 256).bmod 256) % 256) = _
  rw [a1, a1, a2]
def apr (g : Nat → Int32) : Nat → Int → (Nat → Int32) → (Nat → Int32)
  | 0, _, f => f
  | m + 1, p, f => apr g m (p + 1) (upd f (Int.toNat p) (g m))
def shw (v : Int64) (k : Int) : Int64 := v >>> ((Int32.ofInt (8 * k)).toInt64 &&& 63)
def gR (v : Int64) (m : Nat) : Int32 := Int32.ofInt (Int64.toInt32 (shw v m &&& 255)).toInt
def gC (v : Int64) (m : Nat) : Int32 := vp_nar .byte (Int32.ofInt ((Int32.ofInt (Int64.toInt32 (shw v m)).toInt).toInt8.toInt32).toInt)
theorem g_like (v : Int64) (m : Nat) : (-128 ≤ (gC v m).toInt ∧ (gC v m).toInt ≤ 127) ∧ (gR v m).toInt = (gC v m).toInt % 256 := by
  obtain ⟨h1, h2⟩ := by_c (shw v m)
  refine ⟨h2, ?_⟩
  show (Int32.ofInt (Int64.toInt32 (shw v m &&& 255)).toInt).toInt = _
  rw [iv_s, by_r]
  exact h1.symm
theorem apr_like {v : Int64} : ∀ (m : Nat) {bt tx : Nat → Int32} {n : Int}, 0 ≤ n → tx_like bt tx n → tx_like (apr (gC v) m n bt) (apr (gR v) m n tx) (n + m)
  | 0, bt, tx, n, _, h => by rw [show n + ((0 : Nat) : Int) = n by omega]; exact h
  | m + 1, bt, tx, n, h0, h => by
    have := apr_like (v := v) m (bt := upd bt (Int.toNat n) (gC v m)) (tx := upd tx (Int.toNat n) (gR v m)) (n := n + 1) (by omega) (fun k hk => by
      by_cases e : k = Int.toNat n
      · rw [e, upd_same, upd_same]; exact g_like v m
      · rw [upd_ne e, upd_ne e]; exact h k (by omega))
    rw [show n + 1 + (m : Int) = n + ((m + 1 : Nat) : Int) by omega] at this
    exact this
section T1
variable {C : List va_E} {tr : Int64} {th db sn dm sm ty nx tk pl va fa lr ri : Int} {s kp ik tn de sd dd sr tx pa : Nat → Int32} {v : Int64} {a : Int} {Q : mm_R → Prop} {N : Nat}
abbrev rn_X12_clear (N : Nat) (c : mm_C) (Q : mm_R → Prop) : Prop := rn (mm_gf gLX12) (mm_pf pLX12) (mm_mv vX12_clear) (mm_mv zX12_clear) (mm_kc kLX12) mm_gs0 mm_rf0 mm_ro (some .int) 2 (mm_ins iX12_clear) N c Q
theorem c_clearR (hC : C.length = 56) : sX12_clear [.ref 56] (C ++ rL (ro_ th tr db sn dm sm ty nx tk pl va fa lr ri) s kp ik tn de sd dd sr tx pa) = some (some (iv ty), (C ++ rL (ro_ (0 : Int) tr db sn dm sm (0 : Int) nx tk pl va fa lr ri) s kp ik tn de sd dd sr tx pa)) := by
  have main : ∀ Q : mm_R → Prop, Q (some (iv ty), (C ++ rL (ro_ (0 : Int) tr db sn dm sm (0 : Int) nx tk pl va fa lr ri) s kp ik tn de sd dd sr tx pa)) → rn_X12_clear (1000) (0, [(0, .ref 56)], [], (C ++ rL (ro_ th tr db sn dm sm ty nx tk pl va fa lr ri) s kp ik tn de sd dd sr tx pa)) Q := by
    intro Q hQ
    refine r_al rfl rfl ?_
    refine r_ic rfl ?_
    refine r_pf rfl rfl (rg_56 hC) rfl (rp_th hC) ?_
    refine r_al rfl rfl ?_
    refine r_gf rfl rfl (rg_56 hC) rfl ?_
    refine r_is (lv' := [(1, _), (0, _)]) rfl rfl rfl ?_
    refine r_al rfl rfl ?_
    refine r_ic rfl ?_
    refine r_pf rfl rfl (rg_56 hC) rfl (rp_ty hC) ?_
    refine r_il rfl rfl ?_
    exact r_ret rfl rfl hQ
  obtain ⟨r, h1, h2⟩ := rn_S (vs := [.ref 56]) (Q := fun r => r = (some (iv ty), (C ++ rL (ro_ (0 : Int) tr db sn dm sm (0 : Int) nx tk pl va fa lr ri) s kp ik tn de sd dd sr tx pa))) rfl (rn_up (N := 1000) (M := mm_fuel) (by decide) (main (fun r => r = (some (iv ty), (C ++ rL (ro_ (0 : Int) tr db sn dm sm (0 : Int) nx tk pl va fa lr ri) s kp ik tn de sd dd sr tx pa))) rfl))
  have h1 : sX12_clear [.ref 56] (C ++ rL (ro_ th tr db sn dm sm ty nx tk pl va fa lr ri) s kp ik tn de sd dd sr tx pa) = some r := h1
  rw [h1, h2]
abbrev rn_X12_type (N : Nat) (c : mm_C) (Q : mm_R → Prop) : Prop := rn (mm_gf gLX12) (mm_pf pLX12) (mm_mv vX12_type) (mm_mv zX12_type) (mm_kc kLX12) mm_gs0 mm_rf0 mm_ro (some .int) 5 (mm_ins iX12_type) N c Q
theorem ty_loopR (hC : C.length = 56) : ∀ (m : Nat) {tx : Nat → Int32} {ty : Int}, m ≤ 8 → 0 ≤ ty → ty + m ≤ 400 → (rn_X12_type N (79, [(4, iv ((-1 : Int))), (0, .ref 56), (1, .long (v)), (3, iv (a))], [], (C ++ rL (ro_ th tr db sn dm sm (ty + m) nx tk pl va fa lr ri) s kp ik tn de sd dd sr (apr (gR v) m ty tx) pa)) Q) → rn_X12_type (N + 40 * m + 40) (37, [(4, iv (((m : Int) - 1))), (0, .ref 56), (1, .long (v)), (3, iv (a))], [], (C ++ rL (ro_ th tr db sn dm sm ty nx tk pl va fa lr ri) s kp ik tn de sd dd sr tx pa)) Q := by
  intro m
  induction m with
  | zero =>
    intro tx ty hm h0 h1 k
    refine rn_up (N := N + 40) (by omega) ?_
    refine r_ilw rfl rfl ?_
    refine r_zlt rfl rfl (by omega) (fun g1 => ?_) (fun g1 => ?_)
    · have e : ty + ((0 : Nat) : Int) = ty := by omega
      rw [e] at k
      exact rn_up (by omega) k
    · omega
  | succ m ih =>
    intro tx ty hm h0 h1 k
    refine rn_up (N := N + 40 * m + 40 + 40) (by omega) ?_
    refine r_ilw rfl rfl ?_
    refine r_zlt rfl rfl (by omega) (fun g1 => ?_) (fun g1 => ?_)
    · omega
    · refine r_al rfl rfl ?_
      refine r_gf rfl rfl (rg_56 hC) rfl ?_
      refine r_al rfl rfl ?_
      refine r_gf rfl rfl (rg_56 hC) rfl ?_
      refine r_ll rfl rfl ?_
      refine r_bi rfl (by decide) ?_
      refine r_ilw rfl rfl ?_
      refine r_mul rfl ?_
      refine r_lshr rfl ?_
      refine r_ldc2 rfl rfl ?_
      refine r_land rfl ?_
      refine r_l2i rfl ?_
      refine r_ias rfl (rg_65 hC) (by omega) (by omega) (by decide) (rs_65 hC) ?_
      refine r_al rfl rfl ?_
      refine r_dup rfl rfl ?_
      refine r_gf rfl rfl (rg_56 hC) rfl ?_
      refine r_ic rfl ?_
      refine r_add rfl ?_
      refine r_pf rfl rfl (rg_56 hC) rfl (rp_ty hC) ?_
      refine r_inc (lv' := [(4, _), (0, _), (1, _), (3, _)]) rfl rfl rfl rfl ?_
      refine r_goto rfl rfl ?_
      rw [show ((m + 1 : Nat) : Int) - 1 = (m : Int) by omega, show (m : Int) + -1 = (m : Int) - 1 by omega]
      refine rn_up (by omega) (ih (ty := ty + 1) (by omega) (by omega) (by omega) ?_)
      rw [show ty + 1 + (m : Int) = ty + ((m + 1 : Nat) : Int) by omega]
      exact k
theorem c_typeR (hC : C.length = 56) (hty : 0 ≤ ty ∧ ty ≤ 400) (ha : -2147483648 ≤ a ∧ a ≤ 2147483647) : sX12_type [.ref 56, .long (v), iv (a)] (C ++ rL (ro_ th tr db sn dm sm ty nx tk pl va fa lr ri) s kp ik tn de sd dd sr tx pa) = some (some (iv (bif i3 a 1 8 then (bif decide (400 < ty + a) then (-3) else ty + a) else (-1))), (C ++ rL (ro_ (0 : Int) tr db sn dm sm (bif (i3 a 1 8 && decide (ty + a ≤ 400)) then ty + a else ty) nx tk pl va fa lr ri) s kp ik tn de sd dd sr (bif (i3 a 1 8 && decide (ty + a ≤ 400)) then apr (gR v) a.toNat ty tx else tx) pa)) := by
  have main : ∀ Q : mm_R → Prop, Q (some (iv (bif i3 a 1 8 then (bif decide (400 < ty + a) then (-3) else ty + a) else (-1))), (C ++ rL (ro_ (0 : Int) tr db sn dm sm (bif (i3 a 1 8 && decide (ty + a ≤ 400)) then ty + a else ty) nx tk pl va fa lr ri) s kp ik tn de sd dd sr (bif (i3 a 1 8 && decide (ty + a ≤ 400)) then apr (gR v) a.toNat ty tx else tx) pa)) → rn_X12_type (100 + 40 * 8 + 100) (0, [(0, .ref 56), (1, .long (v)), (3, iv (a))], [], (C ++ rL (ro_ th tr db sn dm sm ty nx tk pl va fa lr ri) s kp ik tn de sd dd sr tx pa)) Q := by
    intro Q hQ
    refine r_al rfl rfl ?_
    refine r_ic rfl ?_
    refine r_pf rfl rfl (rg_56 hC) rfl (rp_th hC) ?_
    refine r_il rfl rfl ?_
    refine r_ic rfl ?_
    refine r_bi rfl (by decide) ?_
    refine r_s3s rfl rfl rfl (c_in ha (by decide) (by decide)) ?_
    refine r_zne rfl rfl (bi_r _) (fun g1 => ?_) (fun g1 => ?_)
    · have g1 := bi_1 g1
      have g2 := i3_t g1
      rw [g1] at hQ
      refine r_al rfl rfl ?_
      refine r_gf rfl rfl (rg_56 hC) rfl ?_
      refine r_il rfl rfl ?_
      refine r_add rfl ?_
      refine r_si rfl (by decide) ?_
      refine r_cle rfl rfl (by omega) (by omega) (fun g3 => ?_) (fun g3 => ?_)
      · rw [decide_eq_false (show ¬ 400 < ty + a by omega), decide_eq_true g3] at hQ
        refine r_il rfl rfl ?_
        refine r_ic rfl ?_
        refine r_sub rfl ?_
        refine r_isw (lv' := [(4, _), (0, _), (1, _), (3, _)]) rfl rfl rfl ?_
        obtain ⟨m, hm⟩ := Int.eq_ofNat_of_zero_le (show 0 ≤ a by omega)
        subst hm
        refine rn_up (N := 50 + 40 * m + 40) (by omega) (ty_loopR hC m (by omega) hty.1 (by omega) ?_)
        refine r_al rfl rfl ?_
        refine r_gf rfl rfl (rg_56 hC) rfl ?_
        exact r_ret rfl rfl hQ
      · rw [decide_eq_true (show 400 < ty + a by omega), decide_eq_false (show ¬ ty + a ≤ 400 by omega)] at hQ
        refine r_bi rfl (by decide) ?_
        exact r_ret rfl rfl hQ
    · have g1 := bi_0 g1
      rw [g1] at hQ
      refine r_ic rfl ?_
      exact r_ret rfl rfl hQ
  obtain ⟨r, h1, h2⟩ := rn_S (vs := [.ref 56, .long (v), iv (a)]) (Q := fun r => r = (some (iv (bif i3 a 1 8 then (bif decide (400 < ty + a) then (-3) else ty + a) else (-1))), (C ++ rL (ro_ (0 : Int) tr db sn dm sm (bif (i3 a 1 8 && decide (ty + a ≤ 400)) then ty + a else ty) nx tk pl va fa lr ri) s kp ik tn de sd dd sr (bif (i3 a 1 8 && decide (ty + a ≤ 400)) then apr (gR v) a.toNat ty tx else tx) pa))) rfl (rn_up (N := 100 + 40 * 8 + 100) (M := mm_fuel) (by decide) (main (fun r => r = (some (iv (bif i3 a 1 8 then (bif decide (400 < ty + a) then (-3) else ty + a) else (-1))), (C ++ rL (ro_ (0 : Int) tr db sn dm sm (bif (i3 a 1 8 && decide (ty + a ≤ 400)) then ty + a else ty) nx tk pl va fa lr ri) s kp ik tn de sd dd sr (bif (i3 a 1 8 && decide (ty + a ≤ 400)) then apr (gR v) a.toNat ty tx else tx) pa))) rfl))
  have h1 : sX12_type [.ref 56, .long (v), iv (a)] (C ++ rL (ro_ th tr db sn dm sm ty nx tk pl va fa lr ri) s kp ik tn de sd dd sr tx pa) = some r := h1
  rw [h1, h2]
end T1
section T2
variable {ki ln cp cs ct cv ja ea ma jb eb mb re fl : Int} {rr dr : Nat} {rl : Value} {bt a1 a2 a3 a4 a5 a6 a7 a8 b1 b2 b3 b4 b5 b6 b7 b8 g1 g2 g3 g4 g5 : Nat → Int32} {D : List va_E} {v : Int64} {a : Int} {Q : mm_R → Prop} {N : Nat}
abbrev rn_X11_clear (N : Nat) (c : mm_C) (Q : mm_R → Prop) : Prop := rn (mm_gf gLX11) (mm_pf pLX11) (mm_mv vX11_clear) (mm_mv zX11_clear) (mm_kc kLX11) mm_gs0 mm_rf0 mm_ro (some .int) 2 (mm_ins iX11_clear) N c Q
theorem c_clearC  : sX11_clear [.ref 0] (cW ki ln bt rl cp cs ct cv rr dr ja ea ma a1 a2 a3 a4 a5 a6 a7 a8 jb eb mb b1 b2 b3 b4 b5 b6 b7 b8 re fl g1 g2 g3 g4 g5 D) = some (some (iv ln), (cW ki (0 : Int) bt rl cp cs ct cv rr dr ja ea ma a1 a2 a3 a4 a5 a6 a7 a8 jb eb mb b1 b2 b3 b4 b5 b6 b7 b8 re fl g1 g2 g3 g4 g5 D)) := by
  have main : ∀ Q : mm_R → Prop, Q (some (iv ln), (cW ki (0 : Int) bt rl cp cs ct cv rr dr ja ea ma a1 a2 a3 a4 a5 a6 a7 a8 jb eb mb b1 b2 b3 b4 b5 b6 b7 b8 re fl g1 g2 g3 g4 g5 D)) → rn_X11_clear (1000) (0, [(0, .ref 0)], [], (cW ki ln bt rl cp cs ct cv rr dr ja ea ma a1 a2 a3 a4 a5 a6 a7 a8 jb eb mb b1 b2 b3 b4 b5 b6 b7 b8 re fl g1 g2 g3 g4 g5 D)) Q := by
    intro Q hQ
    refine r_al rfl rfl ?_
    refine r_gf rfl rfl cg_0 rfl ?_
    refine r_gf rfl rfl cg_1 rfl ?_
    refine r_is (lv' := [(1, _), (0, _)]) rfl rfl rfl ?_
    refine r_al rfl rfl ?_
    refine r_gf rfl rfl cg_0 rfl ?_
    refine r_ic rfl ?_
    refine r_pf rfl rfl cg_1 rfl cp_ln ?_
    refine r_il rfl rfl ?_
    exact r_ret rfl rfl hQ
  obtain ⟨r, h1, h2⟩ := rn_S (vs := [.ref 0]) (Q := fun r => r = (some (iv ln), (cW ki (0 : Int) bt rl cp cs ct cv rr dr ja ea ma a1 a2 a3 a4 a5 a6 a7 a8 jb eb mb b1 b2 b3 b4 b5 b6 b7 b8 re fl g1 g2 g3 g4 g5 D))) rfl (rn_up (N := 1000) (M := mm_fuel) (by decide) (main (fun r => r = (some (iv ln), (cW ki (0 : Int) bt rl cp cs ct cv rr dr ja ea ma a1 a2 a3 a4 a5 a6 a7 a8 jb eb mb b1 b2 b3 b4 b5 b6 b7 b8 re fl g1 g2 g3 g4 g5 D))) rfl))
  have h1 : sX11_clear [.ref 0] (cW ki ln bt rl cp cs ct cv rr dr ja ea ma a1 a2 a3 a4 a5 a6 a7 a8 jb eb mb b1 b2 b3 b4 b5 b6 b7 b8 re fl g1 g2 g3 g4 g5 D) = some r := h1
  rw [h1, h2]
abbrev rn_X10_append (N : Nat) (c : mm_C) (Q : mm_R → Prop) : Prop := rn (mm_gf gLX10) (mm_pf pLX10) (mm_mv vX10_append) (mm_mv zX10_append) (mm_kc kLX10) mm_gs0 mm_rf0 mm_ro none 5 (mm_ins iX10_append) N c Q
theorem ty_loopC : ∀ (m : Nat) {bt : Nat → Int32} {ln : Int}, m ≤ 8 → 0 ≤ ln → ln + m ≤ 400 → (rn_X10_append N (54, [(4, iv ((-1 : Int))), (0, .ref 1), (1, .long (v)), (3, iv (a))], [], (cW ki (ln + m) (apr (gC v) m ln bt) rl cp cs ct cv rr dr ja ea ma a1 a2 a3 a4 a5 a6 a7 a8 jb eb mb b1 b2 b3 b4 b5 b6 b7 b8 re fl g1 g2 g3 g4 g5 D)) Q) → rn_X10_append (N + 40 * m + 40) (5, [(4, iv (((m : Int) - 1))), (0, .ref 1), (1, .long (v)), (3, iv (a))], [], (cW ki ln bt rl cp cs ct cv rr dr ja ea ma a1 a2 a3 a4 a5 a6 a7 a8 jb eb mb b1 b2 b3 b4 b5 b6 b7 b8 re fl g1 g2 g3 g4 g5 D)) Q := by
  intro m
  induction m with
  | zero =>
    intro bt ln hm h0 h1 k
    refine rn_up (N := N + 40) (by omega) ?_
    refine r_ilw rfl rfl ?_
    refine r_zlt rfl rfl (by omega) (fun g1 => ?_) (fun g1 => ?_)
    · have e : ln + ((0 : Nat) : Int) = ln := by omega
      rw [e] at k
      exact rn_up (by omega) k
    · omega
  | succ m ih =>
    intro bt ln hm h0 h1 k
    refine rn_up (N := N + 40 * m + 40 + 40) (by omega) ?_
    refine r_ilw rfl rfl ?_
    refine r_zlt rfl rfl (by omega) (fun g1 => ?_) (fun g1 => ?_)
    · omega
    · refine r_al rfl rfl ?_
      refine r_gf rfl rfl cg_1 rfl ?_
      refine r_si rfl (by decide) ?_
      refine r_cge rfl rfl (by omega) (by omega) (fun g2 => ?_) (fun g2 => ?_)
      · omega
      · refine r_al rfl rfl ?_
        refine r_gf rfl rfl cg_1 rfl ?_
        refine r_al rfl rfl ?_
        refine r_gf rfl rfl cg_1 rfl ?_
        refine r_ll rfl rfl ?_
        refine r_bi rfl (by decide) ?_
        refine r_ilw rfl rfl ?_
        refine r_mul rfl ?_
        refine r_lshr rfl ?_
        refine r_l2i rfl ?_
        refine r_i2b rfl ?_
        refine r_bas rfl cg_2 (by omega) (by omega) (by decide) cs_2 ?_
        refine r_al rfl rfl ?_
        refine r_dup rfl rfl ?_
        refine r_gf rfl rfl cg_1 rfl ?_
        refine r_ic rfl ?_
        refine r_add rfl ?_
        refine r_pf rfl rfl cg_1 rfl cp_ln ?_
        refine r_inc (lv' := [(4, _), (0, _), (1, _), (3, _)]) rfl rfl rfl rfl ?_
        refine r_goto rfl rfl ?_
        rw [show ((m + 1 : Nat) : Int) - 1 = (m : Int) by omega, show (m : Int) + -1 = (m : Int) - 1 by omega]
        refine rn_up (by omega) (ih (ln := ln + 1) (by omega) (by omega) (by omega) ?_)
        rw [show ln + 1 + (m : Int) = ln + ((m + 1 : Nat) : Int) by omega]
        exact k
theorem c_append (ha : 1 ≤ a ∧ a ≤ 8) (hln : 0 ≤ ln ∧ ln + a ≤ 400) : sX10_append [.ref 1, .long (v), iv (a)] (cW ki ln bt rl cp cs ct cv rr dr ja ea ma a1 a2 a3 a4 a5 a6 a7 a8 jb eb mb b1 b2 b3 b4 b5 b6 b7 b8 re fl g1 g2 g3 g4 g5 D) = some (none, (cW ki (ln + a) (apr (gC v) a.toNat ln bt) rl cp cs ct cv rr dr ja ea ma a1 a2 a3 a4 a5 a6 a7 a8 jb eb mb b1 b2 b3 b4 b5 b6 b7 b8 re fl g1 g2 g3 g4 g5 D)) := by
  have main : ∀ Q : mm_R → Prop, Q (none, (cW ki (ln + a) (apr (gC v) a.toNat ln bt) rl cp cs ct cv rr dr ja ea ma a1 a2 a3 a4 a5 a6 a7 a8 jb eb mb b1 b2 b3 b4 b5 b6 b7 b8 re fl g1 g2 g3 g4 g5 D)) → rn_X10_append (100 + 40 * 8 + 100) (0, [(0, .ref 1), (1, .long (v)), (3, iv (a))], [], (cW ki ln bt rl cp cs ct cv rr dr ja ea ma a1 a2 a3 a4 a5 a6 a7 a8 jb eb mb b1 b2 b3 b4 b5 b6 b7 b8 re fl g1 g2 g3 g4 g5 D)) Q := by
    intro Q hQ
    refine r_il rfl rfl ?_
    refine r_ic rfl ?_
    refine r_sub rfl ?_
    refine r_isw (lv' := [(4, _), (0, _), (1, _), (3, _)]) rfl rfl rfl ?_
    obtain ⟨m, hm⟩ := Int.eq_ofNat_of_zero_le (show 0 ≤ a by omega)
    subst hm
    refine rn_up (N := 50 + 40 * m + 40) (by omega) (ty_loopC m (by omega) hln.1 (by omega) ?_)
    exact r_retv rfl rfl hQ
  obtain ⟨r, h1, h2⟩ := rn_S (vs := [.ref 1, .long (v), iv (a)]) (Q := fun r => r = (none, (cW ki (ln + a) (apr (gC v) a.toNat ln bt) rl cp cs ct cv rr dr ja ea ma a1 a2 a3 a4 a5 a6 a7 a8 jb eb mb b1 b2 b3 b4 b5 b6 b7 b8 re fl g1 g2 g3 g4 g5 D))) rfl (rn_up (N := 100 + 40 * 8 + 100) (M := mm_fuel) (by decide) (main (fun r => r = (none, (cW ki (ln + a) (apr (gC v) a.toNat ln bt) rl cp cs ct cv rr dr ja ea ma a1 a2 a3 a4 a5 a6 a7 a8 jb eb mb b1 b2 b3 b4 b5 b6 b7 b8 re fl g1 g2 g3 g4 g5 D))) rfl))
  have h1 : sX10_append [.ref 1, .long (v), iv (a)] (cW ki ln bt rl cp cs ct cv rr dr ja ea ma a1 a2 a3 a4 a5 a6 a7 a8 jb eb mb b1 b2 b3 b4 b5 b6 b7 b8 re fl g1 g2 g3 g4 g5 D) = some r := h1
  rw [h1, h2]
abbrev rn_X11_type (N : Nat) (c : mm_C) (Q : mm_R → Prop) : Prop := rn (mm_gf gLX11) (mm_pf pLX11) (mm_mv vX11_type) (mm_mv zX11_type) (mm_kc kLX11) mm_gs0 mm_rf0 mm_ro (some .int) 4 (mm_ins iX11_type) N c Q
theorem c_typeC (hln : 0 ≤ ln ∧ ln ≤ 400) (ha : -2147483648 ≤ a ∧ a ≤ 2147483647) : sX11_type [.ref 0, .long (v), iv (a)] (cW ki ln bt rl cp cs ct cv rr dr ja ea ma a1 a2 a3 a4 a5 a6 a7 a8 jb eb mb b1 b2 b3 b4 b5 b6 b7 b8 re fl g1 g2 g3 g4 g5 D) = some (some (iv (bif i3 a 1 8 then (bif decide (400 < ln + a) then (-3) else ln + a) else (-1))), (cW ki (bif (i3 a 1 8 && decide (ln + a ≤ 400)) then ln + a else ln) (bif (i3 a 1 8 && decide (ln + a ≤ 400)) then apr (gC v) a.toNat ln bt else bt) rl cp cs ct cv rr dr ja ea ma a1 a2 a3 a4 a5 a6 a7 a8 jb eb mb b1 b2 b3 b4 b5 b6 b7 b8 re fl g1 g2 g3 g4 g5 D)) := by
  have main : ∀ Q : mm_R → Prop, Q (some (iv (bif i3 a 1 8 then (bif decide (400 < ln + a) then (-3) else ln + a) else (-1))), (cW ki (bif (i3 a 1 8 && decide (ln + a ≤ 400)) then ln + a else ln) (bif (i3 a 1 8 && decide (ln + a ≤ 400)) then apr (gC v) a.toNat ln bt else bt) rl cp cs ct cv rr dr ja ea ma a1 a2 a3 a4 a5 a6 a7 a8 jb eb mb b1 b2 b3 b4 b5 b6 b7 b8 re fl g1 g2 g3 g4 g5 D)) → rn_X11_type (1000) (0, [(0, .ref 0), (1, .long (v)), (3, iv (a))], [], (cW ki ln bt rl cp cs ct cv rr dr ja ea ma a1 a2 a3 a4 a5 a6 a7 a8 jb eb mb b1 b2 b3 b4 b5 b6 b7 b8 re fl g1 g2 g3 g4 g5 D)) Q := by
    intro Q hQ
    refine r_il rfl rfl ?_
    refine r_ic rfl ?_
    refine r_clt rfl rfl (by omega) (by omega) (fun g1 => ?_) (fun g1 => ?_)
    · have e : i3 a 1 8 = false := by simp [i3]; omega
      rw [e] at hQ
      refine r_ic rfl ?_
      exact r_ret rfl rfl hQ
    · refine r_il rfl rfl ?_
      refine r_bi rfl (by decide) ?_
      refine r_cle rfl rfl (by omega) (by omega) (fun g2 => ?_) (fun g2 => ?_)
      · have e : i3 a 1 8 = true := by simp [i3]; omega
        rw [e] at hQ
        refine r_al rfl rfl ?_
        refine r_gf rfl rfl cg_0 rfl ?_
        refine r_gf rfl rfl cg_1 rfl ?_
        refine r_il rfl rfl ?_
        refine r_add rfl ?_
        refine r_si rfl (by decide) ?_
        refine r_cle rfl rfl (by omega) (by omega) (fun g3 => ?_) (fun g3 => ?_)
        · rw [decide_eq_false (show ¬ 400 < ln + a by omega), decide_eq_true g3] at hQ
          refine r_al rfl rfl ?_
          refine r_gf rfl rfl cg_0 rfl ?_
          refine r_ll rfl rfl ?_
          refine r_il rfl rfl ?_
          refine r_v3n rfl rfl cg_1 rfl (c_append (by omega) (by omega)) ?_
          refine r_al rfl rfl ?_
          refine r_gf rfl rfl cg_0 rfl ?_
          refine r_gf rfl rfl cg_1 rfl ?_
          exact r_ret rfl rfl hQ
        · rw [decide_eq_true (show 400 < ln + a by omega), decide_eq_false (show ¬ ln + a ≤ 400 by omega)] at hQ
          refine r_bi rfl (by decide) ?_
          exact r_ret rfl rfl hQ
      · have e : i3 a 1 8 = false := by simp [i3]; omega
        rw [e] at hQ
        refine r_ic rfl ?_
        exact r_ret rfl rfl hQ
  obtain ⟨r, h1, h2⟩ := rn_S (vs := [.ref 0, .long (v), iv (a)]) (Q := fun r => r = (some (iv (bif i3 a 1 8 then (bif decide (400 < ln + a) then (-3) else ln + a) else (-1))), (cW ki (bif (i3 a 1 8 && decide (ln + a ≤ 400)) then ln + a else ln) (bif (i3 a 1 8 && decide (ln + a ≤ 400)) then apr (gC v) a.toNat ln bt else bt) rl cp cs ct cv rr dr ja ea ma a1 a2 a3 a4 a5 a6 a7 a8 jb eb mb b1 b2 b3 b4 b5 b6 b7 b8 re fl g1 g2 g3 g4 g5 D))) rfl (rn_up (N := 1000) (M := mm_fuel) (by decide) (main (fun r => r = (some (iv (bif i3 a 1 8 then (bif decide (400 < ln + a) then (-3) else ln + a) else (-1))), (cW ki (bif (i3 a 1 8 && decide (ln + a ≤ 400)) then ln + a else ln) (bif (i3 a 1 8 && decide (ln + a ≤ 400)) then apr (gC v) a.toNat ln bt else bt) rl cp cs ct cv rr dr ja ea ma a1 a2 a3 a4 a5 a6 a7 a8 jb eb mb b1 b2 b3 b4 b5 b6 b7 b8 re fl g1 g2 g3 g4 g5 D))) rfl))
  have h1 : sX11_type [.ref 0, .long (v), iv (a)] (cW ki ln bt rl cp cs ct cv rr dr ja ea ma a1 a2 a3 a4 a5 a6 a7 a8 jb eb mb b1 b2 b3 b4 b5 b6 b7 b8 re fl g1 g2 g3 g4 g5 D) = some r := h1
  rw [h1, h2]
end T2
