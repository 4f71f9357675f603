theorem zb_nat {n j : Nat} (hn : n < 65536) : zb (Int32.ofInt (n : Int)) j = n.testBit j := by
  unfold zb
  show (BitVec.ofInt 32 (n : Int)).getLsbD j = _
  rw [BitVec.ofInt_natCast, BitVec.getLsbD_ofNat]
  rcases Nat.lt_or_ge j 32 with h | h
  · simp [h]
  · have : n.testBit j = false := Nat.testBit_lt_two_pow (Nat.lt_of_lt_of_le hn (Nat.le_trans (by decide : 65536 ≤ 2 ^ 32) (Nat.pow_le_pow_right (by decide) h)))
    simp [this]
theorem nO_f {n : Nat} (hn : n < 65536) : ∀ j : Nat, ((nO n j : Nat) : Int) = fO (n : Int) j
  | 0 => rfl
  | j + 1 => by
    show ((nO n j + (n >>> j) % 2 : Nat) : Int) = fO (n : Int) j + bi (zb (Int32.ofInt (n : Int)) j)
    rw [← nO_f hn j, zb_nat hn, Nat.testBit_eq_decide_div_mod_eq, Nat.shiftRight_eq_div_pow]
    have : n / 2 ^ j % 2 = 0 ∨ n / 2 ^ j % 2 = 1 := by omega
    rcases this with e | e
    · rw [e]; rfl
    · rw [e]; rfl
theorem lt_of_zb {x : Int32} {k : Nat} (h : ∀ j : Nat, k ≤ j → j < 32 → zb x j = false) : x.toBitVec.toNat < 2 ^ k := by
  apply Nat.lt_pow_two_of_testBit
  intro i hi
  rcases Nat.lt_or_ge i 32 with q | q
  · exact h i hi q
  · exact Nat.testBit_lt_two_pow (Nat.lt_of_lt_of_le x.toBitVec.isLt (Nat.pow_le_pow_right (by decide) q))
theorem ofI_nat (a : Int) : Int32.ofInt a = Int32.ofInt (((Int32.ofInt a).toBitVec.toNat : Nat) : Int) := by
  apply Int32.toBitVec_inj.mp
  show _ = BitVec.ofInt 32 _
  rw [BitVec.ofInt_natCast, BitVec.ofNat_toNat, BitVec.setWidth_eq]
theorem fO_c {a b : Int} (h : Int32.ofInt a = Int32.ofInt b) : ∀ j : Nat, fO a j = fO b j
  | 0 => rfl
  | j + 1 => by
    show fO a j + bi (zb (Int32.ofInt a) j) = fO b j + bi (zb (Int32.ofInt b) j)
    rw [fO_c h j, h]
theorem oUsh_c {a b m : Int} (h : Int32.ofInt a = Int32.ofInt b) : oUsh a m = oUsh b m := by unfold oUsh; rw [h]
theorem bc1_c {a b : Int} (h : Int32.ofInt a = Int32.ofInt b) : Int32.ofInt (bc1 a) = Int32.ofInt (bc1 b) := by unfold bc1; rw [oUsh_c h, Int32.ofInt_sub, Int32.ofInt_sub, h]
theorem bc2_c {a b : Int} (h : Int32.ofInt a = Int32.ofInt b) : bc2 a = bc2 b := by unfold bc2; rw [oUsh_c h, oAnd_c h]
/-- how many bits: of a number whose bits from the 16th on are none -/
theorem bcF_z {a : Int} (h : ∀ j : Nat, 16 ≤ j → j < 32 → zb (Int32.ofInt a) j = false) : bcF a = fO a 16 := by
  have hn := lt_of_zb h
  have e := ofI_nat a
  generalize (Int32.ofInt a).toBitVec.toNat = n at hn e
  have e2 : bcF a = bcF (n : Int) := by
    unfold bcF
    rw [bc2_c (bc1_c e)]
  rw [e2, bcF_n hn, nO_f hn, fO_c e]
section CC
variable {ki : Int} {ln : Int} {bt : Nat → Int32} {rl : Value} {cp : Int} {cs : Int} {ct : Int} {cv : Int} {rr : Nat} {dr : Nat} {ja : Int} {ea : Int} {ma : Int} {a1 : Nat → Int32} {a2 : Nat → Int32} {a3 : Nat → Int32} {a4 : Nat → Int32} {a5 : Nat → Int32} {a6 : Nat → Int32} {a7 : Nat → Int32} {a8 : Nat → Int32} {jb : Int} {eb : Int} {mb : Int} {b1 : Nat → Int32} {b2 : Nat → Int32} {b3 : Nat → Int32} {b4 : Nat → Int32} {b5 : Nat → Int32} {b6 : Nat → Int32} {b7 : Nat → Int32} {b8 : Nat → Int32} {re : Int} {fl : Int} {g1 : Nat → Int32} {g2 : Nat → Int32} {g3 : Nat → Int32} {g4 : Nat → Int32} {g5 : Nat → Int32} {rt : Int} {la : Int} {rs : Int} {rg : Int} {pd : Nat → Int32} {du : Nat → Int32} {ds : Nat → Int32} {me : Nat → Int32} {tt : Nat → Int32} {gr : Nat → Int32} {su : Nat → Int32} {gp : Nat → Int32} {mk : Int64} {rf : Nat → Option Nat} {m1 : Nat → Int32} {m2 : Nat → Int32} {m3 : Nat → Int32} {m4 : Nat → Int32} {m5 : Nat → Int32} {mr : Int} {mf : Int} {n1 : Nat → Int32} {n2 : Nat → Int32} {n3 : Nat → Int32} {n4 : Nat → Int32} {n5 : Nat → Int32} {nr : Int} {nf : Int} {E : List va_E} {a b : Int} {mw : List va_E} {Q : mm_R → Prop} {N : Nat}
abbrev rn_J6_bitCount_0f7a4 (N : Nat) (c : mm_C) (Q : mm_R → Prop) : Prop := rn (mm_gf gLJ6) (mm_pf pLJ6) (mm_mv vJ6_bitCount_0f7a4) (mm_mv zJ6_bitCount_0f7a4) (mm_kc kLJ6) mm_gs0 mm_rf0 mm_ro (some .int) 1 (mm_ins iJ6_bitCount_0f7a4) N c Q
theorem c_bitCount  : sJ6_bitCount_0f7a4 [iv (a)] mw = some (some (iv (bcF a)), mw) := by
  have main : ∀ Q : mm_R → Prop, Q (some (iv (bcF a)), mw) → rn_J6_bitCount_0f7a4 (1000) (0, [(0, iv (a))], [], mw) Q := by
    intro Q hQ
    refine r_il rfl rfl ?_
    refine r_il rfl rfl ?_
    refine r_ic rfl ?_
    refine r_ush rfl ?_
    refine r_ldcw (v := iv 1431655765) rfl rfl ?_
    refine r_and rfl ?_
    refine r_sub rfl ?_
    refine r_is (lv' := [(0, _)]) rfl rfl rfl ?_
    refine r_il rfl rfl ?_
    refine r_ldcw (v := iv 858993459) rfl rfl ?_
    refine r_and rfl ?_
    refine r_il rfl rfl ?_
    refine r_ic rfl ?_
    refine r_ush rfl ?_
    refine r_ldcw (v := iv 858993459) rfl rfl ?_
    refine r_and rfl ?_
    refine r_add rfl ?_
    refine r_is (lv' := [(0, _)]) rfl rfl rfl ?_
    refine r_il rfl rfl ?_
    refine r_il rfl rfl ?_
    refine r_ic rfl ?_
    refine r_ush rfl ?_
    refine r_add rfl ?_
    refine r_ldcw (v := iv 252645135) rfl rfl ?_
    refine r_and rfl ?_
    refine r_is (lv' := [(0, _)]) rfl rfl rfl ?_
    refine r_il rfl rfl ?_
    refine r_il rfl rfl ?_
    refine r_bi rfl (by decide) ?_
    refine r_ush rfl ?_
    refine r_add rfl ?_
    refine r_is (lv' := [(0, _)]) rfl rfl rfl ?_
    refine r_il rfl rfl ?_
    refine r_il rfl rfl ?_
    refine r_bi rfl (by decide) ?_
    refine r_ush rfl ?_
    refine r_add rfl ?_
    refine r_is (lv' := [(0, _)]) rfl rfl rfl ?_
    refine r_il rfl rfl ?_
    refine r_bi rfl (by decide) ?_
    refine r_and rfl ?_
    exact r_ret rfl rfl hQ
  obtain ⟨r, h1, h2⟩ := rn_S (vs := [iv (a)]) (Q := fun r => r = (some (iv (bcF a)), mw)) rfl (rn_up (N := 1000) (M := mm_fuel) (by decide) (main (fun r => r = (some (iv (bcF a)), mw)) rfl))
  have h1 : sJ6_bitCount_0f7a4 [iv (a)] mw = some r := h1
  rw [h1, h2]
def cRA (c3 g1 : Nat → Int32) : Nat → Int
  | 0 => 0
  | j + 1 => cRA c3 g1 j + cR c3 g1 (j : Int)
def cCT (c3 g1 : Nat → Int32) (nd ns re fl ln b : Int) : Int := bif decide (b = 0) then nd else bif decide (b = 1) then ns else bif decide (b = 2) then bcF re else bif decide (b = 3) then bcF fl else bif decide (b = 4) then ln else bif decide (b = 5) then cRA c3 g1 nd.toNat else (-1)
abbrev rn_X0_restOfAll (N : Nat) (c : mm_C) (Q : mm_R → Prop) : Prop := rn (mm_gf gLX0) (mm_pf pLX0) (mm_mv vX0_restOfAll) (mm_mv zX0_restOfAll) (mm_kc kLX0) mm_gs0 mm_rf0 mm_ro (some .int) 3 (mm_ins iX0_restOfAll) N c Q
theorem rall_lp0 {n : Nat} (hn : n ≤ 10) (k : rn_X0_restOfAll N (29, [(2, iv ((n : Int))), (1, iv (cRA a3 g1 n)), (0, .ref 4)], [], (cW ki ln bt rl cp cs ct cv 5 14 ja (n : Int) ma a1 a2 a3 a4 a5 a6 a7 a8 jb eb mb b1 b2 b3 b4 b5 b6 b7 b8 re fl g1 g2 g3 g4 g5 (dW rt la rs rg pd du ds me tt gr su gp mk rf m1 m2 m3 m4 m5 mr mf n1 n2 n3 n4 n5 nr nf E))) Q) : ∀ (m j : Nat), j + m = n → rn_X0_restOfAll (N + 30 * m + 30) (4, [(2, iv ((j : Int))), (1, iv (cRA a3 g1 j)), (0, .ref 4)], [], (cW ki ln bt rl cp cs ct cv 5 14 ja (n : Int) ma a1 a2 a3 a4 a5 a6 a7 a8 jb eb mb b1 b2 b3 b4 b5 b6 b7 b8 re fl g1 g2 g3 g4 g5 (dW rt la rs rg pd du ds me tt gr su gp mk rf m1 m2 m3 m4 m5 mr mf n1 n2 n3 n4 n5 nr nf E))) Q := by
  intro m
  induction m with
  | zero =>
    intro j hj
    have hj : j = n := by omega
    subst hj
    refine rn_up (N := N + 30) (by omega) ?_
    refine r_il rfl rfl ?_
    refine r_al rfl rfl ?_
    refine r_gf rfl rfl xg_4 rfl ?_
    refine r_gf rfl rfl xg_5 rfl ?_
    refine r_cge rfl rfl (by omega) (by omega) (fun u1 => ?_) (fun u1 => ?_)
    · exact rn_up (by omega) k
    · omega
  | succ m ih =>
    intro j hj
    refine rn_up (N := N + 30 * m + 30 + 30) (by omega) ?_
    refine r_il rfl rfl ?_
    refine r_al rfl rfl ?_
    refine r_gf rfl rfl xg_4 rfl ?_
    refine r_gf rfl rfl xg_5 rfl ?_
    refine r_cge rfl rfl (by omega) (by omega) (fun u1 => ?_) (fun u1 => ?_)
    · omega
    · refine r_il rfl rfl ?_
      refine r_al rfl rfl ?_
      refine r_il rfl rfl ?_
      refine r_v2s rfl rfl xg_4 rfl (c_restC0 (by omega)) ?_
      refine r_add rfl ?_
      refine r_is (lv' := [(1, _), (2, _), (0, _)]) rfl rfl rfl ?_
      refine r_inc (lv' := [(2, _), (1, _), (0, _)]) rfl rfl rfl rfl ?_
      refine r_goto rfl rfl ?_
      exact rn_up (by omega) (ih (j + 1) (by omega))
theorem c_rallC0 (hd : 0 ≤ ea ∧ ea ≤ 10) : sX0_restOfAll [.ref 4] (cW ki ln bt rl cp cs ct cv 5 14 ja ea ma a1 a2 a3 a4 a5 a6 a7 a8 jb eb mb b1 b2 b3 b4 b5 b6 b7 b8 re fl g1 g2 g3 g4 g5 (dW rt la rs rg pd du ds me tt gr su gp mk rf m1 m2 m3 m4 m5 mr mf n1 n2 n3 n4 n5 nr nf E)) = some (some (iv (cRA a3 g1 ea.toNat)), (cW ki ln bt rl cp cs ct cv 5 14 ja ea ma a1 a2 a3 a4 a5 a6 a7 a8 jb eb mb b1 b2 b3 b4 b5 b6 b7 b8 re fl g1 g2 g3 g4 g5 (dW rt la rs rg pd du ds me tt gr su gp mk rf m1 m2 m3 m4 m5 mr mf n1 n2 n3 n4 n5 nr nf E))) := by
  obtain ⟨n, rfl⟩ := Int.eq_ofNat_of_zero_le hd.1
  have hn : n ≤ 10 := by omega
  have main : ∀ Q : mm_R → Prop, Q (some (iv (cRA a3 g1 n)), (cW ki ln bt rl cp cs ct cv 5 14 ja (n : Int) ma a1 a2 a3 a4 a5 a6 a7 a8 jb eb mb b1 b2 b3 b4 b5 b6 b7 b8 re fl g1 g2 g3 g4 g5 (dW rt la rs rg pd du ds me tt gr su gp mk rf m1 m2 m3 m4 m5 mr mf n1 n2 n3 n4 n5 nr nf E))) → rn_X0_restOfAll (20 + 30 * 10 + 30 + 20) (0, [(0, .ref 4)], [], (cW ki ln bt rl cp cs ct cv 5 14 ja (n : Int) ma a1 a2 a3 a4 a5 a6 a7 a8 jb eb mb b1 b2 b3 b4 b5 b6 b7 b8 re fl g1 g2 g3 g4 g5 (dW rt la rs rg pd du ds me tt gr su gp mk rf m1 m2 m3 m4 m5 mr mf n1 n2 n3 n4 n5 nr nf E))) Q := by
    intro Q hQ
    refine r_ic rfl ?_
    refine r_is (lv' := [(1, _), (0, _)]) rfl rfl rfl ?_
    refine r_ic rfl ?_
    refine r_is (lv' := [(2, _), (1, _), (0, _)]) rfl rfl rfl ?_
    refine rn_up (N := 20 + 30 * n + 30) (by omega) (rall_lp0 (N := 20) hn ?_ n 0 (by omega))
    refine r_il rfl rfl ?_
    exact r_ret rfl rfl hQ
  obtain ⟨r, h1, h2⟩ := rn_S (vs := [.ref 4]) (Q := fun r => r = (some (iv (cRA a3 g1 n)), (cW ki ln bt rl cp cs ct cv 5 14 ja (n : Int) ma a1 a2 a3 a4 a5 a6 a7 a8 jb eb mb b1 b2 b3 b4 b5 b6 b7 b8 re fl g1 g2 g3 g4 g5 (dW rt la rs rg pd du ds me tt gr su gp mk rf m1 m2 m3 m4 m5 mr mf n1 n2 n3 n4 n5 nr nf E)))) rfl (rn_up (N := 20 + 30 * 10 + 30 + 20) (M := mm_fuel) (by decide) (main (fun r => r = (some (iv (cRA a3 g1 n)), (cW ki ln bt rl cp cs ct cv 5 14 ja (n : Int) ma a1 a2 a3 a4 a5 a6 a7 a8 jb eb mb b1 b2 b3 b4 b5 b6 b7 b8 re fl g1 g2 g3 g4 g5 (dW rt la rs rg pd du ds me tt gr su gp mk rf m1 m2 m3 m4 m5 mr mf n1 n2 n3 n4 n5 nr nf E)))) rfl))
  have h1 : sX0_restOfAll [.ref 4] (cW ki ln bt rl cp cs ct cv 5 14 ja (n : Int) ma a1 a2 a3 a4 a5 a6 a7 a8 jb eb mb b1 b2 b3 b4 b5 b6 b7 b8 re fl g1 g2 g3 g4 g5 (dW rt la rs rg pd du ds me tt gr su gp mk rf m1 m2 m3 m4 m5 mr mf n1 n2 n3 n4 n5 nr nf E)) = some r := h1
  rw [h1, h2]
  rfl
abbrev rn_X11_count (N : Nat) (c : mm_C) (Q : mm_R → Prop) : Prop := rn (mm_gf gLX11) (mm_pf pLX11) (mm_mv vX11_count) (mm_mv zX11_count) (mm_kc kLX11) mm_gs0 mm_rf0 mm_ro (some .int) 2 (mm_ins iX11_count) N c Q
theorem c_countC0 (hb : -2147483648 ≤ b ∧ b ≤ 2147483647) (hd : 0 ≤ ea ∧ ea ≤ 10) : sX11_count [.ref 0, iv (b)] (cW ki ln bt rl cp cs ct cv 5 14 ja ea ma a1 a2 a3 a4 a5 a6 a7 a8 jb eb mb b1 b2 b3 b4 b5 b6 b7 b8 re fl g1 g2 g3 g4 g5 (dW rt la rs rg pd du ds me tt gr su gp mk rf m1 m2 m3 m4 m5 mr mf n1 n2 n3 n4 n5 nr nf E)) = some (some (iv (cCT a3 g1 ea ma re fl ln b)), (cW ki ln bt rl cp cs ct cv 5 14 ja ea ma a1 a2 a3 a4 a5 a6 a7 a8 jb eb mb b1 b2 b3 b4 b5 b6 b7 b8 re fl g1 g2 g3 g4 g5 (dW rt la rs rg pd du ds me tt gr su gp mk rf m1 m2 m3 m4 m5 mr mf n1 n2 n3 n4 n5 nr nf E))) := by
  have main : ∀ Q : mm_R → Prop, Q (some (iv (cCT a3 g1 ea ma re fl ln b)), (cW ki ln bt rl cp cs ct cv 5 14 ja ea ma a1 a2 a3 a4 a5 a6 a7 a8 jb eb mb b1 b2 b3 b4 b5 b6 b7 b8 re fl g1 g2 g3 g4 g5 (dW rt la rs rg pd du ds me tt gr su gp mk rf m1 m2 m3 m4 m5 mr mf n1 n2 n3 n4 n5 nr nf E))) → rn_X11_count (1000) (0, [(0, .ref 0), (1, iv (b))], [], (cW ki ln bt rl cp cs ct cv 5 14 ja ea ma a1 a2 a3 a4 a5 a6 a7 a8 jb eb mb b1 b2 b3 b4 b5 b6 b7 b8 re fl g1 g2 g3 g4 g5 (dW rt la rs rg pd du ds me tt gr su gp mk rf m1 m2 m3 m4 m5 mr mf n1 n2 n3 n4 n5 nr nf E))) Q := by
    intro Q hQ
    refine r_il rfl rfl ?_
    by_cases hz0 : b = 0
    · refine r_ts (off := 39) rfl hb (by rw [hz0]; rfl) rfl ?_
      have e : cCT a3 g1 ea ma re fl ln b = ea := by unfold cCT; rw [decide_eq_true hz0]; rfl
      rw [e] at hQ
      refine r_al rfl rfl ?_
      refine r_gf rfl rfl xg_0 rfl ?_
      refine r_gf rfl rfl xg_4 rfl ?_
      refine r_gf rfl rfl xg_5 rfl ?_
      exact r_ret rfl rfl hQ
    · by_cases hz1 : b = 1
      · refine r_ts (off := 50) rfl hb (by rw [hz1]; rfl) rfl ?_
        have e : cCT a3 g1 ea ma re fl ln b = ma := by unfold cCT; rw [decide_eq_false hz0, decide_eq_true hz1]; rfl
        rw [e] at hQ
        refine r_al rfl rfl ?_
        refine r_gf rfl rfl xg_0 rfl ?_
        refine r_gf rfl rfl xg_4 rfl ?_
        refine r_gf rfl rfl xg_5 rfl ?_
        exact r_ret rfl rfl hQ
      · by_cases hz2 : b = 2
        · refine r_ts (off := 61) rfl hb (by rw [hz2]; rfl) rfl ?_
          have e : cCT a3 g1 ea ma re fl ln b = bcF re := by unfold cCT; rw [decide_eq_false hz0, decide_eq_false hz1, decide_eq_true hz2]; rfl
          rw [e] at hQ
          refine r_al rfl rfl ?_
          refine r_gf rfl rfl xg_0 rfl ?_
          refine r_gf rfl rfl xg_4 rfl ?_
          refine r_gf rfl rfl xg_23 rfl ?_
          refine r_s1s rfl rfl rfl c_bitCount ?_
          exact r_ret rfl rfl hQ
        · by_cases hz3 : b = 3
          · refine r_ts (off := 75) rfl hb (by rw [hz3]; rfl) rfl ?_
            have e : cCT a3 g1 ea ma re fl ln b = bcF fl := by unfold cCT; rw [decide_eq_false hz0, decide_eq_false hz1, decide_eq_false hz2, decide_eq_true hz3]; rfl
            rw [e] at hQ
            refine r_al rfl rfl ?_
            refine r_gf rfl rfl xg_0 rfl ?_
            refine r_gf rfl rfl xg_4 rfl ?_
            refine r_gf rfl rfl xg_23 rfl ?_
            refine r_s1s rfl rfl rfl c_bitCount ?_
            exact r_ret rfl rfl hQ
          · by_cases hz4 : b = 4
            · refine r_ts (off := 89) rfl hb (by rw [hz4]; rfl) rfl ?_
              have e : cCT a3 g1 ea ma re fl ln b = ln := by unfold cCT; rw [decide_eq_false hz0, decide_eq_false hz1, decide_eq_false hz2, decide_eq_false hz3, decide_eq_true hz4]; rfl
              rw [e] at hQ
              refine r_al rfl rfl ?_
              refine r_gf rfl rfl xg_0 rfl ?_
              refine r_gf rfl rfl xg_1 rfl ?_
              exact r_ret rfl rfl hQ
            · by_cases hz5 : b = 5
              · refine r_ts (off := 97) rfl hb (by rw [hz5]; rfl) rfl ?_
                have e : cCT a3 g1 ea ma re fl ln b = cRA a3 g1 ea.toNat := by unfold cCT; rw [decide_eq_false hz0, decide_eq_false hz1, decide_eq_false hz2, decide_eq_false hz3, decide_eq_false hz4, decide_eq_true hz5]; rfl
                rw [e] at hQ
                refine r_al rfl rfl ?_
                refine r_gf rfl rfl xg_0 rfl ?_
                refine r_v1s rfl rfl xg_4 rfl (c_rallC0 hd) ?_
                exact r_ret rfl rfl hQ
              · have hd : b < 0 ∨ 5 < b := by omega
                refine r_ts (off := 105) rfl hb (tsw_d hd) rfl ?_
                have e : cCT a3 g1 ea ma re fl ln b = -1 := by unfold cCT; rw [decide_eq_false hz0, decide_eq_false hz1, decide_eq_false hz2, decide_eq_false hz3, decide_eq_false hz4, decide_eq_false hz5]; rfl
                rw [e] at hQ
                refine r_ic rfl ?_
                exact r_ret rfl rfl hQ
  obtain ⟨r, h1, h2⟩ := rn_S (vs := [.ref 0, iv (b)]) (Q := fun r => r = (some (iv (cCT a3 g1 ea ma re fl ln b)), (cW ki ln bt rl cp cs ct cv 5 14 ja ea ma a1 a2 a3 a4 a5 a6 a7 a8 jb eb mb b1 b2 b3 b4 b5 b6 b7 b8 re fl g1 g2 g3 g4 g5 (dW rt la rs rg pd du ds me tt gr su gp mk rf m1 m2 m3 m4 m5 mr mf n1 n2 n3 n4 n5 nr nf E)))) rfl (rn_up (N := 1000) (M := mm_fuel) (by decide) (main (fun r => r = (some (iv (cCT a3 g1 ea ma re fl ln b)), (cW ki ln bt rl cp cs ct cv 5 14 ja ea ma a1 a2 a3 a4 a5 a6 a7 a8 jb eb mb b1 b2 b3 b4 b5 b6 b7 b8 re fl g1 g2 g3 g4 g5 (dW rt la rs rg pd du ds me tt gr su gp mk rf m1 m2 m3 m4 m5 mr mf n1 n2 n3 n4 n5 nr nf E)))) rfl))
  have h1 : sX11_count [.ref 0, iv (b)] (cW ki ln bt rl cp cs ct cv 5 14 ja ea ma a1 a2 a3 a4 a5 a6 a7 a8 jb eb mb b1 b2 b3 b4 b5 b6 b7 b8 re fl g1 g2 g3 g4 g5 (dW rt la rs rg pd du ds me tt gr su gp mk rf m1 m2 m3 m4 m5 mr mf n1 n2 n3 n4 n5 nr nf E)) = some r := h1
  rw [h1, h2]
theorem rall_lp1 {n : Nat} (hn : n ≤ 10) (k : rn_X0_restOfAll N (29, [(2, iv ((n : Int))), (1, iv (cRA b3 g1 n)), (0, .ref 4)], [], (cW ki ln bt rl cp cs ct cv 14 5 ja ea ma a1 a2 a3 a4 a5 a6 a7 a8 jb (n : Int) mb b1 b2 b3 b4 b5 b6 b7 b8 re fl g1 g2 g3 g4 g5 (dW rt la rs rg pd du ds me tt gr su gp mk rf m1 m2 m3 m4 m5 mr mf n1 n2 n3 n4 n5 nr nf E))) Q) : ∀ (m j : Nat), j + m = n → rn_X0_restOfAll (N + 30 * m + 30) (4, [(2, iv ((j : Int))), (1, iv (cRA b3 g1 j)), (0, .ref 4)], [], (cW ki ln bt rl cp cs ct cv 14 5 ja ea ma a1 a2 a3 a4 a5 a6 a7 a8 jb (n : Int) mb b1 b2 b3 b4 b5 b6 b7 b8 re fl g1 g2 g3 g4 g5 (dW rt la rs rg pd du ds me tt gr su gp mk rf m1 m2 m3 m4 m5 mr mf n1 n2 n3 n4 n5 nr nf E))) Q := by
  intro m
  induction m with
  | zero =>
    intro j hj
    have hj : j = n := by omega
    subst hj
    refine rn_up (N := N + 30) (by omega) ?_
    refine r_il rfl rfl ?_
    refine r_al rfl rfl ?_
    refine r_gf rfl rfl xg_4 rfl ?_
    refine r_gf rfl rfl xg_14 rfl ?_
    refine r_cge rfl rfl (by omega) (by omega) (fun u1 => ?_) (fun u1 => ?_)
    · exact rn_up (by omega) k
    · omega
  | succ m ih =>
    intro j hj
    refine rn_up (N := N + 30 * m + 30 + 30) (by omega) ?_
    refine r_il rfl rfl ?_
    refine r_al rfl rfl ?_
    refine r_gf rfl rfl xg_4 rfl ?_
    refine r_gf rfl rfl xg_14 rfl ?_
    refine r_cge rfl rfl (by omega) (by omega) (fun u1 => ?_) (fun u1 => ?_)
    · omega
    · refine r_il rfl rfl ?_
      refine r_al rfl rfl ?_
      refine r_il rfl rfl ?_
      refine r_v2s rfl rfl xg_4 rfl (c_restC1 (by omega)) ?_
      refine r_add rfl ?_
      refine r_is (lv' := [(1, _), (2, _), (0, _)]) rfl rfl rfl ?_
      refine r_inc (lv' := [(2, _), (1, _), (0, _)]) rfl rfl rfl rfl ?_
      refine r_goto rfl rfl ?_
      exact rn_up (by omega) (ih (j + 1) (by omega))
theorem c_rallC1 (hd : 0 ≤ eb ∧ eb ≤ 10) : sX0_restOfAll [.ref 4] (cW ki ln bt rl cp cs ct cv 14 5 ja ea ma a1 a2 a3 a4 a5 a6 a7 a8 jb eb mb b1 b2 b3 b4 b5 b6 b7 b8 re fl g1 g2 g3 g4 g5 (dW rt la rs rg pd du ds me tt gr su gp mk rf m1 m2 m3 m4 m5 mr mf n1 n2 n3 n4 n5 nr nf E)) = some (some (iv (cRA b3 g1 eb.toNat)), (cW ki ln bt rl cp cs ct cv 14 5 ja ea ma a1 a2 a3 a4 a5 a6 a7 a8 jb eb mb b1 b2 b3 b4 b5 b6 b7 b8 re fl g1 g2 g3 g4 g5 (dW rt la rs rg pd du ds me tt gr su gp mk rf m1 m2 m3 m4 m5 mr mf n1 n2 n3 n4 n5 nr nf E))) := by
  obtain ⟨n, rfl⟩ := Int.eq_ofNat_of_zero_le hd.1
  have hn : n ≤ 10 := by omega
  have main : ∀ Q : mm_R → Prop, Q (some (iv (cRA b3 g1 n)), (cW ki ln bt rl cp cs ct cv 14 5 ja ea ma a1 a2 a3 a4 a5 a6 a7 a8 jb (n : Int) mb b1 b2 b3 b4 b5 b6 b7 b8 re fl g1 g2 g3 g4 g5 (dW rt la rs rg pd du ds me tt gr su gp mk rf m1 m2 m3 m4 m5 mr mf n1 n2 n3 n4 n5 nr nf E))) → rn_X0_restOfAll (20 + 30 * 10 + 30 + 20) (0, [(0, .ref 4)], [], (cW ki ln bt rl cp cs ct cv 14 5 ja ea ma a1 a2 a3 a4 a5 a6 a7 a8 jb (n : Int) mb b1 b2 b3 b4 b5 b6 b7 b8 re fl g1 g2 g3 g4 g5 (dW rt la rs rg pd du ds me tt gr su gp mk rf m1 m2 m3 m4 m5 mr mf n1 n2 n3 n4 n5 nr nf E))) Q := by
    intro Q hQ
    refine r_ic rfl ?_
    refine r_is (lv' := [(1, _), (0, _)]) rfl rfl rfl ?_
    refine r_ic rfl ?_
    refine r_is (lv' := [(2, _), (1, _), (0, _)]) rfl rfl rfl ?_
    refine rn_up (N := 20 + 30 * n + 30) (by omega) (rall_lp1 (N := 20) hn ?_ n 0 (by omega))
    refine r_il rfl rfl ?_
    exact r_ret rfl rfl hQ
  obtain ⟨r, h1, h2⟩ := rn_S (vs := [.ref 4]) (Q := fun r => r = (some (iv (cRA b3 g1 n)), (cW ki ln bt rl cp cs ct cv 14 5 ja ea ma a1 a2 a3 a4 a5 a6 a7 a8 jb (n : Int) mb b1 b2 b3 b4 b5 b6 b7 b8 re fl g1 g2 g3 g4 g5 (dW rt la rs rg pd du ds me tt gr su gp mk rf m1 m2 m3 m4 m5 mr mf n1 n2 n3 n4 n5 nr nf E)))) rfl (rn_up (N := 20 + 30 * 10 + 30 + 20) (M := mm_fuel) (by decide) (main (fun r => r = (some (iv (cRA b3 g1 n)), (cW ki ln bt rl cp cs ct cv 14 5 ja ea ma a1 a2 a3 a4 a5 a6 a7 a8 jb (n : Int) mb b1 b2 b3 b4 b5 b6 b7 b8 re fl g1 g2 g3 g4 g5 (dW rt la rs rg pd du ds me tt gr su gp mk rf m1 m2 m3 m4 m5 mr mf n1 n2 n3 n4 n5 nr nf E)))) rfl))
  have h1 : sX0_restOfAll [.ref 4] (cW ki ln bt rl cp cs ct cv 14 5 ja ea ma a1 a2 a3 a4 a5 a6 a7 a8 jb (n : Int) mb b1 b2 b3 b4 b5 b6 b7 b8 re fl g1 g2 g3 g4 g5 (dW rt la rs rg pd du ds me tt gr su gp mk rf m1 m2 m3 m4 m5 mr mf n1 n2 n3 n4 n5 nr nf E)) = some r := h1
  rw [h1, h2]
  rfl
theorem c_countC1 (hb : -2147483648 ≤ b ∧ b ≤ 2147483647) (hd : 0 ≤ eb ∧ eb ≤ 10) : sX11_count [.ref 0, iv (b)] (cW ki ln bt rl cp cs ct cv 14 5 ja ea ma a1 a2 a3 a4 a5 a6 a7 a8 jb eb mb b1 b2 b3 b4 b5 b6 b7 b8 re fl g1 g2 g3 g4 g5 (dW rt la rs rg pd du ds me tt gr su gp mk rf m1 m2 m3 m4 m5 mr mf n1 n2 n3 n4 n5 nr nf E)) = some (some (iv (cCT b3 g1 eb mb re fl ln b)), (cW ki ln bt rl cp cs ct cv 14 5 ja ea ma a1 a2 a3 a4 a5 a6 a7 a8 jb eb mb b1 b2 b3 b4 b5 b6 b7 b8 re fl g1 g2 g3 g4 g5 (dW rt la rs rg pd du ds me tt gr su gp mk rf m1 m2 m3 m4 m5 mr mf n1 n2 n3 n4 n5 nr nf E))) := by
  have main : ∀ Q : mm_R → Prop, Q (some (iv (cCT b3 g1 eb mb re fl ln b)), (cW ki ln bt rl cp cs ct cv 14 5 ja ea ma a1 a2 a3 a4 a5 a6 a7 a8 jb eb mb b1 b2 b3 b4 b5 b6 b7 b8 re fl g1 g2 g3 g4 g5 (dW rt la rs rg pd du ds me tt gr su gp mk rf m1 m2 m3 m4 m5 mr mf n1 n2 n3 n4 n5 nr nf E))) → rn_X11_count (1000) (0, [(0, .ref 0), (1, iv (b))], [], (cW ki ln bt rl cp cs ct cv 14 5 ja ea ma a1 a2 a3 a4 a5 a6 a7 a8 jb eb mb b1 b2 b3 b4 b5 b6 b7 b8 re fl g1 g2 g3 g4 g5 (dW rt la rs rg pd du ds me tt gr su gp mk rf m1 m2 m3 m4 m5 mr mf n1 n2 n3 n4 n5 nr nf E))) Q := by
    intro Q hQ
    refine r_il rfl rfl ?_
    by_cases hz0 : b = 0
    · refine r_ts (off := 39) rfl hb (by rw [hz0]; rfl) rfl ?_
      have e : cCT b3 g1 eb mb re fl ln b = eb := by unfold cCT; rw [decide_eq_true hz0]; rfl
      rw [e] at hQ
      refine r_al rfl rfl ?_
      refine r_gf rfl rfl xg_0 rfl ?_
      refine r_gf rfl rfl xg_4 rfl ?_
      refine r_gf rfl rfl xg_14 rfl ?_
      exact r_ret rfl rfl hQ
    · by_cases hz1 : b = 1
      · refine r_ts (off := 50) rfl hb (by rw [hz1]; rfl) rfl ?_
        have e : cCT b3 g1 eb mb re fl ln b = mb := by unfold cCT; rw [decide_eq_false hz0, decide_eq_true hz1]; rfl
        rw [e] at hQ
        refine r_al rfl rfl ?_
        refine r_gf rfl rfl xg_0 rfl ?_
        refine r_gf rfl rfl xg_4 rfl ?_
        refine r_gf rfl rfl xg_14 rfl ?_
        exact r_ret rfl rfl hQ
      · by_cases hz2 : b = 2
        · refine r_ts (off := 61) rfl hb (by rw [hz2]; rfl) rfl ?_
          have e : cCT b3 g1 eb mb re fl ln b = bcF re := by unfold cCT; rw [decide_eq_false hz0, decide_eq_false hz1, decide_eq_true hz2]; rfl
          rw [e] at hQ
          refine r_al rfl rfl ?_
          refine r_gf rfl rfl xg_0 rfl ?_
          refine r_gf rfl rfl xg_4 rfl ?_
          refine r_gf rfl rfl xg_23 rfl ?_
          refine r_s1s rfl rfl rfl c_bitCount ?_
          exact r_ret rfl rfl hQ
        · by_cases hz3 : b = 3
          · refine r_ts (off := 75) rfl hb (by rw [hz3]; rfl) rfl ?_
            have e : cCT b3 g1 eb mb re fl ln b = bcF fl := by unfold cCT; rw [decide_eq_false hz0, decide_eq_false hz1, decide_eq_false hz2, decide_eq_true hz3]; rfl
            rw [e] at hQ
            refine r_al rfl rfl ?_
            refine r_gf rfl rfl xg_0 rfl ?_
            refine r_gf rfl rfl xg_4 rfl ?_
            refine r_gf rfl rfl xg_23 rfl ?_
            refine r_s1s rfl rfl rfl c_bitCount ?_
            exact r_ret rfl rfl hQ
          · by_cases hz4 : b = 4
            · refine r_ts (off := 89) rfl hb (by rw [hz4]; rfl) rfl ?_
              have e : cCT b3 g1 eb mb re fl ln b = ln := by unfold cCT; rw [decide_eq_false hz0, decide_eq_false hz1, decide_eq_false hz2, decide_eq_false hz3, decide_eq_true hz4]; rfl
              rw [e] at hQ
              refine r_al rfl rfl ?_
              refine r_gf rfl rfl xg_0 rfl ?_
              refine r_gf rfl rfl xg_1 rfl ?_
              exact r_ret rfl rfl hQ
            · by_cases hz5 : b = 5
              · refine r_ts (off := 97) rfl hb (by rw [hz5]; rfl) rfl ?_
                have e : cCT b3 g1 eb mb re fl ln b = cRA b3 g1 eb.toNat := by unfold cCT; rw [decide_eq_false hz0, decide_eq_false hz1, decide_eq_false hz2, decide_eq_false hz3, decide_eq_false hz4, decide_eq_true hz5]; rfl
                rw [e] at hQ
                refine r_al rfl rfl ?_
                refine r_gf rfl rfl xg_0 rfl ?_
                refine r_v1s rfl rfl xg_4 rfl (c_rallC1 hd) ?_
                exact r_ret rfl rfl hQ
              · have hd : b < 0 ∨ 5 < b := by omega
                refine r_ts (off := 105) rfl hb (tsw_d hd) rfl ?_
                have e : cCT b3 g1 eb mb re fl ln b = -1 := by unfold cCT; rw [decide_eq_false hz0, decide_eq_false hz1, decide_eq_false hz2, decide_eq_false hz3, decide_eq_false hz4, decide_eq_false hz5]; rfl
                rw [e] at hQ
                refine r_ic rfl ?_
                exact r_ret rfl rfl hQ
  obtain ⟨r, h1, h2⟩ := rn_S (vs := [.ref 0, iv (b)]) (Q := fun r => r = (some (iv (cCT b3 g1 eb mb re fl ln b)), (cW ki ln bt rl cp cs ct cv 14 5 ja ea ma a1 a2 a3 a4 a5 a6 a7 a8 jb eb mb b1 b2 b3 b4 b5 b6 b7 b8 re fl g1 g2 g3 g4 g5 (dW rt la rs rg pd du ds me tt gr su gp mk rf m1 m2 m3 m4 m5 mr mf n1 n2 n3 n4 n5 nr nf E)))) rfl (rn_up (N := 1000) (M := mm_fuel) (by decide) (main (fun r => r = (some (iv (cCT b3 g1 eb mb re fl ln b)), (cW ki ln bt rl cp cs ct cv 14 5 ja ea ma a1 a2 a3 a4 a5 a6 a7 a8 jb eb mb b1 b2 b3 b4 b5 b6 b7 b8 re fl g1 g2 g3 g4 g5 (dW rt la rs rg pd du ds me tt gr su gp mk rf m1 m2 m3 m4 m5 mr mf n1 n2 n3 n4 n5 nr nf E)))) rfl))
  have h1 : sX11_count [.ref 0, iv (b)] (cW ki ln bt rl cp cs ct cv 14 5 ja ea ma a1 a2 a3 a4 a5 a6 a7 a8 jb eb mb b1 b2 b3 b4 b5 b6 b7 b8 re fl g1 g2 g3 g4 g5 (dW rt la rs rg pd du ds me tt gr su gp mk rf m1 m2 m3 m4 m5 mr mf n1 n2 n3 n4 n5 nr nf E)) = some r := h1
  rw [h1, h2]
end CC
section CR
variable {C : List va_E} {tr : Int64} {th db sn dm sm ty nx tk pl va fa lr ri : Int} {s kp ik tn de sd dd sr tx pa : Nat → Int32} {b : Int} {Q : mm_R → Prop} {N : Nat}
def rFr (s : Nat → Int32) : Nat → Int
  | 0 => 0
  | j + 1 => rFr s j + (s (42 + j)).toInt
def rRA (de s : Nat → Int32) : Nat → Int
  | 0 => 0
  | j + 1 => rRA de s j + fR de s (j : Int)
def rCT (de s : Nat → Int32) (db sn ty b : Int) : Int := bif decide (b = 0) then db else bif decide (b = 1) then sn else bif decide (b = 2) then rFr s sn.toNat else bif decide (b = 3) then fO (s 130).toInt 16 else bif decide (b = 4) then ty else bif decide (b = 5) then rRA de s db.toNat else (-1)
abbrev rn_X12_count (N : Nat) (c : mm_C) (Q : mm_R → Prop) : Prop := rn (mm_gf gLX12) (mm_pf pLX12) (mm_mv vX12_count) (mm_mv zX12_count) (mm_kc kLX12) mm_gs0 mm_rf0 mm_ro (some .int) 5 (mm_ins iX12_count) N c Q
theorem cnt_lp1 (hC : C.length = 56) {n : Nat} (hn : n ≤ 16) (k : rn_X12_count N (40, [(4, iv ((n : Int))), (2, iv (rFr s n)), (3, iv (0)), (0, .ref 56), (1, iv (b))], [], (C ++ rL (ro_ (0 : Int) tr db (n : Int) dm sm ty nx tk pl va fa lr ri) s kp ik tn de sd dd sr tx pa)) Q) : ∀ (m j : Nat), j + m = n → rn_X12_count (N + 30 * m + 30) (12, [(4, iv ((j : Int))), (2, iv (rFr s j)), (3, iv (0)), (0, .ref 56), (1, iv (b))], [], (C ++ rL (ro_ (0 : Int) tr db (n : Int) dm sm ty nx tk pl va fa lr ri) s kp ik tn de sd dd sr tx pa)) Q := by
  intro m
  induction m with
  | zero =>
    intro j hj
    have hj : j = n := by omega
    subst hj
    refine rn_up (N := N + 30) (by omega) ?_
    refine r_ilw rfl rfl ?_
    refine r_al rfl rfl ?_
    refine r_gf rfl rfl (rg_56 hC) rfl ?_
    refine r_cge rfl rfl (by omega) (by omega) (fun g1 => ?_) (fun g1 => ?_)
    · exact rn_up (by omega) k
    · omega
  | succ m ih =>
    intro j hj
    refine rn_up (N := N + 30 * m + 30 + 30) (by omega) ?_
    refine r_ilw rfl rfl ?_
    refine r_al rfl rfl ?_
    refine r_gf rfl rfl (rg_56 hC) rfl ?_
    refine r_cge rfl rfl (by omega) (by omega) (fun g1 => ?_) (fun g1 => ?_)
    · omega
    · refine r_il rfl rfl ?_
      refine r_al rfl rfl ?_
      refine r_gf rfl rfl (rg_56 hC) rfl ?_
      refine r_bi rfl (by decide) ?_
      refine r_ilw rfl rfl ?_
      refine r_add rfl ?_
      refine r_ia rfl (rg_57 hC) (by omega) (by omega) (by decide) ?_
      refine r_add rfl ?_
      refine r_is (lv' := [(2, _), (4, _), (3, _), (0, _), (1, _)]) rfl rfl rfl ?_
      refine r_inc (lv' := [(4, _), (2, _), (3, _), (0, _), (1, _)]) rfl rfl rfl rfl ?_
      refine r_goto rfl rfl ?_
      rw [show Int.toNat (42 + (j : Int)) = 42 + j by omega]
      exact rn_up (by omega) (ih (j + 1) (by omega))
theorem cnt_lp2 (hC : C.length = 56) {f : Int} {n : Nat} (hn : n ≤ 10) (k : rn_X12_count N (67, [(4, iv ((n : Int))), (3, iv (rRA de s n)), (2, iv (f)), (0, .ref 56), (1, iv (b))], [], (C ++ rL (ro_ (0 : Int) tr (n : Int) sn dm sm ty nx tk pl va fa lr ri) s kp ik tn de sd dd sr tx pa)) Q) : ∀ (m j : Nat), j + m = n → rn_X12_count (N + 30 * m + 30) (43, [(4, iv ((j : Int))), (3, iv (rRA de s j)), (2, iv (f)), (0, .ref 56), (1, iv (b))], [], (C ++ rL (ro_ (0 : Int) tr (n : Int) sn dm sm ty nx tk pl va fa lr ri) s kp ik tn de sd dd sr tx pa)) Q := by
  intro m
  induction m with
  | zero =>
    intro j hj
    have hj : j = n := by omega
    subst hj
    refine rn_up (N := N + 30) (by omega) ?_
    refine r_ilw rfl rfl ?_
    refine r_al rfl rfl ?_
    refine r_gf rfl rfl (rg_56 hC) rfl ?_
    refine r_cge rfl rfl (by omega) (by omega) (fun g1 => ?_) (fun g1 => ?_)
    · exact rn_up (by omega) k
    · omega
  | succ m ih =>
    intro j hj
    refine rn_up (N := N + 30 * m + 30 + 30) (by omega) ?_
    refine r_ilw rfl rfl ?_
    refine r_al rfl rfl ?_
    refine r_gf rfl rfl (rg_56 hC) rfl ?_
    refine r_cge rfl rfl (by omega) (by omega) (fun g1 => ?_) (fun g1 => ?_)
    · omega
    · refine r_il rfl rfl ?_
      refine r_al rfl rfl ?_
      refine r_ilw rfl rfl ?_
      refine r_v2s rfl rfl (rg_56 hC) rfl (c_restR hC (by omega)) ?_
      refine r_add rfl ?_
      refine r_is (lv' := [(3, _), (4, _), (2, _), (0, _), (1, _)]) rfl rfl rfl ?_
      refine r_inc (lv' := [(4, _), (3, _), (2, _), (0, _), (1, _)]) rfl rfl rfl rfl ?_
      refine r_goto rfl rfl ?_
      exact rn_up (by omega) (ih (j + 1) (by omega))
-- the whole call: part 92b
end CR
