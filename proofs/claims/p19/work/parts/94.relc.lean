/-! ===== release: the class, exactly ===== -/
def cW0 (c5 c6 : Nat → Int32) (re d : Int) (j : Nat) : Bool := decide ((c6 (Int.toNat (j : Int))).toInt = 0) && (decide ((c5 (Int.toNat (j : Int))).toInt = d) && !zb (Int32.ofInt re) j)
def cOt (c5 c6 : Nat → Int32) (re d : Int) : Nat → Int
  | 0 => 0
  | j + 1 => bif cW0 c5 c6 re d j then oOr (cOt c5 c6 re d j) (oShl 1 (j : Int)) else cOt c5 c6 re d j
def mxI (a c : Int) : Int := bif decide (a < c) then c else a
def cLO (ot less : Int) (g3 : Nat → Int32) : Nat → (Nat → Int32)
  | 0 => g3
  | j + 1 => bif zb (Int32.ofInt ot) j then upd (cLO ot less g3 j) (Int.toNat (j : Int)) (Int32.ofInt (mxI 0 (nrm ((cLO ot less g3 j (Int.toNat (j : Int))).toInt - less)))) else cLO ot less g3 j
section RC
variable {ki : Int} {ln : Int} {bt : Nat → Int32} {rl : Value} {cp : Int} {cs : Int} {ct : Int} {cv : Int} {rr : Nat} {dr : Nat} {ja : Int} {ea : Int} {ma : Int} {a1 : Nat → Int32} {a2 : Nat → Int32} {a3 : Nat → Int32} {a4 : Nat → Int32} {a5 : Nat → Int32} {a6 : Nat → Int32} {a7 : Nat → Int32} {a8 : Nat → Int32} {jb : Int} {eb : Int} {mb : Int} {b1 : Nat → Int32} {b2 : Nat → Int32} {b3 : Nat → Int32} {b4 : Nat → Int32} {b5 : Nat → Int32} {b6 : Nat → Int32} {b7 : Nat → Int32} {b8 : Nat → Int32} {re : Int} {fl : Int} {g1 : Nat → Int32} {g2 : Nat → Int32} {g3 : Nat → Int32} {g4 : Nat → Int32} {g5 : Nat → Int32} {rt : Int} {la : Int} {rs : Int} {rg : Int} {pd : Nat → Int32} {du : Nat → Int32} {ds : Nat → Int32} {me : Nat → Int32} {tt : Nat → Int32} {gr : Nat → Int32} {su : Nat → Int32} {gp : Nat → Int32} {mk : Int64} {rf : Nat → Option Nat} {m1 : Nat → Int32} {m2 : Nat → Int32} {m3 : Nat → Int32} {m4 : Nat → Int32} {m5 : Nat → Int32} {mr : Int} {mf : Int} {n1 : Nat → Int32} {n2 : Nat → Int32} {n3 : Nat → Int32} {n4 : Nat → Int32} {n5 : Nat → Int32} {nr : Int} {nf : Int} {E : List va_E} {a b d i law less ot mn : Int} {mw : List va_E} {Q : mm_R → Prop} {N : Nat}
theorem c_maxC (ha : -2147483648 ≤ a ∧ a ≤ 2147483647) (hb : -2147483648 ≤ b ∧ b ≤ 2147483647) : sJ9_max_7cf53 [iv (a), iv (b)] mw = some (some (iv (mxI a b)), mw) := by
  have main : ∀ Q : mm_R → Prop, Q (some (iv (mxI a b)), mw) → rn_J9_max_7cf53 (1000) (0, [(0, iv (a)), (1, iv (b))], [], mw) Q := by
    intro Q hQ
    refine r_il rfl rfl ?_
    refine r_il rfl rfl ?_
    refine r_clt rfl rfl ha hb (fun u1 => ?_) (fun u1 => ?_)
    · have e : mxI a b = b := by unfold mxI; rw [decide_eq_true u1]; rfl
      rw [e] at hQ
      refine r_il rfl rfl ?_
      exact r_ret rfl rfl hQ
    · have e : mxI a b = a := by unfold mxI; rw [decide_eq_false (Int.not_lt.mpr u1)]; rfl
      rw [e] at hQ
      refine r_il rfl rfl ?_
      refine r_goto rfl rfl ?_
      exact r_ret rfl rfl hQ
  obtain ⟨r, h1, h2⟩ := rn_S (vs := [iv (a), iv (b)]) (Q := fun r => r = (some (iv (mxI a b)), mw)) rfl (rn_up (N := 1000) (M := mm_fuel) (by decide) (main (fun r => r = (some (iv (mxI a b)), mw)) rfl))
  have h1 : sJ9_max_7cf53 [iv (a), iv (b)] mw = some r := h1
  rw [h1, h2]
abbrev rn_X0_standsWhole (N : Nat) (c : mm_C) (Q : mm_R → Prop) : Prop := rn (mm_gf gLX0) (mm_pf pLX0) (mm_mv vX0_standsWhole) (mm_mv zX0_standsWhole) (mm_kc kLX0) mm_gs0 mm_rf0 mm_ro (some .boolean) 3 (mm_ins iX0_standsWhole) N c Q
theorem c_stW0 {j : Nat} (hj : j < 16) (hd : -2147483648 ≤ d ∧ d ≤ 2147483647) : sX0_standsWhole [.ref 4, iv ((j : Int)), iv (d)] (cW ki ln bt rl cp cs ct cv 5 14 ja ea ma a1 a2 a3 a4 a5 a6 a7 a8 jb eb mb b1 b2 b3 b4 b5 b6 b7 b8 re fl g1 g2 g3 g4 g5 (dW rt la rs rg pd du ds me tt gr su gp mk rf m1 m2 m3 m4 m5 mr mf n1 n2 n3 n4 n5 nr nf E)) = some (some (iv (bi (cW0 a5 a6 re d j))), (cW ki ln bt rl cp cs ct cv 5 14 ja ea ma a1 a2 a3 a4 a5 a6 a7 a8 jb eb mb b1 b2 b3 b4 b5 b6 b7 b8 re fl g1 g2 g3 g4 g5 (dW rt la rs rg pd du ds me tt gr su gp mk rf m1 m2 m3 m4 m5 mr mf n1 n2 n3 n4 n5 nr nf E))) := by
  have main : ∀ Q : mm_R → Prop, Q (some (iv (bi (cW0 a5 a6 re d j))), (cW ki ln bt rl cp cs ct cv 5 14 ja ea ma a1 a2 a3 a4 a5 a6 a7 a8 jb eb mb b1 b2 b3 b4 b5 b6 b7 b8 re fl g1 g2 g3 g4 g5 (dW rt la rs rg pd du ds me tt gr su gp mk rf m1 m2 m3 m4 m5 mr mf n1 n2 n3 n4 n5 nr nf E))) → rn_X0_standsWhole (1000) (0, [(0, .ref 4), (1, iv ((j : Int))), (2, iv (d))], [], (cW ki ln bt rl cp cs ct cv 5 14 ja ea ma a1 a2 a3 a4 a5 a6 a7 a8 jb eb mb b1 b2 b3 b4 b5 b6 b7 b8 re fl g1 g2 g3 g4 g5 (dW rt la rs rg pd du ds me tt gr su gp mk rf m1 m2 m3 m4 m5 mr mf n1 n2 n3 n4 n5 nr nf E))) Q := by
    intro Q hQ
    refine r_al rfl rfl ?_
    refine r_gf rfl rfl xg_4 rfl ?_
    refine r_gf rfl rfl xg_5 rfl ?_
    refine r_il rfl rfl ?_
    refine r_ia rfl xg_11 (by omega) (by omega) (by decide) ?_
    refine r_zne rfl rfl (as_r _) (fun u1 => ?_) (fun u1 => ?_)
    · have e : cW0 a5 a6 re d j = false := by unfold cW0; rw [decide_eq_false u1]; rfl
      rw [e] at hQ
      refine r_ic rfl ?_
      exact r_retb rfl rfl (by omega) hQ
    · refine r_al rfl rfl ?_
      refine r_gf rfl rfl xg_4 rfl ?_
      refine r_gf rfl rfl xg_5 rfl ?_
      refine r_il rfl rfl ?_
      refine r_ia rfl xg_10 (by omega) (by omega) (by decide) ?_
      refine r_il rfl rfl ?_
      refine r_cne rfl rfl (as_r _) hd (fun u2 => ?_) (fun u2 => ?_)
      · have e : cW0 a5 a6 re d j = false := by unfold cW0; rw [decide_eq_true u1, decide_eq_false u2]; rfl
        rw [e] at hQ
        refine r_ic rfl ?_
        exact r_retb rfl rfl (by omega) hQ
      · refine r_al rfl rfl ?_
        refine r_gf rfl rfl xg_4 rfl ?_
        refine r_gf rfl rfl xg_23 rfl ?_
        refine r_il rfl rfl ?_
        refine r_s2s rfl rfl rfl (c_isIn (by omega)) ?_
        refine r_zne rfl rfl (bi_r _) (fun u3 => ?_) (fun u3 => ?_)
        · have u3 : zb (Int32.ofInt re) j = true := bi_1 u3
          have e : cW0 a5 a6 re d j = false := by unfold cW0; rw [decide_eq_true u1, decide_eq_true u2, u3]; rfl
          rw [e] at hQ
          refine r_ic rfl ?_
          exact r_retb rfl rfl (by omega) hQ
        · have u3 : zb (Int32.ofInt re) j = false := bi_0 u3
          have e : cW0 a5 a6 re d j = true := by unfold cW0; rw [decide_eq_true u1, decide_eq_true u2, u3]; rfl
          rw [e] at hQ
          refine r_ic rfl ?_
          refine r_goto rfl rfl ?_
          exact r_retb rfl rfl (by omega) hQ
  obtain ⟨r, h1, h2⟩ := rn_S (vs := [.ref 4, iv ((j : Int)), iv (d)]) (Q := fun r => r = (some (iv (bi (cW0 a5 a6 re d j))), (cW ki ln bt rl cp cs ct cv 5 14 ja ea ma a1 a2 a3 a4 a5 a6 a7 a8 jb eb mb b1 b2 b3 b4 b5 b6 b7 b8 re fl g1 g2 g3 g4 g5 (dW rt la rs rg pd du ds me tt gr su gp mk rf m1 m2 m3 m4 m5 mr mf n1 n2 n3 n4 n5 nr nf E)))) rfl (rn_up (N := 1000) (M := mm_fuel) (by decide) (main (fun r => r = (some (iv (bi (cW0 a5 a6 re d j))), (cW ki ln bt rl cp cs ct cv 5 14 ja ea ma a1 a2 a3 a4 a5 a6 a7 a8 jb eb mb b1 b2 b3 b4 b5 b6 b7 b8 re fl g1 g2 g3 g4 g5 (dW rt la rs rg pd du ds me tt gr su gp mk rf m1 m2 m3 m4 m5 mr mf n1 n2 n3 n4 n5 nr nf E)))) rfl))
  have h1 : sX0_standsWhole [.ref 4, iv ((j : Int)), iv (d)] (cW ki ln bt rl cp cs ct cv 5 14 ja ea ma a1 a2 a3 a4 a5 a6 a7 a8 jb eb mb b1 b2 b3 b4 b5 b6 b7 b8 re fl g1 g2 g3 g4 g5 (dW rt la rs rg pd du ds me tt gr su gp mk rf m1 m2 m3 m4 m5 mr mf n1 n2 n3 n4 n5 nr nf E)) = some r := h1
  rw [h1, h2]
abbrev rn_X2_standingWhole (N : Nat) (c : mm_C) (Q : mm_R → Prop) : Prop := rn (mm_gf gLX2) (mm_pf pLX2) (mm_mv vX2_standingWhole) (mm_mv zX2_standingWhole) (mm_kc kLX2) mm_gs0 mm_rf0 mm_ro (some .int) 4 (mm_ins iX2_standingWhole) N c Q
theorem stw_lp0 {n : Nat} (hn : n ≤ 16) (hd : -2147483648 ≤ d ∧ d ≤ 2147483647) (k : rn_X2_standingWhole N (42, [(3, iv (((n : Nat) : Int))), (2, iv (cOt a5 a6 re d n)), (0, .ref 29), (1, iv (d))], [], (cW ki ln bt rl cp cs ct cv 5 14 ja ea (n : Int) a1 a2 a3 a4 a5 a6 a7 a8 jb eb mb b1 b2 b3 b4 b5 b6 b7 b8 re fl g1 g2 g3 g4 g5 (dW rt la rs rg pd du ds me tt gr su gp mk rf m1 m2 m3 m4 m5 mr mf n1 n2 n3 n4 n5 nr nf E))) Q) : ∀ (m j : Nat), j + m = n → rn_X2_standingWhole (N + 60 * m + 60) (4, [(3, iv ((j : Int))), (2, iv (cOt a5 a6 re d j)), (0, .ref 29), (1, iv (d))], [], (cW ki ln bt rl cp cs ct cv 5 14 ja ea (n : Int) a1 a2 a3 a4 a5 a6 a7 a8 jb eb mb b1 b2 b3 b4 b5 b6 b7 b8 re fl g1 g2 g3 g4 g5 (dW rt la rs rg pd du ds me tt gr su gp mk rf m1 m2 m3 m4 m5 mr mf n1 n2 n3 n4 n5 nr nf E))) Q := by
  intro m
  induction m with
  | zero =>
    intro j hj
    have hj : j = n := by omega
    subst hj
    refine rn_up (N := N + 60) (by omega) ?_
    refine r_il rfl rfl ?_
    refine r_al rfl rfl ?_
    refine r_gf rfl rfl xg_29 rfl ?_
    refine r_gf rfl rfl xg_4 rfl ?_
    refine r_gf rfl rfl xg_5 rfl ?_
    refine r_cge rfl rfl (by omega) (by omega) (fun u1 => ?_) (fun u1 => ?_)
    · exact rn_up (by omega) k
    · omega
  | succ m ih =>
    intro j hj
    obtain ⟨M, hM⟩ : ∃ M, M = N + 60 * m + 60 := ⟨_, rfl⟩
    rw [← hM] at ih
    refine rn_up (N := M + 60) (by omega) ?_
    refine r_il rfl rfl ?_
    refine r_al rfl rfl ?_
    refine r_gf rfl rfl xg_29 rfl ?_
    refine r_gf rfl rfl xg_4 rfl ?_
    refine r_gf rfl rfl xg_5 rfl ?_
    refine r_cge rfl rfl (by omega) (by omega) (fun u1 => ?_) (fun u1 => ?_)
    · omega
    · refine r_al rfl rfl ?_
      refine r_gf rfl rfl xg_29 rfl ?_
      refine r_il rfl rfl ?_
      refine r_il rfl rfl ?_
      refine r_v3s rfl rfl xg_4 rfl (c_stW0 (by omega) hd) ?_
      refine r_zeq rfl rfl (bi_r _) (fun u2 => ?_) (fun u2 => ?_)
      · refine r_inc (lv' := [(3, _), (2, _), (0, _), (1, _)]) rfl rfl rfl rfl ?_
        refine r_goto rfl rfl ?_
        have e : cOt a5 a6 re d j = cOt a5 a6 re d (j + 1) := by show _ = (bif cW0 a5 a6 re d j then _ else _); rw [bi_0 u2]; rfl
        rw [e]
        exact rn_up (by omega) (ih (j + 1) (by omega))
      · refine r_il rfl rfl ?_
        refine r_ic rfl ?_
        refine r_il rfl rfl ?_
        refine r_shl rfl ?_
        refine r_or rfl ?_
        refine r_is (lv' := [(2, _), (3, _), (0, _), (1, _)]) rfl rfl rfl ?_
        refine r_inc (lv' := [(3, _), (2, _), (0, _), (1, _)]) rfl rfl rfl rfl ?_
        refine r_goto rfl rfl ?_
        have e : oOr (cOt a5 a6 re d j) (oShl 1 (j : Int)) = cOt a5 a6 re d (j + 1) := by show _ = (bif cW0 a5 a6 re d j then _ else _); rw [bi_1 u2]; rfl
        rw [e]
        exact rn_up (by omega) (ih (j + 1) (by omega))
theorem c_stWh0 (hn : 0 ≤ ma ∧ ma ≤ 16) (hd : -2147483648 ≤ d ∧ d ≤ 2147483647) : sX2_standingWhole [.ref 29, iv d] (cW ki ln bt rl cp cs ct cv 5 14 ja ea ma a1 a2 a3 a4 a5 a6 a7 a8 jb eb mb b1 b2 b3 b4 b5 b6 b7 b8 re fl g1 g2 g3 g4 g5 (dW rt la rs rg pd du ds me tt gr su gp mk rf m1 m2 m3 m4 m5 mr mf n1 n2 n3 n4 n5 nr nf E)) = some (some (iv (cOt a5 a6 re d ma.toNat)), (cW ki ln bt rl cp cs ct cv 5 14 ja ea ma a1 a2 a3 a4 a5 a6 a7 a8 jb eb mb b1 b2 b3 b4 b5 b6 b7 b8 re fl g1 g2 g3 g4 g5 (dW rt la rs rg pd du ds me tt gr su gp mk rf m1 m2 m3 m4 m5 mr mf n1 n2 n3 n4 n5 nr nf E))) := by
  obtain ⟨n, rfl⟩ := Int.eq_ofNat_of_zero_le hn.1
  have hn : n ≤ 16 := by omega
  have main : ∀ Q : mm_R → Prop, Q (some (iv (cOt a5 a6 re d n)), (cW ki ln bt rl cp cs ct cv 5 14 ja ea (n : Int) a1 a2 a3 a4 a5 a6 a7 a8 jb eb mb b1 b2 b3 b4 b5 b6 b7 b8 re fl g1 g2 g3 g4 g5 (dW rt la rs rg pd du ds me tt gr su gp mk rf m1 m2 m3 m4 m5 mr mf n1 n2 n3 n4 n5 nr nf E))) → rn_X2_standingWhole (20 + 60 * 16 + 60 + 20) (0, [(0, .ref 29), (1, iv (d))], [], (cW ki ln bt rl cp cs ct cv 5 14 ja ea (n : Int) a1 a2 a3 a4 a5 a6 a7 a8 jb eb mb b1 b2 b3 b4 b5 b6 b7 b8 re fl g1 g2 g3 g4 g5 (dW rt la rs rg pd du ds me tt gr su gp mk rf m1 m2 m3 m4 m5 mr mf n1 n2 n3 n4 n5 nr nf E))) Q := by
    intro Q hQ
    refine r_ic rfl ?_
    refine r_is (lv' := [(2, _), (0, _), (1, _)]) rfl rfl rfl ?_
    refine r_ic rfl ?_
    refine r_is (lv' := [(3, _), (2, _), (0, _), (1, _)]) rfl rfl rfl ?_
    refine rn_up (N := 20 + 60 * n + 60) (by omega) (stw_lp0 (N := 20) hn hd ?_ n 0 (by omega))
    refine r_il rfl rfl ?_
    exact r_ret rfl rfl hQ
  obtain ⟨r, h1, h2⟩ := rn_S (vs := [.ref 29, iv d]) (Q := fun r => r = (some (iv (cOt a5 a6 re d n)), (cW ki ln bt rl cp cs ct cv 5 14 ja ea (n : Int) a1 a2 a3 a4 a5 a6 a7 a8 jb eb mb b1 b2 b3 b4 b5 b6 b7 b8 re fl g1 g2 g3 g4 g5 (dW rt la rs rg pd du ds me tt gr su gp mk rf m1 m2 m3 m4 m5 mr mf n1 n2 n3 n4 n5 nr nf E)))) rfl (rn_up (N := 20 + 60 * 16 + 60 + 20) (M := mm_fuel) (by decide) (main (fun r => r = (some (iv (cOt a5 a6 re d n)), (cW ki ln bt rl cp cs ct cv 5 14 ja ea (n : Int) a1 a2 a3 a4 a5 a6 a7 a8 jb eb mb b1 b2 b3 b4 b5 b6 b7 b8 re fl g1 g2 g3 g4 g5 (dW rt la rs rg pd du ds me tt gr su gp mk rf m1 m2 m3 m4 m5 mr mf n1 n2 n3 n4 n5 nr nf E)))) rfl))
  have h1 : sX2_standingWhole [.ref 29, iv d] (cW ki ln bt rl cp cs ct cv 5 14 ja ea (n : Int) a1 a2 a3 a4 a5 a6 a7 a8 jb eb mb b1 b2 b3 b4 b5 b6 b7 b8 re fl g1 g2 g3 g4 g5 (dW rt la rs rg pd du ds me tt gr su gp mk rf m1 m2 m3 m4 m5 mr mf n1 n2 n3 n4 n5 nr nf E)) = some r := h1
  rw [h1, h2]
  rfl
abbrev rn_X2_letGo (N : Nat) (c : mm_C) (Q : mm_R → Prop) : Prop := rn (mm_gf gLX2) (mm_pf pLX2) (mm_mv vX2_letGo) (mm_mv zX2_letGo) (mm_kc kLX2) mm_gs0 mm_rf0 mm_ro (some .int) 8 (mm_ins iX2_letGo) N c Q
theorem c_letGo0_0 (hi : 0 ≤ i ∧ i ≤ 15) (hn : 0 ≤ ma ∧ ma ≤ 16) : sX2_letGo [.ref 29, iv (i), iv (0)] (cW ki ln bt rl cp cs ct cv 5 14 ja ea ma a1 a2 a3 a4 a5 a6 a7 a8 jb eb mb b1 b2 b3 b4 b5 b6 b7 b8 re fl g1 g2 g3 g4 g5 (dW rt la rs rg pd du ds me tt gr su gp mk rf m1 m2 m3 m4 m5 mr mf n1 n2 n3 n4 n5 nr nf E)) = some (some (iv 0), (cW ki ln bt rl cp cs ct cv 5 14 ja ea ma a1 a2 a3 a4 a5 a6 a7 a8 jb eb mb b1 b2 b3 b4 b5 b6 b7 b8 (oOr re (oShl 1 i)) fl g1 g2 g3 g4 g5 (dW rt la rs rg pd du ds me tt gr su gp mk rf m1 m2 m3 m4 m5 mr mf n1 n2 n3 n4 n5 nr nf E))) := by
  have main : ∀ Q : mm_R → Prop, Q (some (iv 0), (cW ki ln bt rl cp cs ct cv 5 14 ja ea ma a1 a2 a3 a4 a5 a6 a7 a8 jb eb mb b1 b2 b3 b4 b5 b6 b7 b8 (oOr re (oShl 1 i)) fl g1 g2 g3 g4 g5 (dW rt la rs rg pd du ds me tt gr su gp mk rf m1 m2 m3 m4 m5 mr mf n1 n2 n3 n4 n5 nr nf E))) → rn_X2_letGo (1000) (0, [(0, .ref 29), (1, iv (i)), (2, iv (0))], [], (cW ki ln bt rl cp cs ct cv 5 14 ja ea ma a1 a2 a3 a4 a5 a6 a7 a8 jb eb mb b1 b2 b3 b4 b5 b6 b7 b8 re fl g1 g2 g3 g4 g5 (dW rt la rs rg pd du ds me tt gr su gp mk rf m1 m2 m3 m4 m5 mr mf n1 n2 n3 n4 n5 nr nf E))) Q := by
    intro Q hQ
    refine r_al rfl rfl ?_
    refine r_gf rfl rfl xg_29 rfl ?_
    refine r_gf rfl rfl xg_4 rfl ?_
    refine r_as (lv' := [(3, _), (0, _), (1, _), (2, _)]) rfl rfl rfl ?_
    refine r_al rfl rfl ?_
    refine r_dup rfl rfl ?_
    refine r_gf rfl rfl xg_23 rfl ?_
    refine r_ic rfl ?_
    refine r_il rfl rfl ?_
    refine r_shl rfl ?_
    refine r_or rfl ?_
    refine r_pf rfl rfl xg_23 rfl xp_re ?_
    refine r_il rfl rfl ?_
    refine r_zne rfl rfl (by decide) (fun u1 => ?_) (fun u1 => ?_)
    · exact absurd rfl u1
    · refine r_ic rfl ?_
      exact r_ret rfl rfl hQ
  obtain ⟨r, h1, h2⟩ := rn_S (vs := [.ref 29, iv (i), iv (0)]) (Q := fun r => r = (some (iv 0), (cW ki ln bt rl cp cs ct cv 5 14 ja ea ma a1 a2 a3 a4 a5 a6 a7 a8 jb eb mb b1 b2 b3 b4 b5 b6 b7 b8 (oOr re (oShl 1 i)) fl g1 g2 g3 g4 g5 (dW rt la rs rg pd du ds me tt gr su gp mk rf m1 m2 m3 m4 m5 mr mf n1 n2 n3 n4 n5 nr nf E)))) rfl (rn_up (N := 1000) (M := mm_fuel) (by decide) (main (fun r => r = (some (iv 0), (cW ki ln bt rl cp cs ct cv 5 14 ja ea ma a1 a2 a3 a4 a5 a6 a7 a8 jb eb mb b1 b2 b3 b4 b5 b6 b7 b8 (oOr re (oShl 1 i)) fl g1 g2 g3 g4 g5 (dW rt la rs rg pd du ds me tt gr su gp mk rf m1 m2 m3 m4 m5 mr mf n1 n2 n3 n4 n5 nr nf E)))) rfl))
  have h1 : sX2_letGo [.ref 29, iv (i), iv (0)] (cW ki ln bt rl cp cs ct cv 5 14 ja ea ma a1 a2 a3 a4 a5 a6 a7 a8 jb eb mb b1 b2 b3 b4 b5 b6 b7 b8 re fl g1 g2 g3 g4 g5 (dW rt la rs rg pd du ds me tt gr su gp mk rf m1 m2 m3 m4 m5 mr mf n1 n2 n3 n4 n5 nr nf E)) = some r := h1
  rw [h1, h2]
theorem c_letGo0_2 (hi : 0 ≤ i ∧ i ≤ 15) (hn : 0 ≤ ma ∧ ma ≤ 16) : sX2_letGo [.ref 29, iv (i), iv (2)] (cW ki ln bt rl cp cs ct cv 5 14 ja ea ma a1 a2 a3 a4 a5 a6 a7 a8 jb eb mb b1 b2 b3 b4 b5 b6 b7 b8 re fl g1 g2 g3 g4 g5 (dW rt la rs rg pd du ds me tt gr su gp mk rf m1 m2 m3 m4 m5 mr mf n1 n2 n3 n4 n5 nr nf E)) = some (some (iv (bcF (cOt a5 a6 (oOr re (oShl 1 i)) (a5 (Int.toNat i)).toInt ma.toNat))), (cW ki ln bt rl cp cs ct cv 5 14 ja ea ma a1 a2 a3 a4 a5 a6 a7 a8 jb eb mb b1 b2 b3 b4 b5 b6 b7 b8 (oOr (oOr re (oShl 1 i)) (cOt a5 a6 (oOr re (oShl 1 i)) (a5 (Int.toNat i)).toInt ma.toNat)) fl g1 g2 g3 g4 g5 (dW rt la rs rg pd du ds me tt gr su gp mk rf m1 m2 m3 m4 m5 mr mf n1 n2 n3 n4 n5 nr nf E))) := by
  have main : ∀ Q : mm_R → Prop, Q (some (iv (bcF (cOt a5 a6 (oOr re (oShl 1 i)) (a5 (Int.toNat i)).toInt ma.toNat))), (cW ki ln bt rl cp cs ct cv 5 14 ja ea ma a1 a2 a3 a4 a5 a6 a7 a8 jb eb mb b1 b2 b3 b4 b5 b6 b7 b8 (oOr (oOr re (oShl 1 i)) (cOt a5 a6 (oOr re (oShl 1 i)) (a5 (Int.toNat i)).toInt ma.toNat)) fl g1 g2 g3 g4 g5 (dW rt la rs rg pd du ds me tt gr su gp mk rf m1 m2 m3 m4 m5 mr mf n1 n2 n3 n4 n5 nr nf E))) → rn_X2_letGo (1000) (0, [(0, .ref 29), (1, iv (i)), (2, iv (2))], [], (cW ki ln bt rl cp cs ct cv 5 14 ja ea ma a1 a2 a3 a4 a5 a6 a7 a8 jb eb mb b1 b2 b3 b4 b5 b6 b7 b8 re fl g1 g2 g3 g4 g5 (dW rt la rs rg pd du ds me tt gr su gp mk rf m1 m2 m3 m4 m5 mr mf n1 n2 n3 n4 n5 nr nf E))) Q := by
    intro Q hQ
    refine r_al rfl rfl ?_
    refine r_gf rfl rfl xg_29 rfl ?_
    refine r_gf rfl rfl xg_4 rfl ?_
    refine r_as (lv' := [(3, _), (0, _), (1, _), (2, _)]) rfl rfl rfl ?_
    refine r_al rfl rfl ?_
    refine r_dup rfl rfl ?_
    refine r_gf rfl rfl xg_23 rfl ?_
    refine r_ic rfl ?_
    refine r_il rfl rfl ?_
    refine r_shl rfl ?_
    refine r_or rfl ?_
    refine r_pf rfl rfl xg_23 rfl xp_re ?_
    refine r_il rfl rfl ?_
    refine r_zne rfl rfl (by decide) (fun u1 => ?_) (fun u1 => ?_)
    · refine r_al rfl rfl ?_
      refine r_al rfl rfl ?_
      refine r_gf rfl rfl xg_29 rfl ?_
      refine r_gf rfl rfl xg_4 rfl ?_
      refine r_gf rfl rfl xg_5 rfl ?_
      refine r_il rfl rfl ?_
      refine r_ia rfl xg_10 (by omega) (by omega) (by decide) ?_
      refine r_v2s rfl rfl xg_29 rfl (c_stWh0 hn (as_r _)) ?_
      refine r_isw (lv' := [(4, _), (3, _), (0, _), (1, _), (2, _)]) rfl rfl rfl ?_
      refine r_ilw rfl rfl ?_
      refine r_s1s rfl rfl rfl c_bitCount ?_
      refine r_isw (lv' := [(5, _), (4, _), (3, _), (0, _), (1, _), (2, _)]) rfl rfl rfl ?_
      refine r_il rfl rfl ?_
      refine r_ic rfl ?_
      refine r_cne rfl rfl (by decide) (by decide) (fun u2 => ?_) (fun u2 => ?_)
      · exact absurd rfl u2
      · refine r_al rfl rfl ?_
        refine r_dup rfl rfl ?_
        refine r_gf rfl rfl xg_23 rfl ?_
        refine r_ilw rfl rfl ?_
        refine r_or rfl ?_
        refine r_pf rfl rfl xg_23 rfl xp_re ?_
        refine r_ilw rfl rfl ?_
        exact r_ret rfl rfl hQ
    · exact absurd u1 (by decide)
  obtain ⟨r, h1, h2⟩ := rn_S (vs := [.ref 29, iv (i), iv (2)]) (Q := fun r => r = (some (iv (bcF (cOt a5 a6 (oOr re (oShl 1 i)) (a5 (Int.toNat i)).toInt ma.toNat))), (cW ki ln bt rl cp cs ct cv 5 14 ja ea ma a1 a2 a3 a4 a5 a6 a7 a8 jb eb mb b1 b2 b3 b4 b5 b6 b7 b8 (oOr (oOr re (oShl 1 i)) (cOt a5 a6 (oOr re (oShl 1 i)) (a5 (Int.toNat i)).toInt ma.toNat)) fl g1 g2 g3 g4 g5 (dW rt la rs rg pd du ds me tt gr su gp mk rf m1 m2 m3 m4 m5 mr mf n1 n2 n3 n4 n5 nr nf E)))) rfl (rn_up (N := 1000) (M := mm_fuel) (by decide) (main (fun r => r = (some (iv (bcF (cOt a5 a6 (oOr re (oShl 1 i)) (a5 (Int.toNat i)).toInt ma.toNat))), (cW ki ln bt rl cp cs ct cv 5 14 ja ea ma a1 a2 a3 a4 a5 a6 a7 a8 jb eb mb b1 b2 b3 b4 b5 b6 b7 b8 (oOr (oOr re (oShl 1 i)) (cOt a5 a6 (oOr re (oShl 1 i)) (a5 (Int.toNat i)).toInt ma.toNat)) fl g1 g2 g3 g4 g5 (dW rt la rs rg pd du ds me tt gr su gp mk rf m1 m2 m3 m4 m5 mr mf n1 n2 n3 n4 n5 nr nf E)))) rfl))
  have h1 : sX2_letGo [.ref 29, iv (i), iv (2)] (cW ki ln bt rl cp cs ct cv 5 14 ja ea ma a1 a2 a3 a4 a5 a6 a7 a8 jb eb mb b1 b2 b3 b4 b5 b6 b7 b8 re fl g1 g2 g3 g4 g5 (dW rt la rs rg pd du ds me tt gr su gp mk rf m1 m2 m3 m4 m5 mr mf n1 n2 n3 n4 n5 nr nf E)) = some r := h1
  rw [h1, h2]
theorem letGo_lp0  (k : rn_X2_letGo N (130, [(7, iv (((16 : Nat) : Int))), (4, iv (ot)), (5, iv (mn)), (6, iv (less)), (3, .ref 23), (0, .ref 29), (1, iv (i)), (2, iv (1))], [], (cW ki ln bt rl cp cs ct cv 5 14 ja ea ma a1 a2 a3 a4 a5 a6 a7 a8 jb eb mb b1 b2 b3 b4 b5 b6 b7 b8 re fl g1 g2 (cLO ot less g3 16) g4 g5 (dW rt la rs rg pd du ds me tt gr su gp mk rf m1 m2 m3 m4 m5 mr mf n1 n2 n3 n4 n5 nr nf E))) Q) : ∀ (m j : Nat), j + m = 16 → rn_X2_letGo (N + 60 * m + 60) (86, [(7, iv ((j : Int))), (4, iv (ot)), (5, iv (mn)), (6, iv (less)), (3, .ref 23), (0, .ref 29), (1, iv (i)), (2, iv (1))], [], (cW ki ln bt rl cp cs ct cv 5 14 ja ea ma a1 a2 a3 a4 a5 a6 a7 a8 jb eb mb b1 b2 b3 b4 b5 b6 b7 b8 re fl g1 g2 (cLO ot less g3 j) g4 g5 (dW rt la rs rg pd du ds me tt gr su gp mk rf m1 m2 m3 m4 m5 mr mf n1 n2 n3 n4 n5 nr nf E))) Q := by
  intro m
  induction m with
  | zero =>
    intro j hj
    have hj : j = 16 := by omega
    subst hj
    refine rn_up (N := N + 60) (by omega) ?_
    refine r_ilw rfl rfl ?_
    refine r_bi rfl (by decide) ?_
    refine r_cge rfl rfl (by omega) (by omega) (fun u1 => ?_) (fun u1 => ?_)
    · exact rn_up (by omega) k
    · omega
  | succ m ih =>
    intro j hj
    obtain ⟨M, hM⟩ : ∃ M, M = N + 60 * m + 60 := ⟨_, rfl⟩
    rw [← hM] at ih
    refine rn_up (N := M + 60) (by omega) ?_
    refine r_ilw rfl rfl ?_
    refine r_bi rfl (by decide) ?_
    refine r_cge rfl rfl (by omega) (by omega) (fun u1 => ?_) (fun u1 => ?_)
    · omega
    · refine r_ilw rfl rfl ?_
      refine r_ilw rfl rfl ?_
      refine r_s2s rfl rfl rfl (c_isIn (by omega)) ?_
      refine r_zeq rfl rfl (bi_r _) (fun u2 => ?_) (fun u2 => ?_)
      · have u2 : zb (Int32.ofInt ot) j = false := bi_0 u2
        refine r_inc (lv' := [(7, _), (4, _), (5, _), (6, _), (3, _), (0, _), (1, _), (2, _)]) rfl rfl rfl rfl ?_
        refine r_goto rfl rfl ?_
        have e : cLO ot less g3 j = cLO ot less g3 (j + 1) := by show _ = (bif zb (Int32.ofInt ot) j then _ else _); rw [u2]; rfl
        rw [e]
        exact rn_up (by omega) (ih (j + 1) (by omega))
      · have u2 : zb (Int32.ofInt ot) j = true := bi_1 u2
        refine r_al rfl rfl ?_
        refine r_gf rfl rfl xg_23 rfl ?_
        refine r_ilw rfl rfl ?_
        refine r_ic rfl ?_
        refine r_al rfl rfl ?_
        refine r_gf rfl rfl xg_23 rfl ?_
        refine r_ilw rfl rfl ?_
        refine r_ia rfl xg_26 (by omega) (by omega) (by decide) ?_
        refine r_ilw rfl rfl ?_
        refine r_sub rfl ?_
        refine r_nrm ?_
        refine r_s2s rfl rfl rfl (c_maxC (by decide) (nrm_r _)) ?_
        refine r_ias rfl xg_26 (by omega) (by omega) (by decide) xs_26 ?_
        refine r_inc (lv' := [(7, _), (4, _), (5, _), (6, _), (3, _), (0, _), (1, _), (2, _)]) rfl rfl rfl rfl ?_
        refine r_goto rfl rfl ?_
        have e : upd (cLO ot less g3 j) (Int.toNat (j : Int)) (Int32.ofInt (mxI 0 (nrm ((cLO ot less g3 j (Int.toNat (j : Int))).toInt - less)))) = cLO ot less g3 (j + 1) := by show _ = (bif zb (Int32.ofInt ot) j then _ else _); rw [u2]; rfl
        rw [e]
        exact rn_up (by omega) (ih (j + 1) (by omega))
theorem c_letGo0_1 (hi : 0 ≤ i ∧ i ≤ 15) (hn : 0 ≤ ma ∧ ma ≤ 16) (hL : 0 ≤ (g3 (Int.toNat i)).toInt ∧ (g3 (Int.toNat i)).toInt ≤ 999) (hB : 0 ≤ bcF (cOt a5 a6 (oOr re (oShl 1 i)) (a5 (Int.toNat i)).toInt ma.toNat) ∧ bcF (cOt a5 a6 (oOr re (oShl 1 i)) (a5 (Int.toNat i)).toInt ma.toNat) ≤ 16) : sX2_letGo [.ref 29, iv (i), iv (1)] (cW ki ln bt rl cp cs ct cv 5 14 ja ea ma a1 a2 a3 a4 a5 a6 a7 a8 jb eb mb b1 b2 b3 b4 b5 b6 b7 b8 re fl g1 g2 g3 g4 g5 (dW rt la rs rg pd du ds me tt gr su gp mk rf m1 m2 m3 m4 m5 mr mf n1 n2 n3 n4 n5 nr nf E)) = some (some (iv (bcF (cOt a5 a6 (oOr re (oShl 1 i)) (a5 (Int.toNat i)).toInt ma.toNat))), (cW ki ln bt rl cp cs ct cv 5 14 ja ea ma a1 a2 a3 a4 a5 a6 a7 a8 jb eb mb b1 b2 b3 b4 b5 b6 b7 b8 (oOr re (oShl 1 i)) fl g1 g2 (cLO (cOt a5 a6 (oOr re (oShl 1 i)) (a5 (Int.toNat i)).toInt ma.toNat) ((g3 (Int.toNat i)).toInt / (bcF (cOt a5 a6 (oOr re (oShl 1 i)) (a5 (Int.toNat i)).toInt ma.toNat) + 1)) g3 16) g4 g5 (dW rt la rs rg pd du ds me tt gr su gp mk rf m1 m2 m3 m4 m5 mr mf n1 n2 n3 n4 n5 nr nf E))) := by
  have main : ∀ Q : mm_R → Prop, Q (some (iv (bcF (cOt a5 a6 (oOr re (oShl 1 i)) (a5 (Int.toNat i)).toInt ma.toNat))), (cW ki ln bt rl cp cs ct cv 5 14 ja ea ma a1 a2 a3 a4 a5 a6 a7 a8 jb eb mb b1 b2 b3 b4 b5 b6 b7 b8 (oOr re (oShl 1 i)) fl g1 g2 (cLO (cOt a5 a6 (oOr re (oShl 1 i)) (a5 (Int.toNat i)).toInt ma.toNat) ((g3 (Int.toNat i)).toInt / (bcF (cOt a5 a6 (oOr re (oShl 1 i)) (a5 (Int.toNat i)).toInt ma.toNat) + 1)) g3 16) g4 g5 (dW rt la rs rg pd du ds me tt gr su gp mk rf m1 m2 m3 m4 m5 mr mf n1 n2 n3 n4 n5 nr nf E))) → rn_X2_letGo (50 + 60 * 16 + 60 + 100) (0, [(0, .ref 29), (1, iv (i)), (2, iv (1))], [], (cW ki ln bt rl cp cs ct cv 5 14 ja ea ma a1 a2 a3 a4 a5 a6 a7 a8 jb eb mb b1 b2 b3 b4 b5 b6 b7 b8 re fl g1 g2 g3 g4 g5 (dW rt la rs rg pd du ds me tt gr su gp mk rf m1 m2 m3 m4 m5 mr mf n1 n2 n3 n4 n5 nr nf E))) Q := by
    intro Q hQ
    refine r_al rfl rfl ?_
    refine r_gf rfl rfl xg_29 rfl ?_
    refine r_gf rfl rfl xg_4 rfl ?_
    refine r_as (lv' := [(3, _), (0, _), (1, _), (2, _)]) rfl rfl rfl ?_
    refine r_al rfl rfl ?_
    refine r_dup rfl rfl ?_
    refine r_gf rfl rfl xg_23 rfl ?_
    refine r_ic rfl ?_
    refine r_il rfl rfl ?_
    refine r_shl rfl ?_
    refine r_or rfl ?_
    refine r_pf rfl rfl xg_23 rfl xp_re ?_
    refine r_il rfl rfl ?_
    refine r_zne rfl rfl (by decide) (fun u1 => ?_) (fun u1 => ?_)
    · refine r_al rfl rfl ?_
      refine r_al rfl rfl ?_
      refine r_gf rfl rfl xg_29 rfl ?_
      refine r_gf rfl rfl xg_4 rfl ?_
      refine r_gf rfl rfl xg_5 rfl ?_
      refine r_il rfl rfl ?_
      refine r_ia rfl xg_10 (by omega) (by omega) (by decide) ?_
      refine r_v2s rfl rfl xg_29 rfl (c_stWh0 hn (as_r _)) ?_
      refine r_isw (lv' := [(4, _), (3, _), (0, _), (1, _), (2, _)]) rfl rfl rfl ?_
      refine r_ilw rfl rfl ?_
      refine r_s1s rfl rfl rfl c_bitCount ?_
      refine r_isw (lv' := [(5, _), (4, _), (3, _), (0, _), (1, _), (2, _)]) rfl rfl rfl ?_
      refine r_il rfl rfl ?_
      refine r_ic rfl ?_
      refine r_cne rfl rfl (by decide) (by decide) (fun u2 => ?_) (fun u2 => ?_)
      · refine r_al rfl rfl ?_
        refine r_gf rfl rfl xg_23 rfl ?_
        refine r_il rfl rfl ?_
        refine r_ia rfl xg_26 (by omega) (by omega) (by decide) ?_
        refine r_ilw rfl rfl ?_
        refine r_ic rfl ?_
        refine r_add rfl ?_
        refine r_div rfl (by omega) (by omega) ?_
        refine r_isw (lv' := [(6, _), (5, _), (4, _), (3, _), (0, _), (1, _), (2, _)]) rfl rfl rfl ?_
        refine r_ic rfl ?_
        refine r_isw (lv' := [(7, _), (6, _), (5, _), (4, _), (3, _), (0, _), (1, _), (2, _)]) rfl rfl rfl ?_
        refine rn_LE (a := [(7, iv (0)), (4, iv (cOt a5 a6 (oOr re (oShl 1 i)) (a5 (Int.toNat i)).toInt ma.toNat)), (5, iv (bcF (cOt a5 a6 (oOr re (oShl 1 i)) (a5 (Int.toNat i)).toInt ma.toNat))), (6, iv (((g3 (Int.toNat (i))).toInt) / ((bcF (cOt a5 a6 (oOr re (oShl 1 i)) (a5 (Int.toNat i)).toInt ma.toNat)) + (1)))), (3, .ref 23), (0, .ref 29), (1, iv (i)), (2, iv (1))]) ⟨(List.forall_mem_cons.mpr ⟨List.mem_cons_self, (List.forall_mem_cons.mpr ⟨(List.mem_cons_of_mem _ (List.mem_cons_of_mem _ (List.mem_cons_of_mem _ List.mem_cons_self))), (List.forall_mem_cons.mpr ⟨(List.mem_cons_of_mem _ (List.mem_cons_of_mem _ List.mem_cons_self)), (List.forall_mem_cons.mpr ⟨(List.mem_cons_of_mem _ List.mem_cons_self), (List.forall_mem_cons.mpr ⟨(List.mem_cons_of_mem _ (List.mem_cons_of_mem _ (List.mem_cons_of_mem _ (List.mem_cons_of_mem _ List.mem_cons_self)))), (List.forall_mem_cons.mpr ⟨(List.mem_cons_of_mem _ (List.mem_cons_of_mem _ (List.mem_cons_of_mem _ (List.mem_cons_of_mem _ (List.mem_cons_of_mem _ List.mem_cons_self))))), (List.forall_mem_cons.mpr ⟨(List.mem_cons_of_mem _ (List.mem_cons_of_mem _ (List.mem_cons_of_mem _ (List.mem_cons_of_mem _ (List.mem_cons_of_mem _ (List.mem_cons_of_mem _ List.mem_cons_self)))))), (List.forall_mem_cons.mpr ⟨(List.mem_cons_of_mem _ (List.mem_cons_of_mem _ (List.mem_cons_of_mem _ (List.mem_cons_of_mem _ (List.mem_cons_of_mem _ (List.mem_cons_of_mem _ (List.mem_cons_of_mem _ List.mem_cons_self))))))), (fun _ h => absurd h List.not_mem_nil)⟩)⟩)⟩)⟩)⟩)⟩)⟩)⟩), (by show List.Nodup [7, 4, 5, 6, 3, 0, 1, 2]; decide), (by show List.Nodup [7, 6, 5, 4, 3, 0, 1, 2]; decide)⟩ ?_
        refine rn_up (N := 50 + 60 * 16 + 60) (by decide) (letGo_lp0 (N := 50) (re := (oOr re (oShl 1 i))) ?_ 16 0 rfl)
        refine r_ilw rfl rfl ?_
        exact r_ret rfl rfl hQ
      · exact absurd u2 (by decide)
    · exact absurd u1 (by decide)
  obtain ⟨r, h1, h2⟩ := rn_S (vs := [.ref 29, iv (i), iv (1)]) (Q := fun r => r = (some (iv (bcF (cOt a5 a6 (oOr re (oShl 1 i)) (a5 (Int.toNat i)).toInt ma.toNat))), (cW ki ln bt rl cp cs ct cv 5 14 ja ea ma a1 a2 a3 a4 a5 a6 a7 a8 jb eb mb b1 b2 b3 b4 b5 b6 b7 b8 (oOr re (oShl 1 i)) fl g1 g2 (cLO (cOt a5 a6 (oOr re (oShl 1 i)) (a5 (Int.toNat i)).toInt ma.toNat) ((g3 (Int.toNat i)).toInt / (bcF (cOt a5 a6 (oOr re (oShl 1 i)) (a5 (Int.toNat i)).toInt ma.toNat) + 1)) g3 16) g4 g5 (dW rt la rs rg pd du ds me tt gr su gp mk rf m1 m2 m3 m4 m5 mr mf n1 n2 n3 n4 n5 nr nf E)))) rfl (rn_up (N := 50 + 60 * 16 + 60 + 100) (M := mm_fuel) (by decide) (main (fun r => r = (some (iv (bcF (cOt a5 a6 (oOr re (oShl 1 i)) (a5 (Int.toNat i)).toInt ma.toNat))), (cW ki ln bt rl cp cs ct cv 5 14 ja ea ma a1 a2 a3 a4 a5 a6 a7 a8 jb eb mb b1 b2 b3 b4 b5 b6 b7 b8 (oOr re (oShl 1 i)) fl g1 g2 (cLO (cOt a5 a6 (oOr re (oShl 1 i)) (a5 (Int.toNat i)).toInt ma.toNat) ((g3 (Int.toNat i)).toInt / (bcF (cOt a5 a6 (oOr re (oShl 1 i)) (a5 (Int.toNat i)).toInt ma.toNat) + 1)) g3 16) g4 g5 (dW rt la rs rg pd du ds me tt gr su gp mk rf m1 m2 m3 m4 m5 mr mf n1 n2 n3 n4 n5 nr nf E)))) rfl))
  have h1 : sX2_letGo [.ref 29, iv (i), iv (1)] (cW ki ln bt rl cp cs ct cv 5 14 ja ea ma a1 a2 a3 a4 a5 a6 a7 a8 jb eb mb b1 b2 b3 b4 b5 b6 b7 b8 re fl g1 g2 g3 g4 g5 (dW rt la rs rg pd du ds me tt gr su gp mk rf m1 m2 m3 m4 m5 mr mf n1 n2 n3 n4 n5 nr nf E)) = some r := h1
  rw [h1, h2]
abbrev rn_X11_release (N : Nat) (c : mm_C) (Q : mm_R → Prop) : Prop := rn (mm_gf gLX11) (mm_pf pLX11) (mm_mv vX11_release) (mm_mv zX11_release) (mm_kc kLX11) mm_gs0 mm_rf0 mm_ro (some .int) 3 (mm_ins iX11_release) N c Q
theorem c_relCB0 (hi : -2147483648 ≤ i ∧ i ≤ 2147483647) (hl : -2147483648 ≤ law ∧ law ≤ 2147483647) (hn : 0 ≤ ma ∧ ma ≤ 16) (hb : (i3 i 0 (ma - 1) && i3 law 0 2) = false) : sX11_release [.ref 0, iv (i), iv (law)] (cW ki ln bt rl cp cs ct cv 5 14 ja ea ma a1 a2 a3 a4 a5 a6 a7 a8 jb eb mb b1 b2 b3 b4 b5 b6 b7 b8 re fl g1 g2 g3 g4 g5 (dW rt la rs rg pd du ds me tt gr su gp mk rf m1 m2 m3 m4 m5 mr mf n1 n2 n3 n4 n5 nr nf E)) = some (some (iv (-1)), (cW ki ln bt rl cp cs ct cv 5 14 ja ea ma a1 a2 a3 a4 a5 a6 a7 a8 jb eb mb b1 b2 b3 b4 b5 b6 b7 b8 re fl g1 g2 g3 g4 g5 (dW rt la rs rg pd du ds me tt gr su gp mk rf m1 m2 m3 m4 m5 mr mf n1 n2 n3 n4 n5 nr nf E))) := by
  have main : ∀ Q : mm_R → Prop, Q (some (iv (-1)), (cW ki ln bt rl cp cs ct cv 5 14 ja ea ma a1 a2 a3 a4 a5 a6 a7 a8 jb eb mb b1 b2 b3 b4 b5 b6 b7 b8 re fl g1 g2 g3 g4 g5 (dW rt la rs rg pd du ds me tt gr su gp mk rf m1 m2 m3 m4 m5 mr mf n1 n2 n3 n4 n5 nr nf E))) → rn_X11_release (1000) (0, [(0, .ref 0), (1, iv (i)), (2, iv (law))], [], (cW ki ln bt rl cp cs ct cv 5 14 ja ea ma a1 a2 a3 a4 a5 a6 a7 a8 jb eb mb b1 b2 b3 b4 b5 b6 b7 b8 re fl g1 g2 g3 g4 g5 (dW rt la rs rg pd du ds me tt gr su gp mk rf m1 m2 m3 m4 m5 mr mf n1 n2 n3 n4 n5 nr nf E))) Q := by
    intro Q hQ
    refine r_al rfl rfl ?_
    refine r_gf rfl rfl xg_0 rfl ?_
    refine r_il rfl rfl ?_
    refine r_v2s rfl rfl xg_4 rfl (c_isStandC0 hi hn) ?_
    refine r_zeq rfl rfl (bi_r _) (fun u1 => ?_) (fun u1 => ?_)
    · refine r_ic rfl ?_
      exact r_ret rfl rfl hQ
    · refine r_il rfl rfl ?_
      refine r_zlt rfl rfl (by omega) (fun u2 => ?_) (fun u2 => ?_)
      · refine r_ic rfl ?_
        exact r_ret rfl rfl hQ
      · refine r_il rfl rfl ?_
        refine r_ic rfl ?_
        refine r_cle rfl rfl (by omega) (by omega) (fun u3 => ?_) (fun u3 => ?_)
        · have e : i3 law 0 2 = true := by simp [i3]; omega
          rw [bi_1 u1, e] at hb
          cases hb
        · refine r_ic rfl ?_
          exact r_ret rfl rfl hQ
  obtain ⟨r, h1, h2⟩ := rn_S (vs := [.ref 0, iv (i), iv (law)]) (Q := fun r => r = (some (iv (-1)), (cW ki ln bt rl cp cs ct cv 5 14 ja ea ma a1 a2 a3 a4 a5 a6 a7 a8 jb eb mb b1 b2 b3 b4 b5 b6 b7 b8 re fl g1 g2 g3 g4 g5 (dW rt la rs rg pd du ds me tt gr su gp mk rf m1 m2 m3 m4 m5 mr mf n1 n2 n3 n4 n5 nr nf E)))) rfl (rn_up (N := 1000) (M := mm_fuel) (by decide) (main (fun r => r = (some (iv (-1)), (cW ki ln bt rl cp cs ct cv 5 14 ja ea ma a1 a2 a3 a4 a5 a6 a7 a8 jb eb mb b1 b2 b3 b4 b5 b6 b7 b8 re fl g1 g2 g3 g4 g5 (dW rt la rs rg pd du ds me tt gr su gp mk rf m1 m2 m3 m4 m5 mr mf n1 n2 n3 n4 n5 nr nf E)))) rfl))
  have h1 : sX11_release [.ref 0, iv (i), iv (law)] (cW ki ln bt rl cp cs ct cv 5 14 ja ea ma a1 a2 a3 a4 a5 a6 a7 a8 jb eb mb b1 b2 b3 b4 b5 b6 b7 b8 re fl g1 g2 g3 g4 g5 (dW rt la rs rg pd du ds me tt gr su gp mk rf m1 m2 m3 m4 m5 mr mf n1 n2 n3 n4 n5 nr nf E)) = some r := h1
  rw [h1, h2]
theorem c_relCS0 (hi : -2147483648 ≤ i ∧ i ≤ 2147483647) (hn : 0 ≤ ma ∧ ma ≤ 16) (h1 : i3 i 0 (ma - 1) = true) (hr : zb (Int32.ofInt re) i.toNat = true) (h2 : 0 ≤ law ∧ law ≤ 2) : sX11_release [.ref 0, iv (i), iv (law)] (cW ki ln bt rl cp cs ct cv 5 14 ja ea ma a1 a2 a3 a4 a5 a6 a7 a8 jb eb mb b1 b2 b3 b4 b5 b6 b7 b8 re fl g1 g2 g3 g4 g5 (dW rt la rs rg pd du ds me tt gr su gp mk rf m1 m2 m3 m4 m5 mr mf n1 n2 n3 n4 n5 nr nf E)) = some (some (iv (-2)), (cW ki ln bt rl cp cs ct cv 5 14 ja ea ma a1 a2 a3 a4 a5 a6 a7 a8 jb eb mb b1 b2 b3 b4 b5 b6 b7 b8 re fl g1 g2 g3 g4 g5 (dW rt la rs rg pd du ds me tt gr su gp mk rf m1 m2 m3 m4 m5 mr mf n1 n2 n3 n4 n5 nr nf E))) := by
  have main : ∀ Q : mm_R → Prop, Q (some (iv (-2)), (cW ki ln bt rl cp cs ct cv 5 14 ja ea ma a1 a2 a3 a4 a5 a6 a7 a8 jb eb mb b1 b2 b3 b4 b5 b6 b7 b8 re fl g1 g2 g3 g4 g5 (dW rt la rs rg pd du ds me tt gr su gp mk rf m1 m2 m3 m4 m5 mr mf n1 n2 n3 n4 n5 nr nf E))) → rn_X11_release (1500) (0, [(0, .ref 0), (1, iv (i)), (2, iv (law))], [], (cW ki ln bt rl cp cs ct cv 5 14 ja ea ma a1 a2 a3 a4 a5 a6 a7 a8 jb eb mb b1 b2 b3 b4 b5 b6 b7 b8 re fl g1 g2 g3 g4 g5 (dW rt la rs rg pd du ds me tt gr su gp mk rf m1 m2 m3 m4 m5 mr mf n1 n2 n3 n4 n5 nr nf E))) Q := by
    intro Q hQ
    have ri := i3_t h1
    refine r_al rfl rfl ?_
    refine r_gf rfl rfl xg_0 rfl ?_
    refine r_il rfl rfl ?_
    refine r_v2s rfl rfl xg_4 rfl (c_isStandC0 hi hn) ?_
    rw [h1]
    refine r_zeq rfl rfl (bi_r _) (fun u1 => ?_) (fun u1 => ?_)
    · exact absurd u1 (by decide)
    · refine r_il rfl rfl ?_
      refine r_zlt rfl rfl (by omega) (fun u2 => ?_) (fun u2 => ?_)
      · omega
      · refine r_il rfl rfl ?_
        refine r_ic rfl ?_
        refine r_cle rfl rfl (by omega) (by decide) (fun u3 => ?_) (fun u3 => ?_)
        · refine r_al rfl rfl ?_
          refine r_gf rfl rfl xg_0 rfl ?_
          refine r_il rfl rfl ?_
          refine r_v2s rfl rfl xg_4 rfl (c_isRelC0 (by omega)) ?_
          rw [hr]
          refine r_zeq rfl rfl (bi_r _) (fun u4 => ?_) (fun u4 => ?_)
          · exact absurd u4 (by decide)
          · refine r_bi rfl (by decide) ?_
            exact r_ret rfl rfl hQ
        · omega
  obtain ⟨r, h1, h2⟩ := rn_S (vs := [.ref 0, iv (i), iv (law)]) (Q := fun r => r = (some (iv (-2)), (cW ki ln bt rl cp cs ct cv 5 14 ja ea ma a1 a2 a3 a4 a5 a6 a7 a8 jb eb mb b1 b2 b3 b4 b5 b6 b7 b8 re fl g1 g2 g3 g4 g5 (dW rt la rs rg pd du ds me tt gr su gp mk rf m1 m2 m3 m4 m5 mr mf n1 n2 n3 n4 n5 nr nf E)))) rfl (rn_up (N := 1500) (M := mm_fuel) (by decide) (main (fun r => r = (some (iv (-2)), (cW ki ln bt rl cp cs ct cv 5 14 ja ea ma a1 a2 a3 a4 a5 a6 a7 a8 jb eb mb b1 b2 b3 b4 b5 b6 b7 b8 re fl g1 g2 g3 g4 g5 (dW rt la rs rg pd du ds me tt gr su gp mk rf m1 m2 m3 m4 m5 mr mf n1 n2 n3 n4 n5 nr nf E)))) rfl))
  have h1 : sX11_release [.ref 0, iv (i), iv (law)] (cW ki ln bt rl cp cs ct cv 5 14 ja ea ma a1 a2 a3 a4 a5 a6 a7 a8 jb eb mb b1 b2 b3 b4 b5 b6 b7 b8 re fl g1 g2 g3 g4 g5 (dW rt la rs rg pd du ds me tt gr su gp mk rf m1 m2 m3 m4 m5 mr mf n1 n2 n3 n4 n5 nr nf E)) = some r := h1
  rw [h1, h2]
theorem c_relCG0_0 (hi : -2147483648 ≤ i ∧ i ≤ 2147483647) (hn : 0 ≤ ma ∧ ma ≤ 16) (h1 : i3 i 0 (ma - 1) = true) (hr : zb (Int32.ofInt re) i.toNat = false)  : sX11_release [.ref 0, iv (i), iv (0)] (cW ki ln bt rl cp cs ct cv 5 14 ja ea ma a1 a2 a3 a4 a5 a6 a7 a8 jb eb mb b1 b2 b3 b4 b5 b6 b7 b8 re fl g1 g2 g3 g4 g5 (dW rt la rs rg pd du ds me tt gr su gp mk rf m1 m2 m3 m4 m5 mr mf n1 n2 n3 n4 n5 nr nf E)) = some (some (iv (0)), (cW ki ln bt rl cp cs ct cv 5 14 ja ea ma a1 a2 a3 a4 a5 a6 a7 a8 jb eb mb b1 b2 b3 b4 b5 b6 b7 b8 (oOr re (oShl 1 i)) fl g1 g2 g3 g4 g5 (dW rt la rs rg pd du ds me tt gr su gp mk rf m1 m2 m3 m4 m5 mr mf n1 n2 n3 n4 n5 nr nf E))) := by
  have main : ∀ Q : mm_R → Prop, Q (some (iv (0)), (cW ki ln bt rl cp cs ct cv 5 14 ja ea ma a1 a2 a3 a4 a5 a6 a7 a8 jb eb mb b1 b2 b3 b4 b5 b6 b7 b8 (oOr re (oShl 1 i)) fl g1 g2 g3 g4 g5 (dW rt la rs rg pd du ds me tt gr su gp mk rf m1 m2 m3 m4 m5 mr mf n1 n2 n3 n4 n5 nr nf E))) → rn_X11_release (1500) (0, [(0, .ref 0), (1, iv (i)), (2, iv (0))], [], (cW ki ln bt rl cp cs ct cv 5 14 ja ea ma a1 a2 a3 a4 a5 a6 a7 a8 jb eb mb b1 b2 b3 b4 b5 b6 b7 b8 re fl g1 g2 g3 g4 g5 (dW rt la rs rg pd du ds me tt gr su gp mk rf m1 m2 m3 m4 m5 mr mf n1 n2 n3 n4 n5 nr nf E))) Q := by
    intro Q hQ
    have ri := i3_t h1
    refine r_al rfl rfl ?_
    refine r_gf rfl rfl xg_0 rfl ?_
    refine r_il rfl rfl ?_
    refine r_v2s rfl rfl xg_4 rfl (c_isStandC0 hi hn) ?_
    rw [h1]
    refine r_zeq rfl rfl (bi_r _) (fun u1 => ?_) (fun u1 => ?_)
    · exact absurd u1 (by decide)
    · refine r_il rfl rfl ?_
      refine r_zlt rfl rfl (by decide) (fun u2 => ?_) (fun u2 => ?_)
      · exact absurd u2 (by decide)
      · refine r_il rfl rfl ?_
        refine r_ic rfl ?_
        refine r_cle rfl rfl (by decide) (by decide) (fun u3 => ?_) (fun u3 => ?_)
        · refine r_al rfl rfl ?_
          refine r_gf rfl rfl xg_0 rfl ?_
          refine r_il rfl rfl ?_
          refine r_v2s rfl rfl xg_4 rfl (c_isRelC0 (by omega)) ?_
          rw [hr]
          refine r_zeq rfl rfl (bi_r _) (fun u4 => ?_) (fun u4 => ?_)
          · refine r_al rfl rfl ?_
            refine r_gf rfl rfl xg_0 rfl ?_
            refine r_il rfl rfl ?_
            refine r_il rfl rfl ?_
            refine r_v3s rfl rfl xg_29 rfl (c_letGo0_0 (by omega) hn) ?_
            exact r_ret rfl rfl hQ
          · exact absurd rfl u4
        · exact absurd u3 (by decide)
  obtain ⟨r, h1, h2⟩ := rn_S (vs := [.ref 0, iv (i), iv (0)]) (Q := fun r => r = (some (iv (0)), (cW ki ln bt rl cp cs ct cv 5 14 ja ea ma a1 a2 a3 a4 a5 a6 a7 a8 jb eb mb b1 b2 b3 b4 b5 b6 b7 b8 (oOr re (oShl 1 i)) fl g1 g2 g3 g4 g5 (dW rt la rs rg pd du ds me tt gr su gp mk rf m1 m2 m3 m4 m5 mr mf n1 n2 n3 n4 n5 nr nf E)))) rfl (rn_up (N := 1500) (M := mm_fuel) (by decide) (main (fun r => r = (some (iv (0)), (cW ki ln bt rl cp cs ct cv 5 14 ja ea ma a1 a2 a3 a4 a5 a6 a7 a8 jb eb mb b1 b2 b3 b4 b5 b6 b7 b8 (oOr re (oShl 1 i)) fl g1 g2 g3 g4 g5 (dW rt la rs rg pd du ds me tt gr su gp mk rf m1 m2 m3 m4 m5 mr mf n1 n2 n3 n4 n5 nr nf E)))) rfl))
  have h1 : sX11_release [.ref 0, iv (i), iv (0)] (cW ki ln bt rl cp cs ct cv 5 14 ja ea ma a1 a2 a3 a4 a5 a6 a7 a8 jb eb mb b1 b2 b3 b4 b5 b6 b7 b8 re fl g1 g2 g3 g4 g5 (dW rt la rs rg pd du ds me tt gr su gp mk rf m1 m2 m3 m4 m5 mr mf n1 n2 n3 n4 n5 nr nf E)) = some r := h1
  rw [h1, h2]
theorem c_relCG0_1 (hi : -2147483648 ≤ i ∧ i ≤ 2147483647) (hn : 0 ≤ ma ∧ ma ≤ 16) (h1 : i3 i 0 (ma - 1) = true) (hr : zb (Int32.ofInt re) i.toNat = false) (hL : 0 ≤ (g3 (Int.toNat i)).toInt ∧ (g3 (Int.toNat i)).toInt ≤ 999) (hB : 0 ≤ bcF (cOt a5 a6 (oOr re (oShl 1 i)) (a5 (Int.toNat i)).toInt ma.toNat) ∧ bcF (cOt a5 a6 (oOr re (oShl 1 i)) (a5 (Int.toNat i)).toInt ma.toNat) ≤ 16) : sX11_release [.ref 0, iv (i), iv (1)] (cW ki ln bt rl cp cs ct cv 5 14 ja ea ma a1 a2 a3 a4 a5 a6 a7 a8 jb eb mb b1 b2 b3 b4 b5 b6 b7 b8 re fl g1 g2 g3 g4 g5 (dW rt la rs rg pd du ds me tt gr su gp mk rf m1 m2 m3 m4 m5 mr mf n1 n2 n3 n4 n5 nr nf E)) = some (some (iv (bcF (cOt a5 a6 (oOr re (oShl 1 i)) (a5 (Int.toNat i)).toInt ma.toNat))), (cW ki ln bt rl cp cs ct cv 5 14 ja ea ma a1 a2 a3 a4 a5 a6 a7 a8 jb eb mb b1 b2 b3 b4 b5 b6 b7 b8 (oOr re (oShl 1 i)) fl g1 g2 (cLO (cOt a5 a6 (oOr re (oShl 1 i)) (a5 (Int.toNat i)).toInt ma.toNat) ((g3 (Int.toNat i)).toInt / (bcF (cOt a5 a6 (oOr re (oShl 1 i)) (a5 (Int.toNat i)).toInt ma.toNat) + 1)) g3 16) g4 g5 (dW rt la rs rg pd du ds me tt gr su gp mk rf m1 m2 m3 m4 m5 mr mf n1 n2 n3 n4 n5 nr nf E))) := by
  have main : ∀ Q : mm_R → Prop, Q (some (iv (bcF (cOt a5 a6 (oOr re (oShl 1 i)) (a5 (Int.toNat i)).toInt ma.toNat))), (cW ki ln bt rl cp cs ct cv 5 14 ja ea ma a1 a2 a3 a4 a5 a6 a7 a8 jb eb mb b1 b2 b3 b4 b5 b6 b7 b8 (oOr re (oShl 1 i)) fl g1 g2 (cLO (cOt a5 a6 (oOr re (oShl 1 i)) (a5 (Int.toNat i)).toInt ma.toNat) ((g3 (Int.toNat i)).toInt / (bcF (cOt a5 a6 (oOr re (oShl 1 i)) (a5 (Int.toNat i)).toInt ma.toNat) + 1)) g3 16) g4 g5 (dW rt la rs rg pd du ds me tt gr su gp mk rf m1 m2 m3 m4 m5 mr mf n1 n2 n3 n4 n5 nr nf E))) → rn_X11_release (1500) (0, [(0, .ref 0), (1, iv (i)), (2, iv (1))], [], (cW ki ln bt rl cp cs ct cv 5 14 ja ea ma a1 a2 a3 a4 a5 a6 a7 a8 jb eb mb b1 b2 b3 b4 b5 b6 b7 b8 re fl g1 g2 g3 g4 g5 (dW rt la rs rg pd du ds me tt gr su gp mk rf m1 m2 m3 m4 m5 mr mf n1 n2 n3 n4 n5 nr nf E))) Q := by
    intro Q hQ
    have ri := i3_t h1
    refine r_al rfl rfl ?_
    refine r_gf rfl rfl xg_0 rfl ?_
    refine r_il rfl rfl ?_
    refine r_v2s rfl rfl xg_4 rfl (c_isStandC0 hi hn) ?_
    rw [h1]
    refine r_zeq rfl rfl (bi_r _) (fun u1 => ?_) (fun u1 => ?_)
    · exact absurd u1 (by decide)
    · refine r_il rfl rfl ?_
      refine r_zlt rfl rfl (by decide) (fun u2 => ?_) (fun u2 => ?_)
      · exact absurd u2 (by decide)
      · refine r_il rfl rfl ?_
        refine r_ic rfl ?_
        refine r_cle rfl rfl (by decide) (by decide) (fun u3 => ?_) (fun u3 => ?_)
        · refine r_al rfl rfl ?_
          refine r_gf rfl rfl xg_0 rfl ?_
          refine r_il rfl rfl ?_
          refine r_v2s rfl rfl xg_4 rfl (c_isRelC0 (by omega)) ?_
          rw [hr]
          refine r_zeq rfl rfl (bi_r _) (fun u4 => ?_) (fun u4 => ?_)
          · refine r_al rfl rfl ?_
            refine r_gf rfl rfl xg_0 rfl ?_
            refine r_il rfl rfl ?_
            refine r_il rfl rfl ?_
            refine r_v3s rfl rfl xg_29 rfl (c_letGo0_1 (by omega) hn hL hB) ?_
            exact r_ret rfl rfl hQ
          · exact absurd rfl u4
        · exact absurd u3 (by decide)
  obtain ⟨r, h1, h2⟩ := rn_S (vs := [.ref 0, iv (i), iv (1)]) (Q := fun r => r = (some (iv (bcF (cOt a5 a6 (oOr re (oShl 1 i)) (a5 (Int.toNat i)).toInt ma.toNat))), (cW ki ln bt rl cp cs ct cv 5 14 ja ea ma a1 a2 a3 a4 a5 a6 a7 a8 jb eb mb b1 b2 b3 b4 b5 b6 b7 b8 (oOr re (oShl 1 i)) fl g1 g2 (cLO (cOt a5 a6 (oOr re (oShl 1 i)) (a5 (Int.toNat i)).toInt ma.toNat) ((g3 (Int.toNat i)).toInt / (bcF (cOt a5 a6 (oOr re (oShl 1 i)) (a5 (Int.toNat i)).toInt ma.toNat) + 1)) g3 16) g4 g5 (dW rt la rs rg pd du ds me tt gr su gp mk rf m1 m2 m3 m4 m5 mr mf n1 n2 n3 n4 n5 nr nf E)))) rfl (rn_up (N := 1500) (M := mm_fuel) (by decide) (main (fun r => r = (some (iv (bcF (cOt a5 a6 (oOr re (oShl 1 i)) (a5 (Int.toNat i)).toInt ma.toNat))), (cW ki ln bt rl cp cs ct cv 5 14 ja ea ma a1 a2 a3 a4 a5 a6 a7 a8 jb eb mb b1 b2 b3 b4 b5 b6 b7 b8 (oOr re (oShl 1 i)) fl g1 g2 (cLO (cOt a5 a6 (oOr re (oShl 1 i)) (a5 (Int.toNat i)).toInt ma.toNat) ((g3 (Int.toNat i)).toInt / (bcF (cOt a5 a6 (oOr re (oShl 1 i)) (a5 (Int.toNat i)).toInt ma.toNat) + 1)) g3 16) g4 g5 (dW rt la rs rg pd du ds me tt gr su gp mk rf m1 m2 m3 m4 m5 mr mf n1 n2 n3 n4 n5 nr nf E)))) rfl))
  have h1 : sX11_release [.ref 0, iv (i), iv (1)] (cW ki ln bt rl cp cs ct cv 5 14 ja ea ma a1 a2 a3 a4 a5 a6 a7 a8 jb eb mb b1 b2 b3 b4 b5 b6 b7 b8 re fl g1 g2 g3 g4 g5 (dW rt la rs rg pd du ds me tt gr su gp mk rf m1 m2 m3 m4 m5 mr mf n1 n2 n3 n4 n5 nr nf E)) = some r := h1
  rw [h1, h2]
theorem c_relCG0_2 (hi : -2147483648 ≤ i ∧ i ≤ 2147483647) (hn : 0 ≤ ma ∧ ma ≤ 16) (h1 : i3 i 0 (ma - 1) = true) (hr : zb (Int32.ofInt re) i.toNat = false)  : sX11_release [.ref 0, iv (i), iv (2)] (cW ki ln bt rl cp cs ct cv 5 14 ja ea ma a1 a2 a3 a4 a5 a6 a7 a8 jb eb mb b1 b2 b3 b4 b5 b6 b7 b8 re fl g1 g2 g3 g4 g5 (dW rt la rs rg pd du ds me tt gr su gp mk rf m1 m2 m3 m4 m5 mr mf n1 n2 n3 n4 n5 nr nf E)) = some (some (iv (bcF (cOt a5 a6 (oOr re (oShl 1 i)) (a5 (Int.toNat i)).toInt ma.toNat))), (cW ki ln bt rl cp cs ct cv 5 14 ja ea ma a1 a2 a3 a4 a5 a6 a7 a8 jb eb mb b1 b2 b3 b4 b5 b6 b7 b8 (oOr (oOr re (oShl 1 i)) (cOt a5 a6 (oOr re (oShl 1 i)) (a5 (Int.toNat i)).toInt ma.toNat)) fl g1 g2 g3 g4 g5 (dW rt la rs rg pd du ds me tt gr su gp mk rf m1 m2 m3 m4 m5 mr mf n1 n2 n3 n4 n5 nr nf E))) := by
  have main : ∀ Q : mm_R → Prop, Q (some (iv (bcF (cOt a5 a6 (oOr re (oShl 1 i)) (a5 (Int.toNat i)).toInt ma.toNat))), (cW ki ln bt rl cp cs ct cv 5 14 ja ea ma a1 a2 a3 a4 a5 a6 a7 a8 jb eb mb b1 b2 b3 b4 b5 b6 b7 b8 (oOr (oOr re (oShl 1 i)) (cOt a5 a6 (oOr re (oShl 1 i)) (a5 (Int.toNat i)).toInt ma.toNat)) fl g1 g2 g3 g4 g5 (dW rt la rs rg pd du ds me tt gr su gp mk rf m1 m2 m3 m4 m5 mr mf n1 n2 n3 n4 n5 nr nf E))) → rn_X11_release (1500) (0, [(0, .ref 0), (1, iv (i)), (2, iv (2))], [], (cW ki ln bt rl cp cs ct cv 5 14 ja ea ma a1 a2 a3 a4 a5 a6 a7 a8 jb eb mb b1 b2 b3 b4 b5 b6 b7 b8 re fl g1 g2 g3 g4 g5 (dW rt la rs rg pd du ds me tt gr su gp mk rf m1 m2 m3 m4 m5 mr mf n1 n2 n3 n4 n5 nr nf E))) Q := by
    intro Q hQ
    have ri := i3_t h1
    refine r_al rfl rfl ?_
    refine r_gf rfl rfl xg_0 rfl ?_
    refine r_il rfl rfl ?_
    refine r_v2s rfl rfl xg_4 rfl (c_isStandC0 hi hn) ?_
    rw [h1]
    refine r_zeq rfl rfl (bi_r _) (fun u1 => ?_) (fun u1 => ?_)
    · exact absurd u1 (by decide)
    · refine r_il rfl rfl ?_
      refine r_zlt rfl rfl (by decide) (fun u2 => ?_) (fun u2 => ?_)
      · exact absurd u2 (by decide)
      · refine r_il rfl rfl ?_
        refine r_ic rfl ?_
        refine r_cle rfl rfl (by decide) (by decide) (fun u3 => ?_) (fun u3 => ?_)
        · refine r_al rfl rfl ?_
          refine r_gf rfl rfl xg_0 rfl ?_
          refine r_il rfl rfl ?_
          refine r_v2s rfl rfl xg_4 rfl (c_isRelC0 (by omega)) ?_
          rw [hr]
          refine r_zeq rfl rfl (bi_r _) (fun u4 => ?_) (fun u4 => ?_)
          · refine r_al rfl rfl ?_
            refine r_gf rfl rfl xg_0 rfl ?_
            refine r_il rfl rfl ?_
            refine r_il rfl rfl ?_
            refine r_v3s rfl rfl xg_29 rfl (c_letGo0_2 (by omega) hn) ?_
            exact r_ret rfl rfl hQ
          · exact absurd rfl u4
        · exact absurd u3 (by decide)
  obtain ⟨r, h1, h2⟩ := rn_S (vs := [.ref 0, iv (i), iv (2)]) (Q := fun r => r = (some (iv (bcF (cOt a5 a6 (oOr re (oShl 1 i)) (a5 (Int.toNat i)).toInt ma.toNat))), (cW ki ln bt rl cp cs ct cv 5 14 ja ea ma a1 a2 a3 a4 a5 a6 a7 a8 jb eb mb b1 b2 b3 b4 b5 b6 b7 b8 (oOr (oOr re (oShl 1 i)) (cOt a5 a6 (oOr re (oShl 1 i)) (a5 (Int.toNat i)).toInt ma.toNat)) fl g1 g2 g3 g4 g5 (dW rt la rs rg pd du ds me tt gr su gp mk rf m1 m2 m3 m4 m5 mr mf n1 n2 n3 n4 n5 nr nf E)))) rfl (rn_up (N := 1500) (M := mm_fuel) (by decide) (main (fun r => r = (some (iv (bcF (cOt a5 a6 (oOr re (oShl 1 i)) (a5 (Int.toNat i)).toInt ma.toNat))), (cW ki ln bt rl cp cs ct cv 5 14 ja ea ma a1 a2 a3 a4 a5 a6 a7 a8 jb eb mb b1 b2 b3 b4 b5 b6 b7 b8 (oOr (oOr re (oShl 1 i)) (cOt a5 a6 (oOr re (oShl 1 i)) (a5 (Int.toNat i)).toInt ma.toNat)) fl g1 g2 g3 g4 g5 (dW rt la rs rg pd du ds me tt gr su gp mk rf m1 m2 m3 m4 m5 mr mf n1 n2 n3 n4 n5 nr nf E)))) rfl))
  have h1 : sX11_release [.ref 0, iv (i), iv (2)] (cW ki ln bt rl cp cs ct cv 5 14 ja ea ma a1 a2 a3 a4 a5 a6 a7 a8 jb eb mb b1 b2 b3 b4 b5 b6 b7 b8 re fl g1 g2 g3 g4 g5 (dW rt la rs rg pd du ds me tt gr su gp mk rf m1 m2 m3 m4 m5 mr mf n1 n2 n3 n4 n5 nr nf E)) = some r := h1
  rw [h1, h2]
theorem c_stW1 {j : Nat} (hj : j < 16) (hd : -2147483648 ≤ d ∧ d ≤ 2147483647) : sX0_standsWhole [.ref 4, iv ((j : Int)), iv (d)] (cW ki ln bt rl cp cs ct cv 14 5 ja ea ma a1 a2 a3 a4 a5 a6 a7 a8 jb eb mb b1 b2 b3 b4 b5 b6 b7 b8 re fl g1 g2 g3 g4 g5 (dW rt la rs rg pd du ds me tt gr su gp mk rf m1 m2 m3 m4 m5 mr mf n1 n2 n3 n4 n5 nr nf E)) = some (some (iv (bi (cW0 b5 b6 re d j))), (cW ki ln bt rl cp cs ct cv 14 5 ja ea ma a1 a2 a3 a4 a5 a6 a7 a8 jb eb mb b1 b2 b3 b4 b5 b6 b7 b8 re fl g1 g2 g3 g4 g5 (dW rt la rs rg pd du ds me tt gr su gp mk rf m1 m2 m3 m4 m5 mr mf n1 n2 n3 n4 n5 nr nf E))) := by
  have main : ∀ Q : mm_R → Prop, Q (some (iv (bi (cW0 b5 b6 re d j))), (cW ki ln bt rl cp cs ct cv 14 5 ja ea ma a1 a2 a3 a4 a5 a6 a7 a8 jb eb mb b1 b2 b3 b4 b5 b6 b7 b8 re fl g1 g2 g3 g4 g5 (dW rt la rs rg pd du ds me tt gr su gp mk rf m1 m2 m3 m4 m5 mr mf n1 n2 n3 n4 n5 nr nf E))) → rn_X0_standsWhole (1000) (0, [(0, .ref 4), (1, iv ((j : Int))), (2, iv (d))], [], (cW ki ln bt rl cp cs ct cv 14 5 ja ea ma a1 a2 a3 a4 a5 a6 a7 a8 jb eb mb b1 b2 b3 b4 b5 b6 b7 b8 re fl g1 g2 g3 g4 g5 (dW rt la rs rg pd du ds me tt gr su gp mk rf m1 m2 m3 m4 m5 mr mf n1 n2 n3 n4 n5 nr nf E))) Q := by
    intro Q hQ
    refine r_al rfl rfl ?_
    refine r_gf rfl rfl xg_4 rfl ?_
    refine r_gf rfl rfl xg_14 rfl ?_
    refine r_il rfl rfl ?_
    refine r_ia rfl xg_20 (by omega) (by omega) (by decide) ?_
    refine r_zne rfl rfl (as_r _) (fun u1 => ?_) (fun u1 => ?_)
    · have e : cW0 b5 b6 re d j = false := by unfold cW0; rw [decide_eq_false u1]; rfl
      rw [e] at hQ
      refine r_ic rfl ?_
      exact r_retb rfl rfl (by omega) hQ
    · refine r_al rfl rfl ?_
      refine r_gf rfl rfl xg_4 rfl ?_
      refine r_gf rfl rfl xg_14 rfl ?_
      refine r_il rfl rfl ?_
      refine r_ia rfl xg_19 (by omega) (by omega) (by decide) ?_
      refine r_il rfl rfl ?_
      refine r_cne rfl rfl (as_r _) hd (fun u2 => ?_) (fun u2 => ?_)
      · have e : cW0 b5 b6 re d j = false := by unfold cW0; rw [decide_eq_true u1, decide_eq_false u2]; rfl
        rw [e] at hQ
        refine r_ic rfl ?_
        exact r_retb rfl rfl (by omega) hQ
      · refine r_al rfl rfl ?_
        refine r_gf rfl rfl xg_4 rfl ?_
        refine r_gf rfl rfl xg_23 rfl ?_
        refine r_il rfl rfl ?_
        refine r_s2s rfl rfl rfl (c_isIn (by omega)) ?_
        refine r_zne rfl rfl (bi_r _) (fun u3 => ?_) (fun u3 => ?_)
        · have u3 : zb (Int32.ofInt re) j = true := bi_1 u3
          have e : cW0 b5 b6 re d j = false := by unfold cW0; rw [decide_eq_true u1, decide_eq_true u2, u3]; rfl
          rw [e] at hQ
          refine r_ic rfl ?_
          exact r_retb rfl rfl (by omega) hQ
        · have u3 : zb (Int32.ofInt re) j = false := bi_0 u3
          have e : cW0 b5 b6 re d j = true := by unfold cW0; rw [decide_eq_true u1, decide_eq_true u2, u3]; rfl
          rw [e] at hQ
          refine r_ic rfl ?_
          refine r_goto rfl rfl ?_
          exact r_retb rfl rfl (by omega) hQ
  obtain ⟨r, h1, h2⟩ := rn_S (vs := [.ref 4, iv ((j : Int)), iv (d)]) (Q := fun r => r = (some (iv (bi (cW0 b5 b6 re d j))), (cW ki ln bt rl cp cs ct cv 14 5 ja ea ma a1 a2 a3 a4 a5 a6 a7 a8 jb eb mb b1 b2 b3 b4 b5 b6 b7 b8 re fl g1 g2 g3 g4 g5 (dW rt la rs rg pd du ds me tt gr su gp mk rf m1 m2 m3 m4 m5 mr mf n1 n2 n3 n4 n5 nr nf E)))) rfl (rn_up (N := 1000) (M := mm_fuel) (by decide) (main (fun r => r = (some (iv (bi (cW0 b5 b6 re d j))), (cW ki ln bt rl cp cs ct cv 14 5 ja ea ma a1 a2 a3 a4 a5 a6 a7 a8 jb eb mb b1 b2 b3 b4 b5 b6 b7 b8 re fl g1 g2 g3 g4 g5 (dW rt la rs rg pd du ds me tt gr su gp mk rf m1 m2 m3 m4 m5 mr mf n1 n2 n3 n4 n5 nr nf E)))) rfl))
  have h1 : sX0_standsWhole [.ref 4, iv ((j : Int)), iv (d)] (cW ki ln bt rl cp cs ct cv 14 5 ja ea ma a1 a2 a3 a4 a5 a6 a7 a8 jb eb mb b1 b2 b3 b4 b5 b6 b7 b8 re fl g1 g2 g3 g4 g5 (dW rt la rs rg pd du ds me tt gr su gp mk rf m1 m2 m3 m4 m5 mr mf n1 n2 n3 n4 n5 nr nf E)) = some r := h1
  rw [h1, h2]
theorem stw_lp1 {n : Nat} (hn : n ≤ 16) (hd : -2147483648 ≤ d ∧ d ≤ 2147483647) (k : rn_X2_standingWhole N (42, [(3, iv (((n : Nat) : Int))), (2, iv (cOt b5 b6 re d n)), (0, .ref 29), (1, iv (d))], [], (cW ki ln bt rl cp cs ct cv 14 5 ja ea ma a1 a2 a3 a4 a5 a6 a7 a8 jb eb (n : Int) b1 b2 b3 b4 b5 b6 b7 b8 re fl g1 g2 g3 g4 g5 (dW rt la rs rg pd du ds me tt gr su gp mk rf m1 m2 m3 m4 m5 mr mf n1 n2 n3 n4 n5 nr nf E))) Q) : ∀ (m j : Nat), j + m = n → rn_X2_standingWhole (N + 60 * m + 60) (4, [(3, iv ((j : Int))), (2, iv (cOt b5 b6 re d j)), (0, .ref 29), (1, iv (d))], [], (cW ki ln bt rl cp cs ct cv 14 5 ja ea ma a1 a2 a3 a4 a5 a6 a7 a8 jb eb (n : Int) b1 b2 b3 b4 b5 b6 b7 b8 re fl g1 g2 g3 g4 g5 (dW rt la rs rg pd du ds me tt gr su gp mk rf m1 m2 m3 m4 m5 mr mf n1 n2 n3 n4 n5 nr nf E))) Q := by
  intro m
  induction m with
  | zero =>
    intro j hj
    have hj : j = n := by omega
    subst hj
    refine rn_up (N := N + 60) (by omega) ?_
    refine r_il rfl rfl ?_
    refine r_al rfl rfl ?_
    refine r_gf rfl rfl xg_29 rfl ?_
    refine r_gf rfl rfl xg_4 rfl ?_
    refine r_gf rfl rfl xg_14 rfl ?_
    refine r_cge rfl rfl (by omega) (by omega) (fun u1 => ?_) (fun u1 => ?_)
    · exact rn_up (by omega) k
    · omega
  | succ m ih =>
    intro j hj
    obtain ⟨M, hM⟩ : ∃ M, M = N + 60 * m + 60 := ⟨_, rfl⟩
    rw [← hM] at ih
    refine rn_up (N := M + 60) (by omega) ?_
    refine r_il rfl rfl ?_
    refine r_al rfl rfl ?_
    refine r_gf rfl rfl xg_29 rfl ?_
    refine r_gf rfl rfl xg_4 rfl ?_
    refine r_gf rfl rfl xg_14 rfl ?_
    refine r_cge rfl rfl (by omega) (by omega) (fun u1 => ?_) (fun u1 => ?_)
    · omega
    · refine r_al rfl rfl ?_
      refine r_gf rfl rfl xg_29 rfl ?_
      refine r_il rfl rfl ?_
      refine r_il rfl rfl ?_
      refine r_v3s rfl rfl xg_4 rfl (c_stW1 (by omega) hd) ?_
      refine r_zeq rfl rfl (bi_r _) (fun u2 => ?_) (fun u2 => ?_)
      · refine r_inc (lv' := [(3, _), (2, _), (0, _), (1, _)]) rfl rfl rfl rfl ?_
        refine r_goto rfl rfl ?_
        have e : cOt b5 b6 re d j = cOt b5 b6 re d (j + 1) := by show _ = (bif cW0 b5 b6 re d j then _ else _); rw [bi_0 u2]; rfl
        rw [e]
        exact rn_up (by omega) (ih (j + 1) (by omega))
      · refine r_il rfl rfl ?_
        refine r_ic rfl ?_
        refine r_il rfl rfl ?_
        refine r_shl rfl ?_
        refine r_or rfl ?_
        refine r_is (lv' := [(2, _), (3, _), (0, _), (1, _)]) rfl rfl rfl ?_
        refine r_inc (lv' := [(3, _), (2, _), (0, _), (1, _)]) rfl rfl rfl rfl ?_
        refine r_goto rfl rfl ?_
        have e : oOr (cOt b5 b6 re d j) (oShl 1 (j : Int)) = cOt b5 b6 re d (j + 1) := by show _ = (bif cW0 b5 b6 re d j then _ else _); rw [bi_1 u2]; rfl
        rw [e]
        exact rn_up (by omega) (ih (j + 1) (by omega))
theorem c_stWh1 (hn : 0 ≤ mb ∧ mb ≤ 16) (hd : -2147483648 ≤ d ∧ d ≤ 2147483647) : sX2_standingWhole [.ref 29, iv d] (cW ki ln bt rl cp cs ct cv 14 5 ja ea ma a1 a2 a3 a4 a5 a6 a7 a8 jb eb mb b1 b2 b3 b4 b5 b6 b7 b8 re fl g1 g2 g3 g4 g5 (dW rt la rs rg pd du ds me tt gr su gp mk rf m1 m2 m3 m4 m5 mr mf n1 n2 n3 n4 n5 nr nf E)) = some (some (iv (cOt b5 b6 re d mb.toNat)), (cW ki ln bt rl cp cs ct cv 14 5 ja ea ma a1 a2 a3 a4 a5 a6 a7 a8 jb eb mb b1 b2 b3 b4 b5 b6 b7 b8 re fl g1 g2 g3 g4 g5 (dW rt la rs rg pd du ds me tt gr su gp mk rf m1 m2 m3 m4 m5 mr mf n1 n2 n3 n4 n5 nr nf E))) := by
  obtain ⟨n, rfl⟩ := Int.eq_ofNat_of_zero_le hn.1
  have hn : n ≤ 16 := by omega
  have main : ∀ Q : mm_R → Prop, Q (some (iv (cOt b5 b6 re d n)), (cW ki ln bt rl cp cs ct cv 14 5 ja ea ma a1 a2 a3 a4 a5 a6 a7 a8 jb eb (n : Int) b1 b2 b3 b4 b5 b6 b7 b8 re fl g1 g2 g3 g4 g5 (dW rt la rs rg pd du ds me tt gr su gp mk rf m1 m2 m3 m4 m5 mr mf n1 n2 n3 n4 n5 nr nf E))) → rn_X2_standingWhole (20 + 60 * 16 + 60 + 20) (0, [(0, .ref 29), (1, iv (d))], [], (cW ki ln bt rl cp cs ct cv 14 5 ja ea ma a1 a2 a3 a4 a5 a6 a7 a8 jb eb (n : Int) b1 b2 b3 b4 b5 b6 b7 b8 re fl g1 g2 g3 g4 g5 (dW rt la rs rg pd du ds me tt gr su gp mk rf m1 m2 m3 m4 m5 mr mf n1 n2 n3 n4 n5 nr nf E))) Q := by
    intro Q hQ
    refine r_ic rfl ?_
    refine r_is (lv' := [(2, _), (0, _), (1, _)]) rfl rfl rfl ?_
    refine r_ic rfl ?_
    refine r_is (lv' := [(3, _), (2, _), (0, _), (1, _)]) rfl rfl rfl ?_
    refine rn_up (N := 20 + 60 * n + 60) (by omega) (stw_lp1 (N := 20) hn hd ?_ n 0 (by omega))
    refine r_il rfl rfl ?_
    exact r_ret rfl rfl hQ
  obtain ⟨r, h1, h2⟩ := rn_S (vs := [.ref 29, iv d]) (Q := fun r => r = (some (iv (cOt b5 b6 re d n)), (cW ki ln bt rl cp cs ct cv 14 5 ja ea ma a1 a2 a3 a4 a5 a6 a7 a8 jb eb (n : Int) b1 b2 b3 b4 b5 b6 b7 b8 re fl g1 g2 g3 g4 g5 (dW rt la rs rg pd du ds me tt gr su gp mk rf m1 m2 m3 m4 m5 mr mf n1 n2 n3 n4 n5 nr nf E)))) rfl (rn_up (N := 20 + 60 * 16 + 60 + 20) (M := mm_fuel) (by decide) (main (fun r => r = (some (iv (cOt b5 b6 re d n)), (cW ki ln bt rl cp cs ct cv 14 5 ja ea ma a1 a2 a3 a4 a5 a6 a7 a8 jb eb (n : Int) b1 b2 b3 b4 b5 b6 b7 b8 re fl g1 g2 g3 g4 g5 (dW rt la rs rg pd du ds me tt gr su gp mk rf m1 m2 m3 m4 m5 mr mf n1 n2 n3 n4 n5 nr nf E)))) rfl))
  have h1 : sX2_standingWhole [.ref 29, iv d] (cW ki ln bt rl cp cs ct cv 14 5 ja ea ma a1 a2 a3 a4 a5 a6 a7 a8 jb eb (n : Int) b1 b2 b3 b4 b5 b6 b7 b8 re fl g1 g2 g3 g4 g5 (dW rt la rs rg pd du ds me tt gr su gp mk rf m1 m2 m3 m4 m5 mr mf n1 n2 n3 n4 n5 nr nf E)) = some r := h1
  rw [h1, h2]
  rfl
theorem c_letGo1_0 (hi : 0 ≤ i ∧ i ≤ 15) (hn : 0 ≤ mb ∧ mb ≤ 16) : sX2_letGo [.ref 29, iv (i), iv (0)] (cW ki ln bt rl cp cs ct cv 14 5 ja ea ma a1 a2 a3 a4 a5 a6 a7 a8 jb eb mb b1 b2 b3 b4 b5 b6 b7 b8 re fl g1 g2 g3 g4 g5 (dW rt la rs rg pd du ds me tt gr su gp mk rf m1 m2 m3 m4 m5 mr mf n1 n2 n3 n4 n5 nr nf E)) = some (some (iv 0), (cW ki ln bt rl cp cs ct cv 14 5 ja ea ma a1 a2 a3 a4 a5 a6 a7 a8 jb eb mb b1 b2 b3 b4 b5 b6 b7 b8 (oOr re (oShl 1 i)) fl g1 g2 g3 g4 g5 (dW rt la rs rg pd du ds me tt gr su gp mk rf m1 m2 m3 m4 m5 mr mf n1 n2 n3 n4 n5 nr nf E))) := by
  have main : ∀ Q : mm_R → Prop, Q (some (iv 0), (cW ki ln bt rl cp cs ct cv 14 5 ja ea ma a1 a2 a3 a4 a5 a6 a7 a8 jb eb mb b1 b2 b3 b4 b5 b6 b7 b8 (oOr re (oShl 1 i)) fl g1 g2 g3 g4 g5 (dW rt la rs rg pd du ds me tt gr su gp mk rf m1 m2 m3 m4 m5 mr mf n1 n2 n3 n4 n5 nr nf E))) → rn_X2_letGo (1000) (0, [(0, .ref 29), (1, iv (i)), (2, iv (0))], [], (cW ki ln bt rl cp cs ct cv 14 5 ja ea ma a1 a2 a3 a4 a5 a6 a7 a8 jb eb mb b1 b2 b3 b4 b5 b6 b7 b8 re fl g1 g2 g3 g4 g5 (dW rt la rs rg pd du ds me tt gr su gp mk rf m1 m2 m3 m4 m5 mr mf n1 n2 n3 n4 n5 nr nf E))) Q := by
    intro Q hQ
    refine r_al rfl rfl ?_
    refine r_gf rfl rfl xg_29 rfl ?_
    refine r_gf rfl rfl xg_4 rfl ?_
    refine r_as (lv' := [(3, _), (0, _), (1, _), (2, _)]) rfl rfl rfl ?_
    refine r_al rfl rfl ?_
    refine r_dup rfl rfl ?_
    refine r_gf rfl rfl xg_23 rfl ?_
    refine r_ic rfl ?_
    refine r_il rfl rfl ?_
    refine r_shl rfl ?_
    refine r_or rfl ?_
    refine r_pf rfl rfl xg_23 rfl xp_re ?_
    refine r_il rfl rfl ?_
    refine r_zne rfl rfl (by decide) (fun u1 => ?_) (fun u1 => ?_)
    · exact absurd rfl u1
    · refine r_ic rfl ?_
      exact r_ret rfl rfl hQ
  obtain ⟨r, h1, h2⟩ := rn_S (vs := [.ref 29, iv (i), iv (0)]) (Q := fun r => r = (some (iv 0), (cW ki ln bt rl cp cs ct cv 14 5 ja ea ma a1 a2 a3 a4 a5 a6 a7 a8 jb eb mb b1 b2 b3 b4 b5 b6 b7 b8 (oOr re (oShl 1 i)) fl g1 g2 g3 g4 g5 (dW rt la rs rg pd du ds me tt gr su gp mk rf m1 m2 m3 m4 m5 mr mf n1 n2 n3 n4 n5 nr nf E)))) rfl (rn_up (N := 1000) (M := mm_fuel) (by decide) (main (fun r => r = (some (iv 0), (cW ki ln bt rl cp cs ct cv 14 5 ja ea ma a1 a2 a3 a4 a5 a6 a7 a8 jb eb mb b1 b2 b3 b4 b5 b6 b7 b8 (oOr re (oShl 1 i)) fl g1 g2 g3 g4 g5 (dW rt la rs rg pd du ds me tt gr su gp mk rf m1 m2 m3 m4 m5 mr mf n1 n2 n3 n4 n5 nr nf E)))) rfl))
  have h1 : sX2_letGo [.ref 29, iv (i), iv (0)] (cW ki ln bt rl cp cs ct cv 14 5 ja ea ma a1 a2 a3 a4 a5 a6 a7 a8 jb eb mb b1 b2 b3 b4 b5 b6 b7 b8 re fl g1 g2 g3 g4 g5 (dW rt la rs rg pd du ds me tt gr su gp mk rf m1 m2 m3 m4 m5 mr mf n1 n2 n3 n4 n5 nr nf E)) = some r := h1
  rw [h1, h2]
theorem c_letGo1_2 (hi : 0 ≤ i ∧ i ≤ 15) (hn : 0 ≤ mb ∧ mb ≤ 16) : sX2_letGo [.ref 29, iv (i), iv (2)] (cW ki ln bt rl cp cs ct cv 14 5 ja ea ma a1 a2 a3 a4 a5 a6 a7 a8 jb eb mb b1 b2 b3 b4 b5 b6 b7 b8 re fl g1 g2 g3 g4 g5 (dW rt la rs rg pd du ds me tt gr su gp mk rf m1 m2 m3 m4 m5 mr mf n1 n2 n3 n4 n5 nr nf E)) = some (some (iv (bcF (cOt b5 b6 (oOr re (oShl 1 i)) (b5 (Int.toNat i)).toInt mb.toNat))), (cW ki ln bt rl cp cs ct cv 14 5 ja ea ma a1 a2 a3 a4 a5 a6 a7 a8 jb eb mb b1 b2 b3 b4 b5 b6 b7 b8 (oOr (oOr re (oShl 1 i)) (cOt b5 b6 (oOr re (oShl 1 i)) (b5 (Int.toNat i)).toInt mb.toNat)) fl g1 g2 g3 g4 g5 (dW rt la rs rg pd du ds me tt gr su gp mk rf m1 m2 m3 m4 m5 mr mf n1 n2 n3 n4 n5 nr nf E))) := by
  have main : ∀ Q : mm_R → Prop, Q (some (iv (bcF (cOt b5 b6 (oOr re (oShl 1 i)) (b5 (Int.toNat i)).toInt mb.toNat))), (cW ki ln bt rl cp cs ct cv 14 5 ja ea ma a1 a2 a3 a4 a5 a6 a7 a8 jb eb mb b1 b2 b3 b4 b5 b6 b7 b8 (oOr (oOr re (oShl 1 i)) (cOt b5 b6 (oOr re (oShl 1 i)) (b5 (Int.toNat i)).toInt mb.toNat)) fl g1 g2 g3 g4 g5 (dW rt la rs rg pd du ds me tt gr su gp mk rf m1 m2 m3 m4 m5 mr mf n1 n2 n3 n4 n5 nr nf E))) → rn_X2_letGo (1000) (0, [(0, .ref 29), (1, iv (i)), (2, iv (2))], [], (cW ki ln bt rl cp cs ct cv 14 5 ja ea ma a1 a2 a3 a4 a5 a6 a7 a8 jb eb mb b1 b2 b3 b4 b5 b6 b7 b8 re fl g1 g2 g3 g4 g5 (dW rt la rs rg pd du ds me tt gr su gp mk rf m1 m2 m3 m4 m5 mr mf n1 n2 n3 n4 n5 nr nf E))) Q := by
    intro Q hQ
    refine r_al rfl rfl ?_
    refine r_gf rfl rfl xg_29 rfl ?_
    refine r_gf rfl rfl xg_4 rfl ?_
    refine r_as (lv' := [(3, _), (0, _), (1, _), (2, _)]) rfl rfl rfl ?_
    refine r_al rfl rfl ?_
    refine r_dup rfl rfl ?_
    refine r_gf rfl rfl xg_23 rfl ?_
    refine r_ic rfl ?_
    refine r_il rfl rfl ?_
    refine r_shl rfl ?_
    refine r_or rfl ?_
    refine r_pf rfl rfl xg_23 rfl xp_re ?_
    refine r_il rfl rfl ?_
    refine r_zne rfl rfl (by decide) (fun u1 => ?_) (fun u1 => ?_)
    · refine r_al rfl rfl ?_
      refine r_al rfl rfl ?_
      refine r_gf rfl rfl xg_29 rfl ?_
      refine r_gf rfl rfl xg_4 rfl ?_
      refine r_gf rfl rfl xg_14 rfl ?_
      refine r_il rfl rfl ?_
      refine r_ia rfl xg_19 (by omega) (by omega) (by decide) ?_
      refine r_v2s rfl rfl xg_29 rfl (c_stWh1 hn (as_r _)) ?_
      refine r_isw (lv' := [(4, _), (3, _), (0, _), (1, _), (2, _)]) rfl rfl rfl ?_
      refine r_ilw rfl rfl ?_
      refine r_s1s rfl rfl rfl c_bitCount ?_
      refine r_isw (lv' := [(5, _), (4, _), (3, _), (0, _), (1, _), (2, _)]) rfl rfl rfl ?_
      refine r_il rfl rfl ?_
      refine r_ic rfl ?_
      refine r_cne rfl rfl (by decide) (by decide) (fun u2 => ?_) (fun u2 => ?_)
      · exact absurd rfl u2
      · refine r_al rfl rfl ?_
        refine r_dup rfl rfl ?_
        refine r_gf rfl rfl xg_23 rfl ?_
        refine r_ilw rfl rfl ?_
        refine r_or rfl ?_
        refine r_pf rfl rfl xg_23 rfl xp_re ?_
        refine r_ilw rfl rfl ?_
        exact r_ret rfl rfl hQ
    · exact absurd u1 (by decide)
  obtain ⟨r, h1, h2⟩ := rn_S (vs := [.ref 29, iv (i), iv (2)]) (Q := fun r => r = (some (iv (bcF (cOt b5 b6 (oOr re (oShl 1 i)) (b5 (Int.toNat i)).toInt mb.toNat))), (cW ki ln bt rl cp cs ct cv 14 5 ja ea ma a1 a2 a3 a4 a5 a6 a7 a8 jb eb mb b1 b2 b3 b4 b5 b6 b7 b8 (oOr (oOr re (oShl 1 i)) (cOt b5 b6 (oOr re (oShl 1 i)) (b5 (Int.toNat i)).toInt mb.toNat)) fl g1 g2 g3 g4 g5 (dW rt la rs rg pd du ds me tt gr su gp mk rf m1 m2 m3 m4 m5 mr mf n1 n2 n3 n4 n5 nr nf E)))) rfl (rn_up (N := 1000) (M := mm_fuel) (by decide) (main (fun r => r = (some (iv (bcF (cOt b5 b6 (oOr re (oShl 1 i)) (b5 (Int.toNat i)).toInt mb.toNat))), (cW ki ln bt rl cp cs ct cv 14 5 ja ea ma a1 a2 a3 a4 a5 a6 a7 a8 jb eb mb b1 b2 b3 b4 b5 b6 b7 b8 (oOr (oOr re (oShl 1 i)) (cOt b5 b6 (oOr re (oShl 1 i)) (b5 (Int.toNat i)).toInt mb.toNat)) fl g1 g2 g3 g4 g5 (dW rt la rs rg pd du ds me tt gr su gp mk rf m1 m2 m3 m4 m5 mr mf n1 n2 n3 n4 n5 nr nf E)))) rfl))
  have h1 : sX2_letGo [.ref 29, iv (i), iv (2)] (cW ki ln bt rl cp cs ct cv 14 5 ja ea ma a1 a2 a3 a4 a5 a6 a7 a8 jb eb mb b1 b2 b3 b4 b5 b6 b7 b8 re fl g1 g2 g3 g4 g5 (dW rt la rs rg pd du ds me tt gr su gp mk rf m1 m2 m3 m4 m5 mr mf n1 n2 n3 n4 n5 nr nf E)) = some r := h1
  rw [h1, h2]
theorem letGo_lp1  (k : rn_X2_letGo N (130, [(7, iv (((16 : Nat) : Int))), (4, iv (ot)), (5, iv (mn)), (6, iv (less)), (3, .ref 23), (0, .ref 29), (1, iv (i)), (2, iv (1))], [], (cW ki ln bt rl cp cs ct cv 14 5 ja ea ma a1 a2 a3 a4 a5 a6 a7 a8 jb eb mb b1 b2 b3 b4 b5 b6 b7 b8 re fl g1 g2 (cLO ot less g3 16) g4 g5 (dW rt la rs rg pd du ds me tt gr su gp mk rf m1 m2 m3 m4 m5 mr mf n1 n2 n3 n4 n5 nr nf E))) Q) : ∀ (m j : Nat), j + m = 16 → rn_X2_letGo (N + 60 * m + 60) (86, [(7, iv ((j : Int))), (4, iv (ot)), (5, iv (mn)), (6, iv (less)), (3, .ref 23), (0, .ref 29), (1, iv (i)), (2, iv (1))], [], (cW ki ln bt rl cp cs ct cv 14 5 ja ea ma a1 a2 a3 a4 a5 a6 a7 a8 jb eb mb b1 b2 b3 b4 b5 b6 b7 b8 re fl g1 g2 (cLO ot less g3 j) g4 g5 (dW rt la rs rg pd du ds me tt gr su gp mk rf m1 m2 m3 m4 m5 mr mf n1 n2 n3 n4 n5 nr nf E))) Q := by
  intro m
  induction m with
  | zero =>
    intro j hj
    have hj : j = 16 := by omega
    subst hj
    refine rn_up (N := N + 60) (by omega) ?_
    refine r_ilw rfl rfl ?_
    refine r_bi rfl (by decide) ?_
    refine r_cge rfl rfl (by omega) (by omega) (fun u1 => ?_) (fun u1 => ?_)
    · exact rn_up (by omega) k
    · omega
  | succ m ih =>
    intro j hj
    obtain ⟨M, hM⟩ : ∃ M, M = N + 60 * m + 60 := ⟨_, rfl⟩
    rw [← hM] at ih
    refine rn_up (N := M + 60) (by omega) ?_
    refine r_ilw rfl rfl ?_
    refine r_bi rfl (by decide) ?_
    refine r_cge rfl rfl (by omega) (by omega) (fun u1 => ?_) (fun u1 => ?_)
    · omega
    · refine r_ilw rfl rfl ?_
      refine r_ilw rfl rfl ?_
      refine r_s2s rfl rfl rfl (c_isIn (by omega)) ?_
      refine r_zeq rfl rfl (bi_r _) (fun u2 => ?_) (fun u2 => ?_)
      · have u2 : zb (Int32.ofInt ot) j = false := bi_0 u2
        refine r_inc (lv' := [(7, _), (4, _), (5, _), (6, _), (3, _), (0, _), (1, _), (2, _)]) rfl rfl rfl rfl ?_
        refine r_goto rfl rfl ?_
        have e : cLO ot less g3 j = cLO ot less g3 (j + 1) := by show _ = (bif zb (Int32.ofInt ot) j then _ else _); rw [u2]; rfl
        rw [e]
        exact rn_up (by omega) (ih (j + 1) (by omega))
      · have u2 : zb (Int32.ofInt ot) j = true := bi_1 u2
        refine r_al rfl rfl ?_
        refine r_gf rfl rfl xg_23 rfl ?_
        refine r_ilw rfl rfl ?_
        refine r_ic rfl ?_
        refine r_al rfl rfl ?_
        refine r_gf rfl rfl xg_23 rfl ?_
        refine r_ilw rfl rfl ?_
        refine r_ia rfl xg_26 (by omega) (by omega) (by decide) ?_
        refine r_ilw rfl rfl ?_
        refine r_sub rfl ?_
        refine r_nrm ?_
        refine r_s2s rfl rfl rfl (c_maxC (by decide) (nrm_r _)) ?_
        refine r_ias rfl xg_26 (by omega) (by omega) (by decide) xs_26 ?_
        refine r_inc (lv' := [(7, _), (4, _), (5, _), (6, _), (3, _), (0, _), (1, _), (2, _)]) rfl rfl rfl rfl ?_
        refine r_goto rfl rfl ?_
        have e : upd (cLO ot less g3 j) (Int.toNat (j : Int)) (Int32.ofInt (mxI 0 (nrm ((cLO ot less g3 j (Int.toNat (j : Int))).toInt - less)))) = cLO ot less g3 (j + 1) := by show _ = (bif zb (Int32.ofInt ot) j then _ else _); rw [u2]; rfl
        rw [e]
        exact rn_up (by omega) (ih (j + 1) (by omega))
theorem c_letGo1_1 (hi : 0 ≤ i ∧ i ≤ 15) (hn : 0 ≤ mb ∧ mb ≤ 16) (hL : 0 ≤ (g3 (Int.toNat i)).toInt ∧ (g3 (Int.toNat i)).toInt ≤ 999) (hB : 0 ≤ bcF (cOt b5 b6 (oOr re (oShl 1 i)) (b5 (Int.toNat i)).toInt mb.toNat) ∧ bcF (cOt b5 b6 (oOr re (oShl 1 i)) (b5 (Int.toNat i)).toInt mb.toNat) ≤ 16) : sX2_letGo [.ref 29, iv (i), iv (1)] (cW ki ln bt rl cp cs ct cv 14 5 ja ea ma a1 a2 a3 a4 a5 a6 a7 a8 jb eb mb b1 b2 b3 b4 b5 b6 b7 b8 re fl g1 g2 g3 g4 g5 (dW rt la rs rg pd du ds me tt gr su gp mk rf m1 m2 m3 m4 m5 mr mf n1 n2 n3 n4 n5 nr nf E)) = some (some (iv (bcF (cOt b5 b6 (oOr re (oShl 1 i)) (b5 (Int.toNat i)).toInt mb.toNat))), (cW ki ln bt rl cp cs ct cv 14 5 ja ea ma a1 a2 a3 a4 a5 a6 a7 a8 jb eb mb b1 b2 b3 b4 b5 b6 b7 b8 (oOr re (oShl 1 i)) fl g1 g2 (cLO (cOt b5 b6 (oOr re (oShl 1 i)) (b5 (Int.toNat i)).toInt mb.toNat) ((g3 (Int.toNat i)).toInt / (bcF (cOt b5 b6 (oOr re (oShl 1 i)) (b5 (Int.toNat i)).toInt mb.toNat) + 1)) g3 16) g4 g5 (dW rt la rs rg pd du ds me tt gr su gp mk rf m1 m2 m3 m4 m5 mr mf n1 n2 n3 n4 n5 nr nf E))) := by
  have main : ∀ Q : mm_R → Prop, Q (some (iv (bcF (cOt b5 b6 (oOr re (oShl 1 i)) (b5 (Int.toNat i)).toInt mb.toNat))), (cW ki ln bt rl cp cs ct cv 14 5 ja ea ma a1 a2 a3 a4 a5 a6 a7 a8 jb eb mb b1 b2 b3 b4 b5 b6 b7 b8 (oOr re (oShl 1 i)) fl g1 g2 (cLO (cOt b5 b6 (oOr re (oShl 1 i)) (b5 (Int.toNat i)).toInt mb.toNat) ((g3 (Int.toNat i)).toInt / (bcF (cOt b5 b6 (oOr re (oShl 1 i)) (b5 (Int.toNat i)).toInt mb.toNat) + 1)) g3 16) g4 g5 (dW rt la rs rg pd du ds me tt gr su gp mk rf m1 m2 m3 m4 m5 mr mf n1 n2 n3 n4 n5 nr nf E))) → rn_X2_letGo (50 + 60 * 16 + 60 + 100) (0, [(0, .ref 29), (1, iv (i)), (2, iv (1))], [], (cW ki ln bt rl cp cs ct cv 14 5 ja ea ma a1 a2 a3 a4 a5 a6 a7 a8 jb eb mb b1 b2 b3 b4 b5 b6 b7 b8 re fl g1 g2 g3 g4 g5 (dW rt la rs rg pd du ds me tt gr su gp mk rf m1 m2 m3 m4 m5 mr mf n1 n2 n3 n4 n5 nr nf E))) Q := by
    intro Q hQ
    refine r_al rfl rfl ?_
    refine r_gf rfl rfl xg_29 rfl ?_
    refine r_gf rfl rfl xg_4 rfl ?_
    refine r_as (lv' := [(3, _), (0, _), (1, _), (2, _)]) rfl rfl rfl ?_
    refine r_al rfl rfl ?_
    refine r_dup rfl rfl ?_
    refine r_gf rfl rfl xg_23 rfl ?_
    refine r_ic rfl ?_
    refine r_il rfl rfl ?_
    refine r_shl rfl ?_
    refine r_or rfl ?_
    refine r_pf rfl rfl xg_23 rfl xp_re ?_
    refine r_il rfl rfl ?_
    refine r_zne rfl rfl (by decide) (fun u1 => ?_) (fun u1 => ?_)
    · refine r_al rfl rfl ?_
      refine r_al rfl rfl ?_
      refine r_gf rfl rfl xg_29 rfl ?_
      refine r_gf rfl rfl xg_4 rfl ?_
      refine r_gf rfl rfl xg_14 rfl ?_
      refine r_il rfl rfl ?_
      refine r_ia rfl xg_19 (by omega) (by omega) (by decide) ?_
      refine r_v2s rfl rfl xg_29 rfl (c_stWh1 hn (as_r _)) ?_
      refine r_isw (lv' := [(4, _), (3, _), (0, _), (1, _), (2, _)]) rfl rfl rfl ?_
      refine r_ilw rfl rfl ?_
      refine r_s1s rfl rfl rfl c_bitCount ?_
      refine r_isw (lv' := [(5, _), (4, _), (3, _), (0, _), (1, _), (2, _)]) rfl rfl rfl ?_
      refine r_il rfl rfl ?_
      refine r_ic rfl ?_
      refine r_cne rfl rfl (by decide) (by decide) (fun u2 => ?_) (fun u2 => ?_)
      · refine r_al rfl rfl ?_
        refine r_gf rfl rfl xg_23 rfl ?_
        refine r_il rfl rfl ?_
        refine r_ia rfl xg_26 (by omega) (by omega) (by decide) ?_
        refine r_ilw rfl rfl ?_
        refine r_ic rfl ?_
        refine r_add rfl ?_
        refine r_div rfl (by omega) (by omega) ?_
        refine r_isw (lv' := [(6, _), (5, _), (4, _), (3, _), (0, _), (1, _), (2, _)]) rfl rfl rfl ?_
        refine r_ic rfl ?_
        refine r_isw (lv' := [(7, _), (6, _), (5, _), (4, _), (3, _), (0, _), (1, _), (2, _)]) rfl rfl rfl ?_
        refine rn_LE (a := [(7, iv (0)), (4, iv (cOt b5 b6 (oOr re (oShl 1 i)) (b5 (Int.toNat i)).toInt mb.toNat)), (5, iv (bcF (cOt b5 b6 (oOr re (oShl 1 i)) (b5 (Int.toNat i)).toInt mb.toNat))), (6, iv (((g3 (Int.toNat (i))).toInt) / ((bcF (cOt b5 b6 (oOr re (oShl 1 i)) (b5 (Int.toNat i)).toInt mb.toNat)) + (1)))), (3, .ref 23), (0, .ref 29), (1, iv (i)), (2, iv (1))]) ⟨(List.forall_mem_cons.mpr ⟨List.mem_cons_self, (List.forall_mem_cons.mpr ⟨(List.mem_cons_of_mem _ (List.mem_cons_of_mem _ (List.mem_cons_of_mem _ List.mem_cons_self))), (List.forall_mem_cons.mpr ⟨(List.mem_cons_of_mem _ (List.mem_cons_of_mem _ List.mem_cons_self)), (List.forall_mem_cons.mpr ⟨(List.mem_cons_of_mem _ List.mem_cons_self), (List.forall_mem_cons.mpr ⟨(List.mem_cons_of_mem _ (List.mem_cons_of_mem _ (List.mem_cons_of_mem _ (List.mem_cons_of_mem _ List.mem_cons_self)))), (List.forall_mem_cons.mpr ⟨(List.mem_cons_of_mem _ (List.mem_cons_of_mem _ (List.mem_cons_of_mem _ (List.mem_cons_of_mem _ (List.mem_cons_of_mem _ List.mem_cons_self))))), (List.forall_mem_cons.mpr ⟨(List.mem_cons_of_mem _ (List.mem_cons_of_mem _ (List.mem_cons_of_mem _ (List.mem_cons_of_mem _ (List.mem_cons_of_mem _ (List.mem_cons_of_mem _ List.mem_cons_self)))))), (List.forall_mem_cons.mpr ⟨(List.mem_cons_of_mem _ (List.mem_cons_of_mem _ (List.mem_cons_of_mem _ (List.mem_cons_of_mem _ (List.mem_cons_of_mem _ (List.mem_cons_of_mem _ (List.mem_cons_of_mem _ List.mem_cons_self))))))), (fun _ h => absurd h List.not_mem_nil)⟩)⟩)⟩)⟩)⟩)⟩)⟩)⟩), (by show List.Nodup [7, 4, 5, 6, 3, 0, 1, 2]; decide), (by show List.Nodup [7, 6, 5, 4, 3, 0, 1, 2]; decide)⟩ ?_
        refine rn_up (N := 50 + 60 * 16 + 60) (by decide) (letGo_lp1 (N := 50) (re := (oOr re (oShl 1 i))) ?_ 16 0 rfl)
        refine r_ilw rfl rfl ?_
        exact r_ret rfl rfl hQ
      · exact absurd u2 (by decide)
    · exact absurd u1 (by decide)
  obtain ⟨r, h1, h2⟩ := rn_S (vs := [.ref 29, iv (i), iv (1)]) (Q := fun r => r = (some (iv (bcF (cOt b5 b6 (oOr re (oShl 1 i)) (b5 (Int.toNat i)).toInt mb.toNat))), (cW ki ln bt rl cp cs ct cv 14 5 ja ea ma a1 a2 a3 a4 a5 a6 a7 a8 jb eb mb b1 b2 b3 b4 b5 b6 b7 b8 (oOr re (oShl 1 i)) fl g1 g2 (cLO (cOt b5 b6 (oOr re (oShl 1 i)) (b5 (Int.toNat i)).toInt mb.toNat) ((g3 (Int.toNat i)).toInt / (bcF (cOt b5 b6 (oOr re (oShl 1 i)) (b5 (Int.toNat i)).toInt mb.toNat) + 1)) g3 16) g4 g5 (dW rt la rs rg pd du ds me tt gr su gp mk rf m1 m2 m3 m4 m5 mr mf n1 n2 n3 n4 n5 nr nf E)))) rfl (rn_up (N := 50 + 60 * 16 + 60 + 100) (M := mm_fuel) (by decide) (main (fun r => r = (some (iv (bcF (cOt b5 b6 (oOr re (oShl 1 i)) (b5 (Int.toNat i)).toInt mb.toNat))), (cW ki ln bt rl cp cs ct cv 14 5 ja ea ma a1 a2 a3 a4 a5 a6 a7 a8 jb eb mb b1 b2 b3 b4 b5 b6 b7 b8 (oOr re (oShl 1 i)) fl g1 g2 (cLO (cOt b5 b6 (oOr re (oShl 1 i)) (b5 (Int.toNat i)).toInt mb.toNat) ((g3 (Int.toNat i)).toInt / (bcF (cOt b5 b6 (oOr re (oShl 1 i)) (b5 (Int.toNat i)).toInt mb.toNat) + 1)) g3 16) g4 g5 (dW rt la rs rg pd du ds me tt gr su gp mk rf m1 m2 m3 m4 m5 mr mf n1 n2 n3 n4 n5 nr nf E)))) rfl))
  have h1 : sX2_letGo [.ref 29, iv (i), iv (1)] (cW ki ln bt rl cp cs ct cv 14 5 ja ea ma a1 a2 a3 a4 a5 a6 a7 a8 jb eb mb b1 b2 b3 b4 b5 b6 b7 b8 re fl g1 g2 g3 g4 g5 (dW rt la rs rg pd du ds me tt gr su gp mk rf m1 m2 m3 m4 m5 mr mf n1 n2 n3 n4 n5 nr nf E)) = some r := h1
  rw [h1, h2]
theorem c_relCB1 (hi : -2147483648 ≤ i ∧ i ≤ 2147483647) (hl : -2147483648 ≤ law ∧ law ≤ 2147483647) (hn : 0 ≤ mb ∧ mb ≤ 16) (hb : (i3 i 0 (mb - 1) && i3 law 0 2) = false) : sX11_release [.ref 0, iv (i), iv (law)] (cW ki ln bt rl cp cs ct cv 14 5 ja ea ma a1 a2 a3 a4 a5 a6 a7 a8 jb eb mb b1 b2 b3 b4 b5 b6 b7 b8 re fl g1 g2 g3 g4 g5 (dW rt la rs rg pd du ds me tt gr su gp mk rf m1 m2 m3 m4 m5 mr mf n1 n2 n3 n4 n5 nr nf E)) = some (some (iv (-1)), (cW ki ln bt rl cp cs ct cv 14 5 ja ea ma a1 a2 a3 a4 a5 a6 a7 a8 jb eb mb b1 b2 b3 b4 b5 b6 b7 b8 re fl g1 g2 g3 g4 g5 (dW rt la rs rg pd du ds me tt gr su gp mk rf m1 m2 m3 m4 m5 mr mf n1 n2 n3 n4 n5 nr nf E))) := by
  have main : ∀ Q : mm_R → Prop, Q (some (iv (-1)), (cW ki ln bt rl cp cs ct cv 14 5 ja ea ma a1 a2 a3 a4 a5 a6 a7 a8 jb eb mb b1 b2 b3 b4 b5 b6 b7 b8 re fl g1 g2 g3 g4 g5 (dW rt la rs rg pd du ds me tt gr su gp mk rf m1 m2 m3 m4 m5 mr mf n1 n2 n3 n4 n5 nr nf E))) → rn_X11_release (1000) (0, [(0, .ref 0), (1, iv (i)), (2, iv (law))], [], (cW ki ln bt rl cp cs ct cv 14 5 ja ea ma a1 a2 a3 a4 a5 a6 a7 a8 jb eb mb b1 b2 b3 b4 b5 b6 b7 b8 re fl g1 g2 g3 g4 g5 (dW rt la rs rg pd du ds me tt gr su gp mk rf m1 m2 m3 m4 m5 mr mf n1 n2 n3 n4 n5 nr nf E))) Q := by
    intro Q hQ
    refine r_al rfl rfl ?_
    refine r_gf rfl rfl xg_0 rfl ?_
    refine r_il rfl rfl ?_
    refine r_v2s rfl rfl xg_4 rfl (c_isStandC1 hi hn) ?_
    refine r_zeq rfl rfl (bi_r _) (fun u1 => ?_) (fun u1 => ?_)
    · refine r_ic rfl ?_
      exact r_ret rfl rfl hQ
    · refine r_il rfl rfl ?_
      refine r_zlt rfl rfl (by omega) (fun u2 => ?_) (fun u2 => ?_)
      · refine r_ic rfl ?_
        exact r_ret rfl rfl hQ
      · refine r_il rfl rfl ?_
        refine r_ic rfl ?_
        refine r_cle rfl rfl (by omega) (by omega) (fun u3 => ?_) (fun u3 => ?_)
        · have e : i3 law 0 2 = true := by simp [i3]; omega
          rw [bi_1 u1, e] at hb
          cases hb
        · refine r_ic rfl ?_
          exact r_ret rfl rfl hQ
  obtain ⟨r, h1, h2⟩ := rn_S (vs := [.ref 0, iv (i), iv (law)]) (Q := fun r => r = (some (iv (-1)), (cW ki ln bt rl cp cs ct cv 14 5 ja ea ma a1 a2 a3 a4 a5 a6 a7 a8 jb eb mb b1 b2 b3 b4 b5 b6 b7 b8 re fl g1 g2 g3 g4 g5 (dW rt la rs rg pd du ds me tt gr su gp mk rf m1 m2 m3 m4 m5 mr mf n1 n2 n3 n4 n5 nr nf E)))) rfl (rn_up (N := 1000) (M := mm_fuel) (by decide) (main (fun r => r = (some (iv (-1)), (cW ki ln bt rl cp cs ct cv 14 5 ja ea ma a1 a2 a3 a4 a5 a6 a7 a8 jb eb mb b1 b2 b3 b4 b5 b6 b7 b8 re fl g1 g2 g3 g4 g5 (dW rt la rs rg pd du ds me tt gr su gp mk rf m1 m2 m3 m4 m5 mr mf n1 n2 n3 n4 n5 nr nf E)))) rfl))
  have h1 : sX11_release [.ref 0, iv (i), iv (law)] (cW ki ln bt rl cp cs ct cv 14 5 ja ea ma a1 a2 a3 a4 a5 a6 a7 a8 jb eb mb b1 b2 b3 b4 b5 b6 b7 b8 re fl g1 g2 g3 g4 g5 (dW rt la rs rg pd du ds me tt gr su gp mk rf m1 m2 m3 m4 m5 mr mf n1 n2 n3 n4 n5 nr nf E)) = some r := h1
  rw [h1, h2]
theorem c_relCS1 (hi : -2147483648 ≤ i ∧ i ≤ 2147483647) (hn : 0 ≤ mb ∧ mb ≤ 16) (h1 : i3 i 0 (mb - 1) = true) (hr : zb (Int32.ofInt re) i.toNat = true) (h2 : 0 ≤ law ∧ law ≤ 2) : sX11_release [.ref 0, iv (i), iv (law)] (cW ki ln bt rl cp cs ct cv 14 5 ja ea ma a1 a2 a3 a4 a5 a6 a7 a8 jb eb mb b1 b2 b3 b4 b5 b6 b7 b8 re fl g1 g2 g3 g4 g5 (dW rt la rs rg pd du ds me tt gr su gp mk rf m1 m2 m3 m4 m5 mr mf n1 n2 n3 n4 n5 nr nf E)) = some (some (iv (-2)), (cW ki ln bt rl cp cs ct cv 14 5 ja ea ma a1 a2 a3 a4 a5 a6 a7 a8 jb eb mb b1 b2 b3 b4 b5 b6 b7 b8 re fl g1 g2 g3 g4 g5 (dW rt la rs rg pd du ds me tt gr su gp mk rf m1 m2 m3 m4 m5 mr mf n1 n2 n3 n4 n5 nr nf E))) := by
  have main : ∀ Q : mm_R → Prop, Q (some (iv (-2)), (cW ki ln bt rl cp cs ct cv 14 5 ja ea ma a1 a2 a3 a4 a5 a6 a7 a8 jb eb mb b1 b2 b3 b4 b5 b6 b7 b8 re fl g1 g2 g3 g4 g5 (dW rt la rs rg pd du ds me tt gr su gp mk rf m1 m2 m3 m4 m5 mr mf n1 n2 n3 n4 n5 nr nf E))) → rn_X11_release (1500) (0, [(0, .ref 0), (1, iv (i)), (2, iv (law))], [], (cW ki ln bt rl cp cs ct cv 14 5 ja ea ma a1 a2 a3 a4 a5 a6 a7 a8 jb eb mb b1 b2 b3 b4 b5 b6 b7 b8 re fl g1 g2 g3 g4 g5 (dW rt la rs rg pd du ds me tt gr su gp mk rf m1 m2 m3 m4 m5 mr mf n1 n2 n3 n4 n5 nr nf E))) Q := by
    intro Q hQ
    have ri := i3_t h1
    refine r_al rfl rfl ?_
    refine r_gf rfl rfl xg_0 rfl ?_
    refine r_il rfl rfl ?_
    refine r_v2s rfl rfl xg_4 rfl (c_isStandC1 hi hn) ?_
    rw [h1]
    refine r_zeq rfl rfl (bi_r _) (fun u1 => ?_) (fun u1 => ?_)
    · exact absurd u1 (by decide)
    · refine r_il rfl rfl ?_
      refine r_zlt rfl rfl (by omega) (fun u2 => ?_) (fun u2 => ?_)
      · omega
      · refine r_il rfl rfl ?_
        refine r_ic rfl ?_
        refine r_cle rfl rfl (by omega) (by decide) (fun u3 => ?_) (fun u3 => ?_)
        · refine r_al rfl rfl ?_
          refine r_gf rfl rfl xg_0 rfl ?_
          refine r_il rfl rfl ?_
          refine r_v2s rfl rfl xg_4 rfl (c_isRelC1 (by omega)) ?_
          rw [hr]
          refine r_zeq rfl rfl (bi_r _) (fun u4 => ?_) (fun u4 => ?_)
          · exact absurd u4 (by decide)
          · refine r_bi rfl (by decide) ?_
            exact r_ret rfl rfl hQ
        · omega
  obtain ⟨r, h1, h2⟩ := rn_S (vs := [.ref 0, iv (i), iv (law)]) (Q := fun r => r = (some (iv (-2)), (cW ki ln bt rl cp cs ct cv 14 5 ja ea ma a1 a2 a3 a4 a5 a6 a7 a8 jb eb mb b1 b2 b3 b4 b5 b6 b7 b8 re fl g1 g2 g3 g4 g5 (dW rt la rs rg pd du ds me tt gr su gp mk rf m1 m2 m3 m4 m5 mr mf n1 n2 n3 n4 n5 nr nf E)))) rfl (rn_up (N := 1500) (M := mm_fuel) (by decide) (main (fun r => r = (some (iv (-2)), (cW ki ln bt rl cp cs ct cv 14 5 ja ea ma a1 a2 a3 a4 a5 a6 a7 a8 jb eb mb b1 b2 b3 b4 b5 b6 b7 b8 re fl g1 g2 g3 g4 g5 (dW rt la rs rg pd du ds me tt gr su gp mk rf m1 m2 m3 m4 m5 mr mf n1 n2 n3 n4 n5 nr nf E)))) rfl))
  have h1 : sX11_release [.ref 0, iv (i), iv (law)] (cW ki ln bt rl cp cs ct cv 14 5 ja ea ma a1 a2 a3 a4 a5 a6 a7 a8 jb eb mb b1 b2 b3 b4 b5 b6 b7 b8 re fl g1 g2 g3 g4 g5 (dW rt la rs rg pd du ds me tt gr su gp mk rf m1 m2 m3 m4 m5 mr mf n1 n2 n3 n4 n5 nr nf E)) = some r := h1
  rw [h1, h2]
theorem c_relCG1_0 (hi : -2147483648 ≤ i ∧ i ≤ 2147483647) (hn : 0 ≤ mb ∧ mb ≤ 16) (h1 : i3 i 0 (mb - 1) = true) (hr : zb (Int32.ofInt re) i.toNat = false)  : sX11_release [.ref 0, iv (i), iv (0)] (cW ki ln bt rl cp cs ct cv 14 5 ja ea ma a1 a2 a3 a4 a5 a6 a7 a8 jb eb mb b1 b2 b3 b4 b5 b6 b7 b8 re fl g1 g2 g3 g4 g5 (dW rt la rs rg pd du ds me tt gr su gp mk rf m1 m2 m3 m4 m5 mr mf n1 n2 n3 n4 n5 nr nf E)) = some (some (iv (0)), (cW ki ln bt rl cp cs ct cv 14 5 ja ea ma a1 a2 a3 a4 a5 a6 a7 a8 jb eb mb b1 b2 b3 b4 b5 b6 b7 b8 (oOr re (oShl 1 i)) fl g1 g2 g3 g4 g5 (dW rt la rs rg pd du ds me tt gr su gp mk rf m1 m2 m3 m4 m5 mr mf n1 n2 n3 n4 n5 nr nf E))) := by
  have main : ∀ Q : mm_R → Prop, Q (some (iv (0)), (cW ki ln bt rl cp cs ct cv 14 5 ja ea ma a1 a2 a3 a4 a5 a6 a7 a8 jb eb mb b1 b2 b3 b4 b5 b6 b7 b8 (oOr re (oShl 1 i)) fl g1 g2 g3 g4 g5 (dW rt la rs rg pd du ds me tt gr su gp mk rf m1 m2 m3 m4 m5 mr mf n1 n2 n3 n4 n5 nr nf E))) → rn_X11_release (1500) (0, [(0, .ref 0), (1, iv (i)), (2, iv (0))], [], (cW ki ln bt rl cp cs ct cv 14 5 ja ea ma a1 a2 a3 a4 a5 a6 a7 a8 jb eb mb b1 b2 b3 b4 b5 b6 b7 b8 re fl g1 g2 g3 g4 g5 (dW rt la rs rg pd du ds me tt gr su gp mk rf m1 m2 m3 m4 m5 mr mf n1 n2 n3 n4 n5 nr nf E))) Q := by
    intro Q hQ
    have ri := i3_t h1
    refine r_al rfl rfl ?_
    refine r_gf rfl rfl xg_0 rfl ?_
    refine r_il rfl rfl ?_
    refine r_v2s rfl rfl xg_4 rfl (c_isStandC1 hi hn) ?_
    rw [h1]
    refine r_zeq rfl rfl (bi_r _) (fun u1 => ?_) (fun u1 => ?_)
    · exact absurd u1 (by decide)
    · refine r_il rfl rfl ?_
      refine r_zlt rfl rfl (by decide) (fun u2 => ?_) (fun u2 => ?_)
      · exact absurd u2 (by decide)
      · refine r_il rfl rfl ?_
        refine r_ic rfl ?_
        refine r_cle rfl rfl (by decide) (by decide) (fun u3 => ?_) (fun u3 => ?_)
        · refine r_al rfl rfl ?_
          refine r_gf rfl rfl xg_0 rfl ?_
          refine r_il rfl rfl ?_
          refine r_v2s rfl rfl xg_4 rfl (c_isRelC1 (by omega)) ?_
          rw [hr]
          refine r_zeq rfl rfl (bi_r _) (fun u4 => ?_) (fun u4 => ?_)
          · refine r_al rfl rfl ?_
            refine r_gf rfl rfl xg_0 rfl ?_
            refine r_il rfl rfl ?_
            refine r_il rfl rfl ?_
            refine r_v3s rfl rfl xg_29 rfl (c_letGo1_0 (by omega) hn) ?_
            exact r_ret rfl rfl hQ
          · exact absurd rfl u4
        · exact absurd u3 (by decide)
  obtain ⟨r, h1, h2⟩ := rn_S (vs := [.ref 0, iv (i), iv (0)]) (Q := fun r => r = (some (iv (0)), (cW ki ln bt rl cp cs ct cv 14 5 ja ea ma a1 a2 a3 a4 a5 a6 a7 a8 jb eb mb b1 b2 b3 b4 b5 b6 b7 b8 (oOr re (oShl 1 i)) fl g1 g2 g3 g4 g5 (dW rt la rs rg pd du ds me tt gr su gp mk rf m1 m2 m3 m4 m5 mr mf n1 n2 n3 n4 n5 nr nf E)))) rfl (rn_up (N := 1500) (M := mm_fuel) (by decide) (main (fun r => r = (some (iv (0)), (cW ki ln bt rl cp cs ct cv 14 5 ja ea ma a1 a2 a3 a4 a5 a6 a7 a8 jb eb mb b1 b2 b3 b4 b5 b6 b7 b8 (oOr re (oShl 1 i)) fl g1 g2 g3 g4 g5 (dW rt la rs rg pd du ds me tt gr su gp mk rf m1 m2 m3 m4 m5 mr mf n1 n2 n3 n4 n5 nr nf E)))) rfl))
  have h1 : sX11_release [.ref 0, iv (i), iv (0)] (cW ki ln bt rl cp cs ct cv 14 5 ja ea ma a1 a2 a3 a4 a5 a6 a7 a8 jb eb mb b1 b2 b3 b4 b5 b6 b7 b8 re fl g1 g2 g3 g4 g5 (dW rt la rs rg pd du ds me tt gr su gp mk rf m1 m2 m3 m4 m5 mr mf n1 n2 n3 n4 n5 nr nf E)) = some r := h1
  rw [h1, h2]
theorem c_relCG1_1 (hi : -2147483648 ≤ i ∧ i ≤ 2147483647) (hn : 0 ≤ mb ∧ mb ≤ 16) (h1 : i3 i 0 (mb - 1) = true) (hr : zb (Int32.ofInt re) i.toNat = false) (hL : 0 ≤ (g3 (Int.toNat i)).toInt ∧ (g3 (Int.toNat i)).toInt ≤ 999) (hB : 0 ≤ bcF (cOt b5 b6 (oOr re (oShl 1 i)) (b5 (Int.toNat i)).toInt mb.toNat) ∧ bcF (cOt b5 b6 (oOr re (oShl 1 i)) (b5 (Int.toNat i)).toInt mb.toNat) ≤ 16) : sX11_release [.ref 0, iv (i), iv (1)] (cW ki ln bt rl cp cs ct cv 14 5 ja ea ma a1 a2 a3 a4 a5 a6 a7 a8 jb eb mb b1 b2 b3 b4 b5 b6 b7 b8 re fl g1 g2 g3 g4 g5 (dW rt la rs rg pd du ds me tt gr su gp mk rf m1 m2 m3 m4 m5 mr mf n1 n2 n3 n4 n5 nr nf E)) = some (some (iv (bcF (cOt b5 b6 (oOr re (oShl 1 i)) (b5 (Int.toNat i)).toInt mb.toNat))), (cW ki ln bt rl cp cs ct cv 14 5 ja ea ma a1 a2 a3 a4 a5 a6 a7 a8 jb eb mb b1 b2 b3 b4 b5 b6 b7 b8 (oOr re (oShl 1 i)) fl g1 g2 (cLO (cOt b5 b6 (oOr re (oShl 1 i)) (b5 (Int.toNat i)).toInt mb.toNat) ((g3 (Int.toNat i)).toInt / (bcF (cOt b5 b6 (oOr re (oShl 1 i)) (b5 (Int.toNat i)).toInt mb.toNat) + 1)) g3 16) g4 g5 (dW rt la rs rg pd du ds me tt gr su gp mk rf m1 m2 m3 m4 m5 mr mf n1 n2 n3 n4 n5 nr nf E))) := by
  have main : ∀ Q : mm_R → Prop, Q (some (iv (bcF (cOt b5 b6 (oOr re (oShl 1 i)) (b5 (Int.toNat i)).toInt mb.toNat))), (cW ki ln bt rl cp cs ct cv 14 5 ja ea ma a1 a2 a3 a4 a5 a6 a7 a8 jb eb mb b1 b2 b3 b4 b5 b6 b7 b8 (oOr re (oShl 1 i)) fl g1 g2 (cLO (cOt b5 b6 (oOr re (oShl 1 i)) (b5 (Int.toNat i)).toInt mb.toNat) ((g3 (Int.toNat i)).toInt / (bcF (cOt b5 b6 (oOr re (oShl 1 i)) (b5 (Int.toNat i)).toInt mb.toNat) + 1)) g3 16) g4 g5 (dW rt la rs rg pd du ds me tt gr su gp mk rf m1 m2 m3 m4 m5 mr mf n1 n2 n3 n4 n5 nr nf E))) → rn_X11_release (1500) (0, [(0, .ref 0), (1, iv (i)), (2, iv (1))], [], (cW ki ln bt rl cp cs ct cv 14 5 ja ea ma a1 a2 a3 a4 a5 a6 a7 a8 jb eb mb b1 b2 b3 b4 b5 b6 b7 b8 re fl g1 g2 g3 g4 g5 (dW rt la rs rg pd du ds me tt gr su gp mk rf m1 m2 m3 m4 m5 mr mf n1 n2 n3 n4 n5 nr nf E))) Q := by
    intro Q hQ
    have ri := i3_t h1
    refine r_al rfl rfl ?_
    refine r_gf rfl rfl xg_0 rfl ?_
    refine r_il rfl rfl ?_
    refine r_v2s rfl rfl xg_4 rfl (c_isStandC1 hi hn) ?_
    rw [h1]
    refine r_zeq rfl rfl (bi_r _) (fun u1 => ?_) (fun u1 => ?_)
    · exact absurd u1 (by decide)
    · refine r_il rfl rfl ?_
      refine r_zlt rfl rfl (by decide) (fun u2 => ?_) (fun u2 => ?_)
      · exact absurd u2 (by decide)
      · refine r_il rfl rfl ?_
        refine r_ic rfl ?_
        refine r_cle rfl rfl (by decide) (by decide) (fun u3 => ?_) (fun u3 => ?_)
        · refine r_al rfl rfl ?_
          refine r_gf rfl rfl xg_0 rfl ?_
          refine r_il rfl rfl ?_
          refine r_v2s rfl rfl xg_4 rfl (c_isRelC1 (by omega)) ?_
          rw [hr]
          refine r_zeq rfl rfl (bi_r _) (fun u4 => ?_) (fun u4 => ?_)
          · refine r_al rfl rfl ?_
            refine r_gf rfl rfl xg_0 rfl ?_
            refine r_il rfl rfl ?_
            refine r_il rfl rfl ?_
            refine r_v3s rfl rfl xg_29 rfl (c_letGo1_1 (by omega) hn hL hB) ?_
            exact r_ret rfl rfl hQ
          · exact absurd rfl u4
        · exact absurd u3 (by decide)
  obtain ⟨r, h1, h2⟩ := rn_S (vs := [.ref 0, iv (i), iv (1)]) (Q := fun r => r = (some (iv (bcF (cOt b5 b6 (oOr re (oShl 1 i)) (b5 (Int.toNat i)).toInt mb.toNat))), (cW ki ln bt rl cp cs ct cv 14 5 ja ea ma a1 a2 a3 a4 a5 a6 a7 a8 jb eb mb b1 b2 b3 b4 b5 b6 b7 b8 (oOr re (oShl 1 i)) fl g1 g2 (cLO (cOt b5 b6 (oOr re (oShl 1 i)) (b5 (Int.toNat i)).toInt mb.toNat) ((g3 (Int.toNat i)).toInt / (bcF (cOt b5 b6 (oOr re (oShl 1 i)) (b5 (Int.toNat i)).toInt mb.toNat) + 1)) g3 16) g4 g5 (dW rt la rs rg pd du ds me tt gr su gp mk rf m1 m2 m3 m4 m5 mr mf n1 n2 n3 n4 n5 nr nf E)))) rfl (rn_up (N := 1500) (M := mm_fuel) (by decide) (main (fun r => r = (some (iv (bcF (cOt b5 b6 (oOr re (oShl 1 i)) (b5 (Int.toNat i)).toInt mb.toNat))), (cW ki ln bt rl cp cs ct cv 14 5 ja ea ma a1 a2 a3 a4 a5 a6 a7 a8 jb eb mb b1 b2 b3 b4 b5 b6 b7 b8 (oOr re (oShl 1 i)) fl g1 g2 (cLO (cOt b5 b6 (oOr re (oShl 1 i)) (b5 (Int.toNat i)).toInt mb.toNat) ((g3 (Int.toNat i)).toInt / (bcF (cOt b5 b6 (oOr re (oShl 1 i)) (b5 (Int.toNat i)).toInt mb.toNat) + 1)) g3 16) g4 g5 (dW rt la rs rg pd du ds me tt gr su gp mk rf m1 m2 m3 m4 m5 mr mf n1 n2 n3 n4 n5 nr nf E)))) rfl))
  have h1 : sX11_release [.ref 0, iv (i), iv (1)] (cW ki ln bt rl cp cs ct cv 14 5 ja ea ma a1 a2 a3 a4 a5 a6 a7 a8 jb eb mb b1 b2 b3 b4 b5 b6 b7 b8 re fl g1 g2 g3 g4 g5 (dW rt la rs rg pd du ds me tt gr su gp mk rf m1 m2 m3 m4 m5 mr mf n1 n2 n3 n4 n5 nr nf E)) = some r := h1
  rw [h1, h2]
theorem c_relCG1_2 (hi : -2147483648 ≤ i ∧ i ≤ 2147483647) (hn : 0 ≤ mb ∧ mb ≤ 16) (h1 : i3 i 0 (mb - 1) = true) (hr : zb (Int32.ofInt re) i.toNat = false)  : sX11_release [.ref 0, iv (i), iv (2)] (cW ki ln bt rl cp cs ct cv 14 5 ja ea ma a1 a2 a3 a4 a5 a6 a7 a8 jb eb mb b1 b2 b3 b4 b5 b6 b7 b8 re fl g1 g2 g3 g4 g5 (dW rt la rs rg pd du ds me tt gr su gp mk rf m1 m2 m3 m4 m5 mr mf n1 n2 n3 n4 n5 nr nf E)) = some (some (iv (bcF (cOt b5 b6 (oOr re (oShl 1 i)) (b5 (Int.toNat i)).toInt mb.toNat))), (cW ki ln bt rl cp cs ct cv 14 5 ja ea ma a1 a2 a3 a4 a5 a6 a7 a8 jb eb mb b1 b2 b3 b4 b5 b6 b7 b8 (oOr (oOr re (oShl 1 i)) (cOt b5 b6 (oOr re (oShl 1 i)) (b5 (Int.toNat i)).toInt mb.toNat)) fl g1 g2 g3 g4 g5 (dW rt la rs rg pd du ds me tt gr su gp mk rf m1 m2 m3 m4 m5 mr mf n1 n2 n3 n4 n5 nr nf E))) := by
  have main : ∀ Q : mm_R → Prop, Q (some (iv (bcF (cOt b5 b6 (oOr re (oShl 1 i)) (b5 (Int.toNat i)).toInt mb.toNat))), (cW ki ln bt rl cp cs ct cv 14 5 ja ea ma a1 a2 a3 a4 a5 a6 a7 a8 jb eb mb b1 b2 b3 b4 b5 b6 b7 b8 (oOr (oOr re (oShl 1 i)) (cOt b5 b6 (oOr re (oShl 1 i)) (b5 (Int.toNat i)).toInt mb.toNat)) fl g1 g2 g3 g4 g5 (dW rt la rs rg pd du ds me tt gr su gp mk rf m1 m2 m3 m4 m5 mr mf n1 n2 n3 n4 n5 nr nf E))) → rn_X11_release (1500) (0, [(0, .ref 0), (1, iv (i)), (2, iv (2))], [], (cW ki ln bt rl cp cs ct cv 14 5 ja ea ma a1 a2 a3 a4 a5 a6 a7 a8 jb eb mb b1 b2 b3 b4 b5 b6 b7 b8 re fl g1 g2 g3 g4 g5 (dW rt la rs rg pd du ds me tt gr su gp mk rf m1 m2 m3 m4 m5 mr mf n1 n2 n3 n4 n5 nr nf E))) Q := by
    intro Q hQ
    have ri := i3_t h1
    refine r_al rfl rfl ?_
    refine r_gf rfl rfl xg_0 rfl ?_
    refine r_il rfl rfl ?_
    refine r_v2s rfl rfl xg_4 rfl (c_isStandC1 hi hn) ?_
    rw [h1]
    refine r_zeq rfl rfl (bi_r _) (fun u1 => ?_) (fun u1 => ?_)
    · exact absurd u1 (by decide)
    · refine r_il rfl rfl ?_
      refine r_zlt rfl rfl (by decide) (fun u2 => ?_) (fun u2 => ?_)
      · exact absurd u2 (by decide)
      · refine r_il rfl rfl ?_
        refine r_ic rfl ?_
        refine r_cle rfl rfl (by decide) (by decide) (fun u3 => ?_) (fun u3 => ?_)
        · refine r_al rfl rfl ?_
          refine r_gf rfl rfl xg_0 rfl ?_
          refine r_il rfl rfl ?_
          refine r_v2s rfl rfl xg_4 rfl (c_isRelC1 (by omega)) ?_
          rw [hr]
          refine r_zeq rfl rfl (bi_r _) (fun u4 => ?_) (fun u4 => ?_)
          · refine r_al rfl rfl ?_
            refine r_gf rfl rfl xg_0 rfl ?_
            refine r_il rfl rfl ?_
            refine r_il rfl rfl ?_
            refine r_v3s rfl rfl xg_29 rfl (c_letGo1_2 (by omega) hn) ?_
            exact r_ret rfl rfl hQ
          · exact absurd rfl u4
        · exact absurd u3 (by decide)
  obtain ⟨r, h1, h2⟩ := rn_S (vs := [.ref 0, iv (i), iv (2)]) (Q := fun r => r = (some (iv (bcF (cOt b5 b6 (oOr re (oShl 1 i)) (b5 (Int.toNat i)).toInt mb.toNat))), (cW ki ln bt rl cp cs ct cv 14 5 ja ea ma a1 a2 a3 a4 a5 a6 a7 a8 jb eb mb b1 b2 b3 b4 b5 b6 b7 b8 (oOr (oOr re (oShl 1 i)) (cOt b5 b6 (oOr re (oShl 1 i)) (b5 (Int.toNat i)).toInt mb.toNat)) fl g1 g2 g3 g4 g5 (dW rt la rs rg pd du ds me tt gr su gp mk rf m1 m2 m3 m4 m5 mr mf n1 n2 n3 n4 n5 nr nf E)))) rfl (rn_up (N := 1500) (M := mm_fuel) (by decide) (main (fun r => r = (some (iv (bcF (cOt b5 b6 (oOr re (oShl 1 i)) (b5 (Int.toNat i)).toInt mb.toNat))), (cW ki ln bt rl cp cs ct cv 14 5 ja ea ma a1 a2 a3 a4 a5 a6 a7 a8 jb eb mb b1 b2 b3 b4 b5 b6 b7 b8 (oOr (oOr re (oShl 1 i)) (cOt b5 b6 (oOr re (oShl 1 i)) (b5 (Int.toNat i)).toInt mb.toNat)) fl g1 g2 g3 g4 g5 (dW rt la rs rg pd du ds me tt gr su gp mk rf m1 m2 m3 m4 m5 mr mf n1 n2 n3 n4 n5 nr nf E)))) rfl))
  have h1 : sX11_release [.ref 0, iv (i), iv (2)] (cW ki ln bt rl cp cs ct cv 14 5 ja ea ma a1 a2 a3 a4 a5 a6 a7 a8 jb eb mb b1 b2 b3 b4 b5 b6 b7 b8 re fl g1 g2 g3 g4 g5 (dW rt la rs rg pd du ds me tt gr su gp mk rf m1 m2 m3 m4 m5 mr mf n1 n2 n3 n4 n5 nr nf E)) = some r := h1
  rw [h1, h2]
end RC
