/-! ===== worth: both sides ===== -/
/-- the greatest that each may be asked: the class -/
def cGt (c3 c4 c5 c6 g1 g2 g3 gr : Nat → Int32) (re d : Int) : Nat → (Nat → Int32)
  | 0 => cpy 8 gr zz
  | j + 1 => bif decide ((c5 (Int.toNat (j : Int))).toInt = d) && !decide ((c6 (Int.toNat (j : Int))).toInt = 3) then upd (cGt c3 c4 c5 c6 g1 g2 g3 gr re d j) (Int.toNat (c4 (Int.toNat (j : Int))).toInt) (Int32.ofInt (mxI (cGt c3 c4 c5 c6 g1 g2 g3 gr re d j (Int.toNat (c4 (Int.toNat (j : Int))).toInt)).toInt (cLR c3 c5 g1 g2 g3 re (j : Int)))) else cGt c3 c4 c5 c6 g1 g2 g3 gr re d j
def cSm (gr : Nat → Int32) (x : Int) : Nat → Int
  | 0 => 0
  | j + 1 => bif zb (Int32.ofInt x) j then cSm gr x j else cSm gr x j + (gr (Int.toNat (j : Int))).toInt
def cWt (tt : Nat → Int32) (x : Int) : Nat → Int
  | 0 => 1
  | j + 1 => cWt tt x j * (bif zb (Int32.ofInt x) j then (tt (Int.toNat (j : Int))).toInt else 10 - (tt (Int.toNat (j : Int))).toInt)
def cPW (c1 c3 g1 gr : Nat → Int32) (d x : Int) : Bool := !zb (Int32.ofInt x) (Int.toNat (c1 (Int.toNat d)).toInt) || decide (cR c3 g1 d ≤ cSm gr x 8)
def cSr (c1 c3 g1 gr tt : Nat → Int32) (d : Int) : Nat → Int
  | 0 => 0
  | j + 1 => bif cPW c1 c3 g1 gr d (j : Int) then cSr c1 c3 g1 gr tt d j + cWt tt (j : Int) 8 else cSr c1 c3 g1 gr tt d j
theorem cSm_r {gr : Nat → Int32} {x : Int} (h : ∀ p : Nat, p < 8 → 0 ≤ (gr p).toInt ∧ (gr p).toInt ≤ 999) : ∀ j : Nat, j ≤ 8 → 0 ≤ cSm gr x j ∧ cSm gr x j ≤ 999 * (j : Int)
  | 0, _ => by show (0 : Int) ≤ 0 ∧ (0 : Int) ≤ 999 * 0; decide
  | j + 1, hj => by
    have := cSm_r (x := x) h j (by omega)
    have hg := h j (by omega)
    show 0 ≤ (bif zb (Int32.ofInt x) j then cSm gr x j else cSm gr x j + (gr j).toInt) ∧ (bif zb (Int32.ofInt x) j then cSm gr x j else cSm gr x j + (gr j).toInt) ≤ 999 * ((j + 1 : Nat) : Int)
    cases zb (Int32.ofInt x) j <;> simp only [cond_true, cond_false] <;> omega
section WC
variable {ki : Int} {ln : Int} {bt : Nat → Int32} {rl : Value} {cp : Int} {cs : Int} {ct : Int} {cv : Int} {rr : Nat} {dr : Nat} {ja : Int} {ea : Int} {ma : Int} {a1 : Nat → Int32} {a2 : Nat → Int32} {a3 : Nat → Int32} {a4 : Nat → Int32} {a5 : Nat → Int32} {a6 : Nat → Int32} {a7 : Nat → Int32} {a8 : Nat → Int32} {jb : Int} {eb : Int} {mb : Int} {b1 : Nat → Int32} {b2 : Nat → Int32} {b3 : Nat → Int32} {b4 : Nat → Int32} {b5 : Nat → Int32} {b6 : Nat → Int32} {b7 : Nat → Int32} {b8 : Nat → Int32} {re : Int} {fl : Int} {g1 : Nat → Int32} {g2 : Nat → Int32} {g3 : Nat → Int32} {g4 : Nat → Int32} {g5 : Nat → Int32} {rt : Int} {la : Int} {rs : Int} {rg : Int} {pd : Nat → Int32} {du : Nat → Int32} {ds : Nat → Int32} {me : Nat → Int32} {tt : Nat → Int32} {gr : Nat → Int32} {su : Nat → Int32} {gp : Nat → Int32} {mk : Int64} {rf : Nat → Option Nat} {m1 : Nat → Int32} {m2 : Nat → Int32} {m3 : Nat → Int32} {m4 : Nat → Int32} {m5 : Nat → Int32} {mr : Int} {mf : Int} {n1 : Nat → Int32} {n2 : Nat → Int32} {n3 : Nat → Int32} {n4 : Nat → Int32} {n5 : Nat → Int32} {nr : Int} {nf : Int} {E : List va_E} {d x : Int} {Q : mm_R → Prop} {N : Nat}
theorem flx_38 (k : rn_J7_fill_53178 N (20, [(2, iv (((8 : Nat) : Int))), (3, iv (((8 : Nat) : Int))), (0, .ref 38), (1, iv (0))], [], (cW ki ln bt rl cp cs ct cv rr dr ja ea ma a1 a2 a3 a4 a5 a6 a7 a8 jb eb mb b1 b2 b3 b4 b5 b6 b7 b8 re fl g1 g2 g3 g4 g5 (dW rt la rs rg pd du ds me tt (cpy 8 gr zz) su gp mk rf m1 m2 m3 m4 m5 mr mf n1 n2 n3 n4 n5 nr nf E))) Q) : ∀ (m j : Nat), j + m = 8 → rn_J7_fill_53178 (N + 20 * m + 20) (5, [(2, iv ((j : Int))), (3, iv (((8 : Nat) : Int))), (0, .ref 38), (1, iv (0))], [], (cW ki ln bt rl cp cs ct cv rr dr ja ea ma a1 a2 a3 a4 a5 a6 a7 a8 jb eb mb b1 b2 b3 b4 b5 b6 b7 b8 re fl g1 g2 g3 g4 g5 (dW rt la rs rg pd du ds me tt (cpy j gr zz) su gp mk rf m1 m2 m3 m4 m5 mr mf n1 n2 n3 n4 n5 nr nf E))) Q := by
  intro m
  induction m with
  | zero =>
    intro j hj
    have hj : j = 8 := by omega
    subst hj
    refine rn_up (N := N + 20) (by omega) ?_
    refine r_il rfl rfl ?_
    refine r_il rfl rfl ?_
    refine r_cge rfl rfl (by omega) (by omega) (fun u1 => ?_) (fun u1 => ?_)
    · exact rn_up (by omega) k
    · omega
  | succ m ih =>
    intro j hj
    refine rn_up (N := N + 20 * m + 20 + 20) (by omega) ?_
    refine r_il rfl rfl ?_
    refine r_il rfl rfl ?_
    refine r_cge rfl rfl (by omega) (by omega) (fun u1 => ?_) (fun u1 => ?_)
    · omega
    · refine r_al rfl rfl ?_
      refine r_il rfl rfl ?_
      refine r_il rfl rfl ?_
      refine r_ias rfl xg_38 (by omega) (by omega) (by decide) xs_38 ?_
      refine r_inc (lv' := [(2, _), (3, _), (0, _), (1, _)]) rfl rfl rfl rfl ?_
      refine r_goto rfl rfl ?_
      rw [show Int.toNat (j : Int) = j from rfl, cpy_s (show Int32.ofInt 0 = zz j from rfl)]
      exact rn_up (by omega) (ih (j + 1) (by omega))
theorem c_fillx38  : sJ7_fill_53178 [.ref 38, iv (0)] (cW ki ln bt rl cp cs ct cv rr dr ja ea ma a1 a2 a3 a4 a5 a6 a7 a8 jb eb mb b1 b2 b3 b4 b5 b6 b7 b8 re fl g1 g2 g3 g4 g5 (dW rt la rs rg pd du ds me tt gr su gp mk rf m1 m2 m3 m4 m5 mr mf n1 n2 n3 n4 n5 nr nf E)) = some (none, (cW ki ln bt rl cp cs ct cv rr dr ja ea ma a1 a2 a3 a4 a5 a6 a7 a8 jb eb mb b1 b2 b3 b4 b5 b6 b7 b8 re fl g1 g2 g3 g4 g5 (dW rt la rs rg pd du ds me tt (cpy 8 gr zz) su gp mk rf m1 m2 m3 m4 m5 mr mf n1 n2 n3 n4 n5 nr nf E))) := by
  have main : ∀ Q : mm_R → Prop, Q (none, (cW ki ln bt rl cp cs ct cv rr dr ja ea ma a1 a2 a3 a4 a5 a6 a7 a8 jb eb mb b1 b2 b3 b4 b5 b6 b7 b8 re fl g1 g2 g3 g4 g5 (dW rt la rs rg pd du ds me tt (cpy 8 gr zz) su gp mk rf m1 m2 m3 m4 m5 mr mf n1 n2 n3 n4 n5 nr nf E))) → rn_J7_fill_53178 (3000) (0, [(0, .ref 38), (1, iv (0))], [], (cW ki ln bt rl cp cs ct cv rr dr ja ea ma a1 a2 a3 a4 a5 a6 a7 a8 jb eb mb b1 b2 b3 b4 b5 b6 b7 b8 re fl g1 g2 g3 g4 g5 (dW rt la rs rg pd du ds me tt gr su gp mk rf m1 m2 m3 m4 m5 mr mf n1 n2 n3 n4 n5 nr nf E))) Q := by
    intro Q hQ
    refine r_ic rfl ?_
    refine r_is (lv' := [(2, _), (0, _), (1, _)]) rfl rfl rfl ?_
    refine r_al rfl rfl ?_
    refine r_al1 rfl xg_38 rfl ?_
    refine r_is (lv' := [(3, _), (2, _), (0, _), (1, _)]) rfl rfl rfl ?_
    rw [← cpy_0 gr zz]
    refine rn_up (N := 10 + 20 * 8 + 20) (by decide) (flx_38 ?_ 8 0 rfl)
    exact r_retv rfl rfl hQ
  obtain ⟨r, h1, h2⟩ := rn_S (vs := [.ref 38, iv (0)]) (Q := fun r => r = (none, (cW ki ln bt rl cp cs ct cv rr dr ja ea ma a1 a2 a3 a4 a5 a6 a7 a8 jb eb mb b1 b2 b3 b4 b5 b6 b7 b8 re fl g1 g2 g3 g4 g5 (dW rt la rs rg pd du ds me tt (cpy 8 gr zz) su gp mk rf m1 m2 m3 m4 m5 mr mf n1 n2 n3 n4 n5 nr nf E)))) rfl (rn_up (N := 3000) (M := mm_fuel) (by decide) (main (fun r => r = (none, (cW ki ln bt rl cp cs ct cv rr dr ja ea ma a1 a2 a3 a4 a5 a6 a7 a8 jb eb mb b1 b2 b3 b4 b5 b6 b7 b8 re fl g1 g2 g3 g4 g5 (dW rt la rs rg pd du ds me tt (cpy 8 gr zz) su gp mk rf m1 m2 m3 m4 m5 mr mf n1 n2 n3 n4 n5 nr nf E)))) rfl))
  have h1 : sJ7_fill_53178 [.ref 38, iv (0)] (cW ki ln bt rl cp cs ct cv rr dr ja ea ma a1 a2 a3 a4 a5 a6 a7 a8 jb eb mb b1 b2 b3 b4 b5 b6 b7 b8 re fl g1 g2 g3 g4 g5 (dW rt la rs rg pd du ds me tt gr su gp mk rf m1 m2 m3 m4 m5 mr mf n1 n2 n3 n4 n5 nr nf E)) = some r := h1
  rw [h1, h2]
abbrev rn_X1_findGreatest (N : Nat) (c : mm_C) (Q : mm_R → Prop) : Prop := rn (mm_gf gLX1) (mm_pf pLX1) (mm_mv vX1_findGreatest) (mm_mv zX1_findGreatest) (mm_kc kLX1) mm_gs0 mm_rf0 mm_ro none 5 (mm_ins iX1_findGreatest) N c Q
theorem fg_lp0 (hAd : ARd a1 a2 a3) (hAs : ARs a4 a5 a6 a7) {q : Nat} (hq : q ≤ 16) (hd : -2147483648 ≤ d ∧ d ≤ 2147483647) (k : rn_X1_findGreatest N (85, [(3, iv (((q : Nat) : Int))), (2, .ref 5), (0, .ref 36), (1, iv (d))], [], (cW ki ln bt rl cp cs ct cv 5 14 ja ea (q : Int) a1 a2 a3 a4 a5 a6 a7 a8 jb eb mb b1 b2 b3 b4 b5 b6 b7 b8 re fl g1 g2 g3 g4 g5 (dW rt la rs rg pd du ds me tt (cGt a3 a4 a5 a6 g1 g2 g3 gr re d q) su gp mk rf m1 m2 m3 m4 m5 mr mf n1 n2 n3 n4 n5 nr nf E))) Q) : ∀ (m j : Nat), j + m = q → rn_X1_findGreatest (N + 60 * m + 60) (18, [(3, iv ((j : Int))), (2, .ref 5), (0, .ref 36), (1, iv (d))], [], (cW ki ln bt rl cp cs ct cv 5 14 ja ea (q : Int) a1 a2 a3 a4 a5 a6 a7 a8 jb eb mb b1 b2 b3 b4 b5 b6 b7 b8 re fl g1 g2 g3 g4 g5 (dW rt la rs rg pd du ds me tt (cGt a3 a4 a5 a6 g1 g2 g3 gr re d j) su gp mk rf m1 m2 m3 m4 m5 mr mf n1 n2 n3 n4 n5 nr nf E))) Q := by
  intro m
  induction m with
  | zero =>
    intro j hj
    have hj : j = q := by omega
    subst hj
    refine rn_up (N := N + 60) (by omega) ?_
    refine r_il rfl rfl ?_
    refine r_al rfl rfl ?_
    refine r_gf rfl rfl xg_5 rfl ?_
    refine r_cge rfl rfl (by omega) (by omega) (fun u1 => ?_) (fun u1 => ?_)
    · exact rn_up (by omega) k
    · omega
  | succ m ih =>
    intro j hj
    obtain ⟨M, hM⟩ : ∃ M, M = N + 60 * m + 60 := ⟨_, rfl⟩
    rw [← hM] at ih
    refine rn_up (N := M + 60) (by omega) ?_
    refine r_il rfl rfl ?_
    refine r_al rfl rfl ?_
    refine r_gf rfl rfl xg_5 rfl ?_
    refine r_cge rfl rfl (by omega) (by omega) (fun u1 => ?_) (fun u1 => ?_)
    · omega
    · have hp := (ar4 hAs (show 0 ≤ (j : Int) ∧ (j : Int) ≤ 15 by omega)).1
      refine r_al rfl rfl ?_
      refine r_gf rfl rfl xg_5 rfl ?_
      refine r_il rfl rfl ?_
      refine r_ia rfl xg_10 (by omega) (by omega) (by decide) ?_
      refine r_il rfl rfl ?_
      refine r_cne rfl rfl (as_r _) hd (fun u2 => ?_) (fun u2 => ?_)
      · refine r_inc (lv' := [(3, _), (2, _), (0, _), (1, _)]) rfl rfl rfl rfl ?_
        refine r_goto rfl rfl ?_
        have e : cGt a3 a4 a5 a6 g1 g2 g3 gr re d j = cGt a3 a4 a5 a6 g1 g2 g3 gr re d (j + 1) := by show _ = (bif decide ((a5 (Int.toNat (j : Int))).toInt = d) && !decide ((a6 (Int.toNat (j : Int))).toInt = 3) then _ else _); rw [decide_eq_false u2, Bool.false_and]; rfl
        rw [e]
        exact rn_up (by omega) (ih (j + 1) (by omega))
      · refine r_al rfl rfl ?_
        refine r_gf rfl rfl xg_5 rfl ?_
        refine r_il rfl rfl ?_
        refine r_ia rfl xg_11 (by omega) (by omega) (by decide) ?_
        refine r_ic rfl ?_
        refine r_ceq rfl rfl (as_r _) (by decide) (fun u3 => ?_) (fun u3 => ?_)
        · refine r_inc (lv' := [(3, _), (2, _), (0, _), (1, _)]) rfl rfl rfl rfl ?_
          refine r_goto rfl rfl ?_
          have e : cGt a3 a4 a5 a6 g1 g2 g3 gr re d j = cGt a3 a4 a5 a6 g1 g2 g3 gr re d (j + 1) := by show _ = (bif decide ((a5 (Int.toNat (j : Int))).toInt = d) && !decide ((a6 (Int.toNat (j : Int))).toInt = 3) then _ else _); rw [decide_eq_true u2, decide_eq_true u3]; rfl
          rw [e]
          exact rn_up (by omega) (ih (j + 1) (by omega))
        · refine r_al rfl rfl ?_
          refine r_gf rfl rfl xg_5 rfl ?_
          refine r_il rfl rfl ?_
          refine r_ia rfl xg_9 (by omega) (by omega) (by decide) ?_
          refine r_isw (lv' := [(4, _), (3, _), (2, _), (0, _), (1, _)]) rfl rfl rfl ?_
          refine r_al rfl rfl ?_
          refine r_gf rfl rfl xg_36 rfl ?_
          refine r_ilw rfl rfl ?_
          refine r_al rfl rfl ?_
          refine r_gf rfl rfl xg_36 rfl ?_
          refine r_ilw rfl rfl ?_
          refine r_ia rfl xg_38 (by omega) (by omega) (by decide) ?_
          refine r_al rfl rfl ?_
          refine r_gf rfl rfl xg_36 rfl ?_
          refine r_il rfl rfl ?_
          refine r_v2s rfl rfl xg_4 rfl (c_lrC0 hAd hAs (by omega) (by omega)) ?_
          refine r_s2s rfl rfl rfl (c_maxC (as_r _) cLR_r) ?_
          refine r_ias rfl xg_38 (by omega) (by omega) (by decide) xs_38 ?_
          refine r_inc (lv' := [(3, _), (4, _), (2, _), (0, _), (1, _)]) rfl rfl rfl rfl ?_
          refine r_goto rfl rfl ?_
          have e : upd (cGt a3 a4 a5 a6 g1 g2 g3 gr re d j) (Int.toNat (a4 (Int.toNat (j : Int))).toInt) (Int32.ofInt (mxI (cGt a3 a4 a5 a6 g1 g2 g3 gr re d j (Int.toNat (a4 (Int.toNat (j : Int))).toInt)).toInt (cLR a3 a5 g1 g2 g3 re (j : Int)))) = cGt a3 a4 a5 a6 g1 g2 g3 gr re d (j + 1) := by show _ = (bif decide ((a5 (Int.toNat (j : Int))).toInt = d) && !decide ((a6 (Int.toNat (j : Int))).toInt = 3) then _ else _); rw [decide_eq_true u2, decide_eq_false u3]; rfl
          rw [e]
          refine rn_LE (a := [(3, iv ((j : Int) + 1)), (2, .ref 5), (0, .ref 36), (1, iv (d))]) ⟨(List.forall_mem_cons.mpr ⟨List.mem_cons_self, (List.forall_mem_cons.mpr ⟨(List.mem_cons_of_mem _ (List.mem_cons_of_mem _ List.mem_cons_self)), (List.forall_mem_cons.mpr ⟨(List.mem_cons_of_mem _ (List.mem_cons_of_mem _ (List.mem_cons_of_mem _ List.mem_cons_self))), (List.forall_mem_cons.mpr ⟨(List.mem_cons_of_mem _ (List.mem_cons_of_mem _ (List.mem_cons_of_mem _ (List.mem_cons_of_mem _ List.mem_cons_self)))), (fun _ h => absurd h List.not_mem_nil)⟩)⟩)⟩)⟩), (by show List.Nodup [3, 2, 0, 1]; decide), (by show List.Nodup [3, 4, 2, 0, 1]; decide)⟩ ?_
          exact rn_up (by omega) (ih (j + 1) (by omega))
theorem c_fg0 (hAd : ARd a1 a2 a3) (hAs : ARs a4 a5 a6 a7) (hn : 0 ≤ ma ∧ ma ≤ 16) (hd : -2147483648 ≤ d ∧ d ≤ 2147483647) : sX1_findGreatest [.ref 36, iv d] (cW ki ln bt rl cp cs ct cv 5 14 ja ea ma a1 a2 a3 a4 a5 a6 a7 a8 jb eb mb b1 b2 b3 b4 b5 b6 b7 b8 re fl g1 g2 g3 g4 g5 (dW rt la rs rg pd du ds me tt gr su gp mk rf m1 m2 m3 m4 m5 mr mf n1 n2 n3 n4 n5 nr nf E)) = some (none, (cW ki ln bt rl cp cs ct cv 5 14 ja ea ma a1 a2 a3 a4 a5 a6 a7 a8 jb eb mb b1 b2 b3 b4 b5 b6 b7 b8 re fl g1 g2 g3 g4 g5 (dW rt la rs rg pd du ds me tt (cGt a3 a4 a5 a6 g1 g2 g3 gr re d ma.toNat) su gp mk rf m1 m2 m3 m4 m5 mr mf n1 n2 n3 n4 n5 nr nf E))) := by
  obtain ⟨q, rfl⟩ := Int.eq_ofNat_of_zero_le hn.1
  have hq : q ≤ 16 := by omega
  have main : ∀ Q : mm_R → Prop, Q (none, (cW ki ln bt rl cp cs ct cv 5 14 ja ea (q : Int) a1 a2 a3 a4 a5 a6 a7 a8 jb eb mb b1 b2 b3 b4 b5 b6 b7 b8 re fl g1 g2 g3 g4 g5 (dW rt la rs rg pd du ds me tt (cGt a3 a4 a5 a6 g1 g2 g3 gr re d q) su gp mk rf m1 m2 m3 m4 m5 mr mf n1 n2 n3 n4 n5 nr nf E))) → rn_X1_findGreatest (20 + 60 * 16 + 60 + 20) (0, [(0, .ref 36), (1, iv (d))], [], (cW ki ln bt rl cp cs ct cv 5 14 ja ea (q : Int) a1 a2 a3 a4 a5 a6 a7 a8 jb eb mb b1 b2 b3 b4 b5 b6 b7 b8 re fl g1 g2 g3 g4 g5 (dW rt la rs rg pd du ds me tt gr su gp mk rf m1 m2 m3 m4 m5 mr mf n1 n2 n3 n4 n5 nr nf E))) Q := by
    intro Q hQ
    refine r_al rfl rfl ?_
    refine r_gf rfl rfl xg_36 rfl ?_
    refine r_gf rfl rfl xg_4 rfl ?_
    refine r_as (lv' := [(2, _), (0, _), (1, _)]) rfl rfl rfl ?_
    refine r_al rfl rfl ?_
    refine r_gf rfl rfl xg_36 rfl ?_
    refine r_ic rfl ?_
    refine r_s2n rfl rfl rfl c_fillx38 ?_
    refine r_ic rfl ?_
    refine r_is (lv' := [(3, _), (2, _), (0, _), (1, _)]) rfl rfl rfl ?_
    refine rn_up (N := 20 + 60 * q + 60) (by omega) (fg_lp0 (N := 20) hAd hAs hq hd ?_ q 0 (by omega))
    exact r_retv rfl rfl hQ
  obtain ⟨r, h1, h2⟩ := rn_S (vs := [.ref 36, iv d]) (Q := fun r => r = (none, (cW ki ln bt rl cp cs ct cv 5 14 ja ea (q : Int) a1 a2 a3 a4 a5 a6 a7 a8 jb eb mb b1 b2 b3 b4 b5 b6 b7 b8 re fl g1 g2 g3 g4 g5 (dW rt la rs rg pd du ds me tt (cGt a3 a4 a5 a6 g1 g2 g3 gr re d q) su gp mk rf m1 m2 m3 m4 m5 mr mf n1 n2 n3 n4 n5 nr nf E)))) rfl (rn_up (N := 20 + 60 * 16 + 60 + 20) (M := mm_fuel) (by decide) (main (fun r => r = (none, (cW ki ln bt rl cp cs ct cv 5 14 ja ea (q : Int) a1 a2 a3 a4 a5 a6 a7 a8 jb eb mb b1 b2 b3 b4 b5 b6 b7 b8 re fl g1 g2 g3 g4 g5 (dW rt la rs rg pd du ds me tt (cGt a3 a4 a5 a6 g1 g2 g3 gr re d q) su gp mk rf m1 m2 m3 m4 m5 mr mf n1 n2 n3 n4 n5 nr nf E)))) rfl))
  have h1 : sX1_findGreatest [.ref 36, iv d] (cW ki ln bt rl cp cs ct cv 5 14 ja ea (q : Int) a1 a2 a3 a4 a5 a6 a7 a8 jb eb mb b1 b2 b3 b4 b5 b6 b7 b8 re fl g1 g2 g3 g4 g5 (dW rt la rs rg pd du ds me tt gr su gp mk rf m1 m2 m3 m4 m5 mr mf n1 n2 n3 n4 n5 nr nf E)) = some r := h1
  rw [h1, h2]
  rfl
abbrev rn_X1_weightOf (N : Nat) (c : mm_C) (Q : mm_R → Prop) : Prop := rn (mm_gf gLX1) (mm_pf pLX1) (mm_mv vX1_weightOf) (mm_mv zX1_weightOf) (mm_kc kLX1) mm_gs0 mm_rf0 mm_ro (some .int) 4 (mm_ins iX1_weightOf) N c Q
theorem wt_lp0  (k : rn_X1_weightOf N (45, [(3, iv (((8 : Nat) : Int))), (2, iv (cWt tt x 8)), (0, .ref 36), (1, iv (x))], [], (cW ki ln bt rl cp cs ct cv 5 14 ja ea ma a1 a2 a3 a4 a5 a6 a7 a8 jb eb mb b1 b2 b3 b4 b5 b6 b7 b8 re fl g1 g2 g3 g4 g5 (dW rt la rs rg pd du ds me tt gr su gp mk rf m1 m2 m3 m4 m5 mr mf n1 n2 n3 n4 n5 nr nf E))) Q) : ∀ (m j : Nat), j + m = 8 → rn_X1_weightOf (N + 40 * m + 40) (4, [(3, iv ((j : Int))), (2, iv (cWt tt x j)), (0, .ref 36), (1, iv (x))], [], (cW ki ln bt rl cp cs ct cv 5 14 ja ea ma a1 a2 a3 a4 a5 a6 a7 a8 jb eb mb b1 b2 b3 b4 b5 b6 b7 b8 re fl g1 g2 g3 g4 g5 (dW rt la rs rg pd du ds me tt gr su gp mk rf m1 m2 m3 m4 m5 mr mf n1 n2 n3 n4 n5 nr nf E))) Q := by
  intro m
  induction m with
  | zero =>
    intro j hj
    have hj : j = 8 := by omega
    subst hj
    refine rn_up (N := N + 40) (by omega) ?_
    refine r_il rfl rfl ?_
    refine r_bi rfl (by decide) ?_
    refine r_cge rfl rfl (by omega) (by omega) (fun u1 => ?_) (fun u1 => ?_)
    · exact rn_up (by omega) k
    · omega
  | succ m ih =>
    intro j hj
    obtain ⟨M, hM⟩ : ∃ M, M = N + 40 * m + 40 := ⟨_, rfl⟩
    rw [← hM] at ih
    refine rn_up (N := M + 40) (by omega) ?_
    refine r_il rfl rfl ?_
    refine r_bi rfl (by decide) ?_
    refine r_cge rfl rfl (by omega) (by omega) (fun u1 => ?_) (fun u1 => ?_)
    · omega
    · refine r_il rfl rfl ?_
      refine r_il rfl rfl ?_
      refine r_il rfl rfl ?_
      refine r_s2s rfl rfl rfl (c_isIn (by omega)) ?_
      have K : rn_X1_weightOf (M + 20) (37, [(3, iv ((j : Int))), (2, iv (cWt tt x j)), (0, .ref 36), (1, iv (x))], [iv ((bif zb (Int32.ofInt x) j then (tt (Int.toNat (j : Int))).toInt else 10 - (tt (Int.toNat (j : Int))).toInt)), iv (cWt tt x j)], (cW ki ln bt rl cp cs ct cv 5 14 ja ea ma a1 a2 a3 a4 a5 a6 a7 a8 jb eb mb b1 b2 b3 b4 b5 b6 b7 b8 re fl g1 g2 g3 g4 g5 (dW rt la rs rg pd du ds me tt gr su gp mk rf m1 m2 m3 m4 m5 mr mf n1 n2 n3 n4 n5 nr nf E))) Q := by
        refine r_mul rfl ?_
        refine r_is (lv' := [(2, _), (3, _), (0, _), (1, _)]) rfl rfl rfl ?_
        refine r_inc (lv' := [(3, _), (2, _), (0, _), (1, _)]) rfl rfl rfl rfl ?_
        refine r_goto rfl rfl ?_
        exact rn_up (by omega) (ih (j + 1) (by omega))
      refine r_zeq rfl rfl (bi_r _) (fun u2 => ?_) (fun u2 => ?_)
      · have u2 : zb (Int32.ofInt x) j = false := bi_0 u2
        refine r_bi rfl (by decide) ?_
        refine r_al rfl rfl ?_
        refine r_gf rfl rfl xg_36 rfl ?_
        refine r_il rfl rfl ?_
        refine r_ia rfl xg_37 (by omega) (by omega) (by decide) ?_
        refine r_sub rfl ?_
        rw [u2] at K
        exact rn_up (N := M + 20) (by omega) K
      · have u2 : zb (Int32.ofInt x) j = true := bi_1 u2
        refine r_al rfl rfl ?_
        refine r_gf rfl rfl xg_36 rfl ?_
        refine r_il rfl rfl ?_
        refine r_ia rfl xg_37 (by omega) (by omega) (by decide) ?_
        refine r_goto rfl rfl ?_
        rw [u2] at K
        exact rn_up (N := M + 20) (by omega) K
theorem c_wt0  : sX1_weightOf [.ref 36, iv (x)] (cW ki ln bt rl cp cs ct cv 5 14 ja ea ma a1 a2 a3 a4 a5 a6 a7 a8 jb eb mb b1 b2 b3 b4 b5 b6 b7 b8 re fl g1 g2 g3 g4 g5 (dW rt la rs rg pd du ds me tt gr su gp mk rf m1 m2 m3 m4 m5 mr mf n1 n2 n3 n4 n5 nr nf E)) = some (some (iv (cWt tt x 8)), (cW ki ln bt rl cp cs ct cv 5 14 ja ea ma a1 a2 a3 a4 a5 a6 a7 a8 jb eb mb b1 b2 b3 b4 b5 b6 b7 b8 re fl g1 g2 g3 g4 g5 (dW rt la rs rg pd du ds me tt gr su gp mk rf m1 m2 m3 m4 m5 mr mf n1 n2 n3 n4 n5 nr nf E))) := by
  have main : ∀ Q : mm_R → Prop, Q (some (iv (cWt tt x 8)), (cW ki ln bt rl cp cs ct cv 5 14 ja ea ma a1 a2 a3 a4 a5 a6 a7 a8 jb eb mb b1 b2 b3 b4 b5 b6 b7 b8 re fl g1 g2 g3 g4 g5 (dW rt la rs rg pd du ds me tt gr su gp mk rf m1 m2 m3 m4 m5 mr mf n1 n2 n3 n4 n5 nr nf E))) → rn_X1_weightOf (20 + 40 * 8 + 40 + 20) (0, [(0, .ref 36), (1, iv (x))], [], (cW ki ln bt rl cp cs ct cv 5 14 ja ea ma a1 a2 a3 a4 a5 a6 a7 a8 jb eb mb b1 b2 b3 b4 b5 b6 b7 b8 re fl g1 g2 g3 g4 g5 (dW rt la rs rg pd du ds me tt gr su gp mk rf m1 m2 m3 m4 m5 mr mf n1 n2 n3 n4 n5 nr nf E))) Q := by
    intro Q hQ
    refine r_ic rfl ?_
    refine r_is (lv' := [(2, _), (0, _), (1, _)]) rfl rfl rfl ?_
    refine r_ic rfl ?_
    refine r_is (lv' := [(3, _), (2, _), (0, _), (1, _)]) rfl rfl rfl ?_
    refine rn_up (N := 20 + 40 * 8 + 40) (by decide) (wt_lp0 (N := 20) ?_ 8 0 rfl)
    refine r_il rfl rfl ?_
    exact r_ret rfl rfl hQ
  obtain ⟨r, h1, h2⟩ := rn_S (vs := [.ref 36, iv (x)]) (Q := fun r => r = (some (iv (cWt tt x 8)), (cW ki ln bt rl cp cs ct cv 5 14 ja ea ma a1 a2 a3 a4 a5 a6 a7 a8 jb eb mb b1 b2 b3 b4 b5 b6 b7 b8 re fl g1 g2 g3 g4 g5 (dW rt la rs rg pd du ds me tt gr su gp mk rf m1 m2 m3 m4 m5 mr mf n1 n2 n3 n4 n5 nr nf E)))) rfl (rn_up (N := 20 + 40 * 8 + 40 + 20) (M := mm_fuel) (by decide) (main (fun r => r = (some (iv (cWt tt x 8)), (cW ki ln bt rl cp cs ct cv 5 14 ja ea ma a1 a2 a3 a4 a5 a6 a7 a8 jb eb mb b1 b2 b3 b4 b5 b6 b7 b8 re fl g1 g2 g3 g4 g5 (dW rt la rs rg pd du ds me tt gr su gp mk rf m1 m2 m3 m4 m5 mr mf n1 n2 n3 n4 n5 nr nf E)))) rfl))
  have h1 : sX1_weightOf [.ref 36, iv (x)] (cW ki ln bt rl cp cs ct cv 5 14 ja ea ma a1 a2 a3 a4 a5 a6 a7 a8 jb eb mb b1 b2 b3 b4 b5 b6 b7 b8 re fl g1 g2 g3 g4 g5 (dW rt la rs rg pd du ds me tt gr su gp mk rf m1 m2 m3 m4 m5 mr mf n1 n2 n3 n4 n5 nr nf E)) = some r := h1
  rw [h1, h2]
abbrev rn_X1_isPaidWhole (N : Nat) (c : mm_C) (Q : mm_R → Prop) : Prop := rn (mm_gf gLX1) (mm_pf pLX1) (mm_mv vX1_isPaidWhole) (mm_mv zX1_isPaidWhole) (mm_kc kLX1) mm_gs0 mm_rf0 mm_ro (some .boolean) 5 (mm_ins iX1_isPaidWhole) N c Q
theorem pw_lp0  (k : rn_X1_isPaidWhole N (58, [(4, iv (((8 : Nat) : Int))), (3, iv (cSm gr x 8)), (0, .ref 36), (1, iv (d)), (2, iv (x))], [], (cW ki ln bt rl cp cs ct cv 5 14 ja ea ma a1 a2 a3 a4 a5 a6 a7 a8 jb eb mb b1 b2 b3 b4 b5 b6 b7 b8 re fl g1 g2 g3 g4 g5 (dW rt la rs rg pd du ds me tt gr su gp mk rf m1 m2 m3 m4 m5 mr mf n1 n2 n3 n4 n5 nr nf E))) Q) : ∀ (m j : Nat), j + m = 8 → rn_X1_isPaidWhole (N + 40 * m + 40) (26, [(4, iv ((j : Int))), (3, iv (cSm gr x j)), (0, .ref 36), (1, iv (d)), (2, iv (x))], [], (cW ki ln bt rl cp cs ct cv 5 14 ja ea ma a1 a2 a3 a4 a5 a6 a7 a8 jb eb mb b1 b2 b3 b4 b5 b6 b7 b8 re fl g1 g2 g3 g4 g5 (dW rt la rs rg pd du ds me tt gr su gp mk rf m1 m2 m3 m4 m5 mr mf n1 n2 n3 n4 n5 nr nf E))) Q := by
  intro m
  induction m with
  | zero =>
    intro j hj
    have hj : j = 8 := by omega
    subst hj
    refine rn_up (N := N + 40) (by omega) ?_
    refine r_ilw rfl rfl ?_
    refine r_bi rfl (by decide) ?_
    refine r_cge rfl rfl (by omega) (by omega) (fun u1 => ?_) (fun u1 => ?_)
    · exact rn_up (by omega) k
    · omega
  | succ m ih =>
    intro j hj
    obtain ⟨M, hM⟩ : ∃ M, M = N + 40 * m + 40 := ⟨_, rfl⟩
    rw [← hM] at ih
    refine rn_up (N := M + 40) (by omega) ?_
    refine r_ilw rfl rfl ?_
    refine r_bi rfl (by decide) ?_
    refine r_cge rfl rfl (by omega) (by omega) (fun u1 => ?_) (fun u1 => ?_)
    · omega
    · refine r_il rfl rfl ?_
      refine r_ilw rfl rfl ?_
      refine r_s2s rfl rfl rfl (c_isIn (by omega)) ?_
      refine r_zne rfl rfl (bi_r _) (fun u2 => ?_) (fun u2 => ?_)
      · have u2 : zb (Int32.ofInt x) j = true := bi_1 u2
        refine r_inc (lv' := [(4, _), (3, _), (0, _), (1, _), (2, _)]) rfl rfl rfl rfl ?_
        refine r_goto rfl rfl ?_
        have e : cSm gr x j = cSm gr x (j + 1) := by show _ = (bif zb (Int32.ofInt x) j then _ else _); rw [u2]; rfl
        rw [e]
        exact rn_up (by omega) (ih (j + 1) (by omega))
      · have u2 : zb (Int32.ofInt x) j = false := bi_0 u2
        refine r_il rfl rfl ?_
        refine r_al rfl rfl ?_
        refine r_gf rfl rfl xg_36 rfl ?_
        refine r_ilw rfl rfl ?_
        refine r_ia rfl xg_38 (by omega) (by omega) (by decide) ?_
        refine r_add rfl ?_
        refine r_is (lv' := [(3, _), (4, _), (0, _), (1, _), (2, _)]) rfl rfl rfl ?_
        refine r_inc (lv' := [(4, _), (3, _), (0, _), (1, _), (2, _)]) rfl rfl rfl rfl ?_
        refine r_goto rfl rfl ?_
        have e : cSm gr x j + (gr (Int.toNat (j : Int))).toInt = cSm gr x (j + 1) := by show _ = (bif zb (Int32.ofInt x) j then _ else _); rw [u2]; rfl
        rw [e]
        exact rn_up (by omega) (ih (j + 1) (by omega))
theorem c_pw0 (hAd : ARd a1 a2 a3) (hAs : ARs a4 a5 a6 a7) (hG : ∀ p : Nat, p < 8 → 0 ≤ (gr p).toInt ∧ (gr p).toInt ≤ 999) (hR : -1000 ≤ cR a3 g1 d ∧ cR a3 g1 d ≤ 1000) (hd : 0 ≤ d ∧ d ≤ 9) : sX1_isPaidWhole [.ref 36, iv (d), iv (x)] (cW ki ln bt rl cp cs ct cv 5 14 ja ea ma a1 a2 a3 a4 a5 a6 a7 a8 jb eb mb b1 b2 b3 b4 b5 b6 b7 b8 re fl g1 g2 g3 g4 g5 (dW rt la rs rg pd du ds me tt gr su gp mk rf m1 m2 m3 m4 m5 mr mf n1 n2 n3 n4 n5 nr nf E)) = some (some (iv (bi (cPW a1 a3 g1 gr d x))), (cW ki ln bt rl cp cs ct cv 5 14 ja ea ma a1 a2 a3 a4 a5 a6 a7 a8 jb eb mb b1 b2 b3 b4 b5 b6 b7 b8 re fl g1 g2 g3 g4 g5 (dW rt la rs rg pd du ds me tt gr su gp mk rf m1 m2 m3 m4 m5 mr mf n1 n2 n3 n4 n5 nr nf E))) := by
  have main : ∀ Q : mm_R → Prop, Q (some (iv (bi (cPW a1 a3 g1 gr d x))), (cW ki ln bt rl cp cs ct cv 5 14 ja ea ma a1 a2 a3 a4 a5 a6 a7 a8 jb eb mb b1 b2 b3 b4 b5 b6 b7 b8 re fl g1 g2 g3 g4 g5 (dW rt la rs rg pd du ds me tt gr su gp mk rf m1 m2 m3 m4 m5 mr mf n1 n2 n3 n4 n5 nr nf E))) → rn_X1_isPaidWhole (20 + 40 * 8 + 40 + 30) (0, [(0, .ref 36), (1, iv (d)), (2, iv (x))], [], (cW ki ln bt rl cp cs ct cv 5 14 ja ea ma a1 a2 a3 a4 a5 a6 a7 a8 jb eb mb b1 b2 b3 b4 b5 b6 b7 b8 re fl g1 g2 g3 g4 g5 (dW rt la rs rg pd du ds me tt gr su gp mk rf m1 m2 m3 m4 m5 mr mf n1 n2 n3 n4 n5 nr nf E))) Q := by
    intro Q hQ
    have h1 := (ar1 hAd hd).1
    have hs := cSm_r (x := x) hG 8 (by decide)
    refine r_il rfl rfl ?_
    refine r_al rfl rfl ?_
    refine r_gf rfl rfl xg_36 rfl ?_
    refine r_gf rfl rfl xg_4 rfl ?_
    refine r_gf rfl rfl xg_5 rfl ?_
    refine r_il rfl rfl ?_
    refine r_ia rfl xg_6 (by omega) (by omega) (by decide) ?_
    refine r_s2s rfl rfl rfl (c_isIn (by omega)) ?_
    refine r_zne rfl rfl (bi_r _) (fun u1 => ?_) (fun u1 => ?_)
    · have u1 := bi_1 u1
      refine r_ic rfl ?_
      refine r_is (lv' := [(3, _), (0, _), (1, _), (2, _)]) rfl rfl rfl ?_
      refine r_ic rfl ?_
      refine r_isw (lv' := [(4, _), (3, _), (0, _), (1, _), (2, _)]) rfl rfl rfl ?_
      refine rn_up (N := 20 + 40 * 8 + 40) (by decide) (pw_lp0 (N := 20) ?_ 8 0 rfl)
      refine r_il rfl rfl ?_
      refine r_al rfl rfl ?_
      refine r_gf rfl rfl xg_36 rfl ?_
      refine r_il rfl rfl ?_
      refine r_v2s rfl rfl xg_4 rfl (c_restC0 hd) ?_
      refine r_clt rfl rfl (by omega) (by omega) (fun u2 => ?_) (fun u2 => ?_)
      · have e : cPW a1 a3 g1 gr d x = false := by unfold cPW; rw [u1, decide_eq_false (Int.not_le.mpr u2)]; rfl
        rw [e] at hQ
        refine r_ic rfl ?_
        exact r_retb rfl rfl (by omega) hQ
      · have e : cPW a1 a3 g1 gr d x = true := by unfold cPW; rw [u1, decide_eq_true u2]; rfl
        rw [e] at hQ
        refine r_ic rfl ?_
        refine r_goto rfl rfl ?_
        exact r_retb rfl rfl (by omega) hQ
    · have e : cPW a1 a3 g1 gr d x = true := by unfold cPW; rw [bi_0 u1]; rfl
      rw [e] at hQ
      refine r_ic rfl ?_
      exact r_retb rfl rfl (by omega) hQ
  obtain ⟨r, h1, h2⟩ := rn_S (vs := [.ref 36, iv (d), iv (x)]) (Q := fun r => r = (some (iv (bi (cPW a1 a3 g1 gr d x))), (cW ki ln bt rl cp cs ct cv 5 14 ja ea ma a1 a2 a3 a4 a5 a6 a7 a8 jb eb mb b1 b2 b3 b4 b5 b6 b7 b8 re fl g1 g2 g3 g4 g5 (dW rt la rs rg pd du ds me tt gr su gp mk rf m1 m2 m3 m4 m5 mr mf n1 n2 n3 n4 n5 nr nf E)))) rfl (rn_up (N := 20 + 40 * 8 + 40 + 30) (M := mm_fuel) (by decide) (main (fun r => r = (some (iv (bi (cPW a1 a3 g1 gr d x))), (cW ki ln bt rl cp cs ct cv 5 14 ja ea ma a1 a2 a3 a4 a5 a6 a7 a8 jb eb mb b1 b2 b3 b4 b5 b6 b7 b8 re fl g1 g2 g3 g4 g5 (dW rt la rs rg pd du ds me tt gr su gp mk rf m1 m2 m3 m4 m5 mr mf n1 n2 n3 n4 n5 nr nf E)))) rfl))
  have h1 : sX1_isPaidWhole [.ref 36, iv (d), iv (x)] (cW ki ln bt rl cp cs ct cv 5 14 ja ea ma a1 a2 a3 a4 a5 a6 a7 a8 jb eb mb b1 b2 b3 b4 b5 b6 b7 b8 re fl g1 g2 g3 g4 g5 (dW rt la rs rg pd du ds me tt gr su gp mk rf m1 m2 m3 m4 m5 mr mf n1 n2 n3 n4 n5 nr nf E)) = some r := h1
  rw [h1, h2]
abbrev rn_X1_shareOf (N : Nat) (c : mm_C) (Q : mm_R → Prop) : Prop := rn (mm_gf gLX1) (mm_pf pLX1) (mm_mv vX1_shareOf) (mm_mv zX1_shareOf) (mm_kc kLX1) mm_gs0 mm_rf0 mm_ro (some .int) 4 (mm_ins iX1_shareOf) N c Q
theorem sr_lp0 (hAd : ARd a1 a2 a3) (hAs : ARs a4 a5 a6 a7) (hG : ∀ p : Nat, p < 8 → 0 ≤ (gr p).toInt ∧ (gr p).toInt ≤ 999) (hR : -1000 ≤ cR a3 g1 d ∧ cR a3 g1 d ≤ 1000) (hd : 0 ≤ d ∧ d ≤ 9) (k : rn_X1_shareOf N (39, [(3, iv (((256 : Nat) : Int))), (2, iv (cSr a1 a3 g1 gr tt d 256)), (0, .ref 36), (1, iv (d))], [], (cW ki ln bt rl cp cs ct cv 5 14 ja ea ma a1 a2 a3 a4 a5 a6 a7 a8 jb eb mb b1 b2 b3 b4 b5 b6 b7 b8 re fl g1 g2 g3 g4 g5 (dW rt la rs rg pd du ds me tt gr su gp mk rf m1 m2 m3 m4 m5 mr mf n1 n2 n3 n4 n5 nr nf E))) Q) : ∀ (m j : Nat), j + m = 256 → rn_X1_shareOf (N + 40 * m + 40) (9, [(3, iv ((j : Int))), (2, iv (cSr a1 a3 g1 gr tt d j)), (0, .ref 36), (1, iv (d))], [], (cW ki ln bt rl cp cs ct cv 5 14 ja ea ma a1 a2 a3 a4 a5 a6 a7 a8 jb eb mb b1 b2 b3 b4 b5 b6 b7 b8 re fl g1 g2 g3 g4 g5 (dW rt la rs rg pd du ds me tt gr su gp mk rf m1 m2 m3 m4 m5 mr mf n1 n2 n3 n4 n5 nr nf E))) Q := by
  intro m
  induction m with
  | zero =>
    intro j hj
    have hj : j = 256 := by omega
    subst hj
    refine rn_up (N := N + 40) (by omega) ?_
    refine r_il rfl rfl ?_
    refine r_si rfl (by decide) ?_
    refine r_cgt rfl rfl (by omega) (by omega) (fun u1 => ?_) (fun u1 => ?_)
    · exact rn_up (by omega) k
    · omega
  | succ m ih =>
    intro j hj
    obtain ⟨M, hM⟩ : ∃ M, M = N + 40 * m + 40 := ⟨_, rfl⟩
    rw [← hM] at ih
    refine rn_up (N := M + 40) (by omega) ?_
    refine r_il rfl rfl ?_
    refine r_si rfl (by decide) ?_
    refine r_cgt rfl rfl (by omega) (by omega) (fun u1 => ?_) (fun u1 => ?_)
    · omega
    · refine r_al rfl rfl ?_
      refine r_il rfl rfl ?_
      refine r_il rfl rfl ?_
      refine r_v3s rfl rfl xg_36 rfl (c_pw0 hAd hAs hG hR hd) ?_
      refine r_zeq rfl rfl (bi_r _) (fun u2 => ?_) (fun u2 => ?_)
      · refine r_inc (lv' := [(3, _), (2, _), (0, _), (1, _)]) rfl rfl rfl rfl ?_
        refine r_goto rfl rfl ?_
        have e : cSr a1 a3 g1 gr tt d j = cSr a1 a3 g1 gr tt d (j + 1) := by show _ = (bif cPW a1 a3 g1 gr d (j : Int) then _ else _); rw [bi_0 u2]; rfl
        rw [e]
        exact rn_up (by omega) (ih (j + 1) (by omega))
      · refine r_il rfl rfl ?_
        refine r_al rfl rfl ?_
        refine r_il rfl rfl ?_
        refine r_v2s rfl rfl xg_36 rfl c_wt0 ?_
        refine r_add rfl ?_
        refine r_is (lv' := [(2, _), (3, _), (0, _), (1, _)]) rfl rfl rfl ?_
        refine r_inc (lv' := [(3, _), (2, _), (0, _), (1, _)]) rfl rfl rfl rfl ?_
        refine r_goto rfl rfl ?_
        have e : cSr a1 a3 g1 gr tt d j + cWt tt (j : Int) 8 = cSr a1 a3 g1 gr tt d (j + 1) := by show _ = (bif cPW a1 a3 g1 gr d (j : Int) then _ else _); rw [bi_1 u2]; rfl
        rw [e]
        exact rn_up (by omega) (ih (j + 1) (by omega))
theorem c_sr0 (hAd : ARd a1 a2 a3) (hAs : ARs a4 a5 a6 a7) (hn : 0 ≤ ma ∧ ma ≤ 16) (hG : ∀ p : Nat, p < 8 → 0 ≤ ((cGt a3 a4 a5 a6 g1 g2 g3 gr re d ma.toNat) p).toInt ∧ ((cGt a3 a4 a5 a6 g1 g2 g3 gr re d ma.toNat) p).toInt ≤ 999) (hR : -1000 ≤ cR a3 g1 d ∧ cR a3 g1 d ≤ 1000) (hd : 0 ≤ d ∧ d ≤ 9) : sX1_shareOf [.ref 36, iv (d)] (cW ki ln bt rl cp cs ct cv 5 14 ja ea ma a1 a2 a3 a4 a5 a6 a7 a8 jb eb mb b1 b2 b3 b4 b5 b6 b7 b8 re fl g1 g2 g3 g4 g5 (dW rt la rs rg pd du ds me tt gr su gp mk rf m1 m2 m3 m4 m5 mr mf n1 n2 n3 n4 n5 nr nf E)) = some (some (iv (cSr a1 a3 g1 (cGt a3 a4 a5 a6 g1 g2 g3 gr re d ma.toNat) tt d 256)), (cW ki ln bt rl cp cs ct cv 5 14 ja ea ma a1 a2 a3 a4 a5 a6 a7 a8 jb eb mb b1 b2 b3 b4 b5 b6 b7 b8 re fl g1 g2 g3 g4 g5 (dW rt la rs rg pd du ds me tt (cGt a3 a4 a5 a6 g1 g2 g3 gr re d ma.toNat) su gp mk rf m1 m2 m3 m4 m5 mr mf n1 n2 n3 n4 n5 nr nf E))) := by
  have main : ∀ Q : mm_R → Prop, Q (some (iv (cSr a1 a3 g1 (cGt a3 a4 a5 a6 g1 g2 g3 gr re d ma.toNat) tt d 256)), (cW ki ln bt rl cp cs ct cv 5 14 ja ea ma a1 a2 a3 a4 a5 a6 a7 a8 jb eb mb b1 b2 b3 b4 b5 b6 b7 b8 re fl g1 g2 g3 g4 g5 (dW rt la rs rg pd du ds me tt (cGt a3 a4 a5 a6 g1 g2 g3 gr re d ma.toNat) su gp mk rf m1 m2 m3 m4 m5 mr mf n1 n2 n3 n4 n5 nr nf E))) → rn_X1_shareOf (20 + 40 * 256 + 40 + 30) (0, [(0, .ref 36), (1, iv (d))], [], (cW ki ln bt rl cp cs ct cv 5 14 ja ea ma a1 a2 a3 a4 a5 a6 a7 a8 jb eb mb b1 b2 b3 b4 b5 b6 b7 b8 re fl g1 g2 g3 g4 g5 (dW rt la rs rg pd du ds me tt gr su gp mk rf m1 m2 m3 m4 m5 mr mf n1 n2 n3 n4 n5 nr nf E))) Q := by
    intro Q hQ
    refine r_al rfl rfl ?_
    refine r_il rfl rfl ?_
    refine r_v2n rfl rfl xg_36 rfl (c_fg0 hAd hAs hn (by omega)) ?_
    refine r_ic rfl ?_
    refine r_is (lv' := [(2, _), (0, _), (1, _)]) rfl rfl rfl ?_
    refine r_ic rfl ?_
    refine r_is (lv' := [(3, _), (2, _), (0, _), (1, _)]) rfl rfl rfl ?_
    refine rn_up (N := 20 + 40 * 256 + 40) (by decide) (sr_lp0 (N := 20) hAd hAs hG hR hd ?_ 256 0 rfl)
    refine r_il rfl rfl ?_
    exact r_ret rfl rfl hQ
  obtain ⟨r, h1, h2⟩ := rn_S (vs := [.ref 36, iv (d)]) (Q := fun r => r = (some (iv (cSr a1 a3 g1 (cGt a3 a4 a5 a6 g1 g2 g3 gr re d ma.toNat) tt d 256)), (cW ki ln bt rl cp cs ct cv 5 14 ja ea ma a1 a2 a3 a4 a5 a6 a7 a8 jb eb mb b1 b2 b3 b4 b5 b6 b7 b8 re fl g1 g2 g3 g4 g5 (dW rt la rs rg pd du ds me tt (cGt a3 a4 a5 a6 g1 g2 g3 gr re d ma.toNat) su gp mk rf m1 m2 m3 m4 m5 mr mf n1 n2 n3 n4 n5 nr nf E)))) rfl (rn_up (N := 20 + 40 * 256 + 40 + 30) (M := mm_fuel) (by decide) (main (fun r => r = (some (iv (cSr a1 a3 g1 (cGt a3 a4 a5 a6 g1 g2 g3 gr re d ma.toNat) tt d 256)), (cW ki ln bt rl cp cs ct cv 5 14 ja ea ma a1 a2 a3 a4 a5 a6 a7 a8 jb eb mb b1 b2 b3 b4 b5 b6 b7 b8 re fl g1 g2 g3 g4 g5 (dW rt la rs rg pd du ds me tt (cGt a3 a4 a5 a6 g1 g2 g3 gr re d ma.toNat) su gp mk rf m1 m2 m3 m4 m5 mr mf n1 n2 n3 n4 n5 nr nf E)))) rfl))
  have h1 : sX1_shareOf [.ref 36, iv (d)] (cW ki ln bt rl cp cs ct cv 5 14 ja ea ma a1 a2 a3 a4 a5 a6 a7 a8 jb eb mb b1 b2 b3 b4 b5 b6 b7 b8 re fl g1 g2 g3 g4 g5 (dW rt la rs rg pd du ds me tt gr su gp mk rf m1 m2 m3 m4 m5 mr mf n1 n2 n3 n4 n5 nr nf E)) = some r := h1
  rw [h1, h2]
abbrev rn_X11_worth (N : Nat) (c : mm_C) (Q : mm_R → Prop) : Prop := rn (mm_gf gLX11) (mm_pf pLX11) (mm_mv vX11_worth) (mm_mv zX11_worth) (mm_kc kLX11) mm_gs0 mm_rf0 mm_ro (some .int) 2 (mm_ins iX11_worth) N c Q
theorem c_worthC0_0 (ha : -2147483648 ≤ d ∧ d ≤ 2147483647) (hdb : 0 ≤ ea ∧ ea ≤ 10)  (hb : i3 d 0 (ea - 1) = false) : sX11_worth [.ref 0, iv (d)] (cW ki ln bt rl cp cs ct cv 5 14 ja ea ma a1 a2 a3 a4 a5 a6 a7 a8 jb eb mb b1 b2 b3 b4 b5 b6 b7 b8 re fl g1 g2 g3 g4 g5 (dW rt la rs rg pd du ds me tt gr su gp mk rf m1 m2 m3 m4 m5 mr mf n1 n2 n3 n4 n5 nr nf E)) = some (some (iv (-1)), (cW ki ln bt rl cp cs ct cv 5 14 ja ea ma a1 a2 a3 a4 a5 a6 a7 a8 jb eb mb b1 b2 b3 b4 b5 b6 b7 b8 re fl g1 g2 g3 g4 g5 (dW rt la rs rg pd du ds me tt gr su gp mk rf m1 m2 m3 m4 m5 mr mf n1 n2 n3 n4 n5 nr nf E))) := by
  have main : ∀ Q : mm_R → Prop, Q (some (iv (-1)), (cW ki ln bt rl cp cs ct cv 5 14 ja ea ma a1 a2 a3 a4 a5 a6 a7 a8 jb eb mb b1 b2 b3 b4 b5 b6 b7 b8 re fl g1 g2 g3 g4 g5 (dW rt la rs rg pd du ds me tt gr su gp mk rf m1 m2 m3 m4 m5 mr mf n1 n2 n3 n4 n5 nr nf E))) → rn_X11_worth (1000) (0, [(0, .ref 0), (1, iv (d))], [], (cW ki ln bt rl cp cs ct cv 5 14 ja ea ma a1 a2 a3 a4 a5 a6 a7 a8 jb eb mb b1 b2 b3 b4 b5 b6 b7 b8 re fl g1 g2 g3 g4 g5 (dW rt la rs rg pd du ds me tt gr su gp mk rf m1 m2 m3 m4 m5 mr mf n1 n2 n3 n4 n5 nr nf E))) Q := by
    intro Q hQ
    refine r_al rfl rfl ?_
    refine r_gf rfl rfl xg_0 rfl ?_
    refine r_il rfl rfl ?_
    refine r_v2s rfl rfl xg_4 rfl (c_isDebtC0 ha (by omega)) ?_
    rw [hb]
    refine r_zeq rfl rfl (bi_r _) (fun u1 => ?_) (fun u1 => ?_)
    · refine r_ic rfl ?_
      exact r_ret rfl rfl hQ
    · exact absurd rfl u1
  obtain ⟨r, h1, h2⟩ := rn_S (vs := [.ref 0, iv (d)]) (Q := fun r => r = (some (iv (-1)), (cW ki ln bt rl cp cs ct cv 5 14 ja ea ma a1 a2 a3 a4 a5 a6 a7 a8 jb eb mb b1 b2 b3 b4 b5 b6 b7 b8 re fl g1 g2 g3 g4 g5 (dW rt la rs rg pd du ds me tt gr su gp mk rf m1 m2 m3 m4 m5 mr mf n1 n2 n3 n4 n5 nr nf E)))) rfl (rn_up (N := 1000) (M := mm_fuel) (by decide) (main (fun r => r = (some (iv (-1)), (cW ki ln bt rl cp cs ct cv 5 14 ja ea ma a1 a2 a3 a4 a5 a6 a7 a8 jb eb mb b1 b2 b3 b4 b5 b6 b7 b8 re fl g1 g2 g3 g4 g5 (dW rt la rs rg pd du ds me tt gr su gp mk rf m1 m2 m3 m4 m5 mr mf n1 n2 n3 n4 n5 nr nf E)))) rfl))
  have h1 : sX11_worth [.ref 0, iv (d)] (cW ki ln bt rl cp cs ct cv 5 14 ja ea ma a1 a2 a3 a4 a5 a6 a7 a8 jb eb mb b1 b2 b3 b4 b5 b6 b7 b8 re fl g1 g2 g3 g4 g5 (dW rt la rs rg pd du ds me tt gr su gp mk rf m1 m2 m3 m4 m5 mr mf n1 n2 n3 n4 n5 nr nf E)) = some r := h1
  rw [h1, h2]
theorem c_worthC0_1 (ha : -2147483648 ≤ d ∧ d ≤ 2147483647) (hdb : 0 ≤ ea ∧ ea ≤ 10) (hAd : ARd a1 a2 a3) (hAs : ARs a4 a5 a6 a7) (hn : 0 ≤ ma ∧ ma ≤ 16) (hG : ∀ p : Nat, p < 8 → 0 ≤ ((cGt a3 a4 a5 a6 g1 g2 g3 gr re d ma.toNat) p).toInt ∧ ((cGt a3 a4 a5 a6 g1 g2 g3 gr re d ma.toNat) p).toInt ≤ 999) (hR : -1000 ≤ cR a3 g1 d ∧ cR a3 g1 d ≤ 1000) (hd : 0 ≤ d ∧ d ≤ 9) (hb : i3 d 0 (ea - 1) = true) : sX11_worth [.ref 0, iv (d)] (cW ki ln bt rl cp cs ct cv 5 14 ja ea ma a1 a2 a3 a4 a5 a6 a7 a8 jb eb mb b1 b2 b3 b4 b5 b6 b7 b8 re fl g1 g2 g3 g4 g5 (dW rt la rs rg pd du ds me tt gr su gp mk rf m1 m2 m3 m4 m5 mr mf n1 n2 n3 n4 n5 nr nf E)) = some (some (iv (cSr a1 a3 g1 (cGt a3 a4 a5 a6 g1 g2 g3 gr re d ma.toNat) tt d 256)), (cW ki ln bt rl cp cs ct cv 5 14 ja ea ma a1 a2 a3 a4 a5 a6 a7 a8 jb eb mb b1 b2 b3 b4 b5 b6 b7 b8 re fl g1 g2 g3 g4 g5 (dW rt la rs rg pd du ds me tt (cGt a3 a4 a5 a6 g1 g2 g3 gr re d ma.toNat) su gp mk rf m1 m2 m3 m4 m5 mr mf n1 n2 n3 n4 n5 nr nf E))) := by
  have main : ∀ Q : mm_R → Prop, Q (some (iv (cSr a1 a3 g1 (cGt a3 a4 a5 a6 g1 g2 g3 gr re d ma.toNat) tt d 256)), (cW ki ln bt rl cp cs ct cv 5 14 ja ea ma a1 a2 a3 a4 a5 a6 a7 a8 jb eb mb b1 b2 b3 b4 b5 b6 b7 b8 re fl g1 g2 g3 g4 g5 (dW rt la rs rg pd du ds me tt (cGt a3 a4 a5 a6 g1 g2 g3 gr re d ma.toNat) su gp mk rf m1 m2 m3 m4 m5 mr mf n1 n2 n3 n4 n5 nr nf E))) → rn_X11_worth (1000) (0, [(0, .ref 0), (1, iv (d))], [], (cW ki ln bt rl cp cs ct cv 5 14 ja ea ma a1 a2 a3 a4 a5 a6 a7 a8 jb eb mb b1 b2 b3 b4 b5 b6 b7 b8 re fl g1 g2 g3 g4 g5 (dW rt la rs rg pd du ds me tt gr su gp mk rf m1 m2 m3 m4 m5 mr mf n1 n2 n3 n4 n5 nr nf E))) Q := by
    intro Q hQ
    refine r_al rfl rfl ?_
    refine r_gf rfl rfl xg_0 rfl ?_
    refine r_il rfl rfl ?_
    refine r_v2s rfl rfl xg_4 rfl (c_isDebtC0 ha (by omega)) ?_
    rw [hb]
    refine r_zeq rfl rfl (bi_r _) (fun u1 => ?_) (fun u1 => ?_)
    · exact absurd u1 (by decide)
    · refine r_al rfl rfl ?_
      refine r_gf rfl rfl xg_0 rfl ?_
      refine r_il rfl rfl ?_
      refine r_v2s rfl rfl xg_36 rfl (c_sr0 hAd hAs hn hG hR hd) ?_
      refine r_goto rfl rfl ?_
      exact r_ret rfl rfl hQ
  obtain ⟨r, h1, h2⟩ := rn_S (vs := [.ref 0, iv (d)]) (Q := fun r => r = (some (iv (cSr a1 a3 g1 (cGt a3 a4 a5 a6 g1 g2 g3 gr re d ma.toNat) tt d 256)), (cW ki ln bt rl cp cs ct cv 5 14 ja ea ma a1 a2 a3 a4 a5 a6 a7 a8 jb eb mb b1 b2 b3 b4 b5 b6 b7 b8 re fl g1 g2 g3 g4 g5 (dW rt la rs rg pd du ds me tt (cGt a3 a4 a5 a6 g1 g2 g3 gr re d ma.toNat) su gp mk rf m1 m2 m3 m4 m5 mr mf n1 n2 n3 n4 n5 nr nf E)))) rfl (rn_up (N := 1000) (M := mm_fuel) (by decide) (main (fun r => r = (some (iv (cSr a1 a3 g1 (cGt a3 a4 a5 a6 g1 g2 g3 gr re d ma.toNat) tt d 256)), (cW ki ln bt rl cp cs ct cv 5 14 ja ea ma a1 a2 a3 a4 a5 a6 a7 a8 jb eb mb b1 b2 b3 b4 b5 b6 b7 b8 re fl g1 g2 g3 g4 g5 (dW rt la rs rg pd du ds me tt (cGt a3 a4 a5 a6 g1 g2 g3 gr re d ma.toNat) su gp mk rf m1 m2 m3 m4 m5 mr mf n1 n2 n3 n4 n5 nr nf E)))) rfl))
  have h1 : sX11_worth [.ref 0, iv (d)] (cW ki ln bt rl cp cs ct cv 5 14 ja ea ma a1 a2 a3 a4 a5 a6 a7 a8 jb eb mb b1 b2 b3 b4 b5 b6 b7 b8 re fl g1 g2 g3 g4 g5 (dW rt la rs rg pd du ds me tt gr su gp mk rf m1 m2 m3 m4 m5 mr mf n1 n2 n3 n4 n5 nr nf E)) = some r := h1
  rw [h1, h2]
theorem fg_lp1 (hAd : ARd b1 b2 b3) (hAs : ARs b4 b5 b6 b7) {q : Nat} (hq : q ≤ 16) (hd : -2147483648 ≤ d ∧ d ≤ 2147483647) (k : rn_X1_findGreatest N (85, [(3, iv (((q : Nat) : Int))), (2, .ref 14), (0, .ref 36), (1, iv (d))], [], (cW ki ln bt rl cp cs ct cv 14 5 ja ea ma a1 a2 a3 a4 a5 a6 a7 a8 jb eb (q : Int) b1 b2 b3 b4 b5 b6 b7 b8 re fl g1 g2 g3 g4 g5 (dW rt la rs rg pd du ds me tt (cGt b3 b4 b5 b6 g1 g2 g3 gr re d q) su gp mk rf m1 m2 m3 m4 m5 mr mf n1 n2 n3 n4 n5 nr nf E))) Q) : ∀ (m j : Nat), j + m = q → rn_X1_findGreatest (N + 60 * m + 60) (18, [(3, iv ((j : Int))), (2, .ref 14), (0, .ref 36), (1, iv (d))], [], (cW ki ln bt rl cp cs ct cv 14 5 ja ea ma a1 a2 a3 a4 a5 a6 a7 a8 jb eb (q : Int) b1 b2 b3 b4 b5 b6 b7 b8 re fl g1 g2 g3 g4 g5 (dW rt la rs rg pd du ds me tt (cGt b3 b4 b5 b6 g1 g2 g3 gr re d j) su gp mk rf m1 m2 m3 m4 m5 mr mf n1 n2 n3 n4 n5 nr nf E))) Q := by
  intro m
  induction m with
  | zero =>
    intro j hj
    have hj : j = q := by omega
    subst hj
    refine rn_up (N := N + 60) (by omega) ?_
    refine r_il rfl rfl ?_
    refine r_al rfl rfl ?_
    refine r_gf rfl rfl xg_14 rfl ?_
    refine r_cge rfl rfl (by omega) (by omega) (fun u1 => ?_) (fun u1 => ?_)
    · exact rn_up (by omega) k
    · omega
  | succ m ih =>
    intro j hj
    obtain ⟨M, hM⟩ : ∃ M, M = N + 60 * m + 60 := ⟨_, rfl⟩
    rw [← hM] at ih
    refine rn_up (N := M + 60) (by omega) ?_
    refine r_il rfl rfl ?_
    refine r_al rfl rfl ?_
    refine r_gf rfl rfl xg_14 rfl ?_
    refine r_cge rfl rfl (by omega) (by omega) (fun u1 => ?_) (fun u1 => ?_)
    · omega
    · have hp := (ar4 hAs (show 0 ≤ (j : Int) ∧ (j : Int) ≤ 15 by omega)).1
      refine r_al rfl rfl ?_
      refine r_gf rfl rfl xg_14 rfl ?_
      refine r_il rfl rfl ?_
      refine r_ia rfl xg_19 (by omega) (by omega) (by decide) ?_
      refine r_il rfl rfl ?_
      refine r_cne rfl rfl (as_r _) hd (fun u2 => ?_) (fun u2 => ?_)
      · refine r_inc (lv' := [(3, _), (2, _), (0, _), (1, _)]) rfl rfl rfl rfl ?_
        refine r_goto rfl rfl ?_
        have e : cGt b3 b4 b5 b6 g1 g2 g3 gr re d j = cGt b3 b4 b5 b6 g1 g2 g3 gr re d (j + 1) := by show _ = (bif decide ((b5 (Int.toNat (j : Int))).toInt = d) && !decide ((b6 (Int.toNat (j : Int))).toInt = 3) then _ else _); rw [decide_eq_false u2, Bool.false_and]; rfl
        rw [e]
        exact rn_up (by omega) (ih (j + 1) (by omega))
      · refine r_al rfl rfl ?_
        refine r_gf rfl rfl xg_14 rfl ?_
        refine r_il rfl rfl ?_
        refine r_ia rfl xg_20 (by omega) (by omega) (by decide) ?_
        refine r_ic rfl ?_
        refine r_ceq rfl rfl (as_r _) (by decide) (fun u3 => ?_) (fun u3 => ?_)
        · refine r_inc (lv' := [(3, _), (2, _), (0, _), (1, _)]) rfl rfl rfl rfl ?_
          refine r_goto rfl rfl ?_
          have e : cGt b3 b4 b5 b6 g1 g2 g3 gr re d j = cGt b3 b4 b5 b6 g1 g2 g3 gr re d (j + 1) := by show _ = (bif decide ((b5 (Int.toNat (j : Int))).toInt = d) && !decide ((b6 (Int.toNat (j : Int))).toInt = 3) then _ else _); rw [decide_eq_true u2, decide_eq_true u3]; rfl
          rw [e]
          exact rn_up (by omega) (ih (j + 1) (by omega))
        · refine r_al rfl rfl ?_
          refine r_gf rfl rfl xg_14 rfl ?_
          refine r_il rfl rfl ?_
          refine r_ia rfl xg_18 (by omega) (by omega) (by decide) ?_
          refine r_isw (lv' := [(4, _), (3, _), (2, _), (0, _), (1, _)]) rfl rfl rfl ?_
          refine r_al rfl rfl ?_
          refine r_gf rfl rfl xg_36 rfl ?_
          refine r_ilw rfl rfl ?_
          refine r_al rfl rfl ?_
          refine r_gf rfl rfl xg_36 rfl ?_
          refine r_ilw rfl rfl ?_
          refine r_ia rfl xg_38 (by omega) (by omega) (by decide) ?_
          refine r_al rfl rfl ?_
          refine r_gf rfl rfl xg_36 rfl ?_
          refine r_il rfl rfl ?_
          refine r_v2s rfl rfl xg_4 rfl (c_lrC1 hAd hAs (by omega) (by omega)) ?_
          refine r_s2s rfl rfl rfl (c_maxC (as_r _) cLR_r) ?_
          refine r_ias rfl xg_38 (by omega) (by omega) (by decide) xs_38 ?_
          refine r_inc (lv' := [(3, _), (4, _), (2, _), (0, _), (1, _)]) rfl rfl rfl rfl ?_
          refine r_goto rfl rfl ?_
          have e : upd (cGt b3 b4 b5 b6 g1 g2 g3 gr re d j) (Int.toNat (b4 (Int.toNat (j : Int))).toInt) (Int32.ofInt (mxI (cGt b3 b4 b5 b6 g1 g2 g3 gr re d j (Int.toNat (b4 (Int.toNat (j : Int))).toInt)).toInt (cLR b3 b5 g1 g2 g3 re (j : Int)))) = cGt b3 b4 b5 b6 g1 g2 g3 gr re d (j + 1) := by show _ = (bif decide ((b5 (Int.toNat (j : Int))).toInt = d) && !decide ((b6 (Int.toNat (j : Int))).toInt = 3) then _ else _); rw [decide_eq_true u2, decide_eq_false u3]; rfl
          rw [e]
          refine rn_LE (a := [(3, iv ((j : Int) + 1)), (2, .ref 14), (0, .ref 36), (1, iv (d))]) ⟨(List.forall_mem_cons.mpr ⟨List.mem_cons_self, (List.forall_mem_cons.mpr ⟨(List.mem_cons_of_mem _ (List.mem_cons_of_mem _ List.mem_cons_self)), (List.forall_mem_cons.mpr ⟨(List.mem_cons_of_mem _ (List.mem_cons_of_mem _ (List.mem_cons_of_mem _ List.mem_cons_self))), (List.forall_mem_cons.mpr ⟨(List.mem_cons_of_mem _ (List.mem_cons_of_mem _ (List.mem_cons_of_mem _ (List.mem_cons_of_mem _ List.mem_cons_self)))), (fun _ h => absurd h List.not_mem_nil)⟩)⟩)⟩)⟩), (by show List.Nodup [3, 2, 0, 1]; decide), (by show List.Nodup [3, 4, 2, 0, 1]; decide)⟩ ?_
          exact rn_up (by omega) (ih (j + 1) (by omega))
theorem c_fg1 (hAd : ARd b1 b2 b3) (hAs : ARs b4 b5 b6 b7) (hn : 0 ≤ mb ∧ mb ≤ 16) (hd : -2147483648 ≤ d ∧ d ≤ 2147483647) : sX1_findGreatest [.ref 36, iv d] (cW ki ln bt rl cp cs ct cv 14 5 ja ea ma a1 a2 a3 a4 a5 a6 a7 a8 jb eb mb b1 b2 b3 b4 b5 b6 b7 b8 re fl g1 g2 g3 g4 g5 (dW rt la rs rg pd du ds me tt gr su gp mk rf m1 m2 m3 m4 m5 mr mf n1 n2 n3 n4 n5 nr nf E)) = some (none, (cW ki ln bt rl cp cs ct cv 14 5 ja ea ma a1 a2 a3 a4 a5 a6 a7 a8 jb eb mb b1 b2 b3 b4 b5 b6 b7 b8 re fl g1 g2 g3 g4 g5 (dW rt la rs rg pd du ds me tt (cGt b3 b4 b5 b6 g1 g2 g3 gr re d mb.toNat) su gp mk rf m1 m2 m3 m4 m5 mr mf n1 n2 n3 n4 n5 nr nf E))) := by
  obtain ⟨q, rfl⟩ := Int.eq_ofNat_of_zero_le hn.1
  have hq : q ≤ 16 := by omega
  have main : ∀ Q : mm_R → Prop, Q (none, (cW ki ln bt rl cp cs ct cv 14 5 ja ea ma a1 a2 a3 a4 a5 a6 a7 a8 jb eb (q : Int) b1 b2 b3 b4 b5 b6 b7 b8 re fl g1 g2 g3 g4 g5 (dW rt la rs rg pd du ds me tt (cGt b3 b4 b5 b6 g1 g2 g3 gr re d q) su gp mk rf m1 m2 m3 m4 m5 mr mf n1 n2 n3 n4 n5 nr nf E))) → rn_X1_findGreatest (20 + 60 * 16 + 60 + 20) (0, [(0, .ref 36), (1, iv (d))], [], (cW ki ln bt rl cp cs ct cv 14 5 ja ea ma a1 a2 a3 a4 a5 a6 a7 a8 jb eb (q : Int) b1 b2 b3 b4 b5 b6 b7 b8 re fl g1 g2 g3 g4 g5 (dW rt la rs rg pd du ds me tt gr su gp mk rf m1 m2 m3 m4 m5 mr mf n1 n2 n3 n4 n5 nr nf E))) Q := by
    intro Q hQ
    refine r_al rfl rfl ?_
    refine r_gf rfl rfl xg_36 rfl ?_
    refine r_gf rfl rfl xg_4 rfl ?_
    refine r_as (lv' := [(2, _), (0, _), (1, _)]) rfl rfl rfl ?_
    refine r_al rfl rfl ?_
    refine r_gf rfl rfl xg_36 rfl ?_
    refine r_ic rfl ?_
    refine r_s2n rfl rfl rfl c_fillx38 ?_
    refine r_ic rfl ?_
    refine r_is (lv' := [(3, _), (2, _), (0, _), (1, _)]) rfl rfl rfl ?_
    refine rn_up (N := 20 + 60 * q + 60) (by omega) (fg_lp1 (N := 20) hAd hAs hq hd ?_ q 0 (by omega))
    exact r_retv rfl rfl hQ
  obtain ⟨r, h1, h2⟩ := rn_S (vs := [.ref 36, iv d]) (Q := fun r => r = (none, (cW ki ln bt rl cp cs ct cv 14 5 ja ea ma a1 a2 a3 a4 a5 a6 a7 a8 jb eb (q : Int) b1 b2 b3 b4 b5 b6 b7 b8 re fl g1 g2 g3 g4 g5 (dW rt la rs rg pd du ds me tt (cGt b3 b4 b5 b6 g1 g2 g3 gr re d q) su gp mk rf m1 m2 m3 m4 m5 mr mf n1 n2 n3 n4 n5 nr nf E)))) rfl (rn_up (N := 20 + 60 * 16 + 60 + 20) (M := mm_fuel) (by decide) (main (fun r => r = (none, (cW ki ln bt rl cp cs ct cv 14 5 ja ea ma a1 a2 a3 a4 a5 a6 a7 a8 jb eb (q : Int) b1 b2 b3 b4 b5 b6 b7 b8 re fl g1 g2 g3 g4 g5 (dW rt la rs rg pd du ds me tt (cGt b3 b4 b5 b6 g1 g2 g3 gr re d q) su gp mk rf m1 m2 m3 m4 m5 mr mf n1 n2 n3 n4 n5 nr nf E)))) rfl))
  have h1 : sX1_findGreatest [.ref 36, iv d] (cW ki ln bt rl cp cs ct cv 14 5 ja ea ma a1 a2 a3 a4 a5 a6 a7 a8 jb eb (q : Int) b1 b2 b3 b4 b5 b6 b7 b8 re fl g1 g2 g3 g4 g5 (dW rt la rs rg pd du ds me tt gr su gp mk rf m1 m2 m3 m4 m5 mr mf n1 n2 n3 n4 n5 nr nf E)) = some r := h1
  rw [h1, h2]
  rfl
theorem wt_lp1  (k : rn_X1_weightOf N (45, [(3, iv (((8 : Nat) : Int))), (2, iv (cWt tt x 8)), (0, .ref 36), (1, iv (x))], [], (cW ki ln bt rl cp cs ct cv 14 5 ja ea ma a1 a2 a3 a4 a5 a6 a7 a8 jb eb mb b1 b2 b3 b4 b5 b6 b7 b8 re fl g1 g2 g3 g4 g5 (dW rt la rs rg pd du ds me tt gr su gp mk rf m1 m2 m3 m4 m5 mr mf n1 n2 n3 n4 n5 nr nf E))) Q) : ∀ (m j : Nat), j + m = 8 → rn_X1_weightOf (N + 40 * m + 40) (4, [(3, iv ((j : Int))), (2, iv (cWt tt x j)), (0, .ref 36), (1, iv (x))], [], (cW ki ln bt rl cp cs ct cv 14 5 ja ea ma a1 a2 a3 a4 a5 a6 a7 a8 jb eb mb b1 b2 b3 b4 b5 b6 b7 b8 re fl g1 g2 g3 g4 g5 (dW rt la rs rg pd du ds me tt gr su gp mk rf m1 m2 m3 m4 m5 mr mf n1 n2 n3 n4 n5 nr nf E))) Q := by
  intro m
  induction m with
  | zero =>
    intro j hj
    have hj : j = 8 := by omega
    subst hj
    refine rn_up (N := N + 40) (by omega) ?_
    refine r_il rfl rfl ?_
    refine r_bi rfl (by decide) ?_
    refine r_cge rfl rfl (by omega) (by omega) (fun u1 => ?_) (fun u1 => ?_)
    · exact rn_up (by omega) k
    · omega
  | succ m ih =>
    intro j hj
    obtain ⟨M, hM⟩ : ∃ M, M = N + 40 * m + 40 := ⟨_, rfl⟩
    rw [← hM] at ih
    refine rn_up (N := M + 40) (by omega) ?_
    refine r_il rfl rfl ?_
    refine r_bi rfl (by decide) ?_
    refine r_cge rfl rfl (by omega) (by omega) (fun u1 => ?_) (fun u1 => ?_)
    · omega
    · refine r_il rfl rfl ?_
      refine r_il rfl rfl ?_
      refine r_il rfl rfl ?_
      refine r_s2s rfl rfl rfl (c_isIn (by omega)) ?_
      have K : rn_X1_weightOf (M + 20) (37, [(3, iv ((j : Int))), (2, iv (cWt tt x j)), (0, .ref 36), (1, iv (x))], [iv ((bif zb (Int32.ofInt x) j then (tt (Int.toNat (j : Int))).toInt else 10 - (tt (Int.toNat (j : Int))).toInt)), iv (cWt tt x j)], (cW ki ln bt rl cp cs ct cv 14 5 ja ea ma a1 a2 a3 a4 a5 a6 a7 a8 jb eb mb b1 b2 b3 b4 b5 b6 b7 b8 re fl g1 g2 g3 g4 g5 (dW rt la rs rg pd du ds me tt gr su gp mk rf m1 m2 m3 m4 m5 mr mf n1 n2 n3 n4 n5 nr nf E))) Q := by
        refine r_mul rfl ?_
        refine r_is (lv' := [(2, _), (3, _), (0, _), (1, _)]) rfl rfl rfl ?_
        refine r_inc (lv' := [(3, _), (2, _), (0, _), (1, _)]) rfl rfl rfl rfl ?_
        refine r_goto rfl rfl ?_
        exact rn_up (by omega) (ih (j + 1) (by omega))
      refine r_zeq rfl rfl (bi_r _) (fun u2 => ?_) (fun u2 => ?_)
      · have u2 : zb (Int32.ofInt x) j = false := bi_0 u2
        refine r_bi rfl (by decide) ?_
        refine r_al rfl rfl ?_
        refine r_gf rfl rfl xg_36 rfl ?_
        refine r_il rfl rfl ?_
        refine r_ia rfl xg_37 (by omega) (by omega) (by decide) ?_
        refine r_sub rfl ?_
        rw [u2] at K
        exact rn_up (N := M + 20) (by omega) K
      · have u2 : zb (Int32.ofInt x) j = true := bi_1 u2
        refine r_al rfl rfl ?_
        refine r_gf rfl rfl xg_36 rfl ?_
        refine r_il rfl rfl ?_
        refine r_ia rfl xg_37 (by omega) (by omega) (by decide) ?_
        refine r_goto rfl rfl ?_
        rw [u2] at K
        exact rn_up (N := M + 20) (by omega) K
theorem c_wt1  : sX1_weightOf [.ref 36, iv (x)] (cW ki ln bt rl cp cs ct cv 14 5 ja ea ma a1 a2 a3 a4 a5 a6 a7 a8 jb eb mb b1 b2 b3 b4 b5 b6 b7 b8 re fl g1 g2 g3 g4 g5 (dW rt la rs rg pd du ds me tt gr su gp mk rf m1 m2 m3 m4 m5 mr mf n1 n2 n3 n4 n5 nr nf E)) = some (some (iv (cWt tt x 8)), (cW ki ln bt rl cp cs ct cv 14 5 ja ea ma a1 a2 a3 a4 a5 a6 a7 a8 jb eb mb b1 b2 b3 b4 b5 b6 b7 b8 re fl g1 g2 g3 g4 g5 (dW rt la rs rg pd du ds me tt gr su gp mk rf m1 m2 m3 m4 m5 mr mf n1 n2 n3 n4 n5 nr nf E))) := by
  have main : ∀ Q : mm_R → Prop, Q (some (iv (cWt tt x 8)), (cW ki ln bt rl cp cs ct cv 14 5 ja ea ma a1 a2 a3 a4 a5 a6 a7 a8 jb eb mb b1 b2 b3 b4 b5 b6 b7 b8 re fl g1 g2 g3 g4 g5 (dW rt la rs rg pd du ds me tt gr su gp mk rf m1 m2 m3 m4 m5 mr mf n1 n2 n3 n4 n5 nr nf E))) → rn_X1_weightOf (20 + 40 * 8 + 40 + 20) (0, [(0, .ref 36), (1, iv (x))], [], (cW ki ln bt rl cp cs ct cv 14 5 ja ea ma a1 a2 a3 a4 a5 a6 a7 a8 jb eb mb b1 b2 b3 b4 b5 b6 b7 b8 re fl g1 g2 g3 g4 g5 (dW rt la rs rg pd du ds me tt gr su gp mk rf m1 m2 m3 m4 m5 mr mf n1 n2 n3 n4 n5 nr nf E))) Q := by
    intro Q hQ
    refine r_ic rfl ?_
    refine r_is (lv' := [(2, _), (0, _), (1, _)]) rfl rfl rfl ?_
    refine r_ic rfl ?_
    refine r_is (lv' := [(3, _), (2, _), (0, _), (1, _)]) rfl rfl rfl ?_
    refine rn_up (N := 20 + 40 * 8 + 40) (by decide) (wt_lp1 (N := 20) ?_ 8 0 rfl)
    refine r_il rfl rfl ?_
    exact r_ret rfl rfl hQ
  obtain ⟨r, h1, h2⟩ := rn_S (vs := [.ref 36, iv (x)]) (Q := fun r => r = (some (iv (cWt tt x 8)), (cW ki ln bt rl cp cs ct cv 14 5 ja ea ma a1 a2 a3 a4 a5 a6 a7 a8 jb eb mb b1 b2 b3 b4 b5 b6 b7 b8 re fl g1 g2 g3 g4 g5 (dW rt la rs rg pd du ds me tt gr su gp mk rf m1 m2 m3 m4 m5 mr mf n1 n2 n3 n4 n5 nr nf E)))) rfl (rn_up (N := 20 + 40 * 8 + 40 + 20) (M := mm_fuel) (by decide) (main (fun r => r = (some (iv (cWt tt x 8)), (cW ki ln bt rl cp cs ct cv 14 5 ja ea ma a1 a2 a3 a4 a5 a6 a7 a8 jb eb mb b1 b2 b3 b4 b5 b6 b7 b8 re fl g1 g2 g3 g4 g5 (dW rt la rs rg pd du ds me tt gr su gp mk rf m1 m2 m3 m4 m5 mr mf n1 n2 n3 n4 n5 nr nf E)))) rfl))
  have h1 : sX1_weightOf [.ref 36, iv (x)] (cW ki ln bt rl cp cs ct cv 14 5 ja ea ma a1 a2 a3 a4 a5 a6 a7 a8 jb eb mb b1 b2 b3 b4 b5 b6 b7 b8 re fl g1 g2 g3 g4 g5 (dW rt la rs rg pd du ds me tt gr su gp mk rf m1 m2 m3 m4 m5 mr mf n1 n2 n3 n4 n5 nr nf E)) = some r := h1
  rw [h1, h2]
theorem pw_lp1  (k : rn_X1_isPaidWhole N (58, [(4, iv (((8 : Nat) : Int))), (3, iv (cSm gr x 8)), (0, .ref 36), (1, iv (d)), (2, iv (x))], [], (cW ki ln bt rl cp cs ct cv 14 5 ja ea ma a1 a2 a3 a4 a5 a6 a7 a8 jb eb mb b1 b2 b3 b4 b5 b6 b7 b8 re fl g1 g2 g3 g4 g5 (dW rt la rs rg pd du ds me tt gr su gp mk rf m1 m2 m3 m4 m5 mr mf n1 n2 n3 n4 n5 nr nf E))) Q) : ∀ (m j : Nat), j + m = 8 → rn_X1_isPaidWhole (N + 40 * m + 40) (26, [(4, iv ((j : Int))), (3, iv (cSm gr x j)), (0, .ref 36), (1, iv (d)), (2, iv (x))], [], (cW ki ln bt rl cp cs ct cv 14 5 ja ea ma a1 a2 a3 a4 a5 a6 a7 a8 jb eb mb b1 b2 b3 b4 b5 b6 b7 b8 re fl g1 g2 g3 g4 g5 (dW rt la rs rg pd du ds me tt gr su gp mk rf m1 m2 m3 m4 m5 mr mf n1 n2 n3 n4 n5 nr nf E))) Q := by
  intro m
  induction m with
  | zero =>
    intro j hj
    have hj : j = 8 := by omega
    subst hj
    refine rn_up (N := N + 40) (by omega) ?_
    refine r_ilw rfl rfl ?_
    refine r_bi rfl (by decide) ?_
    refine r_cge rfl rfl (by omega) (by omega) (fun u1 => ?_) (fun u1 => ?_)
    · exact rn_up (by omega) k
    · omega
  | succ m ih =>
    intro j hj
    obtain ⟨M, hM⟩ : ∃ M, M = N + 40 * m + 40 := ⟨_, rfl⟩
    rw [← hM] at ih
    refine rn_up (N := M + 40) (by omega) ?_
    refine r_ilw rfl rfl ?_
    refine r_bi rfl (by decide) ?_
    refine r_cge rfl rfl (by omega) (by omega) (fun u1 => ?_) (fun u1 => ?_)
    · omega
    · refine r_il rfl rfl ?_
      refine r_ilw rfl rfl ?_
      refine r_s2s rfl rfl rfl (c_isIn (by omega)) ?_
      refine r_zne rfl rfl (bi_r _) (fun u2 => ?_) (fun u2 => ?_)
      · have u2 : zb (Int32.ofInt x) j = true := bi_1 u2
        refine r_inc (lv' := [(4, _), (3, _), (0, _), (1, _), (2, _)]) rfl rfl rfl rfl ?_
        refine r_goto rfl rfl ?_
        have e : cSm gr x j = cSm gr x (j + 1) := by show _ = (bif zb (Int32.ofInt x) j then _ else _); rw [u2]; rfl
        rw [e]
        exact rn_up (by omega) (ih (j + 1) (by omega))
      · have u2 : zb (Int32.ofInt x) j = false := bi_0 u2
        refine r_il rfl rfl ?_
        refine r_al rfl rfl ?_
        refine r_gf rfl rfl xg_36 rfl ?_
        refine r_ilw rfl rfl ?_
        refine r_ia rfl xg_38 (by omega) (by omega) (by decide) ?_
        refine r_add rfl ?_
        refine r_is (lv' := [(3, _), (4, _), (0, _), (1, _), (2, _)]) rfl rfl rfl ?_
        refine r_inc (lv' := [(4, _), (3, _), (0, _), (1, _), (2, _)]) rfl rfl rfl rfl ?_
        refine r_goto rfl rfl ?_
        have e : cSm gr x j + (gr (Int.toNat (j : Int))).toInt = cSm gr x (j + 1) := by show _ = (bif zb (Int32.ofInt x) j then _ else _); rw [u2]; rfl
        rw [e]
        exact rn_up (by omega) (ih (j + 1) (by omega))
theorem c_pw1 (hAd : ARd b1 b2 b3) (hAs : ARs b4 b5 b6 b7) (hG : ∀ p : Nat, p < 8 → 0 ≤ (gr p).toInt ∧ (gr p).toInt ≤ 999) (hR : -1000 ≤ cR b3 g1 d ∧ cR b3 g1 d ≤ 1000) (hd : 0 ≤ d ∧ d ≤ 9) : sX1_isPaidWhole [.ref 36, iv (d), iv (x)] (cW ki ln bt rl cp cs ct cv 14 5 ja ea ma a1 a2 a3 a4 a5 a6 a7 a8 jb eb mb b1 b2 b3 b4 b5 b6 b7 b8 re fl g1 g2 g3 g4 g5 (dW rt la rs rg pd du ds me tt gr su gp mk rf m1 m2 m3 m4 m5 mr mf n1 n2 n3 n4 n5 nr nf E)) = some (some (iv (bi (cPW b1 b3 g1 gr d x))), (cW ki ln bt rl cp cs ct cv 14 5 ja ea ma a1 a2 a3 a4 a5 a6 a7 a8 jb eb mb b1 b2 b3 b4 b5 b6 b7 b8 re fl g1 g2 g3 g4 g5 (dW rt la rs rg pd du ds me tt gr su gp mk rf m1 m2 m3 m4 m5 mr mf n1 n2 n3 n4 n5 nr nf E))) := by
  have main : ∀ Q : mm_R → Prop, Q (some (iv (bi (cPW b1 b3 g1 gr d x))), (cW ki ln bt rl cp cs ct cv 14 5 ja ea ma a1 a2 a3 a4 a5 a6 a7 a8 jb eb mb b1 b2 b3 b4 b5 b6 b7 b8 re fl g1 g2 g3 g4 g5 (dW rt la rs rg pd du ds me tt gr su gp mk rf m1 m2 m3 m4 m5 mr mf n1 n2 n3 n4 n5 nr nf E))) → rn_X1_isPaidWhole (20 + 40 * 8 + 40 + 30) (0, [(0, .ref 36), (1, iv (d)), (2, iv (x))], [], (cW ki ln bt rl cp cs ct cv 14 5 ja ea ma a1 a2 a3 a4 a5 a6 a7 a8 jb eb mb b1 b2 b3 b4 b5 b6 b7 b8 re fl g1 g2 g3 g4 g5 (dW rt la rs rg pd du ds me tt gr su gp mk rf m1 m2 m3 m4 m5 mr mf n1 n2 n3 n4 n5 nr nf E))) Q := by
    intro Q hQ
    have h1 := (ar1 hAd hd).1
    have hs := cSm_r (x := x) hG 8 (by decide)
    refine r_il rfl rfl ?_
    refine r_al rfl rfl ?_
    refine r_gf rfl rfl xg_36 rfl ?_
    refine r_gf rfl rfl xg_4 rfl ?_
    refine r_gf rfl rfl xg_14 rfl ?_
    refine r_il rfl rfl ?_
    refine r_ia rfl xg_15 (by omega) (by omega) (by decide) ?_
    refine r_s2s rfl rfl rfl (c_isIn (by omega)) ?_
    refine r_zne rfl rfl (bi_r _) (fun u1 => ?_) (fun u1 => ?_)
    · have u1 := bi_1 u1
      refine r_ic rfl ?_
      refine r_is (lv' := [(3, _), (0, _), (1, _), (2, _)]) rfl rfl rfl ?_
      refine r_ic rfl ?_
      refine r_isw (lv' := [(4, _), (3, _), (0, _), (1, _), (2, _)]) rfl rfl rfl ?_
      refine rn_up (N := 20 + 40 * 8 + 40) (by decide) (pw_lp1 (N := 20) ?_ 8 0 rfl)
      refine r_il rfl rfl ?_
      refine r_al rfl rfl ?_
      refine r_gf rfl rfl xg_36 rfl ?_
      refine r_il rfl rfl ?_
      refine r_v2s rfl rfl xg_4 rfl (c_restC1 hd) ?_
      refine r_clt rfl rfl (by omega) (by omega) (fun u2 => ?_) (fun u2 => ?_)
      · have e : cPW b1 b3 g1 gr d x = false := by unfold cPW; rw [u1, decide_eq_false (Int.not_le.mpr u2)]; rfl
        rw [e] at hQ
        refine r_ic rfl ?_
        exact r_retb rfl rfl (by omega) hQ
      · have e : cPW b1 b3 g1 gr d x = true := by unfold cPW; rw [u1, decide_eq_true u2]; rfl
        rw [e] at hQ
        refine r_ic rfl ?_
        refine r_goto rfl rfl ?_
        exact r_retb rfl rfl (by omega) hQ
    · have e : cPW b1 b3 g1 gr d x = true := by unfold cPW; rw [bi_0 u1]; rfl
      rw [e] at hQ
      refine r_ic rfl ?_
      exact r_retb rfl rfl (by omega) hQ
  obtain ⟨r, h1, h2⟩ := rn_S (vs := [.ref 36, iv (d), iv (x)]) (Q := fun r => r = (some (iv (bi (cPW b1 b3 g1 gr d x))), (cW ki ln bt rl cp cs ct cv 14 5 ja ea ma a1 a2 a3 a4 a5 a6 a7 a8 jb eb mb b1 b2 b3 b4 b5 b6 b7 b8 re fl g1 g2 g3 g4 g5 (dW rt la rs rg pd du ds me tt gr su gp mk rf m1 m2 m3 m4 m5 mr mf n1 n2 n3 n4 n5 nr nf E)))) rfl (rn_up (N := 20 + 40 * 8 + 40 + 30) (M := mm_fuel) (by decide) (main (fun r => r = (some (iv (bi (cPW b1 b3 g1 gr d x))), (cW ki ln bt rl cp cs ct cv 14 5 ja ea ma a1 a2 a3 a4 a5 a6 a7 a8 jb eb mb b1 b2 b3 b4 b5 b6 b7 b8 re fl g1 g2 g3 g4 g5 (dW rt la rs rg pd du ds me tt gr su gp mk rf m1 m2 m3 m4 m5 mr mf n1 n2 n3 n4 n5 nr nf E)))) rfl))
  have h1 : sX1_isPaidWhole [.ref 36, iv (d), iv (x)] (cW ki ln bt rl cp cs ct cv 14 5 ja ea ma a1 a2 a3 a4 a5 a6 a7 a8 jb eb mb b1 b2 b3 b4 b5 b6 b7 b8 re fl g1 g2 g3 g4 g5 (dW rt la rs rg pd du ds me tt gr su gp mk rf m1 m2 m3 m4 m5 mr mf n1 n2 n3 n4 n5 nr nf E)) = some r := h1
  rw [h1, h2]
theorem sr_lp1 (hAd : ARd b1 b2 b3) (hAs : ARs b4 b5 b6 b7) (hG : ∀ p : Nat, p < 8 → 0 ≤ (gr p).toInt ∧ (gr p).toInt ≤ 999) (hR : -1000 ≤ cR b3 g1 d ∧ cR b3 g1 d ≤ 1000) (hd : 0 ≤ d ∧ d ≤ 9) (k : rn_X1_shareOf N (39, [(3, iv (((256 : Nat) : Int))), (2, iv (cSr b1 b3 g1 gr tt d 256)), (0, .ref 36), (1, iv (d))], [], (cW ki ln bt rl cp cs ct cv 14 5 ja ea ma a1 a2 a3 a4 a5 a6 a7 a8 jb eb mb b1 b2 b3 b4 b5 b6 b7 b8 re fl g1 g2 g3 g4 g5 (dW rt la rs rg pd du ds me tt gr su gp mk rf m1 m2 m3 m4 m5 mr mf n1 n2 n3 n4 n5 nr nf E))) Q) : ∀ (m j : Nat), j + m = 256 → rn_X1_shareOf (N + 40 * m + 40) (9, [(3, iv ((j : Int))), (2, iv (cSr b1 b3 g1 gr tt d j)), (0, .ref 36), (1, iv (d))], [], (cW ki ln bt rl cp cs ct cv 14 5 ja ea ma a1 a2 a3 a4 a5 a6 a7 a8 jb eb mb b1 b2 b3 b4 b5 b6 b7 b8 re fl g1 g2 g3 g4 g5 (dW rt la rs rg pd du ds me tt gr su gp mk rf m1 m2 m3 m4 m5 mr mf n1 n2 n3 n4 n5 nr nf E))) Q := by
  intro m
  induction m with
  | zero =>
    intro j hj
    have hj : j = 256 := by omega
    subst hj
    refine rn_up (N := N + 40) (by omega) ?_
    refine r_il rfl rfl ?_
    refine r_si rfl (by decide) ?_
    refine r_cgt rfl rfl (by omega) (by omega) (fun u1 => ?_) (fun u1 => ?_)
    · exact rn_up (by omega) k
    · omega
  | succ m ih =>
    intro j hj
    obtain ⟨M, hM⟩ : ∃ M, M = N + 40 * m + 40 := ⟨_, rfl⟩
    rw [← hM] at ih
    refine rn_up (N := M + 40) (by omega) ?_
    refine r_il rfl rfl ?_
    refine r_si rfl (by decide) ?_
    refine r_cgt rfl rfl (by omega) (by omega) (fun u1 => ?_) (fun u1 => ?_)
    · omega
    · refine r_al rfl rfl ?_
      refine r_il rfl rfl ?_
      refine r_il rfl rfl ?_
      refine r_v3s rfl rfl xg_36 rfl (c_pw1 hAd hAs hG hR hd) ?_
      refine r_zeq rfl rfl (bi_r _) (fun u2 => ?_) (fun u2 => ?_)
      · refine r_inc (lv' := [(3, _), (2, _), (0, _), (1, _)]) rfl rfl rfl rfl ?_
        refine r_goto rfl rfl ?_
        have e : cSr b1 b3 g1 gr tt d j = cSr b1 b3 g1 gr tt d (j + 1) := by show _ = (bif cPW b1 b3 g1 gr d (j : Int) then _ else _); rw [bi_0 u2]; rfl
        rw [e]
        exact rn_up (by omega) (ih (j + 1) (by omega))
      · refine r_il rfl rfl ?_
        refine r_al rfl rfl ?_
        refine r_il rfl rfl ?_
        refine r_v2s rfl rfl xg_36 rfl c_wt1 ?_
        refine r_add rfl ?_
        refine r_is (lv' := [(2, _), (3, _), (0, _), (1, _)]) rfl rfl rfl ?_
        refine r_inc (lv' := [(3, _), (2, _), (0, _), (1, _)]) rfl rfl rfl rfl ?_
        refine r_goto rfl rfl ?_
        have e : cSr b1 b3 g1 gr tt d j + cWt tt (j : Int) 8 = cSr b1 b3 g1 gr tt d (j + 1) := by show _ = (bif cPW b1 b3 g1 gr d (j : Int) then _ else _); rw [bi_1 u2]; rfl
        rw [e]
        exact rn_up (by omega) (ih (j + 1) (by omega))
theorem c_sr1 (hAd : ARd b1 b2 b3) (hAs : ARs b4 b5 b6 b7) (hn : 0 ≤ mb ∧ mb ≤ 16) (hG : ∀ p : Nat, p < 8 → 0 ≤ ((cGt b3 b4 b5 b6 g1 g2 g3 gr re d mb.toNat) p).toInt ∧ ((cGt b3 b4 b5 b6 g1 g2 g3 gr re d mb.toNat) p).toInt ≤ 999) (hR : -1000 ≤ cR b3 g1 d ∧ cR b3 g1 d ≤ 1000) (hd : 0 ≤ d ∧ d ≤ 9) : sX1_shareOf [.ref 36, iv (d)] (cW ki ln bt rl cp cs ct cv 14 5 ja ea ma a1 a2 a3 a4 a5 a6 a7 a8 jb eb mb b1 b2 b3 b4 b5 b6 b7 b8 re fl g1 g2 g3 g4 g5 (dW rt la rs rg pd du ds me tt gr su gp mk rf m1 m2 m3 m4 m5 mr mf n1 n2 n3 n4 n5 nr nf E)) = some (some (iv (cSr b1 b3 g1 (cGt b3 b4 b5 b6 g1 g2 g3 gr re d mb.toNat) tt d 256)), (cW ki ln bt rl cp cs ct cv 14 5 ja ea ma a1 a2 a3 a4 a5 a6 a7 a8 jb eb mb b1 b2 b3 b4 b5 b6 b7 b8 re fl g1 g2 g3 g4 g5 (dW rt la rs rg pd du ds me tt (cGt b3 b4 b5 b6 g1 g2 g3 gr re d mb.toNat) su gp mk rf m1 m2 m3 m4 m5 mr mf n1 n2 n3 n4 n5 nr nf E))) := by
  have main : ∀ Q : mm_R → Prop, Q (some (iv (cSr b1 b3 g1 (cGt b3 b4 b5 b6 g1 g2 g3 gr re d mb.toNat) tt d 256)), (cW ki ln bt rl cp cs ct cv 14 5 ja ea ma a1 a2 a3 a4 a5 a6 a7 a8 jb eb mb b1 b2 b3 b4 b5 b6 b7 b8 re fl g1 g2 g3 g4 g5 (dW rt la rs rg pd du ds me tt (cGt b3 b4 b5 b6 g1 g2 g3 gr re d mb.toNat) su gp mk rf m1 m2 m3 m4 m5 mr mf n1 n2 n3 n4 n5 nr nf E))) → rn_X1_shareOf (20 + 40 * 256 + 40 + 30) (0, [(0, .ref 36), (1, iv (d))], [], (cW ki ln bt rl cp cs ct cv 14 5 ja ea ma a1 a2 a3 a4 a5 a6 a7 a8 jb eb mb b1 b2 b3 b4 b5 b6 b7 b8 re fl g1 g2 g3 g4 g5 (dW rt la rs rg pd du ds me tt gr su gp mk rf m1 m2 m3 m4 m5 mr mf n1 n2 n3 n4 n5 nr nf E))) Q := by
    intro Q hQ
    refine r_al rfl rfl ?_
    refine r_il rfl rfl ?_
    refine r_v2n rfl rfl xg_36 rfl (c_fg1 hAd hAs hn (by omega)) ?_
    refine r_ic rfl ?_
    refine r_is (lv' := [(2, _), (0, _), (1, _)]) rfl rfl rfl ?_
    refine r_ic rfl ?_
    refine r_is (lv' := [(3, _), (2, _), (0, _), (1, _)]) rfl rfl rfl ?_
    refine rn_up (N := 20 + 40 * 256 + 40) (by decide) (sr_lp1 (N := 20) hAd hAs hG hR hd ?_ 256 0 rfl)
    refine r_il rfl rfl ?_
    exact r_ret rfl rfl hQ
  obtain ⟨r, h1, h2⟩ := rn_S (vs := [.ref 36, iv (d)]) (Q := fun r => r = (some (iv (cSr b1 b3 g1 (cGt b3 b4 b5 b6 g1 g2 g3 gr re d mb.toNat) tt d 256)), (cW ki ln bt rl cp cs ct cv 14 5 ja ea ma a1 a2 a3 a4 a5 a6 a7 a8 jb eb mb b1 b2 b3 b4 b5 b6 b7 b8 re fl g1 g2 g3 g4 g5 (dW rt la rs rg pd du ds me tt (cGt b3 b4 b5 b6 g1 g2 g3 gr re d mb.toNat) su gp mk rf m1 m2 m3 m4 m5 mr mf n1 n2 n3 n4 n5 nr nf E)))) rfl (rn_up (N := 20 + 40 * 256 + 40 + 30) (M := mm_fuel) (by decide) (main (fun r => r = (some (iv (cSr b1 b3 g1 (cGt b3 b4 b5 b6 g1 g2 g3 gr re d mb.toNat) tt d 256)), (cW ki ln bt rl cp cs ct cv 14 5 ja ea ma a1 a2 a3 a4 a5 a6 a7 a8 jb eb mb b1 b2 b3 b4 b5 b6 b7 b8 re fl g1 g2 g3 g4 g5 (dW rt la rs rg pd du ds me tt (cGt b3 b4 b5 b6 g1 g2 g3 gr re d mb.toNat) su gp mk rf m1 m2 m3 m4 m5 mr mf n1 n2 n3 n4 n5 nr nf E)))) rfl))
  have h1 : sX1_shareOf [.ref 36, iv (d)] (cW ki ln bt rl cp cs ct cv 14 5 ja ea ma a1 a2 a3 a4 a5 a6 a7 a8 jb eb mb b1 b2 b3 b4 b5 b6 b7 b8 re fl g1 g2 g3 g4 g5 (dW rt la rs rg pd du ds me tt gr su gp mk rf m1 m2 m3 m4 m5 mr mf n1 n2 n3 n4 n5 nr nf E)) = some r := h1
  rw [h1, h2]
theorem c_worthC1_0 (ha : -2147483648 ≤ d ∧ d ≤ 2147483647) (hdb : 0 ≤ eb ∧ eb ≤ 10)  (hb : i3 d 0 (eb - 1) = false) : sX11_worth [.ref 0, iv (d)] (cW ki ln bt rl cp cs ct cv 14 5 ja ea ma a1 a2 a3 a4 a5 a6 a7 a8 jb eb mb b1 b2 b3 b4 b5 b6 b7 b8 re fl g1 g2 g3 g4 g5 (dW rt la rs rg pd du ds me tt gr su gp mk rf m1 m2 m3 m4 m5 mr mf n1 n2 n3 n4 n5 nr nf E)) = some (some (iv (-1)), (cW ki ln bt rl cp cs ct cv 14 5 ja ea ma a1 a2 a3 a4 a5 a6 a7 a8 jb eb mb b1 b2 b3 b4 b5 b6 b7 b8 re fl g1 g2 g3 g4 g5 (dW rt la rs rg pd du ds me tt gr su gp mk rf m1 m2 m3 m4 m5 mr mf n1 n2 n3 n4 n5 nr nf E))) := by
  have main : ∀ Q : mm_R → Prop, Q (some (iv (-1)), (cW ki ln bt rl cp cs ct cv 14 5 ja ea ma a1 a2 a3 a4 a5 a6 a7 a8 jb eb mb b1 b2 b3 b4 b5 b6 b7 b8 re fl g1 g2 g3 g4 g5 (dW rt la rs rg pd du ds me tt gr su gp mk rf m1 m2 m3 m4 m5 mr mf n1 n2 n3 n4 n5 nr nf E))) → rn_X11_worth (1000) (0, [(0, .ref 0), (1, iv (d))], [], (cW ki ln bt rl cp cs ct cv 14 5 ja ea ma a1 a2 a3 a4 a5 a6 a7 a8 jb eb mb b1 b2 b3 b4 b5 b6 b7 b8 re fl g1 g2 g3 g4 g5 (dW rt la rs rg pd du ds me tt gr su gp mk rf m1 m2 m3 m4 m5 mr mf n1 n2 n3 n4 n5 nr nf E))) Q := by
    intro Q hQ
    refine r_al rfl rfl ?_
    refine r_gf rfl rfl xg_0 rfl ?_
    refine r_il rfl rfl ?_
    refine r_v2s rfl rfl xg_4 rfl (c_isDebtC1 ha (by omega)) ?_
    rw [hb]
    refine r_zeq rfl rfl (bi_r _) (fun u1 => ?_) (fun u1 => ?_)
    · refine r_ic rfl ?_
      exact r_ret rfl rfl hQ
    · exact absurd rfl u1
  obtain ⟨r, h1, h2⟩ := rn_S (vs := [.ref 0, iv (d)]) (Q := fun r => r = (some (iv (-1)), (cW ki ln bt rl cp cs ct cv 14 5 ja ea ma a1 a2 a3 a4 a5 a6 a7 a8 jb eb mb b1 b2 b3 b4 b5 b6 b7 b8 re fl g1 g2 g3 g4 g5 (dW rt la rs rg pd du ds me tt gr su gp mk rf m1 m2 m3 m4 m5 mr mf n1 n2 n3 n4 n5 nr nf E)))) rfl (rn_up (N := 1000) (M := mm_fuel) (by decide) (main (fun r => r = (some (iv (-1)), (cW ki ln bt rl cp cs ct cv 14 5 ja ea ma a1 a2 a3 a4 a5 a6 a7 a8 jb eb mb b1 b2 b3 b4 b5 b6 b7 b8 re fl g1 g2 g3 g4 g5 (dW rt la rs rg pd du ds me tt gr su gp mk rf m1 m2 m3 m4 m5 mr mf n1 n2 n3 n4 n5 nr nf E)))) rfl))
  have h1 : sX11_worth [.ref 0, iv (d)] (cW ki ln bt rl cp cs ct cv 14 5 ja ea ma a1 a2 a3 a4 a5 a6 a7 a8 jb eb mb b1 b2 b3 b4 b5 b6 b7 b8 re fl g1 g2 g3 g4 g5 (dW rt la rs rg pd du ds me tt gr su gp mk rf m1 m2 m3 m4 m5 mr mf n1 n2 n3 n4 n5 nr nf E)) = some r := h1
  rw [h1, h2]
theorem c_worthC1_1 (ha : -2147483648 ≤ d ∧ d ≤ 2147483647) (hdb : 0 ≤ eb ∧ eb ≤ 10) (hAd : ARd b1 b2 b3) (hAs : ARs b4 b5 b6 b7) (hn : 0 ≤ mb ∧ mb ≤ 16) (hG : ∀ p : Nat, p < 8 → 0 ≤ ((cGt b3 b4 b5 b6 g1 g2 g3 gr re d mb.toNat) p).toInt ∧ ((cGt b3 b4 b5 b6 g1 g2 g3 gr re d mb.toNat) p).toInt ≤ 999) (hR : -1000 ≤ cR b3 g1 d ∧ cR b3 g1 d ≤ 1000) (hd : 0 ≤ d ∧ d ≤ 9) (hb : i3 d 0 (eb - 1) = true) : sX11_worth [.ref 0, iv (d)] (cW ki ln bt rl cp cs ct cv 14 5 ja ea ma a1 a2 a3 a4 a5 a6 a7 a8 jb eb mb b1 b2 b3 b4 b5 b6 b7 b8 re fl g1 g2 g3 g4 g5 (dW rt la rs rg pd du ds me tt gr su gp mk rf m1 m2 m3 m4 m5 mr mf n1 n2 n3 n4 n5 nr nf E)) = some (some (iv (cSr b1 b3 g1 (cGt b3 b4 b5 b6 g1 g2 g3 gr re d mb.toNat) tt d 256)), (cW ki ln bt rl cp cs ct cv 14 5 ja ea ma a1 a2 a3 a4 a5 a6 a7 a8 jb eb mb b1 b2 b3 b4 b5 b6 b7 b8 re fl g1 g2 g3 g4 g5 (dW rt la rs rg pd du ds me tt (cGt b3 b4 b5 b6 g1 g2 g3 gr re d mb.toNat) su gp mk rf m1 m2 m3 m4 m5 mr mf n1 n2 n3 n4 n5 nr nf E))) := by
  have main : ∀ Q : mm_R → Prop, Q (some (iv (cSr b1 b3 g1 (cGt b3 b4 b5 b6 g1 g2 g3 gr re d mb.toNat) tt d 256)), (cW ki ln bt rl cp cs ct cv 14 5 ja ea ma a1 a2 a3 a4 a5 a6 a7 a8 jb eb mb b1 b2 b3 b4 b5 b6 b7 b8 re fl g1 g2 g3 g4 g5 (dW rt la rs rg pd du ds me tt (cGt b3 b4 b5 b6 g1 g2 g3 gr re d mb.toNat) su gp mk rf m1 m2 m3 m4 m5 mr mf n1 n2 n3 n4 n5 nr nf E))) → rn_X11_worth (1000) (0, [(0, .ref 0), (1, iv (d))], [], (cW ki ln bt rl cp cs ct cv 14 5 ja ea ma a1 a2 a3 a4 a5 a6 a7 a8 jb eb mb b1 b2 b3 b4 b5 b6 b7 b8 re fl g1 g2 g3 g4 g5 (dW rt la rs rg pd du ds me tt gr su gp mk rf m1 m2 m3 m4 m5 mr mf n1 n2 n3 n4 n5 nr nf E))) Q := by
    intro Q hQ
    refine r_al rfl rfl ?_
    refine r_gf rfl rfl xg_0 rfl ?_
    refine r_il rfl rfl ?_
    refine r_v2s rfl rfl xg_4 rfl (c_isDebtC1 ha (by omega)) ?_
    rw [hb]
    refine r_zeq rfl rfl (bi_r _) (fun u1 => ?_) (fun u1 => ?_)
    · exact absurd u1 (by decide)
    · refine r_al rfl rfl ?_
      refine r_gf rfl rfl xg_0 rfl ?_
      refine r_il rfl rfl ?_
      refine r_v2s rfl rfl xg_36 rfl (c_sr1 hAd hAs hn hG hR hd) ?_
      refine r_goto rfl rfl ?_
      exact r_ret rfl rfl hQ
  obtain ⟨r, h1, h2⟩ := rn_S (vs := [.ref 0, iv (d)]) (Q := fun r => r = (some (iv (cSr b1 b3 g1 (cGt b3 b4 b5 b6 g1 g2 g3 gr re d mb.toNat) tt d 256)), (cW ki ln bt rl cp cs ct cv 14 5 ja ea ma a1 a2 a3 a4 a5 a6 a7 a8 jb eb mb b1 b2 b3 b4 b5 b6 b7 b8 re fl g1 g2 g3 g4 g5 (dW rt la rs rg pd du ds me tt (cGt b3 b4 b5 b6 g1 g2 g3 gr re d mb.toNat) su gp mk rf m1 m2 m3 m4 m5 mr mf n1 n2 n3 n4 n5 nr nf E)))) rfl (rn_up (N := 1000) (M := mm_fuel) (by decide) (main (fun r => r = (some (iv (cSr b1 b3 g1 (cGt b3 b4 b5 b6 g1 g2 g3 gr re d mb.toNat) tt d 256)), (cW ki ln bt rl cp cs ct cv 14 5 ja ea ma a1 a2 a3 a4 a5 a6 a7 a8 jb eb mb b1 b2 b3 b4 b5 b6 b7 b8 re fl g1 g2 g3 g4 g5 (dW rt la rs rg pd du ds me tt (cGt b3 b4 b5 b6 g1 g2 g3 gr re d mb.toNat) su gp mk rf m1 m2 m3 m4 m5 mr mf n1 n2 n3 n4 n5 nr nf E)))) rfl))
  have h1 : sX11_worth [.ref 0, iv (d)] (cW ki ln bt rl cp cs ct cv 14 5 ja ea ma a1 a2 a3 a4 a5 a6 a7 a8 jb eb mb b1 b2 b3 b4 b5 b6 b7 b8 re fl g1 g2 g3 g4 g5 (dW rt la rs rg pd du ds me tt gr su gp mk rf m1 m2 m3 m4 m5 mr mf n1 n2 n3 n4 n5 nr nf E)) = some r := h1
  rw [h1, h2]
end WC
