/-! ===== debt and trace: both sides ===== -/
section DR
variable {C : List va_E} {tr : Int64} {th db sn dm sm ty nx tk pl va fa lr ri : Int} {s kp ik tn de sd dd sr tx pa : Nat → Int32} {a b : Int} {Q : mm_R → Prop} {N : Nat}
def rDB (de s : Nat → Int32) (db a b : Int) : Int := bif i3 a 0 (db - 1) && i3 b 0 3 then (bif decide (b = 3) then fR de s a else (de (Int.toNat (3 * a + b))).toInt) else (-1)
abbrev rn_X12_debt (N : Nat) (c : mm_C) (Q : mm_R → Prop) : Prop := rn (mm_gf gLX12) (mm_pf pLX12) (mm_mv vX12_debt) (mm_mv zX12_debt) (mm_kc kLX12) mm_gs0 mm_rf0 mm_ro (some .int) 3 (mm_ins iX12_debt) N c Q
theorem c_debtR (hC : C.length = 56) (ha : -2147483648 ≤ a ∧ a ≤ 2147483647) (hb : -2147483648 ≤ b ∧ b ≤ 2147483647) (hd : 0 ≤ db ∧ db ≤ 10) : sX12_debt [.ref 56, iv (a), iv (b)] (C ++ rL (ro_ th tr db sn dm sm ty nx tk pl va fa lr ri) s kp ik tn de sd dd sr tx pa) = some (some (iv (rDB de s db a b)), (C ++ rL (ro_ (0 : Int) tr db sn dm sm ty nx tk pl va fa lr ri) s kp ik tn de sd dd sr tx pa)) := by
  have main : ∀ Q : mm_R → Prop, Q (some (iv (rDB de s db a b)), (C ++ rL (ro_ (0 : Int) tr db sn dm sm ty nx tk pl va fa lr ri) s kp ik tn de sd dd sr tx pa)) → rn_X12_debt (1000) (0, [(0, .ref 56), (1, iv (a)), (2, iv (b))], [], (C ++ rL (ro_ th tr db sn dm sm ty nx tk pl va fa lr ri) s kp ik tn de sd dd sr tx pa)) Q := by
    intro Q hQ
    refine r_al rfl rfl ?_
    refine r_ic rfl ?_
    refine r_pf rfl rfl (rg_56 hC) rfl (rp_th hC) ?_
    refine r_al rfl rfl ?_
    refine r_il rfl rfl ?_
    refine r_v2s rfl rfl (rg_56 hC) rfl (c_isDebtR hC ha (by omega)) ?_
    refine r_zeq rfl rfl (bi_r _) (fun g1 => ?_) (fun g1 => ?_)
    · have e : rDB de s db a b = -1 := by unfold rDB; rw [bi_0 g1]; rfl
      rw [e] at hQ
      refine r_ic rfl ?_
      refine r_goto rfl rfl ?_
      exact r_ret rfl rfl hQ
    · have g1 := bi_1 g1
      have ga := i3_t g1
      refine r_il rfl rfl ?_
      refine r_ic rfl ?_
      refine r_ic rfl ?_
      refine r_s3s rfl rfl rfl (c_in hb (by decide) (by decide)) ?_
      refine r_zne rfl rfl (bi_r _) (fun g2 => ?_) (fun g2 => ?_)
      · have g2 := bi_1 g2
        have gb := i3_t g2
        refine r_il rfl rfl ?_
        refine r_ic rfl ?_
        refine r_cne rfl rfl (by omega) (by omega) (fun g3 => ?_) (fun g3 => ?_)
        · have e : rDB de s db a b = (de (Int.toNat (3 * a + b))).toInt := by unfold rDB; rw [g1, g2, decide_eq_false g3]; rfl
          rw [e] at hQ
          refine r_al rfl rfl ?_
          refine r_gf rfl rfl (rg_56 hC) rfl ?_
          refine r_ic rfl ?_
          refine r_il rfl rfl ?_
          refine r_mul rfl ?_
          refine r_il rfl rfl ?_
          refine r_add rfl ?_
          refine r_ia rfl (rg_61 hC) (by omega) (by omega) (by decide) ?_
          exact r_ret rfl rfl hQ
        · have e : rDB de s db a b = fR de s a := by unfold rDB; rw [g1, g2, decide_eq_true g3]; rfl
          rw [e] at hQ
          refine r_al rfl rfl ?_
          refine r_il rfl rfl ?_
          refine r_v2s rfl rfl (rg_56 hC) rfl (c_restR hC (by omega)) ?_
          refine r_goto rfl rfl ?_
          exact r_ret rfl rfl hQ
      · have e : rDB de s db a b = -1 := by unfold rDB; rw [g1, bi_0 g2]; rfl
        rw [e] at hQ
        refine r_ic rfl ?_
        refine r_goto rfl rfl ?_
        exact r_ret rfl rfl hQ
  obtain ⟨r, h1, h2⟩ := rn_S (vs := [.ref 56, iv (a), iv (b)]) (Q := fun r => r = (some (iv (rDB de s db a b)), (C ++ rL (ro_ (0 : Int) tr db sn dm sm ty nx tk pl va fa lr ri) s kp ik tn de sd dd sr tx pa))) rfl (rn_up (N := 1000) (M := mm_fuel) (by decide) (main (fun r => r = (some (iv (rDB de s db a b)), (C ++ rL (ro_ (0 : Int) tr db sn dm sm ty nx tk pl va fa lr ri) s kp ik tn de sd dd sr tx pa))) rfl))
  have h1 : sX12_debt [.ref 56, iv (a), iv (b)] (C ++ rL (ro_ th tr db sn dm sm ty nx tk pl va fa lr ri) s kp ik tn de sd dd sr tx pa) = some r := h1
  rw [h1, h2]
abbrev rn_X12_trace (N : Nat) (c : mm_C) (Q : mm_R → Prop) : Prop := rn (mm_gf gLX12) (mm_pf pLX12) (mm_mv vX12_trace) (mm_mv zX12_trace) (mm_kc kLX12) mm_gs0 mm_rf0 mm_ro (some .long) 1 (mm_ins iX12_trace) N c Q
theorem c_traceR (hC : C.length = 56) : sX12_trace [.ref 56] (C ++ rL (ro_ th tr db sn dm sm ty nx tk pl va fa lr ri) s kp ik tn de sd dd sr tx pa) = some (some (.long tr), (C ++ rL (ro_ (0 : Int) tr db sn dm sm ty nx tk pl va fa lr ri) s kp ik tn de sd dd sr tx pa)) := by
  have main : ∀ Q : mm_R → Prop, Q (some (.long tr), (C ++ rL (ro_ (0 : Int) tr db sn dm sm ty nx tk pl va fa lr ri) s kp ik tn de sd dd sr tx pa)) → rn_X12_trace (1000) (0, [(0, .ref 56)], [], (C ++ rL (ro_ th tr db sn dm sm ty nx tk pl va fa lr ri) s kp ik tn de sd dd sr tx pa)) Q := by
    intro Q hQ
    refine r_al rfl rfl ?_
    refine r_ic rfl ?_
    refine r_pf rfl rfl (rg_56 hC) rfl (rp_th hC) ?_
    refine r_al rfl rfl ?_
    refine r_gf rfl rfl (rg_56 hC) rfl ?_
    exact r_retl rfl rfl hQ
  obtain ⟨r, h1, h2⟩ := rn_S (vs := [.ref 56]) (Q := fun r => r = (some (.long tr), (C ++ rL (ro_ (0 : Int) tr db sn dm sm ty nx tk pl va fa lr ri) s kp ik tn de sd dd sr tx pa))) rfl (rn_up (N := 1000) (M := mm_fuel) (by decide) (main (fun r => r = (some (.long tr), (C ++ rL (ro_ (0 : Int) tr db sn dm sm ty nx tk pl va fa lr ri) s kp ik tn de sd dd sr tx pa))) rfl))
  have h1 : sX12_trace [.ref 56] (C ++ rL (ro_ th tr db sn dm sm ty nx tk pl va fa lr ri) s kp ik tn de sd dd sr tx pa) = some r := h1
  rw [h1, h2]
end DR
section DC
variable {ki : Int} {ln : Int} {bt : Nat → Int32} {rl : Value} {cp : Int} {cs : Int} {ct : Int} {cv : Int} {rr : Nat} {dr : Nat} {ja : Int} {ea : Int} {ma : Int} {a1 : Nat → Int32} {a2 : Nat → Int32} {a3 : Nat → Int32} {a4 : Nat → Int32} {a5 : Nat → Int32} {a6 : Nat → Int32} {a7 : Nat → Int32} {a8 : Nat → Int32} {jb : Int} {eb : Int} {mb : Int} {b1 : Nat → Int32} {b2 : Nat → Int32} {b3 : Nat → Int32} {b4 : Nat → Int32} {b5 : Nat → Int32} {b6 : Nat → Int32} {b7 : Nat → Int32} {b8 : Nat → Int32} {re : Int} {fl : Int} {g1 : Nat → Int32} {g2 : Nat → Int32} {g3 : Nat → Int32} {g4 : Nat → Int32} {g5 : Nat → Int32} {rt : Int} {la : Int} {rs : Int} {rg : Int} {pd : Nat → Int32} {du : Nat → Int32} {ds : Nat → Int32} {me : Nat → Int32} {tt : Nat → Int32} {gr : Nat → Int32} {su : Nat → Int32} {gp : Nat → Int32} {mk : Int64} {rf : Nat → Option Nat} {m1 : Nat → Int32} {m2 : Nat → Int32} {m3 : Nat → Int32} {m4 : Nat → Int32} {m5 : Nat → Int32} {mr : Int} {mf : Int} {n1 : Nat → Int32} {n2 : Nat → Int32} {n3 : Nat → Int32} {n4 : Nat → Int32} {n5 : Nat → Int32} {nr : Int} {nf : Int} {E : List va_E} {a b : Int} {Q : mm_R → Prop} {N : Nat}
abbrev rn_X11_trace (N : Nat) (c : mm_C) (Q : mm_R → Prop) : Prop := rn (mm_gf gLX11) (mm_pf pLX11) (mm_mv vX11_trace) (mm_mv zX11_trace) (mm_kc kLX11) mm_gs0 mm_rf0 mm_ro (some .long) 1 (mm_ins iX11_trace) N c Q
theorem c_traceC  : sX11_trace [.ref 0] (cW ki ln bt rl cp cs ct cv rr dr ja ea ma a1 a2 a3 a4 a5 a6 a7 a8 jb eb mb b1 b2 b3 b4 b5 b6 b7 b8 re fl g1 g2 g3 g4 g5 (dW rt la rs rg pd du ds me tt gr su gp mk rf m1 m2 m3 m4 m5 mr mf n1 n2 n3 n4 n5 nr nf E)) = some (some (.long mk), (cW ki ln bt rl cp cs ct cv rr dr ja ea ma a1 a2 a3 a4 a5 a6 a7 a8 jb eb mb b1 b2 b3 b4 b5 b6 b7 b8 re fl g1 g2 g3 g4 g5 (dW rt la rs rg pd du ds me tt gr su gp mk rf m1 m2 m3 m4 m5 mr mf n1 n2 n3 n4 n5 nr nf E))) := by
  have main : ∀ Q : mm_R → Prop, Q (some (.long mk), (cW ki ln bt rl cp cs ct cv rr dr ja ea ma a1 a2 a3 a4 a5 a6 a7 a8 jb eb mb b1 b2 b3 b4 b5 b6 b7 b8 re fl g1 g2 g3 g4 g5 (dW rt la rs rg pd du ds me tt gr su gp mk rf m1 m2 m3 m4 m5 mr mf n1 n2 n3 n4 n5 nr nf E))) → rn_X11_trace (1000) (0, [(0, .ref 0)], [], (cW ki ln bt rl cp cs ct cv rr dr ja ea ma a1 a2 a3 a4 a5 a6 a7 a8 jb eb mb b1 b2 b3 b4 b5 b6 b7 b8 re fl g1 g2 g3 g4 g5 (dW rt la rs rg pd du ds me tt gr su gp mk rf m1 m2 m3 m4 m5 mr mf n1 n2 n3 n4 n5 nr nf E))) Q := by
    intro Q hQ
    refine r_al rfl rfl ?_
    refine r_gf rfl rfl xg_0 rfl ?_
    refine r_gf rfl rfl xg_42 rfl ?_
    exact r_retl rfl rfl hQ
  obtain ⟨r, h1, h2⟩ := rn_S (vs := [.ref 0]) (Q := fun r => r = (some (.long mk), (cW ki ln bt rl cp cs ct cv rr dr ja ea ma a1 a2 a3 a4 a5 a6 a7 a8 jb eb mb b1 b2 b3 b4 b5 b6 b7 b8 re fl g1 g2 g3 g4 g5 (dW rt la rs rg pd du ds me tt gr su gp mk rf m1 m2 m3 m4 m5 mr mf n1 n2 n3 n4 n5 nr nf E)))) rfl (rn_up (N := 1000) (M := mm_fuel) (by decide) (main (fun r => r = (some (.long mk), (cW ki ln bt rl cp cs ct cv rr dr ja ea ma a1 a2 a3 a4 a5 a6 a7 a8 jb eb mb b1 b2 b3 b4 b5 b6 b7 b8 re fl g1 g2 g3 g4 g5 (dW rt la rs rg pd du ds me tt gr su gp mk rf m1 m2 m3 m4 m5 mr mf n1 n2 n3 n4 n5 nr nf E)))) rfl))
  have h1 : sX11_trace [.ref 0] (cW ki ln bt rl cp cs ct cv rr dr ja ea ma a1 a2 a3 a4 a5 a6 a7 a8 jb eb mb b1 b2 b3 b4 b5 b6 b7 b8 re fl g1 g2 g3 g4 g5 (dW rt la rs rg pd du ds me tt gr su gp mk rf m1 m2 m3 m4 m5 mr mf n1 n2 n3 n4 n5 nr nf E)) = some r := h1
  rw [h1, h2]
end DC
theorem DB_eq {db a b sn re fl : Int} {c1 c2 c3 de g1 g2 g3 g4 g5 s : Nat → Int32} (hd : 0 ≤ db ∧ db ≤ 10) (h : RRd db c1 c2 c3 de) (hL : LG sn g1 g2 g3 g4 g5 re fl s) : cDB c1 c2 c3 g1 db a b = rDB de s db a b := by
  unfold cDB rDB
  cases h1 : i3 a 0 (db - 1) with
  | false => rfl
  | true =>
    have r1 := i3_t h1
    obtain ⟨n, rfl⟩ := Int.eq_ofNat_of_zero_le r1.1
    obtain ⟨k1, k2, k3⟩ := h n (by omega)
    unfold cR fR
    rw [show Int.toNat (n : Int) = n from rfl, k1, k2, k3, hL.1 n (by omega), show Int.toNat (0 + (n : Int)) = n by omega]
    by_cases e0 : b = 0
    · rw [decide_eq_true e0, show i3 b 0 3 = true by rw [e0]; decide, decide_eq_false (show ¬ b = 3 by omega), show Int.toNat (3 * (n : Int) + b) = 3 * n by omega]; rfl
    · by_cases e1 : b = 1
      · rw [decide_eq_false e0, decide_eq_true e1, show i3 b 0 3 = true by rw [e1]; decide, decide_eq_false (show ¬ b = 3 by omega), show Int.toNat (3 * (n : Int) + b) = 3 * n + 1 by omega]; rfl
      · by_cases e2 : b = 2
        · rw [decide_eq_false e0, decide_eq_false e1, decide_eq_true e2, show i3 b 0 3 = true by rw [e2]; decide, decide_eq_false (show ¬ b = 3 by omega), show Int.toNat (3 * (n : Int) + b) = 3 * n + 2 by omega]; rfl
        · by_cases e3 : b = 3
          · rw [decide_eq_false e0, decide_eq_false e1, decide_eq_false e2, decide_eq_true e3, show i3 b 0 3 = true by rw [e3]; decide, show Int.toNat (3 * (n : Int) + 2) = 3 * n + 2 by omega]; rfl
          · rw [decide_eq_false e0, decide_eq_false e1, decide_eq_false e2, decide_eq_false e3, show i3 b 0 3 = false by simp [i3]; omega]; rfl
theorem LI_debt {v : Bool} {mw : List va_E} {a b : Int} (ha : -2147483648 ≤ a ∧ a ≤ 2147483647) (hb : -2147483648 ≤ b ∧ b ≤ 2147483647) (h : LI v mw) : ∃ (c : Int) (mw1 mw2 : List va_E), sX11_debt [.ref 0, iv a, iv b] mw = some (some (iv c), mw1) ∧ sX12_debt [.ref 56, iv a, iv b] mw1 = some (some (iv c), mw2) ∧ LI v mw2 ∧ mid mw1 := by
  refine LI_elim h (fun ki ln bt rl cp cs ct cv rr dr ja ea ma a1 a2 a3 a4 a5 a6 a7 a8 jb eb mb b1 b2 b3 b4 b5 b6 b7 b8 re fl g1 g2 g3 g4 g5 rt la rs rg pd du ds me tt gr su gp mk rf m1 m2 m3 m4 m5 mr mf n1 n2 n3 n4 n5 nr nf th tr db sn dm sm ty nx tk pl va fa lr ri s kp ik tn de sd dd sr tx pa e hh => ?_)
  obtain ⟨⟨⟨hla, hrf⟩, ⟨e1, e2⟩, ⟨q1, q2, q3, q4, q5, q6, q7, q8, q9, q10⟩, r1, r2, r3, r4, r5, r6, r7, r8, r9, r10⟩, hX, hK, ⟨et, hl⟩, hRo, hRo2, hLG, hI0, hI1, hik, htt, hmk⟩ := hh
  subst e
  clear h
  subst e1
  subst e2
  refine ⟨rDB de s db a b, (GW ki ln bt rl cp cs ct cv (bif v then 14 else 5) (bif v then 5 else 14) ja ea ma a1 a2 a3 a4 a5 a6 a7 a8 jb eb mb b1 b2 b3 b4 b5 b6 b7 b8 re fl g1 g2 g3 g4 g5 rt la rs rg pd du ds me tt gr su gp mk rf m1 m2 m3 m4 m5 mr mf n1 n2 n3 n4 n5 nr nf th tr db sn dm sm ty nx tk pl va fa lr ri s kp ik tn de sd dd sr tx pa), (GW ki ln bt rl cp cs ct cv (bif v then 14 else 5) (bif v then 5 else 14) ja ea ma a1 a2 a3 a4 a5 a6 a7 a8 jb eb mb b1 b2 b3 b4 b5 b6 b7 b8 re fl g1 g2 g3 g4 g5 rt la rs rg pd du ds me tt gr su gp mk rf m1 m2 m3 m4 m5 mr mf n1 n2 n3 n4 n5 nr nf 0 tr db sn dm sm ty nx tk pl va fa lr ri s kp ik tn de sd dd sr tx pa), ?_, c_debtR (C := (cW ki ln bt rl cp cs ct cv (bif v then 14 else 5) (bif v then 5 else 14) ja ea ma a1 a2 a3 a4 a5 a6 a7 a8 jb eb mb b1 b2 b3 b4 b5 b6 b7 b8 re fl g1 g2 g3 g4 g5 (dW rt la rs rg pd du ds me tt gr su gp mk rf m1 m2 m3 m4 m5 mr mf n1 n2 n3 n4 n5 nr nf []))) (th := th) (tr := tr) (db := db) (sn := sn) (dm := dm) (sm := sm) (ty := ty) (nx := nx) (tk := tk) (pl := pl) (va := va) (fa := fa) (lr := lr) (ri := ri) (s := s) (kp := kp) (ik := ik) (tn := tn) (de := de) (sd := sd) (dd := dd) (sr := sr) (tx := tx) (pa := pa) rfl ha hb r1, LI_to ⟨⟨⟨hla, hrf⟩, ⟨rfl, rfl⟩, ⟨q1, q2, q3, q4, q5, q6, q7, q8, q9, q10⟩, r1, r2, r3, r4, r5, r6, r7, r8, r9, r10⟩, hX, hK, ⟨et, hl⟩, hRo, hRo2, hLG, hI0, hI1, hik, htt, hmk⟩, mid_GW⟩
  cases v with
  | false =>
    obtain ⟨k1, k2, k3, k4, k5⟩ := hRo rfl
    subst k1
    rw [← DB_eq r1 k3 hLG]
    exact c_debtC0 ha hb r1
  | true =>
    obtain ⟨k1, k2, k3, k4, k5⟩ := hRo2 rfl
    subst k1
    rw [← DB_eq r1 k3 hLG]
    exact c_debtC1 ha hb r1
theorem LI_trace {v : Bool} {mw : List va_E} (h : LI v mw) : ∃ (c : Int64) (mw1 mw2 : List va_E), sX11_trace [.ref 0] mw = some (some (.long c), mw1) ∧ sX12_trace [.ref 56] mw1 = some (some (.long c), mw2) ∧ LI v mw2 ∧ mid mw1 := by
  refine LI_elim h (fun ki ln bt rl cp cs ct cv rr dr ja ea ma a1 a2 a3 a4 a5 a6 a7 a8 jb eb mb b1 b2 b3 b4 b5 b6 b7 b8 re fl g1 g2 g3 g4 g5 rt la rs rg pd du ds me tt gr su gp mk rf m1 m2 m3 m4 m5 mr mf n1 n2 n3 n4 n5 nr nf th tr db sn dm sm ty nx tk pl va fa lr ri s kp ik tn de sd dd sr tx pa e hh => ?_)
  obtain ⟨⟨⟨hla, hrf⟩, he, ⟨q1, q2, q3, q4, q5, q6, q7, q8, q9, q10⟩, r1, r2, r3, r4, r5, r6, r7, r8, r9, r10⟩, hX, hK, ⟨et, hl⟩, hRo, hRo2, hLG, hI0, hI1, hik, htt, hmk⟩ := hh
  subst e
  clear h
  refine ⟨tr, (GW ki ln bt rl cp cs ct cv rr dr ja ea ma a1 a2 a3 a4 a5 a6 a7 a8 jb eb mb b1 b2 b3 b4 b5 b6 b7 b8 re fl g1 g2 g3 g4 g5 rt la rs rg pd du ds me tt gr su gp mk rf m1 m2 m3 m4 m5 mr mf n1 n2 n3 n4 n5 nr nf th tr db sn dm sm ty nx tk pl va fa lr ri s kp ik tn de sd dd sr tx pa), (GW ki ln bt rl cp cs ct cv rr dr ja ea ma a1 a2 a3 a4 a5 a6 a7 a8 jb eb mb b1 b2 b3 b4 b5 b6 b7 b8 re fl g1 g2 g3 g4 g5 rt la rs rg pd du ds me tt gr su gp mk rf m1 m2 m3 m4 m5 mr mf n1 n2 n3 n4 n5 nr nf 0 tr db sn dm sm ty nx tk pl va fa lr ri s kp ik tn de sd dd sr tx pa), ?_, c_traceR (C := (cW ki ln bt rl cp cs ct cv rr dr ja ea ma a1 a2 a3 a4 a5 a6 a7 a8 jb eb mb b1 b2 b3 b4 b5 b6 b7 b8 re fl g1 g2 g3 g4 g5 (dW rt la rs rg pd du ds me tt gr su gp mk rf m1 m2 m3 m4 m5 mr mf n1 n2 n3 n4 n5 nr nf []))) (th := th) (tr := tr) (db := db) (sn := sn) (dm := dm) (sm := sm) (ty := ty) (nx := nx) (tk := tk) (pl := pl) (va := va) (fa := fa) (lr := lr) (ri := ri) (s := s) (kp := kp) (ik := ik) (tn := tn) (de := de) (sd := sd) (dd := dd) (sr := sr) (tx := tx) (pa := pa) rfl, LI_to ⟨⟨⟨hla, hrf⟩, he, ⟨q1, q2, q3, q4, q5, q6, q7, q8, q9, q10⟩, r1, r2, r3, r4, r5, r6, r7, r8, r9, r10⟩, hX, hK, ⟨et, hl⟩, hRo, hRo2, hLG, hI0, hI1, hik, htt, hmk⟩, mid_GW⟩
  rw [← hmk]
  exact c_traceC
