/-! ===== keep and restore keep the relation ===== -/
theorem vc_at {f g : Nat → Int32} {n j : Nat} (h : j < n) : va_cpy f g 0 0 n j = f j := by
  unfold va_cpy
  rw [if_pos (by omega)]
  simp
theorem kof_kcp {i j : Nat} {kp s : Nat → Int32} (h : j < 131) : kof i (kcp i 131 kp s) j = s j := kcp_in h
theorem kof_kcp' {i q j : Nat} {kp s : Nat → Int32} (h : j < 131) (hq : q ≠ i) : kof q (kcp i 131 kp s) j = kof q kp j := kcp_out (by omega)
theorem nar1 : vp_nar (mm_ty 2) (Int32.ofInt 1) = Int32.ofInt 1 := rfl
theorem zb_k {ki : Int} {i j : Nat} (hi : i < 2) (hj : j < 2) : zb (Int32.ofInt (oOr ki (oShl 1 (i : Int)))) j = (zb (Int32.ofInt ki) j || decide (j = i)) := by
  rw [zb_oOr, zb_oShl1 (by omega) (by omega)]
theorem LI_keep {v : Bool} {mw : List va_E} {a : Int} (ha : -2147483648 ≤ a ∧ a ≤ 2147483647) (h : LI v mw) : ∃ (c : Int) (mw1 mw2 : List va_E), sX11_keep [.ref 0, iv a] mw = some (some (iv c), mw1) ∧ sX12_keep [.ref 56, iv a] mw1 = some (some (iv c), mw2) ∧ LI v mw2 ∧ mid mw1 := by
  refine LI_elim h (fun ki ln bt rl cp cs ct cv rr dr ja ea ma a1 a2 a3 a4 a5 a6 a7 a8 jb eb mb b1 b2 b3 b4 b5 b6 b7 b8 re fl g1 g2 g3 g4 g5 rt la rs rg pd du ds me tt gr su gp mk rf m1 m2 m3 m4 m5 mr mf n1 n2 n3 n4 n5 nr nf th tr db sn dm sm ty nx tk pl va fa lr ri s kp ik tn de sd dd sr tx pa e hh => ?_)
  obtain ⟨⟨⟨hla, hrf⟩, ⟨e1, e2⟩, ⟨q1, q2, q3, q4, q5, q6, q7, q8, q9, q10⟩, r1, r2, r3, r4, r5, r6, r7, r8, r9, r10⟩, hX, hK, ⟨et, hl⟩, hRo, hRo2, hLG, hI0, hI1, hik, htt, hmk⟩ := hh
  subst e
  clear h
  subst e1
  subst e2
  cases hb : i3 a 0 1 with
  | false =>
    refine ⟨-1, (GW ki ln bt rl cp cs ct cv (bif v then 14 else 5) (bif v then 5 else 14) ja ea ma a1 a2 a3 a4 a5 a6 a7 a8 jb eb mb b1 b2 b3 b4 b5 b6 b7 b8 re fl g1 g2 g3 g4 g5 rt la rs rg pd du ds me tt gr su gp mk rf m1 m2 m3 m4 m5 mr mf n1 n2 n3 n4 n5 nr nf th tr db sn dm sm ty nx tk pl va fa lr ri s kp ik tn de sd dd sr tx pa), (GW ki ln bt rl cp cs ct cv (bif v then 14 else 5) (bif v then 5 else 14) ja ea ma a1 a2 a3 a4 a5 a6 a7 a8 jb eb mb b1 b2 b3 b4 b5 b6 b7 b8 re fl g1 g2 g3 g4 g5 rt la rs rg pd du ds me tt gr su gp mk rf m1 m2 m3 m4 m5 mr mf n1 n2 n3 n4 n5 nr nf 0 tr db sn dm sm ty nx tk pl va fa lr ri s kp ik tn de sd dd sr tx pa), c_keepCN ha hb, (c_keepN (C := (cW ki ln bt rl cp cs ct cv (bif v then 14 else 5) (bif v then 5 else 14) ja ea ma a1 a2 a3 a4 a5 a6 a7 a8 jb eb mb b1 b2 b3 b4 b5 b6 b7 b8 re fl g1 g2 g3 g4 g5 (dW rt la rs rg pd du ds me tt gr su gp mk rf m1 m2 m3 m4 m5 mr mf n1 n2 n3 n4 n5 nr nf []))) (th := th) (tr := tr) (db := db) (sn := sn) (dm := dm) (sm := sm) (ty := ty) (nx := nx) (tk := tk) (pl := pl) (va := va) (fa := fa) (lr := lr) (ri := ri) (s := s) (kp := kp) (ik := ik) (tn := tn) (de := de) (sd := sd) (dd := dd) (sr := sr) (tx := tx) (pa := pa) rfl ha hb), ?_, mid_GW⟩
    exact LI_to ⟨⟨⟨hla, hrf⟩, ⟨rfl, rfl⟩, ⟨q1, q2, q3, q4, q5, q6, q7, q8, q9, q10⟩, r1, r2, r3, r4, r5, r6, r7, r8, r9, r10⟩, hX, hK, ⟨et, hl⟩, hRo, hRo2, hLG, hI0, hI1, hik, htt, hmk⟩
  | true =>
    have p1 := i3_t hb
    have p2 : a = 0 ∨ a = 1 := by omega
    rcases p2 with rfl | rfl
    · refine ⟨sumC g5 8, (GW (oOr ki (oShl 1 0)) ln bt rl cp cs ct cv (bif v then 14 else 5) (bif v then 5 else 14) ja ea ma a1 a2 a3 a4 a5 a6 a7 a8 jb eb mb b1 b2 b3 b4 b5 b6 b7 b8 re fl g1 g2 g3 g4 g5 rt la rs rg pd du ds me tt gr su gp mk rf (va_cpy g1 m1 0 0 10) (va_cpy g2 m2 0 0 16) (va_cpy g3 m3 0 0 16) (va_cpy g4 m4 0 0 64) (va_cpy g5 m5 0 0 8) re fl n1 n2 n3 n4 n5 nr nf th tr db sn dm sm ty nx tk pl va fa lr ri s kp ik tn de sd dd sr tx pa), (GW (oOr ki (oShl 1 0)) ln bt rl cp cs ct cv (bif v then 14 else 5) (bif v then 5 else 14) ja ea ma a1 a2 a3 a4 a5 a6 a7 a8 jb eb mb b1 b2 b3 b4 b5 b6 b7 b8 re fl g1 g2 g3 g4 g5 rt la rs rg pd du ds me tt gr su gp mk rf (va_cpy g1 m1 0 0 10) (va_cpy g2 m2 0 0 16) (va_cpy g3 m3 0 0 16) (va_cpy g4 m4 0 0 64) (va_cpy g5 m5 0 0 8) re fl n1 n2 n3 n4 n5 nr nf 0 tr db sn dm sm ty nx tk pl va fa lr ri s (kcp 0 131 kp s) (upd ik 0 (vp_nar (mm_ty 2) (Int32.ofInt 1))) tn de sd dd sr tx pa), c_keepC0 hrf, ?_, ?_, mid_GW⟩
      · rw [sum_eq 8 hLG.2.2.2.2.1]
        exact c_keepR (i := 0) (C := (cW (oOr ki (oShl 1 0)) ln bt rl cp cs ct cv (bif v then 14 else 5) (bif v then 5 else 14) ja ea ma a1 a2 a3 a4 a5 a6 a7 a8 jb eb mb b1 b2 b3 b4 b5 b6 b7 b8 re fl g1 g2 g3 g4 g5 (dW rt la rs rg pd du ds me tt gr su gp mk rf (va_cpy g1 m1 0 0 10) (va_cpy g2 m2 0 0 16) (va_cpy g3 m3 0 0 16) (va_cpy g4 m4 0 0 64) (va_cpy g5 m5 0 0 8) re fl n1 n2 n3 n4 n5 nr nf []))) (th := th) (tr := tr) (db := db) (sn := sn) (dm := dm) (sm := sm) (ty := ty) (nx := nx) (tk := tk) (pl := pl) (va := va) (fa := fa) (lr := lr) (ri := ri) (s := s) (kp := kp) (ik := ik) (tn := tn) (de := de) (sd := sd) (dd := dd) (sr := sr) (tx := tx) (pa := pa) rfl (by decide)
      · refine LI_to ⟨⟨⟨hla, hrf⟩, ⟨rfl, rfl⟩, ⟨q1, q2, q3, q4, q5, q6, q7, q8, q9, q10⟩, r1, r2, r3, r4, r5, r6, (fun j hj => ?_), r8, r9, r10⟩, hX, (fun q hq hz => ?_), ⟨et, hl⟩, hRo, hRo2, hLG, (fun _ => LG_ext r2.2 hLG (fun j hj => vc_at hj) (fun j hj => vc_at hj) (fun j hj => vc_at hj) (fun j hj => vc_at hj) (fun j hj => vc_at hj) rfl rfl (fun j hj => kof_kcp hj)), (fun z => LG_ext r2.2 (hI1 (by rw [show zb (Int32.ofInt (oOr ki (oShl 1 0))) 1 = (zb (Int32.ofInt ki) 1 || decide (1 = 0)) from zb_k (i := 0) (by decide) (by decide)] at z; simpa using z)) (fun j hj => rfl) (fun j hj => rfl) (fun j hj => rfl) (fun j hj => rfl) (fun j hj => rfl) rfl rfl (fun j hj => kof_kcp' hj (by decide))), (fun i hi => ?_), htt, hmk⟩
        · by_cases e : j = 0
          · rw [e, upd_same]
            exact ⟨by decide, by decide⟩
          · rw [upd_ne e]
            exact r7 j hj
        · by_cases e : q = 0
          · subst e
            refine ⟨fun d hd => ?_, fun p hp => ?_⟩
            · rw [kcp_in (by omega)]
              exact ⟨(r6.1 d hd).1, hX.2 d hd⟩
            · rw [Nat.add_assoc, kcp_in (by omega)]
              exact r6.2 (122 + p) (by omega) (by omega)
          · rw [upd_ne e] at hz
            obtain ⟨k1, k2⟩ := hK q hq hz
            refine ⟨fun d hd => ?_, fun p hp => ?_⟩
            · rw [kcp_out (by omega)]
              exact k1 d hd
            · rw [kcp_out (by omega)]
              exact k2 p hp
        · rw [show zb (Int32.ofInt (oOr ki (oShl 1 0))) i = (zb (Int32.ofInt ki) i || decide (i = 0)) from zb_k (i := 0) (by decide) hi]
          by_cases e : i = 0
          · rw [e, upd_same, nar1, decide_eq_true rfl, Bool.or_true]
            rfl
          · rw [upd_ne e, decide_eq_false e, Bool.or_false]
            exact hik i hi
    · refine ⟨sumC g5 8, (GW (oOr ki (oShl 1 1)) ln bt rl cp cs ct cv (bif v then 14 else 5) (bif v then 5 else 14) ja ea ma a1 a2 a3 a4 a5 a6 a7 a8 jb eb mb b1 b2 b3 b4 b5 b6 b7 b8 re fl g1 g2 g3 g4 g5 rt la rs rg pd du ds me tt gr su gp mk rf m1 m2 m3 m4 m5 mr mf (va_cpy g1 n1 0 0 10) (va_cpy g2 n2 0 0 16) (va_cpy g3 n3 0 0 16) (va_cpy g4 n4 0 0 64) (va_cpy g5 n5 0 0 8) re fl th tr db sn dm sm ty nx tk pl va fa lr ri s kp ik tn de sd dd sr tx pa), (GW (oOr ki (oShl 1 1)) ln bt rl cp cs ct cv (bif v then 14 else 5) (bif v then 5 else 14) ja ea ma a1 a2 a3 a4 a5 a6 a7 a8 jb eb mb b1 b2 b3 b4 b5 b6 b7 b8 re fl g1 g2 g3 g4 g5 rt la rs rg pd du ds me tt gr su gp mk rf m1 m2 m3 m4 m5 mr mf (va_cpy g1 n1 0 0 10) (va_cpy g2 n2 0 0 16) (va_cpy g3 n3 0 0 16) (va_cpy g4 n4 0 0 64) (va_cpy g5 n5 0 0 8) re fl 0 tr db sn dm sm ty nx tk pl va fa lr ri s (kcp 1 131 kp s) (upd ik 1 (vp_nar (mm_ty 2) (Int32.ofInt 1))) tn de sd dd sr tx pa), c_keepC1 hrf, ?_, ?_, mid_GW⟩
      · rw [sum_eq 8 hLG.2.2.2.2.1]
        exact c_keepR (i := 1) (C := (cW (oOr ki (oShl 1 1)) ln bt rl cp cs ct cv (bif v then 14 else 5) (bif v then 5 else 14) ja ea ma a1 a2 a3 a4 a5 a6 a7 a8 jb eb mb b1 b2 b3 b4 b5 b6 b7 b8 re fl g1 g2 g3 g4 g5 (dW rt la rs rg pd du ds me tt gr su gp mk rf m1 m2 m3 m4 m5 mr mf (va_cpy g1 n1 0 0 10) (va_cpy g2 n2 0 0 16) (va_cpy g3 n3 0 0 16) (va_cpy g4 n4 0 0 64) (va_cpy g5 n5 0 0 8) re fl []))) (th := th) (tr := tr) (db := db) (sn := sn) (dm := dm) (sm := sm) (ty := ty) (nx := nx) (tk := tk) (pl := pl) (va := va) (fa := fa) (lr := lr) (ri := ri) (s := s) (kp := kp) (ik := ik) (tn := tn) (de := de) (sd := sd) (dd := dd) (sr := sr) (tx := tx) (pa := pa) rfl (by decide)
      · refine LI_to ⟨⟨⟨hla, hrf⟩, ⟨rfl, rfl⟩, ⟨q1, q2, q3, q4, q5, q6, q7, q8, q9, q10⟩, r1, r2, r3, r4, r5, r6, (fun j hj => ?_), r8, r9, r10⟩, hX, (fun q hq hz => ?_), ⟨et, hl⟩, hRo, hRo2, hLG, (fun z => LG_ext r2.2 (hI0 (by rw [show zb (Int32.ofInt (oOr ki (oShl 1 1))) 0 = (zb (Int32.ofInt ki) 0 || decide (0 = 1)) from zb_k (i := 1) (by decide) (by decide)] at z; simpa using z)) (fun j hj => rfl) (fun j hj => rfl) (fun j hj => rfl) (fun j hj => rfl) (fun j hj => rfl) rfl rfl (fun j hj => kof_kcp' hj (by decide))), (fun _ => LG_ext r2.2 hLG (fun j hj => vc_at hj) (fun j hj => vc_at hj) (fun j hj => vc_at hj) (fun j hj => vc_at hj) (fun j hj => vc_at hj) rfl rfl (fun j hj => kof_kcp hj)), (fun i hi => ?_), htt, hmk⟩
        · by_cases e : j = 1
          · rw [e, upd_same]
            exact ⟨by decide, by decide⟩
          · rw [upd_ne e]
            exact r7 j hj
        · by_cases e : q = 1
          · subst e
            refine ⟨fun d hd => ?_, fun p hp => ?_⟩
            · rw [kcp_in (by omega)]
              exact ⟨(r6.1 d hd).1, hX.2 d hd⟩
            · rw [Nat.add_assoc, kcp_in (by omega)]
              exact r6.2 (122 + p) (by omega) (by omega)
          · rw [upd_ne e] at hz
            obtain ⟨k1, k2⟩ := hK q hq hz
            refine ⟨fun d hd => ?_, fun p hp => ?_⟩
            · rw [kcp_out (by omega)]
              exact k1 d hd
            · rw [kcp_out (by omega)]
              exact k2 p hp
        · rw [show zb (Int32.ofInt (oOr ki (oShl 1 1))) i = (zb (Int32.ofInt ki) i || decide (i = 1)) from zb_k (i := 1) (by decide) hi]
          by_cases e : i = 1
          · rw [e, upd_same, nar1, decide_eq_true rfl, Bool.or_true]
            rfl
          · rw [upd_ne e, decide_eq_false e, Bool.or_false]
            exact hik i hi
theorem LI_restore {v : Bool} {mw : List va_E} {a : Int} (ha : -2147483648 ≤ a ∧ a ≤ 2147483647) (h : LI v mw) : ∃ (c : Int) (mw1 mw2 : List va_E), sX11_restore [.ref 0, iv a] mw = some (some (iv c), mw1) ∧ sX12_restore [.ref 56, iv a] mw1 = some (some (iv c), mw2) ∧ LI v mw2 ∧ mid mw1 := by
  refine LI_elim h (fun ki ln bt rl cp cs ct cv rr dr ja ea ma a1 a2 a3 a4 a5 a6 a7 a8 jb eb mb b1 b2 b3 b4 b5 b6 b7 b8 re fl g1 g2 g3 g4 g5 rt la rs rg pd du ds me tt gr su gp mk rf m1 m2 m3 m4 m5 mr mf n1 n2 n3 n4 n5 nr nf th tr db sn dm sm ty nx tk pl va fa lr ri s kp ik tn de sd dd sr tx pa e hh => ?_)
  obtain ⟨⟨⟨hla, hrf⟩, ⟨e1, e2⟩, ⟨q1, q2, q3, q4, q5, q6, q7, q8, q9, q10⟩, r1, r2, r3, r4, r5, r6, r7, r8, r9, r10⟩, hX, hK, ⟨et, hl⟩, hRo, hRo2, hLG, hI0, hI1, hik, htt, hmk⟩ := hh
  subst e
  clear h
  subst e1
  subst e2
  cases hb : i3 a 0 1 with
  | false =>
    refine ⟨-1, (GW ki ln bt rl cp cs ct cv (bif v then 14 else 5) (bif v then 5 else 14) ja ea ma a1 a2 a3 a4 a5 a6 a7 a8 jb eb mb b1 b2 b3 b4 b5 b6 b7 b8 re fl g1 g2 g3 g4 g5 rt la rs rg pd du ds me tt gr su gp mk rf m1 m2 m3 m4 m5 mr mf n1 n2 n3 n4 n5 nr nf th tr db sn dm sm ty nx tk pl va fa lr ri s kp ik tn de sd dd sr tx pa), (GW ki ln bt rl cp cs ct cv (bif v then 14 else 5) (bif v then 5 else 14) ja ea ma a1 a2 a3 a4 a5 a6 a7 a8 jb eb mb b1 b2 b3 b4 b5 b6 b7 b8 re fl g1 g2 g3 g4 g5 rt la rs rg pd du ds me tt gr su gp mk rf m1 m2 m3 m4 m5 mr mf n1 n2 n3 n4 n5 nr nf 0 tr db sn dm sm ty nx tk pl va fa lr ri s kp ik tn de sd dd sr tx pa), c_restCN ha hb, (c_restoreN (C := (cW ki ln bt rl cp cs ct cv (bif v then 14 else 5) (bif v then 5 else 14) ja ea ma a1 a2 a3 a4 a5 a6 a7 a8 jb eb mb b1 b2 b3 b4 b5 b6 b7 b8 re fl g1 g2 g3 g4 g5 (dW rt la rs rg pd du ds me tt gr su gp mk rf m1 m2 m3 m4 m5 mr mf n1 n2 n3 n4 n5 nr nf []))) (th := th) (tr := tr) (db := db) (sn := sn) (dm := dm) (sm := sm) (ty := ty) (nx := nx) (tk := tk) (pl := pl) (va := va) (fa := fa) (lr := lr) (ri := ri) (s := s) (kp := kp) (ik := ik) (tn := tn) (de := de) (sd := sd) (dd := dd) (sr := sr) (tx := tx) (pa := pa) rfl ha hb), ?_, mid_GW⟩
    exact LI_to ⟨⟨⟨hla, hrf⟩, ⟨rfl, rfl⟩, ⟨q1, q2, q3, q4, q5, q6, q7, q8, q9, q10⟩, r1, r2, r3, r4, r5, r6, r7, r8, r9, r10⟩, hX, hK, ⟨et, hl⟩, hRo, hRo2, hLG, hI0, hI1, hik, htt, hmk⟩
  | true =>
    have p1 := i3_t hb
    have p2 : a = 0 ∨ a = 1 := by omega
    rcases p2 with rfl | rfl
    · cases hz : zb (Int32.ofInt ki) 0 with
      | false =>
        refine ⟨-2, (GW ki ln bt rl cp cs ct cv (bif v then 14 else 5) (bif v then 5 else 14) ja ea ma a1 a2 a3 a4 a5 a6 a7 a8 jb eb mb b1 b2 b3 b4 b5 b6 b7 b8 re fl g1 g2 g3 g4 g5 rt la rs rg pd du ds me tt gr su gp mk rf m1 m2 m3 m4 m5 mr mf n1 n2 n3 n4 n5 nr nf th tr db sn dm sm ty nx tk pl va fa lr ri s kp ik tn de sd dd sr tx pa), (GW ki ln bt rl cp cs ct cv (bif v then 14 else 5) (bif v then 5 else 14) ja ea ma a1 a2 a3 a4 a5 a6 a7 a8 jb eb mb b1 b2 b3 b4 b5 b6 b7 b8 re fl g1 g2 g3 g4 g5 rt la rs rg pd du ds me tt gr su gp mk rf m1 m2 m3 m4 m5 mr mf n1 n2 n3 n4 n5 nr nf 0 tr db sn dm sm ty nx tk pl va fa lr ri s kp ik tn de sd dd sr tx pa), c_restC0_0 hz hrf, ?_, ?_, mid_GW⟩
        · exact c_restoreS (i := 0) (C := (cW ki ln bt rl cp cs ct cv (bif v then 14 else 5) (bif v then 5 else 14) ja ea ma a1 a2 a3 a4 a5 a6 a7 a8 jb eb mb b1 b2 b3 b4 b5 b6 b7 b8 re fl g1 g2 g3 g4 g5 (dW rt la rs rg pd du ds me tt gr su gp mk rf m1 m2 m3 m4 m5 mr mf n1 n2 n3 n4 n5 nr nf []))) (th := th) (tr := tr) (db := db) (sn := sn) (dm := dm) (sm := sm) (ty := ty) (nx := nx) (tk := tk) (pl := pl) (va := va) (fa := fa) (lr := lr) (ri := ri) (s := s) (kp := kp) (ik := ik) (tn := tn) (de := de) (sd := sd) (dd := dd) (sr := sr) (tx := tx) (pa := pa) rfl (by decide) (by rw [hik 0 (by decide), hz]; rfl)
        · exact LI_to ⟨⟨⟨hla, hrf⟩, ⟨rfl, rfl⟩, ⟨q1, q2, q3, q4, q5, q6, q7, q8, q9, q10⟩, r1, r2, r3, r4, r5, r6, r7, r8, r9, r10⟩, hX, hK, ⟨et, hl⟩, hRo, hRo2, hLG, hI0, hI1, hik, htt, hmk⟩
      | true =>
        have hLI := hI0 hz
        have hz2 : ¬ (ik 0).toInt = 0 := by rw [hik 0 (by decide), hz]; decide
        have hLN : LG sn (va_cpy m1 g1 0 0 10) (va_cpy m2 g2 0 0 16) (va_cpy m3 g3 0 0 16) (va_cpy m4 g4 0 0 64) (va_cpy m5 g5 0 0 8) mr mf (cpy 131 s (kof 0 kp)) := LG_ext r2.2 hLI (fun j hj => vc_at hj) (fun j hj => vc_at hj) (fun j hj => vc_at hj) (fun j hj => vc_at hj) (fun j hj => vc_at hj) rfl rfl (fun j hj => cpz_lt hj)
        refine ⟨sumC (va_cpy m5 g5 0 0 8) 8, (GW ki ln bt rl cp cs ct cv (bif v then 14 else 5) (bif v then 5 else 14) ja ea ma a1 a2 a3 a4 a5 a6 a7 a8 jb eb mb b1 b2 b3 b4 b5 b6 b7 b8 mr mf (va_cpy m1 g1 0 0 10) (va_cpy m2 g2 0 0 16) (va_cpy m3 g3 0 0 16) (va_cpy m4 g4 0 0 64) (va_cpy m5 g5 0 0 8) rt la rs rg pd du ds me tt gr su gp mk rf m1 m2 m3 m4 m5 mr mf n1 n2 n3 n4 n5 nr nf th tr db sn dm sm ty nx tk pl va fa lr ri s kp ik tn de sd dd sr tx pa), (GW ki ln bt rl cp cs ct cv (bif v then 14 else 5) (bif v then 5 else 14) ja ea ma a1 a2 a3 a4 a5 a6 a7 a8 jb eb mb b1 b2 b3 b4 b5 b6 b7 b8 mr mf (va_cpy m1 g1 0 0 10) (va_cpy m2 g2 0 0 16) (va_cpy m3 g3 0 0 16) (va_cpy m4 g4 0 0 64) (va_cpy m5 g5 0 0 8) rt la rs rg pd du ds me tt gr su gp mk rf m1 m2 m3 m4 m5 mr mf n1 n2 n3 n4 n5 nr nf 0 tr db sn dm sm ty nx tk pl va fa lr ri (cpy 131 s (kof 0 kp)) kp ik tn de sd dd sr tx pa), c_restC0_1 hz hrf, ?_, ?_, mid_GW⟩
        · rw [sum_eq 8 hLN.2.2.2.2.1]
          exact c_restoreR (i := 0) (C := (cW ki ln bt rl cp cs ct cv (bif v then 14 else 5) (bif v then 5 else 14) ja ea ma a1 a2 a3 a4 a5 a6 a7 a8 jb eb mb b1 b2 b3 b4 b5 b6 b7 b8 mr mf (va_cpy m1 g1 0 0 10) (va_cpy m2 g2 0 0 16) (va_cpy m3 g3 0 0 16) (va_cpy m4 g4 0 0 64) (va_cpy m5 g5 0 0 8) (dW rt la rs rg pd du ds me tt gr su gp mk rf m1 m2 m3 m4 m5 mr mf n1 n2 n3 n4 n5 nr nf []))) (th := th) (tr := tr) (db := db) (sn := sn) (dm := dm) (sm := sm) (ty := ty) (nx := nx) (tk := tk) (pl := pl) (va := va) (fa := fa) (lr := lr) (ri := ri) (s := s) (kp := kp) (ik := ik) (tn := tn) (de := de) (sd := sd) (dd := dd) (sr := sr) (tx := tx) (pa := pa) rfl (by decide) hz2
        · obtain ⟨k1, k2⟩ := hK 0 (by decide) (fun z => hz2 (by rw [z]; rfl))
          refine LI_to ⟨⟨⟨hla, hrf⟩, ⟨rfl, rfl⟩, ⟨q1, q2, q3, q4, q5, q6, q7, q8, q9, q10⟩, r1, r2, r3, r4, r5, ⟨(fun j hj => ?_), (fun j h1 h2 => ?_)⟩, r7, r8, r9, r10⟩, ⟨hX.1, fun d hd => ?_⟩, hK, ⟨et, hl⟩, hRo, hRo2, hLN, hI0, hI1, hik, htt, hmk⟩
          · rw [cpz_lt (by omega)]
            exact ⟨(k1 j hj).1, Int.le_trans (k1 j hj).2 (r8 j hj).2.2.2⟩
          · rw [cpz_lt (by omega)]
            have := k2 (j - 122) (by omega)
            rw [show 131 * 0 + 122 + (j - 122) = 131 * 0 + j by omega] at this
            exact this
          · rw [cpz_lt (by omega)]
            exact (k1 d hd).2
    · cases hz : zb (Int32.ofInt ki) 1 with
      | false =>
        refine ⟨-2, (GW ki ln bt rl cp cs ct cv (bif v then 14 else 5) (bif v then 5 else 14) ja ea ma a1 a2 a3 a4 a5 a6 a7 a8 jb eb mb b1 b2 b3 b4 b5 b6 b7 b8 re fl g1 g2 g3 g4 g5 rt la rs rg pd du ds me tt gr su gp mk rf m1 m2 m3 m4 m5 mr mf n1 n2 n3 n4 n5 nr nf th tr db sn dm sm ty nx tk pl va fa lr ri s kp ik tn de sd dd sr tx pa), (GW ki ln bt rl cp cs ct cv (bif v then 14 else 5) (bif v then 5 else 14) ja ea ma a1 a2 a3 a4 a5 a6 a7 a8 jb eb mb b1 b2 b3 b4 b5 b6 b7 b8 re fl g1 g2 g3 g4 g5 rt la rs rg pd du ds me tt gr su gp mk rf m1 m2 m3 m4 m5 mr mf n1 n2 n3 n4 n5 nr nf 0 tr db sn dm sm ty nx tk pl va fa lr ri s kp ik tn de sd dd sr tx pa), c_restC1_0 hz hrf, ?_, ?_, mid_GW⟩
        · exact c_restoreS (i := 1) (C := (cW ki ln bt rl cp cs ct cv (bif v then 14 else 5) (bif v then 5 else 14) ja ea ma a1 a2 a3 a4 a5 a6 a7 a8 jb eb mb b1 b2 b3 b4 b5 b6 b7 b8 re fl g1 g2 g3 g4 g5 (dW rt la rs rg pd du ds me tt gr su gp mk rf m1 m2 m3 m4 m5 mr mf n1 n2 n3 n4 n5 nr nf []))) (th := th) (tr := tr) (db := db) (sn := sn) (dm := dm) (sm := sm) (ty := ty) (nx := nx) (tk := tk) (pl := pl) (va := va) (fa := fa) (lr := lr) (ri := ri) (s := s) (kp := kp) (ik := ik) (tn := tn) (de := de) (sd := sd) (dd := dd) (sr := sr) (tx := tx) (pa := pa) rfl (by decide) (by rw [hik 1 (by decide), hz]; rfl)
        · exact LI_to ⟨⟨⟨hla, hrf⟩, ⟨rfl, rfl⟩, ⟨q1, q2, q3, q4, q5, q6, q7, q8, q9, q10⟩, r1, r2, r3, r4, r5, r6, r7, r8, r9, r10⟩, hX, hK, ⟨et, hl⟩, hRo, hRo2, hLG, hI0, hI1, hik, htt, hmk⟩
      | true =>
        have hLI := hI1 hz
        have hz2 : ¬ (ik 1).toInt = 0 := by rw [hik 1 (by decide), hz]; decide
        have hLN : LG sn (va_cpy n1 g1 0 0 10) (va_cpy n2 g2 0 0 16) (va_cpy n3 g3 0 0 16) (va_cpy n4 g4 0 0 64) (va_cpy n5 g5 0 0 8) nr nf (cpy 131 s (kof 1 kp)) := LG_ext r2.2 hLI (fun j hj => vc_at hj) (fun j hj => vc_at hj) (fun j hj => vc_at hj) (fun j hj => vc_at hj) (fun j hj => vc_at hj) rfl rfl (fun j hj => cpz_lt hj)
        refine ⟨sumC (va_cpy n5 g5 0 0 8) 8, (GW ki ln bt rl cp cs ct cv (bif v then 14 else 5) (bif v then 5 else 14) ja ea ma a1 a2 a3 a4 a5 a6 a7 a8 jb eb mb b1 b2 b3 b4 b5 b6 b7 b8 nr nf (va_cpy n1 g1 0 0 10) (va_cpy n2 g2 0 0 16) (va_cpy n3 g3 0 0 16) (va_cpy n4 g4 0 0 64) (va_cpy n5 g5 0 0 8) rt la rs rg pd du ds me tt gr su gp mk rf m1 m2 m3 m4 m5 mr mf n1 n2 n3 n4 n5 nr nf th tr db sn dm sm ty nx tk pl va fa lr ri s kp ik tn de sd dd sr tx pa), (GW ki ln bt rl cp cs ct cv (bif v then 14 else 5) (bif v then 5 else 14) ja ea ma a1 a2 a3 a4 a5 a6 a7 a8 jb eb mb b1 b2 b3 b4 b5 b6 b7 b8 nr nf (va_cpy n1 g1 0 0 10) (va_cpy n2 g2 0 0 16) (va_cpy n3 g3 0 0 16) (va_cpy n4 g4 0 0 64) (va_cpy n5 g5 0 0 8) rt la rs rg pd du ds me tt gr su gp mk rf m1 m2 m3 m4 m5 mr mf n1 n2 n3 n4 n5 nr nf 0 tr db sn dm sm ty nx tk pl va fa lr ri (cpy 131 s (kof 1 kp)) kp ik tn de sd dd sr tx pa), c_restC1_1 hz hrf, ?_, ?_, mid_GW⟩
        · rw [sum_eq 8 hLN.2.2.2.2.1]
          exact c_restoreR (i := 1) (C := (cW ki ln bt rl cp cs ct cv (bif v then 14 else 5) (bif v then 5 else 14) ja ea ma a1 a2 a3 a4 a5 a6 a7 a8 jb eb mb b1 b2 b3 b4 b5 b6 b7 b8 nr nf (va_cpy n1 g1 0 0 10) (va_cpy n2 g2 0 0 16) (va_cpy n3 g3 0 0 16) (va_cpy n4 g4 0 0 64) (va_cpy n5 g5 0 0 8) (dW rt la rs rg pd du ds me tt gr su gp mk rf m1 m2 m3 m4 m5 mr mf n1 n2 n3 n4 n5 nr nf []))) (th := th) (tr := tr) (db := db) (sn := sn) (dm := dm) (sm := sm) (ty := ty) (nx := nx) (tk := tk) (pl := pl) (va := va) (fa := fa) (lr := lr) (ri := ri) (s := s) (kp := kp) (ik := ik) (tn := tn) (de := de) (sd := sd) (dd := dd) (sr := sr) (tx := tx) (pa := pa) rfl (by decide) hz2
        · obtain ⟨k1, k2⟩ := hK 1 (by decide) (fun z => hz2 (by rw [z]; rfl))
          refine LI_to ⟨⟨⟨hla, hrf⟩, ⟨rfl, rfl⟩, ⟨q1, q2, q3, q4, q5, q6, q7, q8, q9, q10⟩, r1, r2, r3, r4, r5, ⟨(fun j hj => ?_), (fun j h1 h2 => ?_)⟩, r7, r8, r9, r10⟩, ⟨hX.1, fun d hd => ?_⟩, hK, ⟨et, hl⟩, hRo, hRo2, hLN, hI0, hI1, hik, htt, hmk⟩
          · rw [cpz_lt (by omega)]
            exact ⟨(k1 j hj).1, Int.le_trans (k1 j hj).2 (r8 j hj).2.2.2⟩
          · rw [cpz_lt (by omega)]
            have := k2 (j - 122) (by omega)
            rw [show 131 * 1 + 122 + (j - 122) = 131 * 1 + j by omega] at this
            exact this
          · rw [cpz_lt (by omega)]
            exact (k1 d hd).2
