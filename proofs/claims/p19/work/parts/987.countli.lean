/-! ===== count: both sides ===== -/
section CR2
variable {C : List va_E} {tr : Int64} {th db sn dm sm ty nx tk pl va fa lr ri : Int} {s kp ik tn de sd dd sr tx pa : Nat → Int32} {b : Int} {Q : mm_R → Prop} {N : Nat}
theorem c_countR (hC : C.length = 56) (hb : -2147483648 ≤ b ∧ b ≤ 2147483647) (hd : 0 ≤ db ∧ db ≤ 10) (hn : 0 ≤ sn ∧ sn ≤ 16) (ht : 0 ≤ ty ∧ ty ≤ 400) : sX12_count [.ref 56, iv b] (C ++ rL (ro_ th tr db sn dm sm ty nx tk pl va fa lr ri) s kp ik tn de sd dd sr tx pa) = some (some (iv (rCT de s db sn ty b)), (C ++ rL (ro_ (0 : Int) tr db sn dm sm ty nx tk pl va fa lr ri) s kp ik tn de sd dd sr tx pa)) := by
  obtain ⟨n, rfl⟩ := Int.eq_ofNat_of_zero_le hn.1
  obtain ⟨m, rfl⟩ := Int.eq_ofNat_of_zero_le hd.1
  have hn : n ≤ 16 := by omega
  have hd : m ≤ 10 := by omega
  have main : ∀ Q : mm_R → Prop, Q (some (iv (rCT de s (m : Int) (n : Int) ty b)), (C ++ rL (ro_ (0 : Int) tr (m : Int) (n : Int) dm sm ty nx tk pl va fa lr ri) s kp ik tn de sd dd sr tx pa)) → rn_X12_count (200 + 30 * 10 + 30 + 20 + 30 * 16 + 30 + 20) (0, [(0, .ref 56), (1, iv (b))], [], (C ++ rL (ro_ th tr (m : Int) (n : Int) dm sm ty nx tk pl va fa lr ri) s kp ik tn de sd dd sr tx pa)) Q := by
    intro Q hQ
    obtain ⟨M, hM⟩ : ∃ M, M = 200 + 30 * 10 + 30 + 20 := ⟨_, rfl⟩
    refine rn_up (N := M + 30 * 16 + 30 + 20) (by rw [hM]; decide) ?_
    refine r_al rfl rfl ?_
    refine r_ic rfl ?_
    refine r_pf rfl rfl (rg_56 hC) rfl (rp_th hC) ?_
    refine r_ic rfl ?_
    refine r_is (lv' := [(2, _), (0, _), (1, _)]) rfl rfl rfl ?_
    refine r_ic rfl ?_
    refine r_is (lv' := [(3, _), (2, _), (0, _), (1, _)]) rfl rfl rfl ?_
    refine r_ic rfl ?_
    refine r_isw (lv' := [(4, _), (3, _), (2, _), (0, _), (1, _)]) rfl rfl rfl ?_
    refine rn_LE (a := [(4, iv (0)), (2, iv (0)), (3, iv (0)), (0, .ref 56), (1, iv (b))]) ⟨(List.forall_mem_cons.mpr ⟨List.mem_cons_self, (List.forall_mem_cons.mpr ⟨(List.mem_cons_of_mem _ (List.mem_cons_of_mem _ List.mem_cons_self)), (List.forall_mem_cons.mpr ⟨(List.mem_cons_of_mem _ List.mem_cons_self), (List.forall_mem_cons.mpr ⟨(List.mem_cons_of_mem _ (List.mem_cons_of_mem _ (List.mem_cons_of_mem _ List.mem_cons_self))), (List.forall_mem_cons.mpr ⟨(List.mem_cons_of_mem _ (List.mem_cons_of_mem _ (List.mem_cons_of_mem _ (List.mem_cons_of_mem _ List.mem_cons_self)))), (fun _ h => absurd h List.not_mem_nil)⟩)⟩)⟩)⟩)⟩), (by show List.Nodup [4, 2, 3, 0, 1]; decide), (by show List.Nodup [4, 3, 2, 0, 1]; decide)⟩ ?_
    refine rn_up (N := M + 30 * n + 30) (by omega) (cnt_lp1 (N := M) hC hn ?_ n 0 (by omega))
    rw [hM]
    refine r_ic rfl ?_
    refine r_isw (lv' := [(4, _), (2, _), (3, _), (0, _), (1, _)]) rfl rfl rfl ?_
    refine rn_LE (a := [(4, iv (0)), (3, iv (0)), (2, iv (rFr s n)), (0, .ref 56), (1, iv (b))]) ⟨(List.forall_mem_cons.mpr ⟨List.mem_cons_self, (List.forall_mem_cons.mpr ⟨(List.mem_cons_of_mem _ (List.mem_cons_of_mem _ List.mem_cons_self)), (List.forall_mem_cons.mpr ⟨(List.mem_cons_of_mem _ List.mem_cons_self), (List.forall_mem_cons.mpr ⟨(List.mem_cons_of_mem _ (List.mem_cons_of_mem _ (List.mem_cons_of_mem _ List.mem_cons_self))), (List.forall_mem_cons.mpr ⟨(List.mem_cons_of_mem _ (List.mem_cons_of_mem _ (List.mem_cons_of_mem _ (List.mem_cons_of_mem _ List.mem_cons_self)))), (fun _ h => absurd h List.not_mem_nil)⟩)⟩)⟩)⟩)⟩), (by show List.Nodup [4, 3, 2, 0, 1]; decide), (by show List.Nodup [4, 2, 3, 0, 1]; decide)⟩ ?_
    refine rn_up (N := 200 + 30 * m + 30) (by omega) (cnt_lp2 (N := 200) hC (f := rFr s n) hd ?_ m 0 (by omega))
    refine r_il rfl rfl ?_
    refine r_zne rfl rfl (by omega) (fun g0 => ?_) (fun g0 => ?_)
    · refine r_il rfl rfl ?_
      refine r_ic rfl ?_
      refine r_cne rfl rfl (by omega) (by omega) (fun g1 => ?_) (fun g1 => ?_)
      · refine r_il rfl rfl ?_
        refine r_ic rfl ?_
        refine r_cne rfl rfl (by omega) (by omega) (fun g2 => ?_) (fun g2 => ?_)
        · refine r_il rfl rfl ?_
          refine r_ic rfl ?_
          refine r_cne rfl rfl (by omega) (by omega) (fun g3 => ?_) (fun g3 => ?_)
          · refine r_il rfl rfl ?_
            refine r_ic rfl ?_
            refine r_cne rfl rfl (by omega) (by omega) (fun g4 => ?_) (fun g4 => ?_)
            · refine r_il rfl rfl ?_
              refine r_ic rfl ?_
              refine r_cne rfl rfl (by omega) (by omega) (fun g5 => ?_) (fun g5 => ?_)
              · have e : rCT de s (m : Int) (n : Int) ty b = -1 := by unfold rCT; rw [decide_eq_false g0, decide_eq_false g1, decide_eq_false g2, decide_eq_false g3, decide_eq_false g4, decide_eq_false g5]; rfl
                rw [e] at hQ
                refine r_ic rfl ?_
                exact r_ret rfl rfl hQ
              · have e : rCT de s (m : Int) (n : Int) ty b = rRA de s m := by unfold rCT; rw [decide_eq_false g0, decide_eq_false g1, decide_eq_false g2, decide_eq_false g3, decide_eq_false g4, decide_eq_true g5]; rfl
                rw [e] at hQ
                refine r_il rfl rfl ?_
                refine r_goto rfl rfl ?_
                exact r_ret rfl rfl hQ
            · have e : rCT de s (m : Int) (n : Int) ty b = ty := by unfold rCT; rw [decide_eq_false g0, decide_eq_false g1, decide_eq_false g2, decide_eq_false g3, decide_eq_true g4]; rfl
              rw [e] at hQ
              refine r_al rfl rfl ?_
              refine r_gf rfl rfl (rg_56 hC) rfl ?_
              refine r_goto rfl rfl ?_
              exact r_ret rfl rfl hQ
          · have e : rCT de s (m : Int) (n : Int) ty b = fO (s 130).toInt 16 := by unfold rCT; rw [decide_eq_false g0, decide_eq_false g1, decide_eq_false g2, decide_eq_true g3]; rfl
            rw [e] at hQ
            refine r_al rfl rfl ?_
            refine r_gf rfl rfl (rg_56 hC) rfl ?_
            refine r_si rfl (by decide) ?_
            refine r_ia rfl (rg_57 hC) (by omega) (by omega) (by decide) ?_
            refine r_s1s rfl rfl rfl c_onesR ?_
            refine r_goto rfl rfl ?_
            exact r_ret rfl rfl hQ
        · have e : rCT de s (m : Int) (n : Int) ty b = rFr s n := by unfold rCT; rw [decide_eq_false g0, decide_eq_false g1, decide_eq_true g2]; rfl
          rw [e] at hQ
          refine r_il rfl rfl ?_
          refine r_goto rfl rfl ?_
          exact r_ret rfl rfl hQ
      · have e : rCT de s (m : Int) (n : Int) ty b = (n : Int) := by unfold rCT; rw [decide_eq_false g0, decide_eq_true g1]; rfl
        rw [e] at hQ
        refine r_al rfl rfl ?_
        refine r_gf rfl rfl (rg_56 hC) rfl ?_
        refine r_goto rfl rfl ?_
        exact r_ret rfl rfl hQ
    · have e : rCT de s (m : Int) (n : Int) ty b = (m : Int) := by unfold rCT; rw [decide_eq_true g0]; rfl
      rw [e] at hQ
      refine r_al rfl rfl ?_
      refine r_gf rfl rfl (rg_56 hC) rfl ?_
      refine r_goto rfl rfl ?_
      exact r_ret rfl rfl hQ
  obtain ⟨r, h1, h2⟩ := rn_S (vs := [.ref 56, iv b]) (Q := fun r => r = (some (iv (rCT de s (m : Int) (n : Int) ty b)), (C ++ rL (ro_ (0 : Int) tr (m : Int) (n : Int) dm sm ty nx tk pl va fa lr ri) s kp ik tn de sd dd sr tx pa))) rfl (rn_up (N := 200 + 30 * 10 + 30 + 20 + 30 * 16 + 30 + 20) (M := mm_fuel) (by decide) (main (fun r => r = (some (iv (rCT de s (m : Int) (n : Int) ty b)), (C ++ rL (ro_ (0 : Int) tr (m : Int) (n : Int) dm sm ty nx tk pl va fa lr ri) s kp ik tn de sd dd sr tx pa))) rfl))
  have h1 : sX12_count [.ref 56, iv b] (C ++ rL (ro_ th tr (m : Int) (n : Int) dm sm ty nx tk pl va fa lr ri) s kp ik tn de sd dd sr tx pa) = some r := h1
  rw [h1, h2]
end CR2
theorem fO_stop {a : Int} {n : Nat} (h : ∀ j : Nat, n ≤ j → j < 16 → zb (Int32.ofInt a) j = false) : ∀ k : Nat, n + k ≤ 16 → fO a (n + k) = fO a n
  | 0, _ => rfl
  | k + 1, hk => by
    show fO a (n + k) + bi (zb (Int32.ofInt a) (n + k)) = fO a n
    rw [fO_stop h k (by omega), h (n + k) (by omega) (by omega)]
    show fO a n + 0 = fO a n
    omega
theorem rFr_f {s : Nat → Int32} {re : Int} (h : ∀ j : Nat, j < 16 → s (42 + j) = Int32.ofInt (bi (zb (Int32.ofInt re) j))) : ∀ j : Nat, j ≤ 16 → rFr s j = fO re j
  | 0, _ => rfl
  | j + 1, hj => by
    show rFr s j + (s (42 + j)).toInt = fO re j + bi (zb (Int32.ofInt re) j)
    rw [rFr_f h j (by omega), h j (by omega)]
    cases zb (Int32.ofInt re) j <;> rfl
theorem RA_eq {sn re fl db : Int} {g1 g2 g3 g4 g5 s de c1 c2 c3 : Nat → Int32} (hL : LG sn g1 g2 g3 g4 g5 re fl s) (hR : RRd db c1 c2 c3 de) (hb : db ≤ 10) : ∀ j : Nat, (j : Int) ≤ db → cRA c3 g1 j = rRA de s j
  | 0, _ => rfl
  | j + 1, hj => by
    show cRA c3 g1 j + cR c3 g1 (j : Int) = rRA de s j + fR de s (j : Int)
    rw [RA_eq hL hR hb j (by omega), cR_eq hL hR ⟨by omega, by omega⟩ hb]
theorem CT_eq {sn re fl db ty b : Int} {g1 g2 g3 g4 g5 s de c1 c2 c3 : Nat → Int32} (hL : LG sn g1 g2 g3 g4 g5 re fl s) (hR : RRd db c1 c2 c3 de) (hb : 0 ≤ db ∧ db ≤ 10) (hs : 0 ≤ sn ∧ sn ≤ 16) : cCT c3 g1 db sn re fl ty b = rCT de s db sn ty b := by
  obtain ⟨h1, h2, h3, h4, h5, h6, h7, h8, h9, h10⟩ := id hL
  have e2 : bcF re = rFr s sn.toNat := by
    rw [bcF_z (fun j j1 j2 => h7 j (by omega) j2), rFr_f h6 _ (by omega)]
    have := fO_stop (a := re) (n := sn.toNat) (fun j j1 j2 => h7 j (by omega) (by omega)) (16 - sn.toNat) (by omega)
    rw [show sn.toNat + (16 - sn.toNat) = 16 by omega] at this
    exact this
  have e3 : bcF fl = fO (s 130).toInt 16 := by
    rw [bcF_z (fun j j1 j2 => by rw [h8]; exact h9 j (by omega) j2)]
    exact fO_c (by rw [h8, Int32.ofInt_toInt]) 16
  unfold cCT rCT
  rw [e2, e3, RA_eq hL hR hb.2 _ (by omega)]
theorem LI_count {v : Bool} {mw : List va_E} {b : Int} (hb : -2147483648 ≤ b ∧ b ≤ 2147483647) (h : LI v mw) : ∃ (c : Int) (mw1 mw2 : List va_E), sX11_count [.ref 0, iv b] mw = some (some (iv c), mw1) ∧ sX12_count [.ref 56, iv b] mw1 = some (some (iv c), mw2) ∧ LI v mw2 ∧ mid mw1 := by
  refine LI_elim h (fun ki ln bt rl cp cs ct cv rr dr ja ea ma a1 a2 a3 a4 a5 a6 a7 a8 jb eb mb b1 b2 b3 b4 b5 b6 b7 b8 re fl g1 g2 g3 g4 g5 rt la rs rg pd du ds me tt gr su gp mk rf m1 m2 m3 m4 m5 mr mf n1 n2 n3 n4 n5 nr nf th tr db sn dm sm ty nx tk pl va fa lr ri s kp ik tn de sd dd sr tx pa e hh => ?_)
  obtain ⟨⟨⟨hla, hrf⟩, ⟨e1, e2⟩, ⟨q1, q2, q3, q4, q5, q6, q7, q8, q9, q10⟩, r1, r2, r3, r4, r5, r6, r7, r8, r9, r10⟩, hX, hK, ⟨et, hl⟩, hRo, hRo2, hLG, hI0, hI1, hik, htt, hmk⟩ := hh
  subst e
  clear h
  subst e1
  subst e2
  subst et
  refine ⟨rCT de s db sn ty b, (GW ki ty bt rl cp cs ct cv (bif v then 14 else 5) (bif v then 5 else 14) ja ea ma a1 a2 a3 a4 a5 a6 a7 a8 jb eb mb b1 b2 b3 b4 b5 b6 b7 b8 re fl g1 g2 g3 g4 g5 rt la rs rg pd du ds me tt gr su gp mk rf m1 m2 m3 m4 m5 mr mf n1 n2 n3 n4 n5 nr nf th tr db sn dm sm ty nx tk pl va fa lr ri s kp ik tn de sd dd sr tx pa), (GW ki ty bt rl cp cs ct cv (bif v then 14 else 5) (bif v then 5 else 14) ja ea ma a1 a2 a3 a4 a5 a6 a7 a8 jb eb mb b1 b2 b3 b4 b5 b6 b7 b8 re fl g1 g2 g3 g4 g5 rt la rs rg pd du ds me tt gr su gp mk rf m1 m2 m3 m4 m5 mr mf n1 n2 n3 n4 n5 nr nf 0 tr db sn dm sm ty nx tk pl va fa lr ri s kp ik tn de sd dd sr tx pa), ?_, c_countR (C := (cW ki ty bt rl cp cs ct cv (bif v then 14 else 5) (bif v then 5 else 14) ja ea ma a1 a2 a3 a4 a5 a6 a7 a8 jb eb mb b1 b2 b3 b4 b5 b6 b7 b8 re fl g1 g2 g3 g4 g5 (dW rt la rs rg pd du ds me tt gr su gp mk rf m1 m2 m3 m4 m5 mr mf n1 n2 n3 n4 n5 nr nf []))) (th := th) (tr := tr) (db := db) (sn := sn) (dm := dm) (sm := sm) (ty := ty) (nx := nx) (tk := tk) (pl := pl) (va := va) (fa := fa) (lr := lr) (ri := ri) (s := s) (kp := kp) (ik := ik) (tn := tn) (de := de) (sd := sd) (dd := dd) (sr := sr) (tx := tx) (pa := pa) rfl hb r1 r2 r3, LI_to ⟨⟨⟨hla, hrf⟩, ⟨rfl, rfl⟩, ⟨q1, q2, q3, q4, q5, q6, q7, q8, q9, q10⟩, r1, r2, r3, r4, r5, r6, r7, r8, r9, r10⟩, hX, hK, ⟨rfl, hl⟩, hRo, hRo2, hLG, hI0, hI1, hik, htt, hmk⟩, mid_GW⟩
  cases v with
  | false =>
    obtain ⟨k1, k2, k3, k4, k5⟩ := hRo rfl
    subst k1
    subst k2
    rw [← CT_eq hLG k3 r1 r2]
    exact c_countC0 hb r1
  | true =>
    obtain ⟨k1, k2, k3, k4, k5⟩ := hRo2 rfl
    subst k1
    subst k2
    rw [← CT_eq hLG k3 r1 r2]
    exact c_countC1 hb r1
/-! balance, of the reference -/
theorem LI_balance {v : Bool} {mw : List va_E} {a : Int} (ha : -2147483648 ≤ a ∧ a ≤ 2147483647) (h : LI v mw) : ∃ (c : Int) (mw2 : List va_E), sX12_balance [.ref 56, iv a] mw = some (some (iv c), mw2) ∧ LI v mw2 := by
  refine LI_elim h (fun ki ln bt rl cp cs ct cv rr dr ja ea ma a1 a2 a3 a4 a5 a6 a7 a8 jb eb mb b1 b2 b3 b4 b5 b6 b7 b8 re fl g1 g2 g3 g4 g5 rt la rs rg pd du ds me tt gr su gp mk rf m1 m2 m3 m4 m5 mr mf n1 n2 n3 n4 n5 nr nf th tr db sn dm sm ty nx tk pl va fa lr ri s kp ik tn de sd dd sr tx pa e hh => ?_)
  obtain ⟨⟨⟨hla, hrf⟩, he, ⟨q1, q2, q3, q4, q5, q6, q7, q8, q9, q10⟩, r1, r2, r3, r4, r5, r6, r7, r8, r9, r10⟩, hX, hK, ⟨et, hl⟩, hRo, hRo2, hLG, hI0, hI1, hik, htt, hmk⟩ := hh
  subst e
  clear h
  obtain ⟨r, hr, c, pa', e, h2⟩ := bal_rn (C := (cW ki ln bt rl cp cs ct cv rr dr ja ea ma a1 a2 a3 a4 a5 a6 a7 a8 jb eb mb b1 b2 b3 b4 b5 b6 b7 b8 re fl g1 g2 g3 g4 g5 (dW rt la rs rg pd du ds me tt gr su gp mk rf m1 m2 m3 m4 m5 mr mf n1 n2 n3 n4 n5 nr nf []))) (a := a) (th := th) (tr := tr) (db := db) (sn := sn) (dm := dm) (sm := sm) (ty := ty) (nx := nx) (tk := tk) (pl := pl) (va := va) (fa := fa) (lr := lr) (ri := ri) (s := s) (kp := kp) (ik := ik) (tn := tn) (de := de) (sd := sd) (dd := dd) (sr := sr) (tx := tx) (pa := pa) rfl r6 r8 r1 ha r10
  subst e
  exact ⟨c, (GW ki ln bt rl cp cs ct cv rr dr ja ea ma a1 a2 a3 a4 a5 a6 a7 a8 jb eb mb b1 b2 b3 b4 b5 b6 b7 b8 re fl g1 g2 g3 g4 g5 rt la rs rg pd du ds me tt gr su gp mk rf m1 m2 m3 m4 m5 mr mf n1 n2 n3 n4 n5 nr nf 0 tr db sn dm sm ty nx tk pl va fa lr ri s kp ik tn de sd dd sr tx pa'), hr, LI_to ⟨⟨⟨hla, hrf⟩, he, ⟨q1, q2, q3, q4, q5, q6, q7, q8, q9, q10⟩, r1, r2, r3, r4, r5, r6, r7, r8, r9, h2⟩, hX, hK, ⟨et, hl⟩, hRo, hRo2, hLG, hI0, hI1, hik, htt, hmk⟩⟩
/-! calls that keep all -/
theorem call_I {v : Bool} {f : mm_F} {A : List ab_V} {I : ab_I} {vs : List Value} {mw : List va_E} (u : as_Sum (shf v) (A, [], some (.inl I)) f) (h : LI v mw) (hA : as_stk (as_arg vs) as_g0 A vs) : ∃ (c : Int) (mw' : List va_E), f vs mw = some (some (iv c), mw') ∧ LI v mw' := by
  obtain ⟨h1, h2⟩ := LI_HI h
  obtain ⟨r, mw', r1, r2, r3, r4⟩ := u vs mw h1 h2 hA (fun g hg => by cases hg)
  obtain ⟨c, e, -⟩ := as_rsI r4
  subst e
  exact ⟨c, mw', r1, LI_Fr h r2 r3⟩
theorem LI_0 {v : Bool} {mw : List va_E} (h : LI v mw) : ∃ F, mw[0]? = some (.inr (11, F)) := by
  refine LI_elim h (fun ki ln bt rl cp cs ct cv rr dr ja ea ma a1 a2 a3 a4 a5 a6 a7 a8 jb eb mb b1 b2 b3 b4 b5 b6 b7 b8 re fl g1 g2 g3 g4 g5 rt la rs rg pd du ds me tt gr su gp mk rf m1 m2 m3 m4 m5 mr mf n1 n2 n3 n4 n5 nr nf th tr db sn dm sm ty nx tk pl va fa lr ri s kp ik tn de sd dd sr tx pa e _ => ?_)
  subst e
  exact ⟨_, rfl⟩
theorem LI_56 {v : Bool} {mw : List va_E} (h : LI v mw) : ∃ F, mw[56]? = some (.inr (12, F)) := by
  refine LI_elim h (fun ki ln bt rl cp cs ct cv rr dr ja ea ma a1 a2 a3 a4 a5 a6 a7 a8 jb eb mb b1 b2 b3 b4 b5 b6 b7 b8 re fl g1 g2 g3 g4 g5 rt la rs rg pd du ds me tt gr su gp mk rf m1 m2 m3 m4 m5 mr mf n1 n2 n3 n4 n5 nr nf th tr db sn dm sm ty nx tk pl va fa lr ri s kp ik tn de sd dd sr tx pa e _ => ?_)
  subst e
  exact ⟨_, rfl⟩
theorem LI_out {v : Bool} {mw : List va_E} (h : LI v mw) : mw[3000]? = none := by
  refine LI_elim h (fun ki ln bt rl cp cs ct cv rr dr ja ea ma a1 a2 a3 a4 a5 a6 a7 a8 jb eb mb b1 b2 b3 b4 b5 b6 b7 b8 re fl g1 g2 g3 g4 g5 rt la rs rg pd du ds me tt gr su gp mk rf m1 m2 m3 m4 m5 mr mf n1 n2 n3 n4 n5 nr nf th tr db sn dm sm ty nx tk pl va fa lr ri s kp ik tn de sd dd sr tx pa e _ => ?_)
  subst e
  exact (mid_GW).1
