/-! ===== person keeps the relation, has answers alike ===== -/
theorem zb_xor (x y : Int32) (i : Nat) : zb (x ^^^ y) i = (zb x i ^^ zb y i) := by unfold zb; rw [Int32.toBitVec_xor, BitVec.getLsbD_xor]
theorem zb_m1 : ∀ i, i < 32 → zb (Int32.ofInt (-1)) i = true := by decide +kernel
theorem oShl_0 : ∀ a : Nat, a < 8 → oShl 0 (a : Int) = 0 := by decide +kernel
theorem zb_oOr (a b : Int) (i : Nat) : zb (Int32.ofInt (oOr a b)) i = (zb (Int32.ofInt a) i || zb (Int32.ofInt b) i) := by unfold oOr; rw [Int32.ofInt_toInt, zb_or]
theorem zb_oAnd (a b : Int) (i : Nat) : zb (Int32.ofInt (oAnd a b)) i = (zb (Int32.ofInt a) i && zb (Int32.ofInt b) i) := by unfold oAnd; rw [Int32.ofInt_toInt, zb_and]
theorem zb_oNot (a : Int) {i : Nat} (hi : i < 32) : zb (Int32.ofInt (oXor a (-1))) i = !zb (Int32.ofInt a) i := by unfold oXor; rw [Int32.ofInt_toInt, zb_xor, zb_m1 i hi]; cases zb (Int32.ofInt a) i <;> rfl
theorem zb_oShl1 {a : Nat} (ha : a < 32) {i : Nat} (hi : i < 32) : zb (Int32.ofInt (oShl 1 (a : Int))) i = decide (i = a) := by
  unfold oShl
  rw [Int32.ofInt_toInt, zb_shl a ha _ hi, show zb (Int32.ofInt 1) (i - a) = decide (i - a = 0) from zb_1 _ (by omega)]
  by_cases e : i = a
  · subst e; simp
  · rw [decide_eq_false e]
    by_cases q : a ≤ i
    · rw [decide_eq_true q, decide_eq_false (show ¬ i - a = 0 by omega)]; rfl
    · rw [decide_eq_false q]; rfl
theorem ofI_inj {a b : Int} (h : ∀ i, i < 32 → zb (Int32.ofInt a) i = zb (Int32.ofInt b) i) : Int32.ofInt a = Int32.ofInt b := zb_ext h
theorem fal_0 {x a : Int} (ha : 0 ≤ a ∧ a ≤ 7) : Int32.ofInt (oOr (oAnd x (oXor (oShl 1 a) (-1))) (oShl 0 a)) = Int32.ofInt (oAnd x (oXor (oShl 1 a) (-1))) := by
  obtain ⟨n, rfl⟩ := Int.eq_ofNat_of_zero_le ha.1
  rw [oShl_0 n (by omega)]
  refine ofI_inj (fun i hi => ?_)
  rw [zb_oOr, zb_z, Bool.or_false]
theorem fal_1 {x a : Int} : Int32.ofInt (oOr (oAnd x (oXor (oShl 1 a) (-1))) (oShl 1 a)) = Int32.ofInt (oOr x (oShl 1 a)) := by
  refine ofI_inj (fun i hi => ?_)
  rw [zb_oOr, zb_oAnd, zb_oNot _ hi, zb_oOr]
  cases zb (Int32.ofInt x) i <;> cases zb (Int32.ofInt (oShl 1 a)) i <;> rfl
theorem oAnd_c {x y m : Int} (h : Int32.ofInt x = Int32.ofInt y) : oAnd x m = oAnd y m := by unfold oAnd; rw [h]
theorem oOr_c {x y m : Int} (h : Int32.ofInt x = Int32.ofInt y) : oOr x m = oOr y m := by unfold oOr; rw [h]
theorem VO_eq {sn re fl a b : Int} {g1 g2 g3 g4 g5 s tt tn : Nat → Int32} (h : LG sn g1 g2 g3 g4 g5 re fl s) (ht : ∀ p : Nat, p < 8 → tt p = tn p ∧ i7 (tn p) 0 10) : cVO g5 tt fl a b = rVO s tn a b := by
  unfold cVO rVO
  cases h1 : i3 a 0 7 with
  | false => rfl
  | true =>
    have r1 := i3_t h1
    obtain ⟨n, rfl⟩ := Int.eq_ofNat_of_zero_le r1.1
    rw [show Int.toNat (122 + (n : Int)) = 122 + n by omega, show Int.toNat (n : Int) = n from rfl, h.2.2.2.2.1 n (by omega), (ht n (by omega)).1]
    have e2 : zb (Int32.ofInt fl) n = fF s (n : Int) := by unfold fF; rw [h.2.2.2.2.2.2.2.1]; rfl
    rw [e2]
    by_cases e0 : b = 0
    · rw [decide_eq_true e0, show i3 b 0 2 = true by rw [e0]; decide]; rfl
    · by_cases e1 : b = 1
      · rw [decide_eq_false e0, decide_eq_true e1, show i3 b 0 2 = true by rw [e1]; decide]; rfl
      · by_cases e3 : b = 2
        · rw [decide_eq_false e0, decide_eq_false e1, decide_eq_true e3, show i3 b 0 2 = true by rw [e3]; decide]; rfl
        · rw [decide_eq_false e0, decide_eq_false e1, decide_eq_false e3, show i3 b 0 2 = false by simp [i3]; omega]; rfl
/-- one number of the ledger changes on both sides -/
theorem LG_b {sn re fl : Int} {g1 g2 g3 g4 g5 s : Nat → Int32} {p : Nat} {x : Int32} (hs : sn ≤ 16) (hp : p < 8) (h : LG sn g1 g2 g3 g4 g5 re fl s) : LG sn g1 g2 g3 g4 (upd g5 p x) re fl (upd s (122 + p) x) := by
  obtain ⟨h1, h2, h3, h4, h5, h6, h7, h8, h9, h10⟩ := h
  refine ⟨fun j hj => ?_, fun j hj => ?_, fun j hj => ?_, fun j hj => ?_, fun j hj => ?_, fun j hj => ?_, h7, ?_, fun j j1 j2 => ?_, fun j hj => ?_⟩
  · rw [upd_ne (by omega)]; exact h1 j hj
  · rw [upd_ne (by omega)]; exact h2 j hj
  · rw [upd_ne (by omega)]; exact h3 j hj
  · rw [upd_ne (by omega)]; exact h4 j hj
  · by_cases e : j = p
    · rw [e, upd_same, upd_same]
    · rw [upd_ne e, upd_ne (by omega)]; exact h5 j hj
  · rw [upd_ne (by omega)]; exact h6 j hj
  · rw [upd_ne (by omega)]; exact h8
  · rw [upd_ne (by omega)]; exact h9 j j1 j2
  · rw [upd_ne (by omega)]; exact h10 j hj
theorem LG_f {sn re fl fl' : Int} {g1 g2 g3 g4 g5 s : Nat → Int32} {x : Int32} (hs : sn ≤ 16) (h : LG sn g1 g2 g3 g4 g5 re fl s) (he : Int32.ofInt fl' = x) (hx : ∀ j : Nat, 8 ≤ j → j < 32 → zb x j = false) : LG sn g1 g2 g3 g4 g5 re fl' (upd s 130 x) := by
  obtain ⟨h1, h2, h3, h4, h5, h6, h7, h8, h9, h10⟩ := h
  refine ⟨fun j hj => ?_, fun j hj => ?_, fun j hj => ?_, fun j hj => ?_, fun j hj => ?_, fun j hj => ?_, h7, ?_, fun j j1 j2 => ?_, fun j hj => ?_⟩
  · rw [upd_ne (by omega)]; exact h1 j hj
  · rw [upd_ne (by omega)]; exact h2 j hj
  · rw [upd_ne (by omega)]; exact h3 j hj
  · rw [upd_ne (by omega)]; exact h4 j hj
  · rw [upd_ne (by omega)]; exact h5 j hj
  · rw [upd_ne (by omega)]; exact h6 j hj
  · rw [upd_same]; exact he
  · rw [upd_same]; exact hx j j1 j2
  · rw [upd_ne (by omega)]; exact h10 j hj
theorem RS_b {s : Nat → Int32} {p : Nat} {x : Int} (h : RS s) (hp : p < 8) (hx : 0 ≤ x ∧ x ≤ 9999) : RS (upd s (122 + p) (Int32.ofInt x)) := by
  refine ⟨fun j hj => ?_, fun j j1 j2 => ?_⟩
  · rw [upd_ne (by omega)]; exact h.1 j hj
  · by_cases e : j = 122 + p
    · rw [e, upd_same]
      unfold i7
      rw [iv_to (by omega)]
      exact hx
    · rw [upd_ne e]; exact h.2 j j1 j2
theorem EX_b {s de sd : Nat → Int32} {k : Nat} {x : Int32} (h : EXx s de sd) (hk : 10 ≤ k) : EXx (upd s k x) de sd := ⟨h.1, fun d hd => by rw [upd_ne (by omega)]; exact h.2 d hd⟩
theorem LI_has {v : Bool} {mw : List va_E} {a b : Int} (ha : -2147483648 ≤ a ∧ a ≤ 2147483647) (hb : -2147483648 ≤ b ∧ b ≤ 2147483647) (h : LI v mw) : ∃ (c : Int) (mw1 mw2 : List va_E), sX11_has [.ref 0, iv a, iv b] mw = some (some (iv c), mw1) ∧ sX12_has [.ref 56, iv a, iv b] mw1 = some (some (iv c), mw2) ∧ LI v mw2 ∧ mid mw1 := by
  refine LI_elim h (fun ki ln bt rl cp cs ct cv rr dr ja ea ma a1 a2 a3 a4 a5 a6 a7 a8 jb eb mb b1 b2 b3 b4 b5 b6 b7 b8 re fl g1 g2 g3 g4 g5 rt la rs rg pd du ds me tt gr su gp mk rf m1 m2 m3 m4 m5 mr mf n1 n2 n3 n4 n5 nr nf th tr db sn dm sm ty nx tk pl va fa lr ri s kp ik tn de sd dd sr tx pa e hh => ?_)
  obtain ⟨⟨⟨hla, hrf⟩, ⟨e1, e2⟩, ⟨q1, q2, q3, q4, q5, q6, q7, q8, q9, q10⟩, r1, r2, r3, r4, r5, r6, r7, r8, r9, r10⟩, hX, hK, ⟨et, hl⟩, hRo, hRo2, hLG, hI0, hI1, hik, htt, hmk⟩ := hh
  subst e
  clear h
  subst e1
  subst e2
  refine ⟨cVO g5 tt fl a b, (GW ki ln bt rl cp cs ct cv (bif v then 14 else 5) (bif v then 5 else 14) ja ea ma a1 a2 a3 a4 a5 a6 a7 a8 jb eb mb b1 b2 b3 b4 b5 b6 b7 b8 re fl g1 g2 g3 g4 g5 rt la rs rg pd du ds me tt gr su gp mk rf m1 m2 m3 m4 m5 mr mf n1 n2 n3 n4 n5 nr nf th tr db sn dm sm ty nx tk pl va fa lr ri s kp ik tn de sd dd sr tx pa), (GW ki ln bt rl cp cs ct cv (bif v then 14 else 5) (bif v then 5 else 14) ja ea ma a1 a2 a3 a4 a5 a6 a7 a8 jb eb mb b1 b2 b3 b4 b5 b6 b7 b8 re fl g1 g2 g3 g4 g5 rt la rs rg pd du ds me tt gr su gp mk rf m1 m2 m3 m4 m5 mr mf n1 n2 n3 n4 n5 nr nf 0 tr db sn dm sm ty nx tk pl va fa lr ri s kp ik tn de sd dd sr tx pa), ?_, ?_, ?_, mid_GW⟩
  · cases v with
    | false => exact c_hasC0 ha hb
    | true => exact c_hasC1 ha hb
  · rw [VO_eq hLG htt]
    exact c_hasR (C := (cW ki ln bt rl cp cs ct cv (bif v then 14 else 5) (bif v then 5 else 14) ja ea ma a1 a2 a3 a4 a5 a6 a7 a8 jb eb mb b1 b2 b3 b4 b5 b6 b7 b8 re fl g1 g2 g3 g4 g5 (dW rt la rs rg pd du ds me tt gr su gp mk rf m1 m2 m3 m4 m5 mr mf n1 n2 n3 n4 n5 nr nf []))) (th := th) (tr := tr) (db := db) (sn := sn) (dm := dm) (sm := sm) (ty := ty) (nx := nx) (tk := tk) (pl := pl) (va := va) (fa := fa) (lr := lr) (ri := ri) (s := s) (kp := kp) (ik := ik) (tn := tn) (de := de) (sd := sd) (dd := dd) (sr := sr) (tx := tx) (pa := pa) rfl ha hb
  · exact LI_to ⟨⟨⟨hla, hrf⟩, ⟨rfl, rfl⟩, ⟨q1, q2, q3, q4, q5, q6, q7, q8, q9, q10⟩, r1, r2, r3, r4, r5, r6, r7, r8, r9, r10⟩, hX, hK, ⟨et, hl⟩, hRo, hRo2, hLG, hI0, hI1, hik, htt, hmk⟩
theorem LI_person {v : Bool} {mw : List va_E} {a b x : Int} (ha : -2147483648 ≤ a ∧ a ≤ 2147483647) (hb : -2147483648 ≤ b ∧ b ≤ 2147483647) (hx : -2147483648 ≤ x ∧ x ≤ 2147483647) (h : LI v mw) : ∃ (c : Int) (mw1 mw2 : List va_E), sX11_person [.ref 0, iv a, iv b, iv x] mw = some (some (iv c), mw1) ∧ sX12_person [.ref 56, iv a, iv b, iv x] mw1 = some (some (iv c), mw2) ∧ LI v mw2 ∧ mid mw1 := by
  refine LI_elim h (fun ki ln bt rl cp cs ct cv rr dr ja ea ma a1 a2 a3 a4 a5 a6 a7 a8 jb eb mb b1 b2 b3 b4 b5 b6 b7 b8 re fl g1 g2 g3 g4 g5 rt la rs rg pd du ds me tt gr su gp mk rf m1 m2 m3 m4 m5 mr mf n1 n2 n3 n4 n5 nr nf th tr db sn dm sm ty nx tk pl va fa lr ri s kp ik tn de sd dd sr tx pa e hh => ?_)
  obtain ⟨⟨⟨hla, hrf⟩, ⟨e1, e2⟩, ⟨q1, q2, q3, q4, q5, q6, q7, q8, q9, q10⟩, r1, r2, r3, r4, r5, r6, r7, r8, r9, r10⟩, hX, hK, ⟨et, hl⟩, hRo, hRo2, hLG, hI0, hI1, hik, htt, hmk⟩ := hh
  subst e
  clear h
  subst e1
  subst e2
  have h5 : ∀ p : Nat, p < 8 → 0 ≤ (g5 p).toInt := fun p hp => by rw [hLG.2.2.2.2.1 p hp]; exact (r6.2 (122 + p) (by omega) (by omega)).1
  have ht : ∀ p : Nat, p < 8 → 0 ≤ (tt p).toInt := fun p hp => by rw [(htt p hp).1]; exact (htt p hp).2.1
  cases hok : (i3 a 0 7 && (i3 b 0 2 && i3 x 0 (mo b))) with
  | false =>
    refine ⟨-1, (GW ki ln bt rl cp cs ct cv (bif v then 14 else 5) (bif v then 5 else 14) ja ea ma a1 a2 a3 a4 a5 a6 a7 a8 jb eb mb b1 b2 b3 b4 b5 b6 b7 b8 re fl g1 g2 g3 g4 g5 rt la rs rg pd du ds me tt gr su gp mk rf m1 m2 m3 m4 m5 mr mf n1 n2 n3 n4 n5 nr nf th tr db sn dm sm ty nx tk pl va fa lr ri s kp ik tn de sd dd sr tx pa), (GW ki ln bt rl cp cs ct cv (bif v then 14 else 5) (bif v then 5 else 14) ja ea ma a1 a2 a3 a4 a5 a6 a7 a8 jb eb mb b1 b2 b3 b4 b5 b6 b7 b8 re fl g1 g2 g3 g4 g5 rt la rs rg pd du ds me tt gr su gp mk rf m1 m2 m3 m4 m5 mr mf n1 n2 n3 n4 n5 nr nf 0 tr db sn dm sm ty nx tk pl va fa lr ri s kp ik tn de sd dd sr tx pa), ?_, ?_, ?_, mid_GW⟩
    · cases v with
      | false => exact c_personB0 ha hb hx h5 ht hok
      | true => exact c_personB1 ha hb hx h5 ht hok
    · exact c_personRB (C := (cW ki ln bt rl cp cs ct cv (bif v then 14 else 5) (bif v then 5 else 14) ja ea ma a1 a2 a3 a4 a5 a6 a7 a8 jb eb mb b1 b2 b3 b4 b5 b6 b7 b8 re fl g1 g2 g3 g4 g5 (dW rt la rs rg pd du ds me tt gr su gp mk rf m1 m2 m3 m4 m5 mr mf n1 n2 n3 n4 n5 nr nf []))) (th := th) (tr := tr) (db := db) (sn := sn) (dm := dm) (sm := sm) (ty := ty) (nx := nx) (tk := tk) (pl := pl) (va := va) (fa := fa) (lr := lr) (ri := ri) (s := s) (kp := kp) (ik := ik) (tn := tn) (de := de) (sd := sd) (dd := dd) (sr := sr) (tx := tx) (pa := pa) rfl ha hb hx hok
    · exact LI_to ⟨⟨⟨hla, hrf⟩, ⟨rfl, rfl⟩, ⟨q1, q2, q3, q4, q5, q6, q7, q8, q9, q10⟩, r1, r2, r3, r4, r5, r6, r7, r8, r9, r10⟩, hX, hK, ⟨et, hl⟩, hRo, hRo2, hLG, hI0, hI1, hik, htt, hmk⟩
  | true =>
    rw [Bool.and_eq_true, Bool.and_eq_true] at hok
    obtain ⟨k1, k2, k3⟩ := hok
    have p1 := i3_t k1
    have p2 := i3_t k2
    have p3 := i3_t k3
    obtain ⟨n, rfl⟩ := Int.eq_ofNat_of_zero_le p1.1
    have hn : n < 8 := by omega
    have eV := VO_eq (a := (n : Int)) (b := b) hLG htt
    have t1 : Int.toNat (122 + (n : Int)) = 122 + n := by omega
    by_cases b0 : b = 0
    · subst b0
      refine ⟨cVO g5 tt fl (n : Int) 0, (GW ki ln bt rl cp cs ct cv (bif v then 14 else 5) (bif v then 5 else 14) ja ea ma a1 a2 a3 a4 a5 a6 a7 a8 jb eb mb b1 b2 b3 b4 b5 b6 b7 b8 re fl g1 g2 g3 g4 (upd g5 (Int.toNat (n : Int)) (Int32.ofInt x)) rt la rs rg pd du ds me tt gr su gp mk rf m1 m2 m3 m4 m5 mr mf n1 n2 n3 n4 n5 nr nf th tr db sn dm sm ty nx tk pl va fa lr ri s kp ik tn de sd dd sr tx pa), (GW ki ln bt rl cp cs ct cv (bif v then 14 else 5) (bif v then 5 else 14) ja ea ma a1 a2 a3 a4 a5 a6 a7 a8 jb eb mb b1 b2 b3 b4 b5 b6 b7 b8 re fl g1 g2 g3 g4 (upd g5 (Int.toNat (n : Int)) (Int32.ofInt x)) rt la rs rg pd du ds me tt gr su gp mk rf m1 m2 m3 m4 m5 mr mf n1 n2 n3 n4 n5 nr nf 0 tr db sn dm sm ty nx tk pl va fa lr ri (upd s (Int.toNat (122 + (n : Int))) (Int32.ofInt x)) kp ik tn de sd dd sr tx pa), ?_, ?_, ?_, mid_GW⟩
      · cases v with
        | false => exact c_personG0_0 ha hb hx h5 ht k1 rfl k3
        | true => exact c_personG1_0 ha hb hx h5 ht k1 rfl k3
      · rw [eV]
        exact c_personRG0 (C := (cW ki ln bt rl cp cs ct cv (bif v then 14 else 5) (bif v then 5 else 14) ja ea ma a1 a2 a3 a4 a5 a6 a7 a8 jb eb mb b1 b2 b3 b4 b5 b6 b7 b8 re fl g1 g2 g3 g4 (upd g5 (Int.toNat (n : Int)) (Int32.ofInt x)) (dW rt la rs rg pd du ds me tt gr su gp mk rf m1 m2 m3 m4 m5 mr mf n1 n2 n3 n4 n5 nr nf []))) (th := th) (tr := tr) (db := db) (sn := sn) (dm := dm) (sm := sm) (ty := ty) (nx := nx) (tk := tk) (pl := pl) (va := va) (fa := fa) (lr := lr) (ri := ri) (s := s) (kp := kp) (ik := ik) (tn := tn) (de := de) (sd := sd) (dd := dd) (sr := sr) (tx := tx) (pa := pa) rfl ha hb hx k1 rfl k3
      · rw [t1]
        exact LI_to ⟨⟨⟨hla, hrf⟩, ⟨rfl, rfl⟩, ⟨q1, q2, q3, q4, q5, q6, q7, q8, q9, q10⟩, r1, r2, r3, r4, r5, RS_b r6 hn p3, r7, r8, r9, r10⟩, EX_b hX (by omega), hK, ⟨et, hl⟩, hRo, hRo2, LG_b r2.2 hn hLG, hI0, hI1, hik, htt, hmk⟩
    · by_cases vb1 : b = 1
      · subst vb1
        refine ⟨cVO g5 tt fl (n : Int) 1, (GW ki ln bt rl cp cs ct cv (bif v then 14 else 5) (bif v then 5 else 14) ja ea ma a1 a2 a3 a4 a5 a6 a7 a8 jb eb mb b1 b2 b3 b4 b5 b6 b7 b8 re fl g1 g2 g3 g4 g5 rt la rs rg pd du ds me (upd tt (Int.toNat (n : Int)) (Int32.ofInt x)) gr su gp mk rf m1 m2 m3 m4 m5 mr mf n1 n2 n3 n4 n5 nr nf th tr db sn dm sm ty nx tk pl va fa lr ri s kp ik tn de sd dd sr tx pa), (GW ki ln bt rl cp cs ct cv (bif v then 14 else 5) (bif v then 5 else 14) ja ea ma a1 a2 a3 a4 a5 a6 a7 a8 jb eb mb b1 b2 b3 b4 b5 b6 b7 b8 re fl g1 g2 g3 g4 g5 rt la rs rg pd du ds me (upd tt (Int.toNat (n : Int)) (Int32.ofInt x)) gr su gp mk rf m1 m2 m3 m4 m5 mr mf n1 n2 n3 n4 n5 nr nf 0 tr db sn dm sm ty nx tk pl va fa lr ri s kp ik (upd tn (Int.toNat (n : Int)) (Int32.ofInt x)) de sd dd sr tx pa), ?_, ?_, ?_, mid_GW⟩
        · cases v with
          | false => exact c_personG0_1 ha hb hx h5 ht k1 rfl k3
          | true => exact c_personG1_1 ha hb hx h5 ht k1 rfl k3
        · rw [eV]
          exact c_personRG1 (C := (cW ki ln bt rl cp cs ct cv (bif v then 14 else 5) (bif v then 5 else 14) ja ea ma a1 a2 a3 a4 a5 a6 a7 a8 jb eb mb b1 b2 b3 b4 b5 b6 b7 b8 re fl g1 g2 g3 g4 g5 (dW rt la rs rg pd du ds me (upd tt (Int.toNat (n : Int)) (Int32.ofInt x)) gr su gp mk rf m1 m2 m3 m4 m5 mr mf n1 n2 n3 n4 n5 nr nf []))) (th := th) (tr := tr) (db := db) (sn := sn) (dm := dm) (sm := sm) (ty := ty) (nx := nx) (tk := tk) (pl := pl) (va := va) (fa := fa) (lr := lr) (ri := ri) (s := s) (kp := kp) (ik := ik) (tn := tn) (de := de) (sd := sd) (dd := dd) (sr := sr) (tx := tx) (pa := pa) rfl ha hb hx k1 rfl k3
        · refine LI_to ⟨⟨⟨hla, hrf⟩, ⟨rfl, rfl⟩, ⟨q1, q2, q3, q4, q5, q6, q7, q8, q9, q10⟩, r1, r2, r3, r4, r5, r6, r7, r8, r9, r10⟩, hX, hK, ⟨et, hl⟩, hRo, hRo2, hLG, hI0, hI1, hik, (fun p hp => ?_), hmk⟩
          by_cases e : p = n
          · rw [e, show Int.toNat (n : Int) = n from rfl, upd_same, upd_same]
            refine ⟨rfl, ?_⟩
            unfold i7
            rw [iv_to (by omega)]
            exact p3
          · rw [show Int.toNat (n : Int) = n from rfl, upd_ne e, upd_ne e]
            exact htt p hp
      · have vb2 : b = 2 := by omega
        subst vb2
        have hf8 := hLG.2.2.2.2.2.2.2.1
        have hf9 := hLG.2.2.2.2.2.2.2.2.1
        have e130 : Int32.ofInt (s (Int.toNat 130)).toInt = Int32.ofInt fl := by rw [Int32.ofInt_toInt]; exact hf8.symm
        have p3' : x = 0 ∨ x = 1 := by have : mo 2 = 1 := rfl; omega
        rcases p3' with rfl | rfl
        · refine ⟨cVO g5 tt fl (n : Int) 2, (GW ki ln bt rl cp cs ct cv (bif v then 14 else 5) (bif v then 5 else 14) ja ea ma a1 a2 a3 a4 a5 a6 a7 a8 jb eb mb b1 b2 b3 b4 b5 b6 b7 b8 re (oAnd fl (oXor (oShl 1 (n : Int)) (-1))) g1 g2 g3 g4 g5 rt la rs rg pd du ds me tt gr su gp mk rf m1 m2 m3 m4 m5 mr mf n1 n2 n3 n4 n5 nr nf th tr db sn dm sm ty nx tk pl va fa lr ri s kp ik tn de sd dd sr tx pa), (GW ki ln bt rl cp cs ct cv (bif v then 14 else 5) (bif v then 5 else 14) ja ea ma a1 a2 a3 a4 a5 a6 a7 a8 jb eb mb b1 b2 b3 b4 b5 b6 b7 b8 re (oAnd fl (oXor (oShl 1 (n : Int)) (-1))) g1 g2 g3 g4 g5 rt la rs rg pd du ds me tt gr su gp mk rf m1 m2 m3 m4 m5 mr mf n1 n2 n3 n4 n5 nr nf 0 tr db sn dm sm ty nx tk pl va fa lr ri (upd s (Int.toNat 130) (Int32.ofInt (oOr (oAnd (s (Int.toNat 130)).toInt (oXor (oShl 1 (n : Int)) (-1))) (oShl 0 (n : Int))))) kp ik tn de sd dd sr tx pa), ?_, ?_, ?_, mid_GW⟩
          · cases v with
            | false => exact c_personG0_2 ha hb hx h5 ht k1 rfl k3 rfl
            | true => exact c_personG1_2 ha hb hx h5 ht k1 rfl k3 rfl
          · rw [eV]
            exact c_personRG2 (C := (cW ki ln bt rl cp cs ct cv (bif v then 14 else 5) (bif v then 5 else 14) ja ea ma a1 a2 a3 a4 a5 a6 a7 a8 jb eb mb b1 b2 b3 b4 b5 b6 b7 b8 re (oAnd fl (oXor (oShl 1 (n : Int)) (-1))) g1 g2 g3 g4 g5 (dW rt la rs rg pd du ds me tt gr su gp mk rf m1 m2 m3 m4 m5 mr mf n1 n2 n3 n4 n5 nr nf []))) (th := th) (tr := tr) (db := db) (sn := sn) (dm := dm) (sm := sm) (ty := ty) (nx := nx) (tk := tk) (pl := pl) (va := va) (fa := fa) (lr := lr) (ri := ri) (s := s) (kp := kp) (ik := ik) (tn := tn) (de := de) (sd := sd) (dd := dd) (sr := sr) (tx := tx) (pa := pa) rfl ha hb hx k1 rfl k3
          · refine LI_to ⟨⟨⟨hla, hrf⟩, ⟨rfl, rfl⟩, ⟨q1, q2, q3, q4, q5, q6, q7, q8, q9, q10⟩, r1, r2, r3, r4, r5, ⟨fun j hj => by rw [upd_ne (by omega)]; exact r6.1 j hj, fun j j1 j2 => by rw [upd_ne (by omega)]; exact r6.2 j j1 j2⟩, r7, r8, r9, r10⟩, EX_b hX (by decide), hK, ⟨et, hl⟩, hRo, hRo2, LG_f r2.2 hLG ?_ ?_, hI0, hI1, hik, htt, hmk⟩
            · rw [fal_0 (by omega), oAnd_c e130]
            · intro j j1 j2
              rw [fal_0 (by omega), oAnd_c e130, zb_oAnd, hf8, hf9 j j1 j2]
              rfl
        · refine ⟨cVO g5 tt fl (n : Int) 2, (GW ki ln bt rl cp cs ct cv (bif v then 14 else 5) (bif v then 5 else 14) ja ea ma a1 a2 a3 a4 a5 a6 a7 a8 jb eb mb b1 b2 b3 b4 b5 b6 b7 b8 re (oOr fl (oShl 1 (n : Int))) g1 g2 g3 g4 g5 rt la rs rg pd du ds me tt gr su gp mk rf m1 m2 m3 m4 m5 mr mf n1 n2 n3 n4 n5 nr nf th tr db sn dm sm ty nx tk pl va fa lr ri s kp ik tn de sd dd sr tx pa), (GW ki ln bt rl cp cs ct cv (bif v then 14 else 5) (bif v then 5 else 14) ja ea ma a1 a2 a3 a4 a5 a6 a7 a8 jb eb mb b1 b2 b3 b4 b5 b6 b7 b8 re (oOr fl (oShl 1 (n : Int))) g1 g2 g3 g4 g5 rt la rs rg pd du ds me tt gr su gp mk rf m1 m2 m3 m4 m5 mr mf n1 n2 n3 n4 n5 nr nf 0 tr db sn dm sm ty nx tk pl va fa lr ri (upd s (Int.toNat 130) (Int32.ofInt (oOr (oAnd (s (Int.toNat 130)).toInt (oXor (oShl 1 (n : Int)) (-1))) (oShl 1 (n : Int))))) kp ik tn de sd dd sr tx pa), ?_, ?_, ?_, mid_GW⟩
          · cases v with
            | false => exact c_personG0_3 ha hb hx h5 ht k1 rfl k3 rfl
            | true => exact c_personG1_3 ha hb hx h5 ht k1 rfl k3 rfl
          · rw [eV]
            exact c_personRG2 (C := (cW ki ln bt rl cp cs ct cv (bif v then 14 else 5) (bif v then 5 else 14) ja ea ma a1 a2 a3 a4 a5 a6 a7 a8 jb eb mb b1 b2 b3 b4 b5 b6 b7 b8 re (oOr fl (oShl 1 (n : Int))) g1 g2 g3 g4 g5 (dW rt la rs rg pd du ds me tt gr su gp mk rf m1 m2 m3 m4 m5 mr mf n1 n2 n3 n4 n5 nr nf []))) (th := th) (tr := tr) (db := db) (sn := sn) (dm := dm) (sm := sm) (ty := ty) (nx := nx) (tk := tk) (pl := pl) (va := va) (fa := fa) (lr := lr) (ri := ri) (s := s) (kp := kp) (ik := ik) (tn := tn) (de := de) (sd := sd) (dd := dd) (sr := sr) (tx := tx) (pa := pa) rfl ha hb hx k1 rfl k3
          · refine LI_to ⟨⟨⟨hla, hrf⟩, ⟨rfl, rfl⟩, ⟨q1, q2, q3, q4, q5, q6, q7, q8, q9, q10⟩, r1, r2, r3, r4, r5, ⟨fun j hj => by rw [upd_ne (by omega)]; exact r6.1 j hj, fun j j1 j2 => by rw [upd_ne (by omega)]; exact r6.2 j j1 j2⟩, r7, r8, r9, r10⟩, EX_b hX (by decide), hK, ⟨et, hl⟩, hRo, hRo2, LG_f r2.2 hLG ?_ ?_, hI0, hI1, hik, htt, hmk⟩
            · rw [fal_1, oOr_c e130]
            · intro j j1 j2
              rw [fal_1, oOr_c e130, zb_oOr, hf8, hf9 j j1 j2]
              rw [zb_oShl1 (by omega) j2, decide_eq_false (show ¬ j = n by omega)]; rfl
