/-! ===== release keeps the relation ===== -/
theorem rOt_zb {sd s : Nat → Int32} {d : Int} : ∀ (n : Nat), n ≤ 16 → ∀ k : Nat, k < 32 → zb (Int32.ofInt (rOt sd s d n)) k = (decide (k < n) && isW sd s d k)
  | 0, _, k, _ => by
    show zb (Int32.ofInt 0) k = _
    rw [zb_z, decide_eq_false (by omega)]
    rfl
  | n + 1, hn, k, hk => by
    show zb (Int32.ofInt (oOr (rOt sd s d n) (bif isW sd s d n then oShl 1 (n : Int) else 0))) k = _
    rw [zb_oOr, rOt_zb n (by omega) k hk]
    cases hw : isW sd s d n with
    | false =>
      rw [cond_false, zb_z, Bool.or_false]
      by_cases e : k = n
      · subst e
        rw [hw, Bool.and_false, Bool.and_false]
      · rw [show decide (k < n) = decide (k < n + 1) from decide_eq_decide.mpr (by omega)]
    | true =>
      rw [cond_true, zb_oShl1 (by omega) hk]
      by_cases e : k = n
      · subst e
        rw [hw, decide_eq_true rfl, decide_eq_true (show k < k + 1 by omega), Bool.or_true]
        rfl
      · rw [decide_eq_false e, Bool.or_false, show decide (k < n) = decide (k < n + 1) from decide_eq_decide.mpr (by omega)]
theorem cOt_zb {c5 c6 : Nat → Int32} {re d : Int} : ∀ (n : Nat), n ≤ 16 → ∀ k : Nat, k < 32 → zb (Int32.ofInt (cOt c5 c6 re d n)) k = (decide (k < n) && cW0 c5 c6 re d k)
  | 0, _, k, _ => by
    show zb (Int32.ofInt 0) k = _
    rw [zb_z, decide_eq_false (by omega)]
    rfl
  | n + 1, hn, k, hk => by
    show zb (Int32.ofInt (bif cW0 c5 c6 re d n then oOr (cOt c5 c6 re d n) (oShl 1 (n : Int)) else cOt c5 c6 re d n)) k = _
    cases hw : cW0 c5 c6 re d n with
    | false =>
      rw [cond_false, cOt_zb n (by omega) k hk]
      by_cases e : k = n
      · subst e
        rw [hw, Bool.and_false, Bool.and_false]
      · rw [show decide (k < n) = decide (k < n + 1) from decide_eq_decide.mpr (by omega)]
    | true =>
      rw [cond_true, zb_oOr, cOt_zb n (by omega) k hk, zb_oShl1 (by omega) hk]
      by_cases e : k = n
      · subst e
        rw [hw, decide_eq_true rfl, decide_eq_true (show k < k + 1 by omega), Bool.or_true]
        rfl
      · rw [decide_eq_false e, Bool.or_false, show decide (k < n) = decide (k < n + 1) from decide_eq_decide.mpr (by omega)]
theorem fO_m {sd s : Nat → Int32} {d a : Int} {n : Nat} (hz : ∀ k : Nat, k < 32 → zb (Int32.ofInt a) k = (decide (k < n) && isW sd s d k)) (hn : n ≤ 16) : ∀ j : Nat, j ≤ 16 → fO a j = rMn sd s d (min j n)
  | 0, _ => by rw [Nat.zero_min]; rfl
  | j + 1, hj => by
    show fO a j + bi (zb (Int32.ofInt a) j) = _
    rw [fO_m hz hn j (by omega), hz j (by omega)]
    by_cases q : j < n
    · rw [decide_eq_true q, show min (j + 1) n = j + 1 by omega, show min j n = j by omega]
      show _ = rMn sd s d j + (bif isW sd s d j then 1 else 0)
      cases isW sd s d j <;> rfl
    · rw [decide_eq_false q, show min (j + 1) n = min j n by omega]
      show rMn sd s d (min j n) + 0 = _
      rw [Int.add_zero]
theorem W_eq {sn re fl d : Int} {g1 g2 g3 g4 g5 s sd c4 c5 c6 c7 c8 : Nat → Int32} (hs : sn ≤ 16) (h : LG sn g1 g2 g3 g4 g5 re fl s) (hR : RRs sn c4 c5 c6 c7 c8 sd) {j : Nat} (hj : (j : Int) < sn) : cW0 c5 c6 re d j = isW sd s d j := by
  obtain ⟨-, r5, r6, -⟩ := hR j hj
  have hf := h.2.2.2.2.2.1 j (by omega)
  unfold cW0 isW
  rw [show Int.toNat (j : Int) = j from rfl, show Int.toNat (5 * (j : Int) + 1) = 5 * j + 1 by omega, show Int.toNat (5 * (j : Int) + 2) = 5 * j + 2 by omega, show Int.toNat (42 + (j : Int)) = 42 + j by omega, r5, r6, hf]
  have e : decide ((Int32.ofInt (bi (zb (Int32.ofInt re) j))).toInt = 0) = !zb (Int32.ofInt re) j := by cases zb (Int32.ofInt re) j <;> rfl
  rw [e]
  cases decide ((sd (5 * j + 2)).toInt = 0) <;> cases decide ((sd (5 * j + 1)).toInt = d) <;> rfl
/-- one is released -/
theorem LG_r {sn re fl i : Int} {g1 g2 g3 g4 g5 s : Nat → Int32} (hs : sn ≤ 16) (hi : 0 ≤ i ∧ i < sn) (h : LG sn g1 g2 g3 g4 g5 re fl s) : LG sn g1 g2 g3 g4 g5 (oOr re (oShl 1 i)) fl (upd s (Int.toNat (42 + i)) (Int32.ofInt 1)) := by
  obtain ⟨n, rfl⟩ := Int.eq_ofNat_of_zero_le hi.1
  rw [show Int.toNat (42 + (n : Int)) = 42 + n by omega]
  obtain ⟨h1, h2, h3, h4, h5, h6, h7, h8, h9, h10⟩ := h
  refine ⟨fun j hj => ?_, fun j hj => ?_, fun j hj => ?_, fun j hj => ?_, fun j hj => ?_, fun j hj => ?_, fun j j1 j2 => ?_, ?_, fun j j1 j2 => ?_, fun j hj => ?_⟩
  · rw [upd_ne (by omega)]; exact h1 j hj
  · rw [upd_ne (by omega)]; exact h2 j hj
  · rw [upd_ne (by omega)]; exact h3 j hj
  · rw [upd_ne (by omega)]; exact h4 j hj
  · rw [upd_ne (by omega)]; exact h5 j hj
  · rw [zb_oOr, zb_oShl1 (by omega) (by omega)]
    by_cases e : j = n
    · rw [e, upd_same, decide_eq_true rfl, Bool.or_true]; rfl
    · rw [upd_ne (by omega), decide_eq_false e, Bool.or_false]; exact h6 j hj
  · rw [zb_oOr, zb_oShl1 (by omega) j2, h7 j j1 j2, decide_eq_false (by omega)]; rfl
  · rw [upd_ne (by omega)]; exact h8
  · rw [upd_ne (by omega)]; exact h9 j j1 j2
  · rw [upd_ne (by omega)]; exact h10 j hj
theorem rLO_1 {ot less : Int} {s : Nat → Int32} : ∀ (j k : Nat), rLO ot less 1 s j k = if 26 ≤ k ∧ k < 26 + j ∧ zb (Int32.ofInt ot) (k - 26) = true then Int32.ofInt ((s k).toInt - lsr less (s k).toInt) else s k
  | 0, k => by rw [if_neg (by omega)]; rfl
  | j + 1, k => by
    show (bif zb (Int32.ofInt ot) j then (bif decide ((1 : Int) = 1) then upd (rLO ot less 1 s j) (Int.toNat (26 + (j : Int))) (Int32.ofInt ((rLO ot less 1 s j (Int.toNat (26 + (j : Int)))).toInt - lsr less (rLO ot less 1 s j (Int.toNat (26 + (j : Int)))).toInt)) else _) else rLO ot less 1 s j) k = _
    rw [show Int.toNat (26 + (j : Int)) = 26 + j by omega]
    cases hz : zb (Int32.ofInt ot) j with
    | false =>
      rw [cond_false, rLO_1 j k]
      by_cases e : k = 26 + j
      · subst e
        rw [if_neg (by omega), if_neg (fun q => by rw [Nat.add_sub_cancel_left, hz] at q; exact absurd q.2.2 (by decide))]
      · by_cases q : 26 ≤ k ∧ k < 26 + j ∧ zb (Int32.ofInt ot) (k - 26) = true
        · rw [if_pos q, if_pos ⟨q.1, by omega, q.2.2⟩]
        · rw [if_neg q, if_neg (fun z => q ⟨z.1, by omega, z.2.2⟩)]
    | true =>
      rw [cond_true, decide_eq_true rfl, cond_true]
      have e0 : rLO ot less 1 s j (26 + j) = s (26 + j) := by rw [rLO_1 j, if_neg (by omega)]
      rw [e0]
      by_cases e : k = 26 + j
      · subst e
        rw [upd_same, if_pos ⟨by omega, by omega, by rw [Nat.add_sub_cancel_left]; exact hz⟩]
      · rw [upd_ne e, rLO_1 j k]
        by_cases q : 26 ≤ k ∧ k < 26 + j ∧ zb (Int32.ofInt ot) (k - 26) = true
        · rw [if_pos q, if_pos ⟨q.1, by omega, q.2.2⟩]
        · rw [if_neg q, if_neg (fun z => q ⟨z.1, by omega, z.2.2⟩)]
theorem rLO_2 {ot less : Int} {s : Nat → Int32} : ∀ (j k : Nat), rLO ot less 2 s j k = if 42 ≤ k ∧ k < 42 + j ∧ zb (Int32.ofInt ot) (k - 42) = true then Int32.ofInt 1 else s k
  | 0, k => by rw [if_neg (by omega)]; rfl
  | j + 1, k => by
    show (bif zb (Int32.ofInt ot) j then (bif decide ((2 : Int) = 1) then _ else upd (rLO ot less 2 s j) (Int.toNat (42 + (j : Int))) (Int32.ofInt 1)) else rLO ot less 2 s j) k = _
    rw [show Int.toNat (42 + (j : Int)) = 42 + j by omega]
    cases hz : zb (Int32.ofInt ot) j with
    | false =>
      rw [cond_false, rLO_2 j k]
      by_cases e : k = 42 + j
      · subst e
        rw [if_neg (by omega), if_neg (fun q => by rw [Nat.add_sub_cancel_left, hz] at q; exact absurd q.2.2 (by decide))]
      · by_cases q : 42 ≤ k ∧ k < 42 + j ∧ zb (Int32.ofInt ot) (k - 42) = true
        · rw [if_pos q, if_pos ⟨q.1, by omega, q.2.2⟩]
        · rw [if_neg q, if_neg (fun z => q ⟨z.1, by omega, z.2.2⟩)]
    | true =>
      rw [cond_true, decide_eq_false (by decide), cond_false]
      by_cases e : k = 42 + j
      · subst e
        rw [upd_same, if_pos ⟨by omega, by omega, by rw [Nat.add_sub_cancel_left]; exact hz⟩]
      · rw [upd_ne e, rLO_2 j k]
        by_cases q : 42 ≤ k ∧ k < 42 + j ∧ zb (Int32.ofInt ot) (k - 42) = true
        · rw [if_pos q, if_pos ⟨q.1, by omega, q.2.2⟩]
        · rw [if_neg q, if_neg (fun z => q ⟨z.1, by omega, z.2.2⟩)]
theorem rLO_0 {less law : Int} {s : Nat → Int32} : ∀ (j : Nat), rLO 0 less law s j = s
  | 0 => rfl
  | j + 1 => by
    show (bif zb (Int32.ofInt 0) j then _ else rLO 0 less law s j) = s
    rw [zb_z]
    exact rLO_0 j
theorem cLO_at {ot less : Int} {g : Nat → Int32} : ∀ (j k : Nat), cLO ot less g j k = if k < j ∧ zb (Int32.ofInt ot) k = true then Int32.ofInt (mxI 0 (nrm ((g k).toInt - less))) else g k
  | 0, k => by rw [if_neg (by omega)]; rfl
  | j + 1, k => by
    show (bif zb (Int32.ofInt ot) j then upd (cLO ot less g j) (Int.toNat (j : Int)) (Int32.ofInt (mxI 0 (nrm ((cLO ot less g j (Int.toNat (j : Int))).toInt - less)))) else cLO ot less g j) k = _
    rw [show Int.toNat (j : Int) = j from rfl]
    cases hz : zb (Int32.ofInt ot) j with
    | false =>
      rw [cond_false, cLO_at j k]
      by_cases e : k = j
      · subst e
        rw [if_neg (by omega), if_neg (fun q => by rw [hz] at q; exact absurd q.2 (by decide))]
      · by_cases q : k < j ∧ zb (Int32.ofInt ot) k = true
        · rw [if_pos q, if_pos ⟨by omega, q.2⟩]
        · rw [if_neg q, if_neg (fun z => q ⟨by omega, z.2⟩)]
    | true =>
      have e0 : cLO ot less g j j = g j := by rw [cLO_at j, if_neg (by omega)]
      rw [cond_true, e0]
      by_cases e : k = j
      · subst e
        rw [upd_same, if_pos ⟨by omega, hz⟩]
      · rw [upd_ne e, cLO_at j k]
        by_cases q : k < j ∧ zb (Int32.ofInt ot) k = true
        · rw [if_pos q, if_pos ⟨by omega, q.2⟩]
        · rw [if_neg q, if_neg (fun z => q ⟨by omega, z.2⟩)]
theorem mx_eq {v less : Int} (hv : 0 ≤ v ∧ v ≤ 999) (hl : 0 ≤ less ∧ less ≤ 999) : mxI 0 (nrm (v - less)) = v - lsr less v ∧ (0 ≤ v - lsr less v ∧ v - lsr less v ≤ 999) := by
  rw [nrm_s (by omega)]
  unfold mxI lsr
  by_cases e : less < v
  · rw [decide_eq_true (show (0 : Int) < v - less by omega), decide_eq_true e]
    show v - less = v - less ∧ (0 ≤ v - less ∧ v - less ≤ 999)
    omega
  · rw [decide_eq_false (show ¬ (0 : Int) < v - less by omega), decide_eq_false e]
    show 0 = v - v ∧ (0 ≤ v - v ∧ v - v ≤ 999)
    omega
/-- by law 1 -/
theorem LG_l1 {sn re fl ot ot' less : Int} {g1 g2 g3 g4 g5 s : Nat → Int32} (hs : 0 ≤ sn ∧ sn ≤ 16) (h : LG sn g1 g2 g3 g4 g5 re fl s) (ho : Int32.ofInt ot = Int32.ofInt ot') (hl : 0 ≤ less ∧ less ≤ 999) : LG sn g1 g2 (cLO ot less g3 16) g4 g5 re fl (rLO ot' less 1 s sn.toNat) := by
  obtain ⟨h1, h2, h3, h4, h5, h6, h7, h8, h9, h10⟩ := h
  refine ⟨fun j hj => ?_, fun j hj => ?_, fun j hj => ?_, fun j hj => ?_, fun j hj => ?_, fun j hj => ?_, h7, ?_, fun j j1 j2 => ?_, fun j hj => ?_⟩
  · rw [rLO_1, if_neg (by omega)]; exact h1 j hj
  · rw [rLO_1, if_neg (by omega)]; exact h2 j hj
  · rw [cLO_at, rLO_1, Nat.add_sub_cancel_left, ← ho, h3 j hj]
    cases hz : zb (Int32.ofInt ot) j with
    | false => rw [if_neg (fun q => absurd q.2 (by decide)), if_neg (fun q => absurd q.2.2 (by decide))]
    | true =>
      rw [if_pos ⟨by omega, rfl⟩, if_pos ⟨by omega, by omega, rfl⟩, (mx_eq (h10 j hj) hl).1]
  · rw [rLO_1, if_neg (by omega)]; exact h4 j hj
  · rw [rLO_1, if_neg (by omega)]; exact h5 j hj
  · rw [rLO_1, if_neg (by omega)]; exact h6 j hj
  · rw [rLO_1, if_neg (by omega)]; exact h8
  · rw [rLO_1, if_neg (by omega)]; exact h9 j j1 j2
  · rw [rLO_1, Nat.add_sub_cancel_left]
    cases hz : zb (Int32.ofInt ot') j with
    | false => rw [if_neg (fun q => absurd q.2.2 (by decide))]; exact h10 j hj
    | true =>
      rw [if_pos ⟨by omega, by omega, rfl⟩]
      have := (mx_eq (h10 j hj) hl).2
      unfold i7
      rw [iv_to (by omega)]
      exact this
/-- by law 2 -/
theorem LG_l2 {sn re fl ot ot' less : Int} {g1 g2 g3 g4 g5 s : Nat → Int32} (hs : 0 ≤ sn ∧ sn ≤ 16) (h : LG sn g1 g2 g3 g4 g5 re fl s) (ho : Int32.ofInt ot = Int32.ofInt ot') (hb : ∀ j : Nat, sn ≤ (j : Int) → j < 32 → zb (Int32.ofInt ot) j = false) : LG sn g1 g2 g3 g4 g5 (oOr re ot) fl (rLO ot' less 2 s sn.toNat) := by
  obtain ⟨h1, h2, h3, h4, h5, h6, h7, h8, h9, h10⟩ := h
  refine ⟨fun j hj => ?_, fun j hj => ?_, fun j hj => ?_, fun j hj => ?_, fun j hj => ?_, fun j hj => ?_, fun j j1 j2 => ?_, ?_, fun j j1 j2 => ?_, fun j hj => ?_⟩
  · rw [rLO_2, if_neg (by omega)]; exact h1 j hj
  · rw [rLO_2, if_neg (by omega)]; exact h2 j hj
  · rw [rLO_2, if_neg (by omega)]; exact h3 j hj
  · rw [rLO_2, if_neg (by omega)]; exact h4 j hj
  · rw [rLO_2, if_neg (by omega)]; exact h5 j hj
  · rw [rLO_2, Nat.add_sub_cancel_left, ← ho, zb_oOr]
    cases hz : zb (Int32.ofInt ot) j with
    | false => rw [if_neg (fun q => absurd q.2.2 (by decide)), Bool.or_false]; exact h6 j hj
    | true =>
      by_cases q : (j : Int) < sn
      · rw [if_pos ⟨by omega, by omega, rfl⟩, Bool.or_true]; rfl
      · rw [hb j (by omega) (by omega)] at hz; cases hz
  · rw [zb_oOr, h7 j j1 j2, hb j j1 j2]; rfl
  · rw [rLO_2, if_neg (by omega)]; exact h8
  · rw [rLO_2, if_neg (by omega)]; exact h9 j j1 j2
  · rw [rLO_2, if_neg (by omega)]; exact h10 j hj
theorem RS_out {s s' : Nat → Int32} (h : RS s) (e : ∀ k : Nat, (k < 26 ∨ 58 ≤ k) → s' k = s k) : RS s' := ⟨fun j hj => by rw [e j (by omega)]; exact h.1 j hj, fun j j1 j2 => by rw [e j (by omega)]; exact h.2 j j1 j2⟩
theorem EX_out {s s' de sd : Nat → Int32} (h : EXx s de sd) (e : ∀ k : Nat, (k < 26 ∨ 58 ≤ k) → s' k = s k) : EXx s' de sd := ⟨h.1, fun d hd => by rw [e d (by omega)]; exact h.2 d hd⟩
theorem LI_release0 {mw : List va_E} {i law : Int} (hi : -2147483648 ≤ i ∧ i ≤ 2147483647) (hl2 : -2147483648 ≤ law ∧ law ≤ 2147483647) (h : LI false mw) : ∃ (c : Int) (mw1 mw2 : List va_E), sX11_release [.ref 0, iv i, iv law] mw = some (some (iv c), mw1) ∧ sX12_release [.ref 56, iv i, iv law] mw1 = some (some (iv c), mw2) ∧ LI false mw2 ∧ mid mw1 := by
  refine LI_elim h (fun ki ln bt rl cp cs ct cv rr dr ja ea ma a1 a2 a3 a4 a5 a6 a7 a8 jb eb mb b1 b2 b3 b4 b5 b6 b7 b8 re fl g1 g2 g3 g4 g5 rt la rs rg pd du ds me tt gr su gp mk rf m1 m2 m3 m4 m5 mr mf n1 n2 n3 n4 n5 nr nf th tr db sn dm sm ty nx tk pl va fa lr ri s kp ik tn de sd dd sr tx pa e hh => ?_)
  obtain ⟨⟨⟨hla, hrf⟩, ⟨e1, e2⟩, ⟨q1, q2, q3, q4, q5, q6, q7, q8, q9, q10⟩, r1, r2, r3, r4, r5, r6, r7, r8, r9, r10⟩, hX, hK, ⟨et, hl⟩, hRo, hRo2, hLG, hI0, hI1, hik, htt, hmk⟩ := hh
  subst e
  clear h
  obtain rfl : rr = 5 := e1
  obtain rfl : dr = 14 := e2
  obtain ⟨k1, k2, k3, k4, k5⟩ := hRo rfl
  subst k2
  cases hok : (i3 i 0 (ma - 1) && i3 law 0 2) with
  | false =>
    refine ⟨-1, (GW ki ln bt rl cp cs ct cv 5 14 ja ea ma a1 a2 a3 a4 a5 a6 a7 a8 jb eb mb b1 b2 b3 b4 b5 b6 b7 b8 re fl g1 g2 g3 g4 g5 rt la rs rg pd du ds me tt gr su gp mk rf m1 m2 m3 m4 m5 mr mf n1 n2 n3 n4 n5 nr nf th tr db ma dm sm ty nx tk pl va fa lr ri s kp ik tn de sd dd sr tx pa), (GW ki ln bt rl cp cs ct cv 5 14 ja ea ma a1 a2 a3 a4 a5 a6 a7 a8 jb eb mb b1 b2 b3 b4 b5 b6 b7 b8 re fl g1 g2 g3 g4 g5 rt la rs rg pd du ds me tt gr su gp mk rf m1 m2 m3 m4 m5 mr mf n1 n2 n3 n4 n5 nr nf 0 tr db ma dm sm ty nx tk pl va fa lr ri s kp ik tn de sd dd sr tx pa), c_relCB0 hi hl2 r2 hok, c_relRB (C := (cW ki ln bt rl cp cs ct cv 5 14 ja ea ma a1 a2 a3 a4 a5 a6 a7 a8 jb eb mb b1 b2 b3 b4 b5 b6 b7 b8 re fl g1 g2 g3 g4 g5 (dW rt la rs rg pd du ds me tt gr su gp mk rf m1 m2 m3 m4 m5 mr mf n1 n2 n3 n4 n5 nr nf []))) (th := th) (tr := tr) (db := db) (sn := ma) (dm := dm) (sm := sm) (ty := ty) (nx := nx) (tk := tk) (pl := pl) (va := va) (fa := fa) (lr := lr) (ri := ri) (s := s) (kp := kp) (ik := ik) (tn := tn) (de := de) (sd := sd) (dd := dd) (sr := sr) (tx := tx) (pa := pa) rfl hi hl2 r2 hok, ?_, mid_GW⟩
    exact LI_to ⟨⟨⟨hla, hrf⟩, ⟨rfl, rfl⟩, ⟨q1, q2, q3, q4, q5, q6, q7, q8, q9, q10⟩, r1, r2, r3, r4, r5, r6, r7, r8, r9, r10⟩, hX, hK, ⟨et, hl⟩, hRo, hRo2, hLG, hI0, hI1, hik, htt, hmk⟩
  | true =>
    rw [Bool.and_eq_true] at hok
    obtain ⟨w1, w2⟩ := hok
    have vri := i3_t w1
    have rl' := i3_t w2
    obtain ⟨x, hx⟩ := Int.eq_ofNat_of_zero_le vri.1
    have hx16 : x < 16 := by omega
    have e42 : Int.toNat (42 + i) = 42 + x := by omega
    have e26 : Int.toNat (26 + i) = 26 + x := by omega
    have ei : Int.toNat i = x := by omega
    have hf := hLG.2.2.2.2.2.1 x hx16
    cases hr : zb (Int32.ofInt re) i.toNat with
    | true =>
      refine ⟨-2, (GW ki ln bt rl cp cs ct cv 5 14 ja ea ma a1 a2 a3 a4 a5 a6 a7 a8 jb eb mb b1 b2 b3 b4 b5 b6 b7 b8 re fl g1 g2 g3 g4 g5 rt la rs rg pd du ds me tt gr su gp mk rf m1 m2 m3 m4 m5 mr mf n1 n2 n3 n4 n5 nr nf th tr db ma dm sm ty nx tk pl va fa lr ri s kp ik tn de sd dd sr tx pa), (GW ki ln bt rl cp cs ct cv 5 14 ja ea ma a1 a2 a3 a4 a5 a6 a7 a8 jb eb mb b1 b2 b3 b4 b5 b6 b7 b8 re fl g1 g2 g3 g4 g5 rt la rs rg pd du ds me tt gr su gp mk rf m1 m2 m3 m4 m5 mr mf n1 n2 n3 n4 n5 nr nf 0 tr db ma dm sm ty nx tk pl va fa lr ri s kp ik tn de sd dd sr tx pa), c_relCS0 hi r2 w1 hr rl', c_relRS (C := (cW ki ln bt rl cp cs ct cv 5 14 ja ea ma a1 a2 a3 a4 a5 a6 a7 a8 jb eb mb b1 b2 b3 b4 b5 b6 b7 b8 re fl g1 g2 g3 g4 g5 (dW rt la rs rg pd du ds me tt gr su gp mk rf m1 m2 m3 m4 m5 mr mf n1 n2 n3 n4 n5 nr nf []))) (th := th) (tr := tr) (db := db) (sn := ma) (dm := dm) (sm := sm) (ty := ty) (nx := nx) (tk := tk) (pl := pl) (va := va) (fa := fa) (lr := lr) (ri := ri) (s := s) (kp := kp) (ik := ik) (tn := tn) (de := de) (sd := sd) (dd := dd) (sr := sr) (tx := tx) (pa := pa) rfl hi hl2 r2 w1 w2 ?_, ?_, mid_GW⟩
      · rw [e42, hf, ← ei, hr]; rfl
      · exact LI_to ⟨⟨⟨hla, hrf⟩, ⟨rfl, rfl⟩, ⟨q1, q2, q3, q4, q5, q6, q7, q8, q9, q10⟩, r1, r2, r3, r4, r5, r6, r7, r8, r9, r10⟩, hX, hK, ⟨et, hl⟩, hRo, hRo2, hLG, hI0, hI1, hik, htt, hmk⟩
    | false =>
      have hns : ¬ (s (Int.toNat (42 + i))).toInt = 1 := by rw [e42, hf, ← ei, hr]; decide
      have hl10 := hLG.2.2.2.2.2.2.2.2.2 x (by omega)
      have hL26 : 0 ≤ (s (Int.toNat (26 + i))).toInt ∧ (s (Int.toNat (26 + i))).toInt ≤ 999 := by rw [e26]; exact hl10
      have eg3 : g3 (Int.toNat i) = s (Int.toNat (26 + i)) := by rw [ei, e26]; exact hLG.2.2.1 x (by omega)
      have hLG1 := LG_r (i := i) r2.2 (by omega) hLG
      have ed : (a5 (Int.toNat i)).toInt = (sd (Int.toNat (5 * i + 1))).toInt := by rw [ei, show Int.toNat (5 * i + 1) = 5 * x + 1 by omega, (k4 x (by omega)).2.1]
      have e1' : ∀ k : Nat, (k < 26 ∨ 58 ≤ k) → (upd s (Int.toNat (42 + i)) (Int32.ofInt 1)) k = s k := fun k hk => upd_ne (by omega)
      have hl3 : law = 0 ∨ law = 1 ∨ law = 2 := by omega
      have hoc := cOt_zb (c5 := a5) (c6 := a6) (re := (oOr re (oShl 1 i))) (d := (a5 (Int.toNat i)).toInt) ma.toNat (by omega)
      have hor := rOt_zb (sd := sd) (s := (upd s (Int.toNat (42 + i)) (Int32.ofInt 1))) (d := (sd (Int.toNat (5 * i + 1))).toInt) ma.toNat (by omega)
      have hoE : Int32.ofInt (cOt a5 a6 (oOr re (oShl 1 i)) (a5 (Int.toNat i)).toInt ma.toNat) = Int32.ofInt (rOt sd (upd s (Int.toNat (42 + i)) (Int32.ofInt 1)) (sd (Int.toNat (5 * i + 1))).toInt ma.toNat) := by
        refine ofI_inj (fun k hk => ?_)
        rw [hoc k hk, hor k hk, ed]
        by_cases q : k < ma.toNat
        · rw [W_eq r2.2 hLG1 k4 (show (k : Int) < ma by omega)]
        · rw [decide_eq_false q]; rfl
      have hbz : ∀ k : Nat, ma ≤ (k : Int) → k < 32 → zb (Int32.ofInt (cOt a5 a6 (oOr re (oShl 1 i)) (a5 (Int.toNat i)).toInt ma.toNat)) k = false := fun k hk hk2 => by rw [hoc k hk2, decide_eq_false (by omega)]; rfl
      have hmn : bcF (cOt a5 a6 (oOr re (oShl 1 i)) (a5 (Int.toNat i)).toInt ma.toNat) = rMn sd (upd s (Int.toNat (42 + i)) (Int32.ofInt 1)) (sd (Int.toNat (5 * i + 1))).toInt ma.toNat := by
        rw [bcF_z (fun k hk hk2 => hbz k (by omega) hk2), fO_c hoE, fO_m hor (by omega) 16 (by decide), show min 16 ma.toNat = ma.toNat by omega]
      have hmr := rMn_r (sd := sd) (s := (upd s (Int.toNat (42 + i)) (Int32.ofInt 1))) (d := (sd (Int.toNat (5 * i + 1))).toInt) ma.toNat
      rcases hl3 with rfl | rfl | rfl
      · have o0 : rOT sd s ma i 0 = 0 := rfl
        have m0 : rMN sd s ma i 0 = 0 := rfl
        have s0 : rS2 sd s ma i 0 = (upd s (Int.toNat (42 + i)) (Int32.ofInt 1)) := by unfold rS2; rw [o0, rLO_0]
        have hRR := c_relRG (C := (cW ki ln bt rl cp cs ct cv 5 14 ja ea ma a1 a2 a3 a4 a5 a6 a7 a8 jb eb mb b1 b2 b3 b4 b5 b6 b7 b8 (oOr re (oShl 1 i)) fl g1 g2 g3 g4 g5 (dW rt la rs rg pd du ds me tt gr su gp mk rf m1 m2 m3 m4 m5 mr mf n1 n2 n3 n4 n5 nr nf []))) (th := th) (tr := tr) (db := db) (sn := ma) (dm := dm) (sm := sm) (ty := ty) (nx := nx) (tk := tk) (pl := pl) (va := va) (fa := fa) (lr := lr) (ri := ri) (s := s) (kp := kp) (ik := ik) (tn := tn) (de := de) (sd := sd) (dd := dd) (sr := sr) (tx := tx) (pa := pa) rfl hi hl2 r2 w1 w2 hns hL26
        rw [m0, s0] at hRR
        refine ⟨0, (GW ki ln bt rl cp cs ct cv 5 14 ja ea ma a1 a2 a3 a4 a5 a6 a7 a8 jb eb mb b1 b2 b3 b4 b5 b6 b7 b8 (oOr re (oShl 1 i)) fl g1 g2 g3 g4 g5 rt la rs rg pd du ds me tt gr su gp mk rf m1 m2 m3 m4 m5 mr mf n1 n2 n3 n4 n5 nr nf th tr db ma dm sm ty nx tk pl va fa lr ri s kp ik tn de sd dd sr tx pa), (GW ki ln bt rl cp cs ct cv 5 14 ja ea ma a1 a2 a3 a4 a5 a6 a7 a8 jb eb mb b1 b2 b3 b4 b5 b6 b7 b8 (oOr re (oShl 1 i)) fl g1 g2 g3 g4 g5 rt la rs rg pd du ds me tt gr su gp mk rf m1 m2 m3 m4 m5 mr mf n1 n2 n3 n4 n5 nr nf 0 tr db ma dm sm ty nx tk pl va fa lr ri (upd s (Int.toNat (42 + i)) (Int32.ofInt 1)) kp ik tn de sd dd sr tx pa), c_relCG0_0 hi r2 w1 hr, hRR, ?_, mid_GW⟩
        exact LI_to ⟨⟨⟨hla, hrf⟩, ⟨rfl, rfl⟩, ⟨q1, q2, q3, q4, q5, q6, q7, q8, q9, q10⟩, r1, r2, r3, r4, r5, RS_out r6 e1', r7, r8, r9, r10⟩, EX_out hX e1', hK, ⟨et, hl⟩, hRo, hRo2, hLG1, hI0, hI1, hik, htt, hmk⟩
      · have o1 : rOT sd s ma i 1 = rOt sd (upd s (Int.toNat (42 + i)) (Int32.ofInt 1)) (sd (Int.toNat (5 * i + 1))).toInt ma.toNat := rfl
        have vm1 : rMN sd s ma i 1 = rMn sd (upd s (Int.toNat (42 + i)) (Int32.ofInt 1)) (sd (Int.toNat (5 * i + 1))).toInt ma.toNat := rfl
        have l1 : rLS sd s ma i 1 = ((g3 (Int.toNat i)).toInt / (bcF (cOt a5 a6 (oOr re (oShl 1 i)) (a5 (Int.toNat i)).toInt ma.toNat) + 1)) := by unfold rLS; rw [vm1, ← hmn, eg3]
        have lr1 : 0 ≤ ((g3 (Int.toNat i)).toInt / (bcF (cOt a5 a6 (oOr re (oShl 1 i)) (a5 (Int.toNat i)).toInt ma.toNat) + 1)) ∧ ((g3 (Int.toNat i)).toInt / (bcF (cOt a5 a6 (oOr re (oShl 1 i)) (a5 (Int.toNat i)).toInt ma.toNat) + 1)) ≤ 999 := by rw [eg3]; exact ⟨Int.ediv_nonneg hL26.1 (by omega), Int.le_trans (Int.ediv_le_self _ hL26.1) hL26.2⟩
        have s2 : rS2 sd s ma i 1 = rLO (rOt sd (upd s (Int.toNat (42 + i)) (Int32.ofInt 1)) (sd (Int.toNat (5 * i + 1))).toInt ma.toNat) ((g3 (Int.toNat i)).toInt / (bcF (cOt a5 a6 (oOr re (oShl 1 i)) (a5 (Int.toNat i)).toInt ma.toNat) + 1)) 1 (upd s (Int.toNat (42 + i)) (Int32.ofInt 1)) ma.toNat := by unfold rS2; rw [o1, l1]
        have hRR := c_relRG (C := (cW ki ln bt rl cp cs ct cv 5 14 ja ea ma a1 a2 a3 a4 a5 a6 a7 a8 jb eb mb b1 b2 b3 b4 b5 b6 b7 b8 (oOr re (oShl 1 i)) fl g1 g2 (cLO (cOt a5 a6 (oOr re (oShl 1 i)) (a5 (Int.toNat i)).toInt ma.toNat) ((g3 (Int.toNat i)).toInt / (bcF (cOt a5 a6 (oOr re (oShl 1 i)) (a5 (Int.toNat i)).toInt ma.toNat) + 1)) g3 16) g4 g5 (dW rt la rs rg pd du ds me tt gr su gp mk rf m1 m2 m3 m4 m5 mr mf n1 n2 n3 n4 n5 nr nf []))) (th := th) (tr := tr) (db := db) (sn := ma) (dm := dm) (sm := sm) (ty := ty) (nx := nx) (tk := tk) (pl := pl) (va := va) (fa := fa) (lr := lr) (ri := ri) (s := s) (kp := kp) (ik := ik) (tn := tn) (de := de) (sd := sd) (dd := dd) (sr := sr) (tx := tx) (pa := pa) rfl hi hl2 r2 w1 w2 hns hL26
        rw [vm1, ← hmn, s2] at hRR
        have e2' : ∀ k : Nat, (k < 26 ∨ 58 ≤ k) → rLO (rOt sd (upd s (Int.toNat (42 + i)) (Int32.ofInt 1)) (sd (Int.toNat (5 * i + 1))).toInt ma.toNat) ((g3 (Int.toNat i)).toInt / (bcF (cOt a5 a6 (oOr re (oShl 1 i)) (a5 (Int.toNat i)).toInt ma.toNat) + 1)) 1 (upd s (Int.toNat (42 + i)) (Int32.ofInt 1)) ma.toNat k = s k := fun k hk => by rw [rLO_1, if_neg (by omega)]; exact e1' k hk
        refine ⟨bcF (cOt a5 a6 (oOr re (oShl 1 i)) (a5 (Int.toNat i)).toInt ma.toNat), (GW ki ln bt rl cp cs ct cv 5 14 ja ea ma a1 a2 a3 a4 a5 a6 a7 a8 jb eb mb b1 b2 b3 b4 b5 b6 b7 b8 (oOr re (oShl 1 i)) fl g1 g2 (cLO (cOt a5 a6 (oOr re (oShl 1 i)) (a5 (Int.toNat i)).toInt ma.toNat) ((g3 (Int.toNat i)).toInt / (bcF (cOt a5 a6 (oOr re (oShl 1 i)) (a5 (Int.toNat i)).toInt ma.toNat) + 1)) g3 16) g4 g5 rt la rs rg pd du ds me tt gr su gp mk rf m1 m2 m3 m4 m5 mr mf n1 n2 n3 n4 n5 nr nf th tr db ma dm sm ty nx tk pl va fa lr ri s kp ik tn de sd dd sr tx pa), (GW ki ln bt rl cp cs ct cv 5 14 ja ea ma a1 a2 a3 a4 a5 a6 a7 a8 jb eb mb b1 b2 b3 b4 b5 b6 b7 b8 (oOr re (oShl 1 i)) fl g1 g2 (cLO (cOt a5 a6 (oOr re (oShl 1 i)) (a5 (Int.toNat i)).toInt ma.toNat) ((g3 (Int.toNat i)).toInt / (bcF (cOt a5 a6 (oOr re (oShl 1 i)) (a5 (Int.toNat i)).toInt ma.toNat) + 1)) g3 16) g4 g5 rt la rs rg pd du ds me tt gr su gp mk rf m1 m2 m3 m4 m5 mr mf n1 n2 n3 n4 n5 nr nf 0 tr db ma dm sm ty nx tk pl va fa lr ri (rLO (rOt sd (upd s (Int.toNat (42 + i)) (Int32.ofInt 1)) (sd (Int.toNat (5 * i + 1))).toInt ma.toNat) ((g3 (Int.toNat i)).toInt / (bcF (cOt a5 a6 (oOr re (oShl 1 i)) (a5 (Int.toNat i)).toInt ma.toNat) + 1)) 1 (upd s (Int.toNat (42 + i)) (Int32.ofInt 1)) ma.toNat) kp ik tn de sd dd sr tx pa), c_relCG0_1 hi r2 w1 hr (by rw [eg3]; exact hL26) (by omega), hRR, ?_, mid_GW⟩
        exact LI_to ⟨⟨⟨hla, hrf⟩, ⟨rfl, rfl⟩, ⟨q1, q2, q3, q4, q5, q6, q7, q8, q9, q10⟩, r1, r2, r3, r4, r5, RS_out r6 e2', r7, r8, r9, r10⟩, EX_out hX e2', hK, ⟨et, hl⟩, hRo, hRo2, LG_l1 r2 hLG1 hoE lr1, hI0, hI1, hik, htt, hmk⟩
      · have o1 : rOT sd s ma i 2 = rOt sd (upd s (Int.toNat (42 + i)) (Int32.ofInt 1)) (sd (Int.toNat (5 * i + 1))).toInt ma.toNat := rfl
        have vm1 : rMN sd s ma i 2 = rMn sd (upd s (Int.toNat (42 + i)) (Int32.ofInt 1)) (sd (Int.toNat (5 * i + 1))).toInt ma.toNat := rfl
        have s2 : rS2 sd s ma i 2 = rLO (rOt sd (upd s (Int.toNat (42 + i)) (Int32.ofInt 1)) (sd (Int.toNat (5 * i + 1))).toInt ma.toNat) (rLS sd s ma i 2) 2 (upd s (Int.toNat (42 + i)) (Int32.ofInt 1)) ma.toNat := by unfold rS2; rw [o1]
        have hRR := c_relRG (C := (cW ki ln bt rl cp cs ct cv 5 14 ja ea ma a1 a2 a3 a4 a5 a6 a7 a8 jb eb mb b1 b2 b3 b4 b5 b6 b7 b8 (oOr (oOr re (oShl 1 i)) (cOt a5 a6 (oOr re (oShl 1 i)) (a5 (Int.toNat i)).toInt ma.toNat)) fl g1 g2 g3 g4 g5 (dW rt la rs rg pd du ds me tt gr su gp mk rf m1 m2 m3 m4 m5 mr mf n1 n2 n3 n4 n5 nr nf []))) (th := th) (tr := tr) (db := db) (sn := ma) (dm := dm) (sm := sm) (ty := ty) (nx := nx) (tk := tk) (pl := pl) (va := va) (fa := fa) (lr := lr) (ri := ri) (s := s) (kp := kp) (ik := ik) (tn := tn) (de := de) (sd := sd) (dd := dd) (sr := sr) (tx := tx) (pa := pa) rfl hi hl2 r2 w1 w2 hns hL26
        rw [vm1, ← hmn, s2] at hRR
        have e2' : ∀ k : Nat, (k < 26 ∨ 58 ≤ k) → rLO (rOt sd (upd s (Int.toNat (42 + i)) (Int32.ofInt 1)) (sd (Int.toNat (5 * i + 1))).toInt ma.toNat) (rLS sd s ma i 2) 2 (upd s (Int.toNat (42 + i)) (Int32.ofInt 1)) ma.toNat k = s k := fun k hk => by rw [rLO_2, if_neg (by omega)]; exact e1' k hk
        refine ⟨bcF (cOt a5 a6 (oOr re (oShl 1 i)) (a5 (Int.toNat i)).toInt ma.toNat), (GW ki ln bt rl cp cs ct cv 5 14 ja ea ma a1 a2 a3 a4 a5 a6 a7 a8 jb eb mb b1 b2 b3 b4 b5 b6 b7 b8 (oOr (oOr re (oShl 1 i)) (cOt a5 a6 (oOr re (oShl 1 i)) (a5 (Int.toNat i)).toInt ma.toNat)) fl g1 g2 g3 g4 g5 rt la rs rg pd du ds me tt gr su gp mk rf m1 m2 m3 m4 m5 mr mf n1 n2 n3 n4 n5 nr nf th tr db ma dm sm ty nx tk pl va fa lr ri s kp ik tn de sd dd sr tx pa), (GW ki ln bt rl cp cs ct cv 5 14 ja ea ma a1 a2 a3 a4 a5 a6 a7 a8 jb eb mb b1 b2 b3 b4 b5 b6 b7 b8 (oOr (oOr re (oShl 1 i)) (cOt a5 a6 (oOr re (oShl 1 i)) (a5 (Int.toNat i)).toInt ma.toNat)) fl g1 g2 g3 g4 g5 rt la rs rg pd du ds me tt gr su gp mk rf m1 m2 m3 m4 m5 mr mf n1 n2 n3 n4 n5 nr nf 0 tr db ma dm sm ty nx tk pl va fa lr ri (rLO (rOt sd (upd s (Int.toNat (42 + i)) (Int32.ofInt 1)) (sd (Int.toNat (5 * i + 1))).toInt ma.toNat) (rLS sd s ma i 2) 2 (upd s (Int.toNat (42 + i)) (Int32.ofInt 1)) ma.toNat) kp ik tn de sd dd sr tx pa), c_relCG0_2 hi r2 w1 hr, hRR, ?_, mid_GW⟩
        exact LI_to ⟨⟨⟨hla, hrf⟩, ⟨rfl, rfl⟩, ⟨q1, q2, q3, q4, q5, q6, q7, q8, q9, q10⟩, r1, r2, r3, r4, r5, RS_out r6 e2', r7, r8, r9, r10⟩, EX_out hX e2', hK, ⟨et, hl⟩, hRo, hRo2, LG_l2 r2 hLG1 hoE hbz, hI0, hI1, hik, htt, hmk⟩
theorem LI_release1 {mw : List va_E} {i law : Int} (hi : -2147483648 ≤ i ∧ i ≤ 2147483647) (hl2 : -2147483648 ≤ law ∧ law ≤ 2147483647) (h : LI true mw) : ∃ (c : Int) (mw1 mw2 : List va_E), sX11_release [.ref 0, iv i, iv law] mw = some (some (iv c), mw1) ∧ sX12_release [.ref 56, iv i, iv law] mw1 = some (some (iv c), mw2) ∧ LI true mw2 ∧ mid mw1 := by
  refine LI_elim h (fun ki ln bt rl cp cs ct cv rr dr ja ea ma a1 a2 a3 a4 a5 a6 a7 a8 jb eb mb b1 b2 b3 b4 b5 b6 b7 b8 re fl g1 g2 g3 g4 g5 rt la rs rg pd du ds me tt gr su gp mk rf m1 m2 m3 m4 m5 mr mf n1 n2 n3 n4 n5 nr nf th tr db sn dm sm ty nx tk pl va fa lr ri s kp ik tn de sd dd sr tx pa e hh => ?_)
  obtain ⟨⟨⟨hla, hrf⟩, ⟨e1, e2⟩, ⟨q1, q2, q3, q4, q5, q6, q7, q8, q9, q10⟩, r1, r2, r3, r4, r5, r6, r7, r8, r9, r10⟩, hX, hK, ⟨et, hl⟩, hRo, hRo2, hLG, hI0, hI1, hik, htt, hmk⟩ := hh
  subst e
  clear h
  obtain rfl : rr = 14 := e1
  obtain rfl : dr = 5 := e2
  obtain ⟨k1, k2, k3, k4, k5⟩ := hRo2 rfl
  subst k2
  cases hok : (i3 i 0 (mb - 1) && i3 law 0 2) with
  | false =>
    refine ⟨-1, (GW ki ln bt rl cp cs ct cv 14 5 ja ea ma a1 a2 a3 a4 a5 a6 a7 a8 jb eb mb b1 b2 b3 b4 b5 b6 b7 b8 re fl g1 g2 g3 g4 g5 rt la rs rg pd du ds me tt gr su gp mk rf m1 m2 m3 m4 m5 mr mf n1 n2 n3 n4 n5 nr nf th tr db mb dm sm ty nx tk pl va fa lr ri s kp ik tn de sd dd sr tx pa), (GW ki ln bt rl cp cs ct cv 14 5 ja ea ma a1 a2 a3 a4 a5 a6 a7 a8 jb eb mb b1 b2 b3 b4 b5 b6 b7 b8 re fl g1 g2 g3 g4 g5 rt la rs rg pd du ds me tt gr su gp mk rf m1 m2 m3 m4 m5 mr mf n1 n2 n3 n4 n5 nr nf 0 tr db mb dm sm ty nx tk pl va fa lr ri s kp ik tn de sd dd sr tx pa), c_relCB1 hi hl2 r2 hok, c_relRB (C := (cW ki ln bt rl cp cs ct cv 14 5 ja ea ma a1 a2 a3 a4 a5 a6 a7 a8 jb eb mb b1 b2 b3 b4 b5 b6 b7 b8 re fl g1 g2 g3 g4 g5 (dW rt la rs rg pd du ds me tt gr su gp mk rf m1 m2 m3 m4 m5 mr mf n1 n2 n3 n4 n5 nr nf []))) (th := th) (tr := tr) (db := db) (sn := mb) (dm := dm) (sm := sm) (ty := ty) (nx := nx) (tk := tk) (pl := pl) (va := va) (fa := fa) (lr := lr) (ri := ri) (s := s) (kp := kp) (ik := ik) (tn := tn) (de := de) (sd := sd) (dd := dd) (sr := sr) (tx := tx) (pa := pa) rfl hi hl2 r2 hok, ?_, mid_GW⟩
    exact LI_to ⟨⟨⟨hla, hrf⟩, ⟨rfl, rfl⟩, ⟨q1, q2, q3, q4, q5, q6, q7, q8, q9, q10⟩, r1, r2, r3, r4, r5, r6, r7, r8, r9, r10⟩, hX, hK, ⟨et, hl⟩, hRo, hRo2, hLG, hI0, hI1, hik, htt, hmk⟩
  | true =>
    rw [Bool.and_eq_true] at hok
    obtain ⟨w1, w2⟩ := hok
    have vri := i3_t w1
    have rl' := i3_t w2
    obtain ⟨x, hx⟩ := Int.eq_ofNat_of_zero_le vri.1
    have hx16 : x < 16 := by omega
    have e42 : Int.toNat (42 + i) = 42 + x := by omega
    have e26 : Int.toNat (26 + i) = 26 + x := by omega
    have ei : Int.toNat i = x := by omega
    have hf := hLG.2.2.2.2.2.1 x hx16
    cases hr : zb (Int32.ofInt re) i.toNat with
    | true =>
      refine ⟨-2, (GW ki ln bt rl cp cs ct cv 14 5 ja ea ma a1 a2 a3 a4 a5 a6 a7 a8 jb eb mb b1 b2 b3 b4 b5 b6 b7 b8 re fl g1 g2 g3 g4 g5 rt la rs rg pd du ds me tt gr su gp mk rf m1 m2 m3 m4 m5 mr mf n1 n2 n3 n4 n5 nr nf th tr db mb dm sm ty nx tk pl va fa lr ri s kp ik tn de sd dd sr tx pa), (GW ki ln bt rl cp cs ct cv 14 5 ja ea ma a1 a2 a3 a4 a5 a6 a7 a8 jb eb mb b1 b2 b3 b4 b5 b6 b7 b8 re fl g1 g2 g3 g4 g5 rt la rs rg pd du ds me tt gr su gp mk rf m1 m2 m3 m4 m5 mr mf n1 n2 n3 n4 n5 nr nf 0 tr db mb dm sm ty nx tk pl va fa lr ri s kp ik tn de sd dd sr tx pa), c_relCS1 hi r2 w1 hr rl', c_relRS (C := (cW ki ln bt rl cp cs ct cv 14 5 ja ea ma a1 a2 a3 a4 a5 a6 a7 a8 jb eb mb b1 b2 b3 b4 b5 b6 b7 b8 re fl g1 g2 g3 g4 g5 (dW rt la rs rg pd du ds me tt gr su gp mk rf m1 m2 m3 m4 m5 mr mf n1 n2 n3 n4 n5 nr nf []))) (th := th) (tr := tr) (db := db) (sn := mb) (dm := dm) (sm := sm) (ty := ty) (nx := nx) (tk := tk) (pl := pl) (va := va) (fa := fa) (lr := lr) (ri := ri) (s := s) (kp := kp) (ik := ik) (tn := tn) (de := de) (sd := sd) (dd := dd) (sr := sr) (tx := tx) (pa := pa) rfl hi hl2 r2 w1 w2 ?_, ?_, mid_GW⟩
      · rw [e42, hf, ← ei, hr]; rfl
      · exact LI_to ⟨⟨⟨hla, hrf⟩, ⟨rfl, rfl⟩, ⟨q1, q2, q3, q4, q5, q6, q7, q8, q9, q10⟩, r1, r2, r3, r4, r5, r6, r7, r8, r9, r10⟩, hX, hK, ⟨et, hl⟩, hRo, hRo2, hLG, hI0, hI1, hik, htt, hmk⟩
    | false =>
      have hns : ¬ (s (Int.toNat (42 + i))).toInt = 1 := by rw [e42, hf, ← ei, hr]; decide
      have hl10 := hLG.2.2.2.2.2.2.2.2.2 x (by omega)
      have hL26 : 0 ≤ (s (Int.toNat (26 + i))).toInt ∧ (s (Int.toNat (26 + i))).toInt ≤ 999 := by rw [e26]; exact hl10
      have eg3 : g3 (Int.toNat i) = s (Int.toNat (26 + i)) := by rw [ei, e26]; exact hLG.2.2.1 x (by omega)
      have hLG1 := LG_r (i := i) r2.2 (by omega) hLG
      have ed : (b5 (Int.toNat i)).toInt = (sd (Int.toNat (5 * i + 1))).toInt := by rw [ei, show Int.toNat (5 * i + 1) = 5 * x + 1 by omega, (k4 x (by omega)).2.1]
      have e1' : ∀ k : Nat, (k < 26 ∨ 58 ≤ k) → (upd s (Int.toNat (42 + i)) (Int32.ofInt 1)) k = s k := fun k hk => upd_ne (by omega)
      have hl3 : law = 0 ∨ law = 1 ∨ law = 2 := by omega
      have hoc := cOt_zb (c5 := b5) (c6 := b6) (re := (oOr re (oShl 1 i))) (d := (b5 (Int.toNat i)).toInt) mb.toNat (by omega)
      have hor := rOt_zb (sd := sd) (s := (upd s (Int.toNat (42 + i)) (Int32.ofInt 1))) (d := (sd (Int.toNat (5 * i + 1))).toInt) mb.toNat (by omega)
      have hoE : Int32.ofInt (cOt b5 b6 (oOr re (oShl 1 i)) (b5 (Int.toNat i)).toInt mb.toNat) = Int32.ofInt (rOt sd (upd s (Int.toNat (42 + i)) (Int32.ofInt 1)) (sd (Int.toNat (5 * i + 1))).toInt mb.toNat) := by
        refine ofI_inj (fun k hk => ?_)
        rw [hoc k hk, hor k hk, ed]
        by_cases q : k < mb.toNat
        · rw [W_eq r2.2 hLG1 k4 (show (k : Int) < mb by omega)]
        · rw [decide_eq_false q]; rfl
      have hbz : ∀ k : Nat, mb ≤ (k : Int) → k < 32 → zb (Int32.ofInt (cOt b5 b6 (oOr re (oShl 1 i)) (b5 (Int.toNat i)).toInt mb.toNat)) k = false := fun k hk hk2 => by rw [hoc k hk2, decide_eq_false (by omega)]; rfl
      have hmn : bcF (cOt b5 b6 (oOr re (oShl 1 i)) (b5 (Int.toNat i)).toInt mb.toNat) = rMn sd (upd s (Int.toNat (42 + i)) (Int32.ofInt 1)) (sd (Int.toNat (5 * i + 1))).toInt mb.toNat := by
        rw [bcF_z (fun k hk hk2 => hbz k (by omega) hk2), fO_c hoE, fO_m hor (by omega) 16 (by decide), show min 16 mb.toNat = mb.toNat by omega]
      have hmr := rMn_r (sd := sd) (s := (upd s (Int.toNat (42 + i)) (Int32.ofInt 1))) (d := (sd (Int.toNat (5 * i + 1))).toInt) mb.toNat
      rcases hl3 with rfl | rfl | rfl
      · have o0 : rOT sd s mb i 0 = 0 := rfl
        have m0 : rMN sd s mb i 0 = 0 := rfl
        have s0 : rS2 sd s mb i 0 = (upd s (Int.toNat (42 + i)) (Int32.ofInt 1)) := by unfold rS2; rw [o0, rLO_0]
        have hRR := c_relRG (C := (cW ki ln bt rl cp cs ct cv 14 5 ja ea ma a1 a2 a3 a4 a5 a6 a7 a8 jb eb mb b1 b2 b3 b4 b5 b6 b7 b8 (oOr re (oShl 1 i)) fl g1 g2 g3 g4 g5 (dW rt la rs rg pd du ds me tt gr su gp mk rf m1 m2 m3 m4 m5 mr mf n1 n2 n3 n4 n5 nr nf []))) (th := th) (tr := tr) (db := db) (sn := mb) (dm := dm) (sm := sm) (ty := ty) (nx := nx) (tk := tk) (pl := pl) (va := va) (fa := fa) (lr := lr) (ri := ri) (s := s) (kp := kp) (ik := ik) (tn := tn) (de := de) (sd := sd) (dd := dd) (sr := sr) (tx := tx) (pa := pa) rfl hi hl2 r2 w1 w2 hns hL26
        rw [m0, s0] at hRR
        refine ⟨0, (GW ki ln bt rl cp cs ct cv 14 5 ja ea ma a1 a2 a3 a4 a5 a6 a7 a8 jb eb mb b1 b2 b3 b4 b5 b6 b7 b8 (oOr re (oShl 1 i)) fl g1 g2 g3 g4 g5 rt la rs rg pd du ds me tt gr su gp mk rf m1 m2 m3 m4 m5 mr mf n1 n2 n3 n4 n5 nr nf th tr db mb dm sm ty nx tk pl va fa lr ri s kp ik tn de sd dd sr tx pa), (GW ki ln bt rl cp cs ct cv 14 5 ja ea ma a1 a2 a3 a4 a5 a6 a7 a8 jb eb mb b1 b2 b3 b4 b5 b6 b7 b8 (oOr re (oShl 1 i)) fl g1 g2 g3 g4 g5 rt la rs rg pd du ds me tt gr su gp mk rf m1 m2 m3 m4 m5 mr mf n1 n2 n3 n4 n5 nr nf 0 tr db mb dm sm ty nx tk pl va fa lr ri (upd s (Int.toNat (42 + i)) (Int32.ofInt 1)) kp ik tn de sd dd sr tx pa), c_relCG1_0 hi r2 w1 hr, hRR, ?_, mid_GW⟩
        exact LI_to ⟨⟨⟨hla, hrf⟩, ⟨rfl, rfl⟩, ⟨q1, q2, q3, q4, q5, q6, q7, q8, q9, q10⟩, r1, r2, r3, r4, r5, RS_out r6 e1', r7, r8, r9, r10⟩, EX_out hX e1', hK, ⟨et, hl⟩, hRo, hRo2, hLG1, hI0, hI1, hik, htt, hmk⟩
      · have o1 : rOT sd s mb i 1 = rOt sd (upd s (Int.toNat (42 + i)) (Int32.ofInt 1)) (sd (Int.toNat (5 * i + 1))).toInt mb.toNat := rfl
        have vm1 : rMN sd s mb i 1 = rMn sd (upd s (Int.toNat (42 + i)) (Int32.ofInt 1)) (sd (Int.toNat (5 * i + 1))).toInt mb.toNat := rfl
        have l1 : rLS sd s mb i 1 = ((g3 (Int.toNat i)).toInt / (bcF (cOt b5 b6 (oOr re (oShl 1 i)) (b5 (Int.toNat i)).toInt mb.toNat) + 1)) := by unfold rLS; rw [vm1, ← hmn, eg3]
        have lr1 : 0 ≤ ((g3 (Int.toNat i)).toInt / (bcF (cOt b5 b6 (oOr re (oShl 1 i)) (b5 (Int.toNat i)).toInt mb.toNat) + 1)) ∧ ((g3 (Int.toNat i)).toInt / (bcF (cOt b5 b6 (oOr re (oShl 1 i)) (b5 (Int.toNat i)).toInt mb.toNat) + 1)) ≤ 999 := by rw [eg3]; exact ⟨Int.ediv_nonneg hL26.1 (by omega), Int.le_trans (Int.ediv_le_self _ hL26.1) hL26.2⟩
        have s2 : rS2 sd s mb i 1 = rLO (rOt sd (upd s (Int.toNat (42 + i)) (Int32.ofInt 1)) (sd (Int.toNat (5 * i + 1))).toInt mb.toNat) ((g3 (Int.toNat i)).toInt / (bcF (cOt b5 b6 (oOr re (oShl 1 i)) (b5 (Int.toNat i)).toInt mb.toNat) + 1)) 1 (upd s (Int.toNat (42 + i)) (Int32.ofInt 1)) mb.toNat := by unfold rS2; rw [o1, l1]
        have hRR := c_relRG (C := (cW ki ln bt rl cp cs ct cv 14 5 ja ea ma a1 a2 a3 a4 a5 a6 a7 a8 jb eb mb b1 b2 b3 b4 b5 b6 b7 b8 (oOr re (oShl 1 i)) fl g1 g2 (cLO (cOt b5 b6 (oOr re (oShl 1 i)) (b5 (Int.toNat i)).toInt mb.toNat) ((g3 (Int.toNat i)).toInt / (bcF (cOt b5 b6 (oOr re (oShl 1 i)) (b5 (Int.toNat i)).toInt mb.toNat) + 1)) g3 16) g4 g5 (dW rt la rs rg pd du ds me tt gr su gp mk rf m1 m2 m3 m4 m5 mr mf n1 n2 n3 n4 n5 nr nf []))) (th := th) (tr := tr) (db := db) (sn := mb) (dm := dm) (sm := sm) (ty := ty) (nx := nx) (tk := tk) (pl := pl) (va := va) (fa := fa) (lr := lr) (ri := ri) (s := s) (kp := kp) (ik := ik) (tn := tn) (de := de) (sd := sd) (dd := dd) (sr := sr) (tx := tx) (pa := pa) rfl hi hl2 r2 w1 w2 hns hL26
        rw [vm1, ← hmn, s2] at hRR
        have e2' : ∀ k : Nat, (k < 26 ∨ 58 ≤ k) → rLO (rOt sd (upd s (Int.toNat (42 + i)) (Int32.ofInt 1)) (sd (Int.toNat (5 * i + 1))).toInt mb.toNat) ((g3 (Int.toNat i)).toInt / (bcF (cOt b5 b6 (oOr re (oShl 1 i)) (b5 (Int.toNat i)).toInt mb.toNat) + 1)) 1 (upd s (Int.toNat (42 + i)) (Int32.ofInt 1)) mb.toNat k = s k := fun k hk => by rw [rLO_1, if_neg (by omega)]; exact e1' k hk
        refine ⟨bcF (cOt b5 b6 (oOr re (oShl 1 i)) (b5 (Int.toNat i)).toInt mb.toNat), (GW ki ln bt rl cp cs ct cv 14 5 ja ea ma a1 a2 a3 a4 a5 a6 a7 a8 jb eb mb b1 b2 b3 b4 b5 b6 b7 b8 (oOr re (oShl 1 i)) fl g1 g2 (cLO (cOt b5 b6 (oOr re (oShl 1 i)) (b5 (Int.toNat i)).toInt mb.toNat) ((g3 (Int.toNat i)).toInt / (bcF (cOt b5 b6 (oOr re (oShl 1 i)) (b5 (Int.toNat i)).toInt mb.toNat) + 1)) g3 16) g4 g5 rt la rs rg pd du ds me tt gr su gp mk rf m1 m2 m3 m4 m5 mr mf n1 n2 n3 n4 n5 nr nf th tr db mb dm sm ty nx tk pl va fa lr ri s kp ik tn de sd dd sr tx pa), (GW ki ln bt rl cp cs ct cv 14 5 ja ea ma a1 a2 a3 a4 a5 a6 a7 a8 jb eb mb b1 b2 b3 b4 b5 b6 b7 b8 (oOr re (oShl 1 i)) fl g1 g2 (cLO (cOt b5 b6 (oOr re (oShl 1 i)) (b5 (Int.toNat i)).toInt mb.toNat) ((g3 (Int.toNat i)).toInt / (bcF (cOt b5 b6 (oOr re (oShl 1 i)) (b5 (Int.toNat i)).toInt mb.toNat) + 1)) g3 16) g4 g5 rt la rs rg pd du ds me tt gr su gp mk rf m1 m2 m3 m4 m5 mr mf n1 n2 n3 n4 n5 nr nf 0 tr db mb dm sm ty nx tk pl va fa lr ri (rLO (rOt sd (upd s (Int.toNat (42 + i)) (Int32.ofInt 1)) (sd (Int.toNat (5 * i + 1))).toInt mb.toNat) ((g3 (Int.toNat i)).toInt / (bcF (cOt b5 b6 (oOr re (oShl 1 i)) (b5 (Int.toNat i)).toInt mb.toNat) + 1)) 1 (upd s (Int.toNat (42 + i)) (Int32.ofInt 1)) mb.toNat) kp ik tn de sd dd sr tx pa), c_relCG1_1 hi r2 w1 hr (by rw [eg3]; exact hL26) (by omega), hRR, ?_, mid_GW⟩
        exact LI_to ⟨⟨⟨hla, hrf⟩, ⟨rfl, rfl⟩, ⟨q1, q2, q3, q4, q5, q6, q7, q8, q9, q10⟩, r1, r2, r3, r4, r5, RS_out r6 e2', r7, r8, r9, r10⟩, EX_out hX e2', hK, ⟨et, hl⟩, hRo, hRo2, LG_l1 r2 hLG1 hoE lr1, hI0, hI1, hik, htt, hmk⟩
      · have o1 : rOT sd s mb i 2 = rOt sd (upd s (Int.toNat (42 + i)) (Int32.ofInt 1)) (sd (Int.toNat (5 * i + 1))).toInt mb.toNat := rfl
        have vm1 : rMN sd s mb i 2 = rMn sd (upd s (Int.toNat (42 + i)) (Int32.ofInt 1)) (sd (Int.toNat (5 * i + 1))).toInt mb.toNat := rfl
        have s2 : rS2 sd s mb i 2 = rLO (rOt sd (upd s (Int.toNat (42 + i)) (Int32.ofInt 1)) (sd (Int.toNat (5 * i + 1))).toInt mb.toNat) (rLS sd s mb i 2) 2 (upd s (Int.toNat (42 + i)) (Int32.ofInt 1)) mb.toNat := by unfold rS2; rw [o1]
        have hRR := c_relRG (C := (cW ki ln bt rl cp cs ct cv 14 5 ja ea ma a1 a2 a3 a4 a5 a6 a7 a8 jb eb mb b1 b2 b3 b4 b5 b6 b7 b8 (oOr (oOr re (oShl 1 i)) (cOt b5 b6 (oOr re (oShl 1 i)) (b5 (Int.toNat i)).toInt mb.toNat)) fl g1 g2 g3 g4 g5 (dW rt la rs rg pd du ds me tt gr su gp mk rf m1 m2 m3 m4 m5 mr mf n1 n2 n3 n4 n5 nr nf []))) (th := th) (tr := tr) (db := db) (sn := mb) (dm := dm) (sm := sm) (ty := ty) (nx := nx) (tk := tk) (pl := pl) (va := va) (fa := fa) (lr := lr) (ri := ri) (s := s) (kp := kp) (ik := ik) (tn := tn) (de := de) (sd := sd) (dd := dd) (sr := sr) (tx := tx) (pa := pa) rfl hi hl2 r2 w1 w2 hns hL26
        rw [vm1, ← hmn, s2] at hRR
        have e2' : ∀ k : Nat, (k < 26 ∨ 58 ≤ k) → rLO (rOt sd (upd s (Int.toNat (42 + i)) (Int32.ofInt 1)) (sd (Int.toNat (5 * i + 1))).toInt mb.toNat) (rLS sd s mb i 2) 2 (upd s (Int.toNat (42 + i)) (Int32.ofInt 1)) mb.toNat k = s k := fun k hk => by rw [rLO_2, if_neg (by omega)]; exact e1' k hk
        refine ⟨bcF (cOt b5 b6 (oOr re (oShl 1 i)) (b5 (Int.toNat i)).toInt mb.toNat), (GW ki ln bt rl cp cs ct cv 14 5 ja ea ma a1 a2 a3 a4 a5 a6 a7 a8 jb eb mb b1 b2 b3 b4 b5 b6 b7 b8 (oOr (oOr re (oShl 1 i)) (cOt b5 b6 (oOr re (oShl 1 i)) (b5 (Int.toNat i)).toInt mb.toNat)) fl g1 g2 g3 g4 g5 rt la rs rg pd du ds me tt gr su gp mk rf m1 m2 m3 m4 m5 mr mf n1 n2 n3 n4 n5 nr nf th tr db mb dm sm ty nx tk pl va fa lr ri s kp ik tn de sd dd sr tx pa), (GW ki ln bt rl cp cs ct cv 14 5 ja ea ma a1 a2 a3 a4 a5 a6 a7 a8 jb eb mb b1 b2 b3 b4 b5 b6 b7 b8 (oOr (oOr re (oShl 1 i)) (cOt b5 b6 (oOr re (oShl 1 i)) (b5 (Int.toNat i)).toInt mb.toNat)) fl g1 g2 g3 g4 g5 rt la rs rg pd du ds me tt gr su gp mk rf m1 m2 m3 m4 m5 mr mf n1 n2 n3 n4 n5 nr nf 0 tr db mb dm sm ty nx tk pl va fa lr ri (rLO (rOt sd (upd s (Int.toNat (42 + i)) (Int32.ofInt 1)) (sd (Int.toNat (5 * i + 1))).toInt mb.toNat) (rLS sd s mb i 2) 2 (upd s (Int.toNat (42 + i)) (Int32.ofInt 1)) mb.toNat) kp ik tn de sd dd sr tx pa), c_relCG1_2 hi r2 w1 hr, hRR, ?_, mid_GW⟩
        exact LI_to ⟨⟨⟨hla, hrf⟩, ⟨rfl, rfl⟩, ⟨q1, q2, q3, q4, q5, q6, q7, q8, q9, q10⟩, r1, r2, r3, r4, r5, RS_out r6 e2', r7, r8, r9, r10⟩, EX_out hX e2', hK, ⟨et, hl⟩, hRo, hRo2, LG_l2 r2 hLG1 hoE hbz, hI0, hI1, hik, htt, hmk⟩
theorem LI_release {v : Bool} {mw : List va_E} {i law : Int} (hi : -2147483648 ≤ i ∧ i ≤ 2147483647) (hl : -2147483648 ≤ law ∧ law ≤ 2147483647) (h : LI v mw) : ∃ (c : Int) (mw1 mw2 : List va_E), sX11_release [.ref 0, iv i, iv law] mw = some (some (iv c), mw1) ∧ sX12_release [.ref 56, iv i, iv law] mw1 = some (some (iv c), mw2) ∧ LI v mw2 ∧ mid mw1 := by
  cases v with
  | false => exact LI_release0 hi hl h
  | true => exact LI_release1 hi hl h
