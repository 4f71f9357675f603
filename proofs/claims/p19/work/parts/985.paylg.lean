/-! ===== pay keeps the relation ===== -/
/-- one number of the ledger changes on both sides -/
theorem LG_u1 {sn re fl : Int} {g1 g2 g3 g4 g5 s : Nat → Int32} {k : Nat} {x : Int32} (hs : sn ≤ 16) (hk : k < 10) (h : LG sn g1 g2 g3 g4 g5 re fl s) : LG sn (upd g1 k x) g2 g3 g4 g5 re fl (upd s k x) := by
  obtain ⟨h1, h2, h3, h4, h5, h6, h7, h8, h9, h10⟩ := h
  refine ⟨fun j hj => ?_, fun j hj => ?_, fun j hj => ?_, fun j hj => ?_, fun j hj => ?_, fun j hj => ?_, h7, ?_, fun j j1 j2 => ?_, fun j hj => ?_⟩
  · by_cases e : j = k
    · rw [e, upd_same, upd_same]
    · rw [upd_ne e, upd_ne e]; exact h1 j hj
  · rw [upd_ne (by omega)]; exact h2 j hj
  · rw [upd_ne (by omega)]; exact h3 j hj
  · rw [upd_ne (by omega)]; exact h4 j hj
  · rw [upd_ne (by omega)]; exact h5 j hj
  · rw [upd_ne (by omega)]; exact h6 j hj
  · rw [upd_ne (by omega)]; exact h8
  · rw [upd_ne (by omega)]; exact h9 j j1 j2
  · rw [upd_ne (by omega)]; exact h10 j hj
theorem LG_u2 {sn re fl : Int} {g1 g2 g3 g4 g5 s : Nat → Int32} {k : Nat} {x : Int32} (hs : sn ≤ 16) (hk : k < 16) (h : LG sn g1 g2 g3 g4 g5 re fl s) : LG sn g1 (upd g2 k x) g3 g4 g5 re fl (upd s (10 + k) x) := by
  obtain ⟨h1, h2, h3, h4, h5, h6, h7, h8, h9, h10⟩ := h
  refine ⟨fun j hj => ?_, fun j hj => ?_, fun j hj => ?_, fun j hj => ?_, fun j hj => ?_, fun j hj => ?_, h7, ?_, fun j j1 j2 => ?_, fun j hj => ?_⟩
  · rw [upd_ne (by omega)]; exact h1 j hj
  · by_cases e : j = k
    · rw [e, upd_same, upd_same]
    · rw [upd_ne e, upd_ne (by omega)]; exact h2 j hj
  · rw [upd_ne (by omega)]; exact h3 j hj
  · rw [upd_ne (by omega)]; exact h4 j hj
  · rw [upd_ne (by omega)]; exact h5 j hj
  · rw [upd_ne (by omega)]; exact h6 j hj
  · rw [upd_ne (by omega)]; exact h8
  · rw [upd_ne (by omega)]; exact h9 j j1 j2
  · rw [upd_ne (by omega)]; exact h10 j hj
theorem LG_u4 {sn re fl : Int} {g1 g2 g3 g4 g5 s : Nat → Int32} {k : Nat} {x : Int32} (hs : sn ≤ 16) (hk : k < 64) (h : LG sn g1 g2 g3 g4 g5 re fl s) : LG sn g1 g2 g3 (upd g4 k x) g5 re fl (upd s (58 + k) x) := by
  obtain ⟨h1, h2, h3, h4, h5, h6, h7, h8, h9, h10⟩ := h
  refine ⟨fun j hj => ?_, fun j hj => ?_, fun j hj => ?_, fun j hj => ?_, fun j hj => ?_, fun j hj => ?_, h7, ?_, fun j j1 j2 => ?_, fun j hj => ?_⟩
  · rw [upd_ne (by omega)]; exact h1 j hj
  · rw [upd_ne (by omega)]; exact h2 j hj
  · rw [upd_ne (by omega)]; exact h3 j hj
  · by_cases e : j = k
    · rw [e, upd_same, upd_same]
    · rw [upd_ne e, upd_ne (by omega)]; exact h4 j hj
  · rw [upd_ne (by omega)]; exact h5 j hj
  · rw [upd_ne (by omega)]; exact h6 j hj
  · rw [upd_ne (by omega)]; exact h8
  · rw [upd_ne (by omega)]; exact h9 j j1 j2
  · rw [upd_ne (by omega)]; exact h10 j hj
theorem LG_p1 {sn re fl n : Int} {g1 g2 g3 g4 g5 s : Nat → Int32} {k : Nat} (hs : sn ≤ 16) (hk : k < 10) (h : LG sn g1 g2 g3 g4 g5 re fl s) : LG sn (ps2 g1 k n) g2 g3 g4 g5 re fl (ps2 s k n) := by
  unfold ps2
  rw [h.1 k hk]
  exact LG_u1 hs hk h
theorem LG_p2 {sn re fl n : Int} {g1 g2 g3 g4 g5 s : Nat → Int32} {k : Nat} (hs : sn ≤ 16) (hk : k < 16) (h : LG sn g1 g2 g3 g4 g5 re fl s) : LG sn g1 (ps2 g2 k n) g3 g4 g5 re fl (ps2 s (10 + k) n) := by
  unfold ps2
  rw [h.2.1 k hk]
  exact LG_u2 hs hk h
theorem LG_p4 {sn re fl n : Int} {g1 g2 g3 g4 g5 s : Nat → Int32} {k : Nat} (hs : sn ≤ 16) (hk : k < 64) (h : LG sn g1 g2 g3 g4 g5 re fl s) : LG sn g1 g2 g3 (ps2 g4 k n) g5 re fl (ps2 s (58 + k) n) := by
  unfold ps2
  rw [h.2.2.2.1 k hk]
  exact LG_u4 hs hk h
theorem LG_p5 {sn re fl n : Int} {g1 g2 g3 g4 g5 s : Nat → Int32} {k : Nat} (hs : sn ≤ 16) (hk : k < 8) (h : LG sn g1 g2 g3 g4 g5 re fl s) : LG sn g1 g2 g3 g4 (ps2 g5 k n) re fl (ps2 s (122 + k) n) := by
  unfold ps2
  rw [h.2.2.2.2.1 k hk]
  exact LG_b hs hk h
theorem LG_m5 {sn re fl n : Int} {g1 g2 g3 g4 g5 s : Nat → Int32} {k : Nat} (hs : sn ≤ 16) (hk : k < 8) (h : LG sn g1 g2 g3 g4 g5 re fl s) : LG sn g1 g2 g3 g4 (ps1 g5 k n) re fl (ps1 s (122 + k) n) := by
  unfold ps1
  rw [h.2.2.2.2.1 k hk]
  exact LG_b hs hk h
/-- coins are moved, on both sides -/
theorem LG_mv {sn re fl n a t d : Int} {g1 g2 g3 g4 g5 s : Nat → Int32} (hs : sn ≤ 16) (ha : 0 ≤ a ∧ a ≤ 7) (ht : 0 ≤ t ∧ t ≤ 7) (hd : 0 ≤ d ∧ d ≤ 9) (h : LG sn g1 g2 g3 g4 g5 re fl s) : LG sn (ps2 g1 (Int.toNat d) n) g2 g3 g4 (ps2 (ps1 g5 (Int.toNat a) n) (Int.toNat t) n) re fl (ps2 (ps2 (ps1 s (Int.toNat (122 + a)) n) (Int.toNat (122 + t)) n) (Int.toNat (0 + d)) n) := by
  rw [show Int.toNat (122 + a) = 122 + Int.toNat a by omega, show Int.toNat (122 + t) = 122 + Int.toNat t by omega, show Int.toNat (0 + d) = Int.toNat d by omega]
  exact LG_p1 hs (by omega) (LG_p5 hs (by omega) (LG_m5 hs (by omega) h))
theorem LG_ow {sn re fl n x y : Int} {g1 g2 g3 g4 g5 s : Nat → Int32} (hs : sn ≤ 16) (hx : 0 ≤ x ∧ x ≤ 7) (hy : 0 ≤ y ∧ y ≤ 7) (h : LG sn g1 g2 g3 g4 g5 re fl s) : LG sn g1 g2 g3 (ps2 g4 (Int.toNat (x * 8 + y)) n) g5 re fl (ps2 s (Int.toNat (58 + 8 * x + y)) n) := by
  rw [show Int.toNat (58 + 8 * x + y) = 58 + Int.toNat (x * 8 + y) by omega]
  exact LG_p4 hs (by omega) h
theorem LG_sb {sn re fl n y sh ot : Int} {g1 g2 g3 g4 g5 s : Nat → Int32} (hs : sn ≤ 16) (hy : 0 ≤ y ∧ y ≤ 7) (he : Int32.ofInt sh = Int32.ofInt ot) (h : LG sn g1 g2 g3 g4 g5 re fl s) : ∀ j : Nat, j ≤ 8 → LG sn g1 g2 g3 (cSB sh y n g4 j) g5 re fl (rSB ot y n s j)
  | 0, _ => h
  | j + 1, hj => by
    have ih := LG_sb (n := n) hs hy he h j (by omega)
    show LG sn g1 g2 g3 (bif zb (Int32.ofInt sh) j then ps2 (cSB sh y n g4 j) (Int.toNat ((j : Int) * 8 + y)) n else cSB sh y n g4 j) g5 re fl (bif zb (Int32.ofInt ot) j then ps2 (rSB ot y n s j) (Int.toNat (58 + 8 * (j : Int) + y)) n else rSB ot y n s j)
    rw [he]
    cases zb (Int32.ofInt ot) j with
    | false => exact ih
    | true => exact LG_ow hs (by omega) hy ih
/-! who shares -/
theorem fO_upd {a b : Int} {p : Nat} (h : ∀ k : Nat, k ≠ p → zb (Int32.ofInt a) k = zb (Int32.ofInt b) k) : ∀ j : Nat, fO b j = fO a j + (if p < j then bi (zb (Int32.ofInt b) p) - bi (zb (Int32.ofInt a) p) else 0)
  | 0 => by rw [if_neg (by omega)]; rfl
  | j + 1 => by
    show fO b j + bi (zb (Int32.ofInt b) j) = fO a j + bi (zb (Int32.ofInt a) j) + _
    rw [fO_upd h j]
    by_cases e : j = p
    · subst e
      rw [if_neg (by omega), if_pos (by omega)]
      omega
    · rw [h j e]
      by_cases q : p < j
      · rw [if_pos q, if_pos (by omega)]; omega
      · rw [if_neg q, if_neg (by omega)]; omega
theorem zb_hi {a : Int} {k : Nat} (h : 32 ≤ k) : zb (Int32.ofInt a) k = false := BitVec.getLsbD_of_ge _ _ h
theorem zb_set {a : Int} {p k : Nat} (hp : p < 32) : zb (Int32.ofInt (oOr a (oShl 1 (p : Int)))) k = (zb (Int32.ofInt a) k || decide (k = p)) := by
  rcases Nat.lt_or_ge k 32 with q | q
  · rw [zb_oOr, zb_oShl1 hp q]
  · rw [zb_hi q, zb_hi q, decide_eq_false (by omega)]; rfl
theorem rGm_f {sd s : Nat → Int32} {d y : Int} (hS : SDr sd) : ∀ j : Nat, j ≤ 16 → rGm sd s d y j = fO (rGo sd s d y j) 16
  | 0, _ => by show (0 : Int) = fO 0 16; decide +kernel
  | j + 1, hj => by
    have r := (sd_r hS (show 0 ≤ (j : Int) ∧ (j : Int) ≤ 15 by omega)).1
    obtain ⟨p, hp⟩ := Int.eq_ofNat_of_zero_le r.1
    show rGm sd s d y j + (bif rIs sd s d y j && !zb (Int32.ofInt (rGo sd s d y j)) (Int.toNat (sd (Int.toNat (5 * (j : Int)))).toInt) then 1 else 0) = fO (oOr (rGo sd s d y j) (bif rIs sd s d y j then oShl 1 (sd (Int.toNat (5 * (j : Int)))).toInt else 0)) 16
    rw [rGm_f hS j (by omega), hp, show Int.toNat (p : Int) = p from rfl]
    cases rIs sd s d y j with
    | false =>
      show fO _ 16 + 0 = fO (oOr _ 0) 16
      rw [Int.add_zero]
      exact fO_c (ofI_inj (fun i hi => by rw [zb_oOr, zb_z, Bool.or_false])) 16
    | true =>
      show fO _ 16 + (bif !zb (Int32.ofInt (rGo sd s d y j)) p then 1 else 0) = fO (oOr _ (oShl 1 (p : Int))) 16
      rw [fO_upd (a := rGo sd s d y j) (b := oOr (rGo sd s d y j) (oShl 1 (p : Int))) (p := p) (fun k hk => by rw [zb_set (by omega), decide_eq_false hk, Bool.or_false]) 16, if_pos (by omega), zb_set (by omega), decide_eq_true rfl, Bool.or_true]
      cases zb (Int32.ofInt (rGo sd s d y j)) p <;> rfl
theorem rGo_hi {sd s : Nat → Int32} {d y : Int} (hS : SDr sd) : ∀ j : Nat, j ≤ 16 → ∀ k : Nat, 8 ≤ k → zb (Int32.ofInt (rGo sd s d y j)) k = false
  | 0, _, k, _ => zb_z k
  | j + 1, hj, k, hk => by
    have r := (sd_r hS (show 0 ≤ (j : Int) ∧ (j : Int) ≤ 15 by omega)).1
    obtain ⟨p, hp⟩ := Int.eq_ofNat_of_zero_le r.1
    show zb (Int32.ofInt (oOr (rGo sd s d y j) (bif rIs sd s d y j then oShl 1 (sd (Int.toNat (5 * (j : Int)))).toInt else 0))) k = false
    cases rIs sd s d y j with
    | false =>
      show zb (Int32.ofInt (oOr _ 0)) k = false
      rw [zb_oOr, zb_z, rGo_hi hS j (by omega) k hk]; rfl
    | true =>
      show zb (Int32.ofInt (oOr _ (oShl 1 _))) k = false
      rw [hp, zb_set (by omega), rGo_hi hS j (by omega) k hk, decide_eq_false (by omega)]; rfl
/-- the same people share, on both sides -/
theorem sh_eq {sn re fl d y : Int} {g1 g2 g3 g4 g5 s sd c4 c5 c6 c7 c8 : Nat → Int32} (hs : 0 ≤ sn ∧ sn ≤ 16) (hS : SDr sd) (h : LG sn g1 g2 g3 g4 g5 re fl s) (hR : RRs sn c4 c5 c6 c7 c8 sd) (hy : 0 ≤ y ∧ y ≤ 7) : ∀ j : Nat, (j : Int) ≤ sn → ∀ k : Nat, k < 32 → ((zb (Int32.ofInt (cSh c4 c5 c6 re d j)) k && !zb (Int32.ofInt fl) k) && !decide (k = y.toNat)) = zb (Int32.ofInt (rGo sd s d y j)) k
  | 0, _, k, _ => by
    show ((zb (Int32.ofInt 0) k && _) && _) = zb (Int32.ofInt 0) k
    rw [zb_z]; rfl
  | j + 1, hj, k, hk => by
    have ih := sh_eq (d := d) hs hS h hR hy j (by omega) k hk
    have r := (sd_r hS (show 0 ≤ (j : Int) ∧ (j : Int) ≤ 15 by omega)).1
    obtain ⟨p, hp⟩ := Int.eq_ofNat_of_zero_le r.1
    have e4 : (c4 (Int.toNat (j : Int))).toInt = (p : Int) := by
      rw [show Int.toNat (j : Int) = j from rfl, (hR j (by omega)).1, ← hp, show Int.toNat (5 * (j : Int)) = 5 * j by omega]
    have eW := W_eq (d := d) hs.2 h hR (show (j : Int) < sn by omega)
    have eF : fF s (p : Int) = zb (Int32.ofInt fl) p := by unfold fF; rw [h.2.2.2.2.2.2.2.1]; rfl
    have eI : rIs sd s d y j = (cW0 c5 c6 re d j && (!zb (Int32.ofInt fl) p && !decide (p = y.toNat))) := by
      rw [eW]
      unfold rIs isW
      rw [hp, eF, show decide ((p : Int) = y) = decide (p = y.toNat) from decide_eq_decide.mpr (by omega)]
      cases decide ((sd (Int.toNat (5 * (j : Int) + 1))).toInt = d) <;> cases decide ((sd (Int.toNat (5 * (j : Int) + 2))).toInt = 0) <;> cases decide ((s (Int.toNat (42 + (j : Int)))).toInt = 0) <;> rfl
    show ((zb (Int32.ofInt (bif cW0 c5 c6 re d j then oOr (cSh c4 c5 c6 re d j) (oShl 1 (c4 (Int.toNat (j : Int))).toInt) else cSh c4 c5 c6 re d j)) k && _) && _) = zb (Int32.ofInt (oOr (rGo sd s d y j) (bif rIs sd s d y j then oShl 1 (sd (Int.toNat (5 * (j : Int)))).toInt else 0))) k
    rw [eI, hp, e4]
    cases cW0 c5 c6 re d j with
    | false =>
      show ((zb (Int32.ofInt (cSh c4 c5 c6 re d j)) k && _) && _) = zb (Int32.ofInt (oOr (rGo sd s d y j) 0)) k
      rw [zb_oOr, zb_z, Bool.or_false]
      exact ih
    | true =>
      rw [cond_true, zb_set (by omega), Bool.true_and]
      by_cases e : k = p
      · subst e
        rw [decide_eq_true rfl, Bool.or_true, Bool.true_and]
        cases hf : zb (Int32.ofInt fl) k with
        | true =>
          rw [hf] at ih
          show false = zb (Int32.ofInt (oOr (rGo sd s d y j) 0)) k
          rw [zb_oOr, zb_z, Bool.or_false, ← ih]
          cases zb (Int32.ofInt (cSh c4 c5 c6 re d j)) k <;> rfl
        | false =>
          cases hq : decide (k = y.toNat) with
          | true =>
            rw [hq] at ih
            show false = zb (Int32.ofInt (oOr (rGo sd s d y j) 0)) k
            rw [zb_oOr, zb_z, Bool.or_false, ← ih]
            cases zb (Int32.ofInt (cSh c4 c5 c6 re d j)) k <;> cases zb (Int32.ofInt fl) k <;> rfl
          | false =>
            show true = zb (Int32.ofInt (oOr (rGo sd s d y j) (oShl 1 (k : Int)))) k
            rw [zb_set (by omega), decide_eq_true rfl, Bool.or_true]
      · rw [decide_eq_false e, Bool.or_false, ih]
        cases (!zb (Int32.ofInt fl) p && !decide (p = y.toNat)) with
        | false => show _ = zb (Int32.ofInt (oOr _ 0)) k; rw [zb_oOr, zb_z, Bool.or_false]
        | true => show _ = zb (Int32.ofInt (oOr _ (oShl 1 (p : Int)))) k; rw [zb_set (by omega), decide_eq_false e, Bool.or_false]
theorem cSS_eq {sn re fl d y : Int} {g1 g2 g3 g4 g5 s sd c4 c5 c6 c7 c8 : Nat → Int32} (hs : 0 ≤ sn ∧ sn ≤ 16) (hS : SDr sd) (h : LG sn g1 g2 g3 g4 g5 re fl s) (hR : RRs sn c4 c5 c6 c7 c8 sd) (hy : 0 ≤ y ∧ y ≤ 7) : Int32.ofInt (cSS c4 c5 c6 sn re fl d y) = Int32.ofInt (rGo sd s d y sn.toNat) ∧ bcF (cSS c4 c5 c6 sn re fl d y) = rGm sd s d y sn.toNat := by
  have e : Int32.ofInt (cSS c4 c5 c6 sn re fl d y) = Int32.ofInt (rGo sd s d y sn.toNat) := by
    refine ofI_inj (fun k hk => ?_)
    obtain ⟨q, hq⟩ := Int.eq_ofNat_of_zero_le hy.1
    rw [← sh_eq (d := d) hs hS h hR hy sn.toNat (by omega) k hk]
    unfold cSS cSO
    rw [zb_oAnd, zb_oAnd, zb_oNot _ hk, zb_oNot _ hk, hq, zb_oShl1 (by omega) hk]
    rfl
  refine ⟨e, ?_⟩
  rw [bcF_z (fun k hk hk2 => by rw [e]; exact rGo_hi hS _ (by omega) k (by omega)), fO_c e, rGm_f hS _ (by omega)]
/-! what may be asked, on both sides -/
theorem cR_eq {sn re fl db d : Int} {g1 g2 g3 g4 g5 s de c1 c2 c3 : Nat → Int32} (hL : LG sn g1 g2 g3 g4 g5 re fl s) (hR : RRd db c1 c2 c3 de) (hd : 0 ≤ d ∧ d < db) (hb : db ≤ 10) : cR c3 g1 d = fR de s d := by
  obtain ⟨n, rfl⟩ := Int.eq_ofNat_of_zero_le hd.1
  unfold cR fR
  rw [show Int.toNat (n : Int) = n from rfl, (hR n (by omega)).2.2, hL.1 n (by omega), show Int.toNat (0 + (n : Int)) = n by omega, show Int.toNat (3 * (n : Int) + 2) = 3 * n + 2 by omega]
theorem cL_eq {sn re fl i : Int} {g1 g2 g3 g4 g5 s : Nat → Int32} (hL : LG sn g1 g2 g3 g4 g5 re fl s) (hi : 0 ≤ i ∧ i < sn) (hs : sn ≤ 16) : fL s i = (if nrm (cL g3 g2 re i) < 0 then 0 else nrm (cL g3 g2 re i)) := by
  obtain ⟨n, rfl⟩ := Int.eq_ofNat_of_zero_le hi.1
  unfold cL fL
  rw [show Int.toNat (n : Int) = n from rfl, show Int.toNat (42 + (n : Int)) = 42 + n by omega, show Int.toNat (26 + (n : Int)) = 26 + n by omega, show Int.toNat (10 + (n : Int)) = 10 + n by omega, hL.2.2.1 n (by omega), hL.2.1 n (by omega), hL.2.2.2.2.2.1 n (by omega)]
  cases zb (Int32.ofInt re) n with
  | true => rw [cond_true, show nrm 0 = 0 from rfl, if_neg (by decide)]; rfl
  | false =>
    rw [cond_false]
    by_cases q : nrm ((s (26 + n)).toInt - (s (10 + n)).toInt) < 0
    · rw [if_pos q, decide_eq_true q, Bool.or_true]; rfl
    · rw [if_neg q, decide_eq_false q]; rfl
theorem dec_mn {n a b c d : Int} (h1 : decide (n ≤ a) = decide (n ≤ b)) (h2 : decide (n ≤ c) = decide (n ≤ d)) : decide (n ≤ mnI a c) = decide (n ≤ lsr b d) := by
  have h1 := decide_eq_decide.mp h1
  have h2 := decide_eq_decide.mp h2
  apply decide_eq_decide.mpr
  unfold mnI lsr
  by_cases q : c < a
  · rw [decide_eq_true q, cond_true]
    by_cases q2 : b < d
    · rw [decide_eq_true q2, cond_true]; omega
    · rw [decide_eq_false q2, cond_false]; omega
  · rw [decide_eq_false q, cond_false]
    by_cases q2 : b < d
    · rw [decide_eq_true q2, cond_true]; omega
    · rw [decide_eq_false q2, cond_false]; omega
theorem dec_L {n : Int} (hn : 1 ≤ n) {x y : Int} (h : y = (if x < 0 then 0 else x)) : decide (n ≤ x) = decide (n ≤ y) := by
  apply decide_eq_decide.mpr
  rw [h]
  by_cases q : x < 0
  · rw [if_pos q]; omega
  · rw [if_neg q]
theorem LR_eq {sn re fl db i n : Int} {g1 g2 g3 g4 g5 s de sd c1 c2 c3 c4 c5 c6 c7 c8 : Nat → Int32} (hL : LG sn g1 g2 g3 g4 g5 re fl s) (hRd : RRd db c1 c2 c3 de) (hRs : RRs sn c4 c5 c6 c7 c8 sd) (hV : OVx db sn sd) (hb : 0 ≤ db ∧ db ≤ 10) (hs : sn ≤ 16) (hS : SDr sd) (hE : DEr de) (hRS : RS s) (hi : 0 ≤ i ∧ i < sn) (hn : 1 ≤ n) : decide (n ≤ cLR c3 c5 g1 g2 g3 re i) = decide (n ≤ lsr (fL s i) (fR de s (sd (Int.toNat (5 * i + 1))).toInt)) := by
  have hd := (sd_r hS (show 0 ≤ i ∧ i ≤ 15 by omega)).2.1
  obtain ⟨x, rfl⟩ := Int.eq_ofNat_of_zero_le hi.1
  have e5 : (c5 (Int.toNat (x : Int))).toInt = (sd (Int.toNat (5 * (x : Int) + 1))).toInt := by rw [show Int.toNat (x : Int) = x from rfl, (hRs x (by omega)).2.1, show Int.toNat (5 * (x : Int) + 1) = 5 * x + 1 by omega]
  have hlt : (sd (Int.toNat (5 * (x : Int) + 1))).toInt < db := by rw [show Int.toNat (5 * (x : Int) + 1) = 5 * x + 1 by omega]; exact (hV x (by omega)).1
  unfold cLR
  rw [e5, cR_eq hL hRd ⟨hd.1, hlt⟩ hb.2, nrm_s (a := fR de s (sd (Int.toNat (5 * (x : Int) + 1))).toInt) (by have := fR_r hRS hE hd; omega)]
  exact dec_mn (dec_L hn (cL_eq hL (by omega) hs)) rfl
theorem aa_eq {sn re fl d : Int} {g1 g2 g3 g4 g5 s sd c4 c5 c6 c7 c8 : Nat → Int32} (hL : LG sn g1 g2 g3 g4 g5 re fl s) (hRs : RRs sn c4 c5 c6 c7 c8 sd) (hs : sn ≤ 16) (hS : SDr sd) : ∀ j : Nat, (j : Int) ≤ sn → cAA c4 c5 c6 re fl d j = alo sd s d j
  | 0, _ => rfl
  | j + 1, hj => by
    have r := sd_r hS (show 0 ≤ (j : Int) ∧ (j : Int) ≤ 15 by omega)
    obtain ⟨p, hp⟩ := Int.eq_ofNat_of_zero_le r.1.1
    obtain ⟨k4, k5, k6, -⟩ := hRs j (by omega)
    show (cAA c4 c5 c6 re fl d j && !cAh c4 c5 c6 re fl d j) = (alo sd s d j && (!isA sd s d j || fF s (sd (Int.toNat (5 * (j : Int)))).toInt))
    rw [aa_eq hL hRs hs hS j (by omega)]
    congr 1
    have eF : fF s (sd (Int.toNat (5 * (j : Int)))).toInt = zb (Int32.ofInt fl) p := by rw [hp]; unfold fF; rw [hL.2.2.2.2.2.2.2.1]; rfl
    rw [eF]
    unfold cAh isA
    have hf := hL.2.2.2.2.2.1 j (by omega)
    have e2 : decide ((Int32.ofInt (bi (zb (Int32.ofInt re) j))).toInt = 0) = !zb (Int32.ofInt re) j := by cases zb (Int32.ofInt re) j <;> rfl
    have r2 := r.2.2
    rw [show Int.toNat (5 * (j : Int) + 2) = 5 * j + 2 by omega] at r2
    have ep : (sd (5 * j)).toInt = (p : Int) := by rw [← hp, show Int.toNat (5 * (j : Int)) = 5 * j by omega]
    rw [show Int.toNat (j : Int) = j from rfl, k4, k5, k6, ep, show Int.toNat (p : Int) = p from rfl, show Int.toNat (5 * (j : Int) + 1) = 5 * j + 1 by omega, show Int.toNat (5 * (j : Int) + 2) = 5 * j + 2 by omega, show Int.toNat (42 + (j : Int)) = 42 + j by omega, hf, e2]
    have e3 : (decide ((sd (5 * j + 2)).toInt = 0) || decide ((sd (5 * j + 2)).toInt = 1)) = decide ((sd (5 * j + 2)).toInt < 2) := by
      by_cases q0 : (sd (5 * j + 2)).toInt = 0
      · rw [decide_eq_true q0, decide_eq_true (show (sd (5 * j + 2)).toInt < 2 by omega)]; rfl
      · by_cases q1 : (sd (5 * j + 2)).toInt = 1
        · rw [decide_eq_true q1, decide_eq_true (show (sd (5 * j + 2)).toInt < 2 by omega), Bool.or_true]
        · rw [decide_eq_false q0, decide_eq_false q1, decide_eq_false (show ¬ (sd (5 * j + 2)).toInt < 2 by omega)]; rfl
    rw [e3]
    cases decide ((sd (5 * j + 2)).toInt < 2) <;> cases decide ((sd (5 * j + 1)).toInt = d) <;> cases zb (Int32.ofInt re) j <;> cases zb (Int32.ofInt fl) p <;> rfl
theorem AS_eq {sn re fl db i n : Int} {g1 g2 g3 g4 g5 s de sd c1 c2 c3 c4 c5 c6 c7 c8 : Nat → Int32} (hL : LG sn g1 g2 g3 g4 g5 re fl s) (hRd : RRd db c1 c2 c3 de) (hRs : RRs sn c4 c5 c6 c7 c8 sd) (hV : OVx db sn sd) (hb : 0 ≤ db ∧ db ≤ 10) (hs : 0 ≤ sn ∧ sn ≤ 16) (hS : SDr sd) (hE : DEr de) (hRS : RS s) (hX : EXx s de sd) (hi : 0 ≤ i ∧ i < sn) (hn : 1 ≤ n) : decide (n ≤ cAS c1 c3 c4 c5 c6 c7 g1 g2 g3 sn re fl i) = decide (n ≤ fMA de sd s sn i) := by
  have hLR := LR_eq hL hRd hRs hV hb hs.2 hS hE hRS hi hn
  have r := sd_r hS (show 0 ≤ i ∧ i ≤ 15 by omega)
  obtain ⟨x, hx⟩ := Int.eq_ofNat_of_zero_le hi.1
  obtain ⟨k4, k5, k6, k7, -⟩ := hRs x (by omega)
  have ei : Int.toNat i = x := by omega
  have e0 : Int.toNat (5 * i) = 5 * x := by omega
  have e1 : Int.toNat (5 * i + 1) = 5 * x + 1 := by omega
  have e2 : Int.toNat (5 * i + 2) = 5 * x + 2 := by omega
  have e3 : Int.toNat (5 * i + 3) = 5 * x + 3 := by omega
  have hfF : ∀ z : Int, fF s z = zb (Int32.ofInt fl) (Int.toNat z) := fun z => by unfold fF; rw [hL.2.2.2.2.2.2.2.1]
  have hlt := (hV x (by omega)).1
  have hd := r.2.1
  rw [e1] at hLR hd
  unfold cAS fMA
  rw [ei, k4, k5, k6, k7, e0, e1, e2, e3, hfF]
  cases zb (Int32.ofInt fl) (Int.toNat (sd (5 * x)).toInt) with
  | true => simp only [cond_true, Bool.true_or]
  | false =>
    simp only [cond_false, Bool.false_or]
    by_cases q3 : (sd (5 * x + 2)).toInt = 3
    · simp only [decide_eq_true q3, decide_eq_false (show ¬ (sd (5 * x + 2)).toInt = 2 by omega), cond_true, cond_false, Bool.false_and]
      obtain ⟨o1, o2⟩ := (hV x (by omega)).2 q3
      obtain ⟨u, hu⟩ := Int.eq_ofNat_of_zero_le o1
      unfold cAO
      rw [show i3 (sd (5 * x + 3)).toInt 0 (sn - 1) = true by simp [i3]; omega, Bool.true_and, hfF, hu, show Int.toNat (u : Int) = u from rfl, (hRs u (by omega)).1, show Int.toNat (5 * (u : Int)) = 5 * u by omega]
      cases zb (Int32.ofInt fl) (Int.toNat (sd (5 * u)).toInt) with
      | false => rw [cond_false, cond_false]
      | true =>
        rw [cond_true, cond_true]
        exact dec_mn hLR (dec_L hn (cL_eq hL (by omega) hs.2))
    · simp only [decide_eq_false q3, cond_false]
      by_cases q2 : (sd (5 * x + 2)).toInt = 2
      · have eA : cAF c1 c4 c5 c6 sn re fl (sd (5 * x + 1)).toInt = (fF s (de (Int.toNat (3 * (sd (5 * x + 1)).toInt))).toInt && alo sd s (sd (5 * x + 1)).toInt sn.toNat) := by
          unfold cAF
          obtain ⟨dn, hdn⟩ := Int.eq_ofNat_of_zero_le hd.1
          rw [hfF, aa_eq hL hRs hs.2 hS sn.toNat (by omega), hdn, show Int.toNat (dn : Int) = dn from rfl, (hRd dn (by omega)).1, show Int.toNat (3 * (dn : Int)) = 3 * dn by omega]
        simp only [decide_eq_true q2, Bool.true_and]
        rw [eA]
        cases (fF s (de (Int.toNat (3 * (sd (5 * x + 1)).toInt))).toInt && alo sd s (sd (5 * x + 1)).toInt sn.toNat) with
        | true =>
          simp only [Bool.not_true, cond_false]
          exact hLR
        | false => simp only [Bool.not_false, cond_true]
      · simp only [decide_eq_false q2, Bool.false_and, cond_false]
        exact hLR
