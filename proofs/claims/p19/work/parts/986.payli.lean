/-! ===== pay: both sides ===== -/
def PH (db sn re fl : Int) (c1 c2 c3 c4 c5 c6 c7 c8 g1 g2 g3 g4 g5 s de sd : Nat → Int32) : Prop := LG sn g1 g2 g3 g4 g5 re fl s ∧ RRd db c1 c2 c3 de ∧ RRs sn c4 c5 c6 c7 c8 sd ∧ OVx db sn sd ∧ (0 ≤ db ∧ db ≤ 10) ∧ (0 ≤ sn ∧ sn ≤ 16) ∧ SDr sd ∧ DEr de ∧ RS s ∧ EXx s de sd
theorem TH_1 {db sn i : Int} (h : fTH db sn 1 i = true) : 0 ≤ i ∧ i < sn := by
  have w := h
  unfold fTH at w
  rw [Bool.and_eq_true] at w
  have w2 := w.2
  rw [show decide ((1 : Int) = 1) = true from rfl, cond_true] at w2
  have := i3_t w2
  omega
theorem TH_0 {db sn i : Int} (h : fTH db sn 0 i = true) : 0 ≤ i ∧ i < db := by
  have w := h
  unfold fTH at w
  rw [Bool.and_eq_true] at w
  have w2 := w.2
  rw [show decide ((0 : Int) = 1) = false from rfl, cond_false] at w2
  have := i3_t w2
  omega
theorem P_st {db sn re fl : Int} {c1 c2 c3 c4 c5 c6 c7 c8 g1 g2 g3 g4 g5 s de sd : Nat → Int32} {i : Int} (h : PH db sn re fl c1 c2 c3 c4 c5 c6 c7 c8 g1 g2 g3 g4 g5 s de sd) (hi : 0 ≤ i ∧ i < sn) : (c4 (Int.toNat i)).toInt = (sd (Int.toNat (5 * i))).toInt ∧ (c5 (Int.toNat i)).toInt = (sd (Int.toNat (5 * i + 1))).toInt ∧ (c6 (Int.toNat i)).toInt = (sd (Int.toNat (5 * i + 2))).toInt ∧ (c7 (Int.toNat i)).toInt = (sd (Int.toNat (5 * i + 3))).toInt ∧ (0 ≤ (sd (Int.toNat (5 * i))).toInt ∧ (sd (Int.toNat (5 * i))).toInt ≤ 7) ∧ (0 ≤ (sd (Int.toNat (5 * i + 1))).toInt ∧ (sd (Int.toNat (5 * i + 1))).toInt < db) ∧ ((sd (Int.toNat (5 * i + 2))).toInt = 3 → 0 ≤ (sd (Int.toNat (5 * i + 3))).toInt ∧ (sd (Int.toNat (5 * i + 3))).toInt < sn) := by
  obtain ⟨hL, hRd, hRs, hV, hb, hs, hS, hE, hRS, hX⟩ := h
  have r := sd_r hS (show 0 ≤ i ∧ i ≤ 15 by omega)
  obtain ⟨x, rfl⟩ := Int.eq_ofNat_of_zero_le hi.1
  obtain ⟨k4, k5, k6, k7, -⟩ := hRs x (by omega)
  obtain ⟨v1, v2⟩ := hV x (by omega)
  have e0 : Int.toNat (5 * (x : Int)) = 5 * x := by omega
  have e1 : Int.toNat (5 * (x : Int) + 1) = 5 * x + 1 := by omega
  have e2 : Int.toNat (5 * (x : Int) + 2) = 5 * x + 2 := by omega
  have e3 : Int.toNat (5 * (x : Int) + 3) = 5 * x + 3 := by omega
  have e : Int.toNat (x : Int) = x := rfl
  rw [e0, e1] at r
  rw [e0, e1, e2, e3, e, k4, k5, k6, k7]
  exact ⟨rfl, rfl, rfl, rfl, r.1, ⟨r.2.1.1, v1⟩, v2⟩
theorem P_de {db sn re fl : Int} {c1 c2 c3 c4 c5 c6 c7 c8 g1 g2 g3 g4 g5 s de sd : Nat → Int32} {d : Int} (h : PH db sn re fl c1 c2 c3 c4 c5 c6 c7 c8 g1 g2 g3 g4 g5 s de sd) (hd : 0 ≤ d ∧ d < db) : (c1 (Int.toNat d)).toInt = (de (Int.toNat (3 * d))).toInt ∧ (c2 (Int.toNat d)).toInt = (de (Int.toNat (3 * d + 1))).toInt ∧ (0 ≤ (de (Int.toNat (3 * d))).toInt ∧ (de (Int.toNat (3 * d))).toInt ≤ 7) ∧ (0 ≤ (de (Int.toNat (3 * d + 1))).toInt ∧ (de (Int.toNat (3 * d + 1))).toInt ≤ 7) := by
  obtain ⟨hL, hRd, hRs, hV, hb, hs, hS, hE, hRS, hX⟩ := h
  have r := de_r hE (show 0 ≤ d ∧ d ≤ 9 by omega)
  obtain ⟨x, rfl⟩ := Int.eq_ofNat_of_zero_le hd.1
  obtain ⟨k1, k2, -⟩ := hRd x (by omega)
  have e0 : Int.toNat (3 * (x : Int)) = 3 * x := by omega
  have e1 : Int.toNat (3 * (x : Int) + 1) = 3 * x + 1 := by omega
  have e : Int.toNat (x : Int) = x := rfl
  rw [e0, e1] at r
  rw [e0, e1, e, k1, k2]
  exact ⟨rfl, rfl, r.1, r.2.1⟩
theorem P_g5 {db sn re fl : Int} {c1 c2 c3 c4 c5 c6 c7 c8 g1 g2 g3 g4 g5 s de sd : Nat → Int32} {p : Int} (h : PH db sn re fl c1 c2 c3 c4 c5 c6 c7 c8 g1 g2 g3 g4 g5 s de sd) (hp : 0 ≤ p ∧ p ≤ 7) : g5 (Int.toNat p) = s (Int.toNat (122 + p)) := by
  rw [h.1.2.2.2.2.1 (Int.toNat p) (by omega), show Int.toNat (122 + p) = 122 + Int.toNat p by omega]
theorem MV_g {c2 g5 s : Nat → Int32} {a d n m M to : Int} (h1 : decide (n ≤ m) = decide (n ≤ M)) (hg : g5 (Int.toNat a) = s (Int.toNat (122 + a))) (hc : (c2 (Int.toNat d)).toInt = to) (hg2 : g5 (Int.toNat to) = s (Int.toNat (122 + to))) : cMV c2 g5 a d n m = (decide (n ≤ M) && (decide (n ≤ (s (Int.toNat (122 + a))).toInt) && (decide (a = to) || decide ((s (Int.toNat (122 + to))).toInt + n ≤ 9999)))) := by
  unfold cMV
  rw [h1, hg, hc, hg2]
theorem cAS_r {c1 c3 c4 c5 c6 c7 g1 g2 g3 : Nat → Int32} {ns re fl i : Int} : -2147483648 ≤ cAS c1 c3 c4 c5 c6 c7 g1 g2 g3 ns re fl i ∧ cAS c1 c3 c4 c5 c6 c7 g1 g2 g3 ns re fl i ≤ 2147483647 := by
  unfold cAS
  cases zb (Int32.ofInt fl) (Int.toNat (c4 (Int.toNat i)).toInt) with
  | true => show (-2147483648 : Int) ≤ 0 ∧ (0 : Int) ≤ 2147483647; decide
  | false =>
    rw [cond_false]
    cases decide ((c6 (Int.toNat i)).toInt = 3) with
    | true =>
      rw [cond_true]
      unfold cAO
      cases (i3 (c7 (Int.toNat i)).toInt 0 (ns - 1) && zb (Int32.ofInt fl) (Int.toNat (c4 (Int.toNat (c7 (Int.toNat i)).toInt)).toInt)) with
      | false => show (-2147483648 : Int) ≤ 0 ∧ (0 : Int) ≤ 2147483647; decide
      | true =>
        rw [cond_true]
        rcases mnI_or (cLR c3 c5 g1 g2 g3 re i) (nrm (cL g3 g2 re (c7 (Int.toNat i)).toInt)) with e | e
        · rw [e]; exact cLR_r
        · rw [e]; exact nrm_r _
    | false =>
      rw [cond_false]
      cases (decide ((c6 (Int.toNat i)).toInt = 2) && !cAF c1 c4 c5 c6 ns re fl (c5 (Int.toNat i)).toInt) with
      | true => show (-2147483648 : Int) ≤ 0 ∧ (0 : Int) ≤ 2147483647; decide
      | false => rw [cond_false]; exact cLR_r
theorem pay1_eq {db sn re fl : Int} {c1 c2 c3 c4 c5 c6 c7 c8 g1 g2 g3 g4 g5 s de sd : Nat → Int32} {i n : Int} (h : PH db sn re fl c1 c2 c3 c4 c5 c6 c7 c8 g1 g2 g3 g4 g5 s de sd) (hi : 0 ≤ i ∧ i < sn) (hn : 1 ≤ n) : cMV c2 g5 (c4 (Int.toNat i)).toInt (c5 (Int.toNat i)).toInt n (nrm (cAS c1 c3 c4 c5 c6 c7 g1 g2 g3 sn re fl i)) = rOK de sd s sn 1 i n := by
  obtain ⟨e4, e5, e6, e7, rp, rd, -⟩ := P_st h hi
  obtain ⟨f1, f2, rq, rt⟩ := P_de h rd
  rw [nrm_s cAS_r, e4, e5]
  obtain ⟨hL, hRd, hRs, hV, hb, hs, hS, hE, hRS, hX⟩ := id h
  exact MV_g (M := fMA de sd s sn i) (AS_eq hL hRd hRs hV hb hs hS hE hRS hX hi hn) (P_g5 h rp) f2 (P_g5 h rt)
theorem pay0_eq {db sn re fl : Int} {c1 c2 c3 c4 c5 c6 c7 c8 g1 g2 g3 g4 g5 s de sd : Nat → Int32} {i n : Int} (h : PH db sn re fl c1 c2 c3 c4 c5 c6 c7 c8 g1 g2 g3 g4 g5 s de sd) (hi : 0 ≤ i ∧ i < db) : cMV c2 g5 (c1 (Int.toNat i)).toInt i n (nrm (cAD c1 c3 g1 fl i)) = rOK de sd s sn 0 i n := by
  obtain ⟨f1, f2, rq, rt⟩ := P_de h hi
  obtain ⟨hL, hRd, hRs, hV, hb, hs, hS, hE, hRS, hX⟩ := id h
  have hR := fR_r hRS hE (show 0 ≤ i ∧ i ≤ 9 by omega)
  have eA : cAD c1 c3 g1 fl i = (bif fF s (de (Int.toNat (3 * i))).toInt then 0 else fR de s i) := by
    unfold cAD fF
    rw [cR_eq hL hRd hi hb.2, f1, hL.2.2.2.2.2.2.2.1]
  have rA : -2147483648 ≤ (bif fF s (de (Int.toNat (3 * i))).toInt then 0 else fR de s i) ∧ (bif fF s (de (Int.toNat (3 * i))).toInt then 0 else fR de s i) ≤ 2147483647 := by
    cases fF s (de (Int.toNat (3 * i))).toInt with
    | true => show (-2147483648 : Int) ≤ 0 ∧ (0 : Int) ≤ 2147483647; decide
    | false => show -2147483648 ≤ fR de s i ∧ fR de s i ≤ 2147483647; omega
  rw [eA, nrm_s rA, f1]
  exact MV_g (M := (bif fF s (de (Int.toNat (3 * i))).toInt then 0 else fR de s i)) rfl (P_g5 h rq) f2 (P_g5 h rt)
/-- the reference's state stays within its bounds -/
theorem rSB_o {ot y n : Int} {s : Nat → Int32} (hy : 0 ≤ y ∧ y ≤ 7) {k : Nat} (hk : k < 58 ∨ 122 ≤ k) : ∀ j : Nat, j ≤ 8 → rSB ot y n s j k = s k
  | 0, _ => rfl
  | j + 1, hj => by
    show (bif zb (Int32.ofInt ot) j then ps2 (rSB ot y n s j) (Int.toNat (58 + 8 * (j : Int) + y)) n else rSB ot y n s j) k = s k
    cases zb (Int32.ofInt ot) j with
    | false => exact rSB_o hy hk j (by omega)
    | true =>
      show upd (rSB ot y n s j) _ _ k = s k
      rw [upd_ne (by omega)]
      exact rSB_o hy hk j (by omega)
theorem ps2_o {s : Nat → Int32} {P k : Nat} {n : Int} (h : k ≠ P) : ps2 s P n k = s k := upd_ne h
theorem rGB_o {de sd s : Nat → Int32} {sn i n : Int} (hS : SDr sd) (hE : DEr de) (hi : 0 ≤ i ∧ i ≤ 15) (h3 : (sd (Int.toNat (5 * i + 2))).toInt = 3 → 0 ≤ (sd (Int.toNat (5 * i + 3))).toInt ∧ (sd (Int.toNat (5 * i + 3))).toInt ≤ 15) {k : Nat} (hk : k < 58 ∨ 122 ≤ k) : rGB de sd s sn i n k = s k := by
  have r := sd_r hS hi
  unfold rGB
  by_cases q : (sd (Int.toNat (5 * i + 2))).toInt = 3
  · rw [decide_eq_true q, cond_true]
    have r2 := (sd_r hS (h3 q)).1
    have r1 := r.1
    exact ps2_o (by omega)
  · rw [decide_eq_false q, cond_false]
    have rq := (de_r hE r.2.1).1
    have r1 := r.1
    cases fF s (de (Int.toNat (3 * (sd (Int.toNat (5 * i + 1))).toInt))).toInt with
    | true => rw [cond_true]; exact rSB_o r.1 hk 8 (by decide)
    | false => rw [cond_false]; exact ps2_o (by omega)
theorem RS_o2 {s s' de sd : Nat → Int32} (h : RS s) (hX : EXx s de sd) (e : ∀ k : Nat, (k < 58 ∨ 122 ≤ k) → s' k = s k) : RS s' ∧ EXx s' de sd := ⟨⟨fun j hj => by rw [e j (by omega)]; exact h.1 j hj, fun j j1 j2 => by rw [e j (by omega)]; exact h.2 j j1 j2⟩, hX.1, fun d hd => by rw [e d (by omega)]; exact hX.2 d hd⟩
theorem OK_t {de sd s : Nat → Int32} {sn k i n : Int} (h : rOK de sd s sn k i n = true) : n ≤ fAS de sd s sn k i ∧ n ≤ (s (Int.toNat (122 + rPv de sd k i))).toInt ∧ (rPv de sd k i = (de (Int.toNat (3 * rDv sd k i + 1))).toInt ∨ (s (Int.toNat (122 + (de (Int.toNat (3 * rDv sd k i + 1))).toInt))).toInt + n ≤ 9999) := by
  unfold rOK at h
  rw [Bool.and_eq_true, Bool.and_eq_true, Bool.or_eq_true] at h
  exact ⟨of_decide_eq_true h.1, of_decide_eq_true h.2.1, h.2.2.elim (fun q => Or.inl (of_decide_eq_true q)) (fun q => Or.inr (of_decide_eq_true q))⟩
theorem pay0_s {db sn re fl : Int} {c1 c2 c3 c4 c5 c6 c7 c8 g1 g2 g3 g4 g5 s de sd : Nat → Int32} {i n : Int} (h : PH db sn re fl c1 c2 c3 c4 c5 c6 c7 c8 g1 g2 g3 g4 g5 s de sd) (hi : 0 ≤ i ∧ i < db) (hn : 1 ≤ n ∧ n ≤ 999) (hv : rOK de sd s sn 0 i n = true) : RS (rS5 de sd s sn 0 i n) ∧ EXx (rS5 de sd s sn 0 i n) de sd := by
  obtain ⟨f1, f2, rq, rt⟩ := P_de h hi
  obtain ⟨hL, hRd, hRs, hV, hb, hs, hS, hE, hRS, hX⟩ := id h
  obtain ⟨o1, o2, o3⟩ := OK_t hv
  obtain ⟨z1, z2⟩ := ps_Z hRS hE hX rq rt (show 0 ≤ i ∧ i ≤ 9 by omega) hn (Int.le_trans o1 (fAS_0 hX (by omega))) o2 o3
  exact ⟨z1, hX.1, z2⟩
theorem pay1_s4 {db sn re fl : Int} {c1 c2 c3 c4 c5 c6 c7 c8 g1 g2 g3 g4 g5 s de sd : Nat → Int32} {i n : Int} (h : PH db sn re fl c1 c2 c3 c4 c5 c6 c7 c8 g1 g2 g3 g4 g5 s de sd) (hi : 0 ≤ i ∧ i < sn) (hn : 1 ≤ n ∧ n ≤ 999) (hv : rOK de sd s sn 1 i n = true) : RS (ps2 (rS3 de sd s 1 i n) (Int.toNat (10 + i)) n) ∧ EXx (ps2 (rS3 de sd s 1 i n) (Int.toNat (10 + i)) n) de sd := by
  obtain ⟨e4, e5, e6, e7, rp, rd, -⟩ := P_st h hi
  obtain ⟨f1, f2, rq, rt⟩ := P_de h rd
  obtain ⟨hL, hRd, hRs, hV, hb, hs, hS, hE, hRS, hX⟩ := id h
  obtain ⟨o1, o2, o3⟩ := OK_t hv
  have z := ps_Z hRS hE hX rp rt (show 0 ≤ (sd (Int.toNat (5 * i + 1))).toInt ∧ (sd (Int.toNat (5 * i + 1))).toInt ≤ 9 by omega) hn (Int.le_trans o1 (fAS_1 hX hS (by omega))) o2 o3
  obtain ⟨z1, z2⟩ := ps_i (P := Int.toNat (10 + i)) (n := n) (by omega) z
  exact ⟨z1, hX.1, z2⟩
theorem pay1_s {db sn re fl : Int} {c1 c2 c3 c4 c5 c6 c7 c8 g1 g2 g3 g4 g5 s de sd : Nat → Int32} {i n : Int} (h : PH db sn re fl c1 c2 c3 c4 c5 c6 c7 c8 g1 g2 g3 g4 g5 s de sd) (hi : 0 ≤ i ∧ i < sn) (hn : 1 ≤ n ∧ n ≤ 999) (hv : rOK de sd s sn 1 i n = true) : RS (rS5 de sd s sn 1 i n) ∧ EXx (rS5 de sd s sn 1 i n) de sd := by
  obtain ⟨z1, z2⟩ := pay1_s4 h hi hn hv
  obtain ⟨hL, hRd, hRs, hV, hb, hs, hS, hE, hRS, hX⟩ := id h
  exact RS_o2 z1 z2 (fun k hk => rGB_o hS hE (by omega) (fun q => sd_3 hX (by omega) q) hk)
theorem pay0_L {db sn re fl : Int} {c1 c2 c3 c4 c5 c6 c7 c8 g1 g2 g3 g4 g5 s de sd : Nat → Int32} {i n : Int} (h : PH db sn re fl c1 c2 c3 c4 c5 c6 c7 c8 g1 g2 g3 g4 g5 s de sd) (hi : 0 ≤ i ∧ i < db) : LG sn (ps2 g1 (Int.toNat i) n) g2 g3 g4 (ps2 (ps1 g5 (Int.toNat (c1 (Int.toNat i)).toInt) n) (Int.toNat (c2 (Int.toNat i)).toInt) n) re fl (rS5 de sd s sn 0 i n) := by
  obtain ⟨f1, f2, rq, rt⟩ := P_de h hi
  obtain ⟨hL, hRd, hRs, hV, hb, hs, hS, hE, hRS, hX⟩ := id h
  rw [f1, f2]
  exact LG_mv hs.2 rq rt (show 0 ≤ i ∧ i ≤ 9 by omega) hL
/-- what is owed back, on both sides -/
theorem AB_L {db sn re fl : Int} {c1 c2 c3 c4 c5 c6 c7 c8 g1 g2 g3 g4 g5 s de sd : Nat → Int32} {i n : Int} (h : PH db sn re fl c1 c2 c3 c4 c5 c6 c7 c8 g1 g2 g3 g4 g5 s de sd) (hi : 0 ≤ i ∧ i < sn) : LG sn g1 g2 g3 (cAB c1 c4 c5 c6 c7 g4 sn re fl i n) g5 re fl (rGB de sd s sn i n) := by
  obtain ⟨e4, e5, e6, e7, rp, rd, h3⟩ := P_st h hi
  obtain ⟨f1, f2, rq, rt⟩ := P_de h rd
  obtain ⟨hL, hRd, hRs, hV, hb, hs, hS, hE, hRS, hX⟩ := id h
  unfold cAB rGB
  rw [e4, e5, e6, e7, f1]
  by_cases q : (sd (Int.toNat (5 * i + 2))).toInt = 3
  · have ru := h3 q
    obtain ⟨u4, -, -, -, up, -, -⟩ := P_st h ru
    rw [decide_eq_true q, cond_true, cond_true, show i3 (sd (Int.toNat (5 * i + 3))).toInt 0 (sn - 1) = true by simp [i3]; omega, cond_true, u4]
    exact LG_ow hs.2 up rp hL
  · rw [decide_eq_false q, cond_false, cond_false]
    have eF : fF s (de (Int.toNat (3 * (sd (Int.toNat (5 * i + 1))).toInt))).toInt = zb (Int32.ofInt fl) (Int.toNat (de (Int.toNat (3 * (sd (Int.toNat (5 * i + 1))).toInt))).toInt) := by unfold fF; rw [hL.2.2.2.2.2.2.2.1]
    rw [eF]
    cases zb (Int32.ofInt fl) (Int.toNat (de (Int.toNat (3 * (sd (Int.toNat (5 * i + 1))).toInt))).toInt) with
    | false => exact LG_ow hs.2 rq rp hL
    | true =>
      obtain ⟨s1, s2⟩ := cSS_eq (d := (sd (Int.toNat (5 * i + 1))).toInt) (y := (sd (Int.toNat (5 * i))).toInt) hs hS hL hRs rp
      rw [cond_true, cond_true, s2]
      exact LG_sb hs.2 rp s1 hL 8 (by decide)
theorem pay1_L {db sn re fl : Int} {c1 c2 c3 c4 c5 c6 c7 c8 g1 g2 g3 g4 g5 s de sd : Nat → Int32} {i n : Int} (h : PH db sn re fl c1 c2 c3 c4 c5 c6 c7 c8 g1 g2 g3 g4 g5 s de sd) (hi : 0 ≤ i ∧ i < sn) (hn : 1 ≤ n ∧ n ≤ 999) (hv : rOK de sd s sn 1 i n = true) : LG sn (ps2 g1 (Int.toNat (c5 (Int.toNat i)).toInt) n) (ps2 g2 (Int.toNat i) n) g3 (cAB c1 c4 c5 c6 c7 g4 sn re fl i n) (ps2 (ps1 g5 (Int.toNat (c4 (Int.toNat i)).toInt) n) (Int.toNat (c2 (Int.toNat (c5 (Int.toNat i)).toInt)).toInt) n) re fl (rS5 de sd s sn 1 i n) := by
  obtain ⟨e4, e5, e6, e7, rp, rd, h3⟩ := P_st h hi
  obtain ⟨f1, f2, rq, rt⟩ := P_de h rd
  obtain ⟨hL, hRd, hRs, hV, hb, hs, hS, hE, hRS, hX⟩ := id h
  obtain ⟨z1, z2⟩ := pay1_s4 h hi hn hv
  rw [e4, e5, f2]
  have L3 := LG_mv (n := n) hs.2 rp rt (show 0 ≤ (sd (Int.toNat (5 * i + 1))).toInt ∧ (sd (Int.toNat (5 * i + 1))).toInt ≤ 9 by omega) hL
  have L4 := LG_p2 (n := n) (k := Int.toNat i) hs.2 (by omega) L3
  rw [show 10 + Int.toNat i = Int.toNat (10 + i) by omega] at L4
  exact AB_L (n := n) (⟨L4, hRd, hRs, hV, hb, hs, hS, hE, z1, z2⟩ : PH db sn re fl c1 c2 c3 c4 c5 c6 c7 c8 (ps2 g1 (Int.toNat (sd (Int.toNat (5 * i + 1))).toInt) n) (ps2 g2 (Int.toNat i) n) g3 g4 (ps2 (ps1 g5 (Int.toNat (sd (Int.toNat (5 * i))).toInt) n) (Int.toNat (de (Int.toNat (3 * (sd (Int.toNat (5 * i + 1))).toInt + 1))).toInt) n) (ps2 (rS3 de sd s 1 i n) (Int.toNat (10 + i)) n) de sd) hi
theorem LI_pay0 {mw : List va_E} {k i n : Int} (hk : -2147483648 ≤ k ∧ k ≤ 2147483647) (hi : -2147483648 ≤ i ∧ i ≤ 2147483647) (hn : -2147483648 ≤ n ∧ n ≤ 2147483647) (h : LI false mw) : ∃ (c : Int) (mw1 mw2 : List va_E), sX11_pay [.ref 0, iv k, iv i, iv n] mw = some (some (iv c), mw1) ∧ sX12_pay [.ref 56, iv k, iv i, iv n] mw1 = some (some (iv c), mw2) ∧ LI false mw2 ∧ mid mw1 := by
  refine LI_elim h (fun ki ln bt rl cp cs ct cv rr dr ja ea ma a1 a2 a3 a4 a5 a6 a7 a8 jb eb mb b1 b2 b3 b4 b5 b6 b7 b8 re fl g1 g2 g3 g4 g5 rt la rs rg pd du ds me tt gr su gp mk rf m1 m2 m3 m4 m5 mr mf n1 n2 n3 n4 n5 nr nf th tr db sn dm sm ty nx tk pl va fa lr ri s kp ik tn de sd dd sr tx pa e hh => ?_)
  obtain ⟨⟨⟨hla, hrf⟩, ⟨e1, e2⟩, ⟨q1, q2, q3, q4, q5, q6, q7, q8, q9, q10⟩, r1, r2, r3, r4, r5, r6, r7, r8, r9, r10⟩, hX, hK, ⟨et, hl⟩, hRo, hRo2, hLG, hI0, hI1, hik, htt, hmk⟩ := hh
  subst e
  clear h
  obtain rfl : rr = 5 := e1
  obtain rfl : dr = 14 := e2
  obtain ⟨k1, k2, k3, k4, k5⟩ := hRo rfl
  subst k1
  subst k2
  cases hok : (fTH ea ma k i && i3 n 1 999) with
  | false =>
    refine ⟨-1, (GW ki ln bt rl cp cs ct cv 5 14 ja ea ma a1 a2 a3 a4 a5 a6 a7 a8 jb eb mb b1 b2 b3 b4 b5 b6 b7 b8 re fl g1 g2 g3 g4 g5 rt la rs rg pd du ds me tt gr su gp mk rf m1 m2 m3 m4 m5 mr mf n1 n2 n3 n4 n5 nr nf th tr ea ma dm sm ty nx tk pl va fa lr ri s kp ik tn de sd dd sr tx pa), (GW ki ln bt rl cp cs ct cv 5 14 ja ea ma a1 a2 a3 a4 a5 a6 a7 a8 jb eb mb b1 b2 b3 b4 b5 b6 b7 b8 re fl g1 g2 g3 g4 g5 rt la rs rg pd du ds me tt gr su gp mk rf m1 m2 m3 m4 m5 mr mf n1 n2 n3 n4 n5 nr nf 0 tr ea ma dm sm ty nx tk pl va fa lr ri s kp ik tn de sd dd sr tx pa), c_payB0 hk hi hn r1 r2 hok, c_payRB (C := (cW ki ln bt rl cp cs ct cv 5 14 ja ea ma a1 a2 a3 a4 a5 a6 a7 a8 jb eb mb b1 b2 b3 b4 b5 b6 b7 b8 re fl g1 g2 g3 g4 g5 (dW rt la rs rg pd du ds me tt gr su gp mk rf m1 m2 m3 m4 m5 mr mf n1 n2 n3 n4 n5 nr nf []))) (th := th) (tr := tr) (db := ea) (sn := ma) (dm := dm) (sm := sm) (ty := ty) (nx := nx) (tk := tk) (pl := pl) (va := va) (fa := fa) (lr := lr) (ri := ri) (s := s) (kp := kp) (ik := ik) (tn := tn) (de := de) (sd := sd) (dd := dd) (sr := sr) (tx := tx) (pa := pa) rfl hk hi hn r1 r2 hok, ?_, mid_GW⟩
    exact LI_to ⟨⟨⟨hla, hrf⟩, ⟨rfl, rfl⟩, ⟨q1, q2, q3, q4, q5, q6, q7, q8, q9, q10⟩, r1, r2, r3, r4, r5, r6, r7, r8, r9, r10⟩, hX, hK, ⟨et, hl⟩, hRo, hRo2, hLG, hI0, hI1, hik, htt, hmk⟩
  | true =>
    rw [Bool.and_eq_true] at hok
    obtain ⟨w1, w2⟩ := hok
    have rn' := i3_t w2
    have h5 : ∀ p : Nat, p < 8 → 0 ≤ (g5 p).toInt ∧ (g5 p).toInt ≤ 9999 := fun p hp => by rw [hLG.2.2.2.2.1 p hp]; exact r6.2 _ (by omega) (by omega)
    have hP : PH ea ma re fl a1 a2 a3 a4 a5 a6 a7 a8 g1 g2 g3 g4 g5 s de sd := ⟨hLG, k3, k4, k5, r1, r2, r9, r8, r6, hX⟩
    rcases fTH_t r1 r2 w1 with ⟨rfl, vri⟩ | ⟨rfl, vri⟩
    · have vrs := TH_1 w1
      obtain ⟨e4, e5, e6, e7, rp, rd, h3⟩ := P_st hP vrs
      have hE := pay1_eq hP vrs rn'.1
      have hB := (cSS_eq (d := (a5 (Int.toNat i)).toInt) (y := (a4 (Int.toNat i)).toInt) r2 r9 hLG k4 (by rw [e4]; exact rp)).2
      have hB2 : 0 ≤ bcF (cSS a4 a5 a6 ma re fl (a5 (Int.toNat i)).toInt (a4 (Int.toNat i)).toInt) ∧ bcF (cSS a4 a5 a6 ma re fl (a5 (Int.toNat i)).toInt (a4 (Int.toNat i)).toInt) ≤ 32 := by
        rw [hB]
        have := rGm_r (sd := sd) (s := s) (d := (a5 (Int.toNat i)).toInt) (y := (a4 (Int.toNat i)).toInt) ma.toNat
        omega
      cases hv : rOK de sd s ma 1 i n with
      | false =>
        refine ⟨-2, (GW ki ln bt rl cp cs ct cv 5 14 ja ea ma a1 a2 a3 a4 a5 a6 a7 a8 jb eb mb b1 b2 b3 b4 b5 b6 b7 b8 re fl g1 g2 g3 g4 g5 rt la rs rg pd du ds me tt gr su gp mk rf m1 m2 m3 m4 m5 mr mf n1 n2 n3 n4 n5 nr nf th tr ea ma dm sm ty nx tk pl va fa lr ri s kp ik tn de sd dd sr tx pa), (GW ki ln bt rl cp cs ct cv 5 14 ja ea ma a1 a2 a3 a4 a5 a6 a7 a8 jb eb mb b1 b2 b3 b4 b5 b6 b7 b8 re fl g1 g2 g3 g4 g5 rt la rs rg pd du ds me tt gr su gp mk rf m1 m2 m3 m4 m5 mr mf n1 n2 n3 n4 n5 nr nf 0 tr ea ma dm sm ty nx tk pl va fa lr ri s kp ik tn de sd dd sr tx pa), c_payG0_10 q7 q8 r2 h5 r1 vri rn' hB2 w1 (hE.trans hv), c_payR10 (C := (cW ki ln bt rl cp cs ct cv 5 14 ja ea ma a1 a2 a3 a4 a5 a6 a7 a8 jb eb mb b1 b2 b3 b4 b5 b6 b7 b8 re fl g1 g2 g3 g4 g5 (dW rt la rs rg pd du ds me tt gr su gp mk rf m1 m2 m3 m4 m5 mr mf n1 n2 n3 n4 n5 nr nf []))) (th := th) (tr := tr) (db := ea) (sn := ma) (dm := dm) (sm := sm) (ty := ty) (nx := nx) (tk := tk) (pl := pl) (va := va) (fa := fa) (lr := lr) (ri := ri) (s := s) (kp := kp) (ik := ik) (tn := tn) (de := de) (sd := sd) (dd := dd) (sr := sr) (tx := tx) (pa := pa) rfl r9 r8 hX r6 r1 r2 vri rn' w1 hv, ?_, mid_GW⟩
        exact LI_to ⟨⟨⟨hla, hrf⟩, ⟨rfl, rfl⟩, ⟨q1, q2, q3, q4, q5, q6, q7, q8, q9, q10⟩, r1, r2, r3, r4, r5, r6, r7, r8, r9, r10⟩, hX, hK, ⟨et, hl⟩, hRo, hRo2, hLG, hI0, hI1, hik, htt, hmk⟩
      | true =>
        obtain ⟨z1, z2⟩ := pay1_s hP vrs rn' hv
        have hL := pay1_L hP vrs rn' hv
        refine ⟨fR de (rS5 de sd s ma 1 i n) (sd (Int.toNat (5 * i + 1))).toInt, (GW ki ln bt rl cp cs ct cv 5 14 ja ea ma a1 a2 a3 a4 a5 a6 a7 a8 jb eb mb b1 b2 b3 b4 b5 b6 b7 b8 re fl (ps2 g1 (Int.toNat (a5 (Int.toNat i)).toInt) n) (ps2 g2 (Int.toNat i) n) g3 (cAB a1 a4 a5 a6 a7 g4 ma re fl i n) (ps2 (ps1 g5 (Int.toNat (a4 (Int.toNat i)).toInt) n) (Int.toNat (a2 (Int.toNat (a5 (Int.toNat i)).toInt)).toInt) n) rt la rs rg pd du ds me tt gr su gp mk rf m1 m2 m3 m4 m5 mr mf n1 n2 n3 n4 n5 nr nf th tr ea ma dm sm ty nx tk pl va fa lr ri s kp ik tn de sd dd sr tx pa), (GW ki ln bt rl cp cs ct cv 5 14 ja ea ma a1 a2 a3 a4 a5 a6 a7 a8 jb eb mb b1 b2 b3 b4 b5 b6 b7 b8 re fl (ps2 g1 (Int.toNat (a5 (Int.toNat i)).toInt) n) (ps2 g2 (Int.toNat i) n) g3 (cAB a1 a4 a5 a6 a7 g4 ma re fl i n) (ps2 (ps1 g5 (Int.toNat (a4 (Int.toNat i)).toInt) n) (Int.toNat (a2 (Int.toNat (a5 (Int.toNat i)).toInt)).toInt) n) rt la rs rg pd du ds me tt gr su gp mk rf m1 m2 m3 m4 m5 mr mf n1 n2 n3 n4 n5 nr nf 0 tr ea ma dm sm ty nx tk pl va fa lr ri (rS5 de sd s ma 1 i n) kp ik tn de sd dd sr tx pa), ?_, c_payR11 (C := (cW ki ln bt rl cp cs ct cv 5 14 ja ea ma a1 a2 a3 a4 a5 a6 a7 a8 jb eb mb b1 b2 b3 b4 b5 b6 b7 b8 re fl (ps2 g1 (Int.toNat (a5 (Int.toNat i)).toInt) n) (ps2 g2 (Int.toNat i) n) g3 (cAB a1 a4 a5 a6 a7 g4 ma re fl i n) (ps2 (ps1 g5 (Int.toNat (a4 (Int.toNat i)).toInt) n) (Int.toNat (a2 (Int.toNat (a5 (Int.toNat i)).toInt)).toInt) n) (dW rt la rs rg pd du ds me tt gr su gp mk rf m1 m2 m3 m4 m5 mr mf n1 n2 n3 n4 n5 nr nf []))) (th := th) (tr := tr) (db := ea) (sn := ma) (dm := dm) (sm := sm) (ty := ty) (nx := nx) (tk := tk) (pl := pl) (va := va) (fa := fa) (lr := lr) (ri := ri) (s := s) (kp := kp) (ik := ik) (tn := tn) (de := de) (sd := sd) (dd := dd) (sr := sr) (tx := tx) (pa := pa) rfl r9 r8 hX r6 r1 r2 vri rn' w1 hv, ?_, mid_GW⟩
        · rw [← cR_eq hL k3 rd r1.2, ← e5]
          exact c_payG0_11 q7 q8 r2 h5 r1 vri rn' hB2 w1 (hE.trans hv)
        · exact LI_to ⟨⟨⟨hla, hrf⟩, ⟨rfl, rfl⟩, ⟨q1, q2, q3, q4, q5, q6, q7, q8, q9, q10⟩, r1, r2, r3, r4, r5, z1, r7, r8, r9, r10⟩, z2, hK, ⟨et, hl⟩, hRo, hRo2, hL, hI0, hI1, hik, htt, hmk⟩
    · have vrs := TH_0 w1
      have hE := pay0_eq (n := n) hP vrs
      cases hv : rOK de sd s ma 0 i n with
      | false =>
        refine ⟨-2, (GW ki ln bt rl cp cs ct cv 5 14 ja ea ma a1 a2 a3 a4 a5 a6 a7 a8 jb eb mb b1 b2 b3 b4 b5 b6 b7 b8 re fl g1 g2 g3 g4 g5 rt la rs rg pd du ds me tt gr su gp mk rf m1 m2 m3 m4 m5 mr mf n1 n2 n3 n4 n5 nr nf th tr ea ma dm sm ty nx tk pl va fa lr ri s kp ik tn de sd dd sr tx pa), (GW ki ln bt rl cp cs ct cv 5 14 ja ea ma a1 a2 a3 a4 a5 a6 a7 a8 jb eb mb b1 b2 b3 b4 b5 b6 b7 b8 re fl g1 g2 g3 g4 g5 rt la rs rg pd du ds me tt gr su gp mk rf m1 m2 m3 m4 m5 mr mf n1 n2 n3 n4 n5 nr nf 0 tr ea ma dm sm ty nx tk pl va fa lr ri s kp ik tn de sd dd sr tx pa), c_payG0_00 q7 q8 r2 h5 r1 vri rn' w1 (hE.trans hv), c_payR00 (C := (cW ki ln bt rl cp cs ct cv 5 14 ja ea ma a1 a2 a3 a4 a5 a6 a7 a8 jb eb mb b1 b2 b3 b4 b5 b6 b7 b8 re fl g1 g2 g3 g4 g5 (dW rt la rs rg pd du ds me tt gr su gp mk rf m1 m2 m3 m4 m5 mr mf n1 n2 n3 n4 n5 nr nf []))) (th := th) (tr := tr) (db := ea) (sn := ma) (dm := dm) (sm := sm) (ty := ty) (nx := nx) (tk := tk) (pl := pl) (va := va) (fa := fa) (lr := lr) (ri := ri) (s := s) (kp := kp) (ik := ik) (tn := tn) (de := de) (sd := sd) (dd := dd) (sr := sr) (tx := tx) (pa := pa) rfl r9 r8 hX r6 r1 r2 vri rn' w1 hv, ?_, mid_GW⟩
        exact LI_to ⟨⟨⟨hla, hrf⟩, ⟨rfl, rfl⟩, ⟨q1, q2, q3, q4, q5, q6, q7, q8, q9, q10⟩, r1, r2, r3, r4, r5, r6, r7, r8, r9, r10⟩, hX, hK, ⟨et, hl⟩, hRo, hRo2, hLG, hI0, hI1, hik, htt, hmk⟩
      | true =>
        obtain ⟨z1, z2⟩ := pay0_s hP vrs rn' hv
        have hL := pay0_L (n := n) hP vrs
        refine ⟨fR de (rS5 de sd s ma 0 i n) i, (GW ki ln bt rl cp cs ct cv 5 14 ja ea ma a1 a2 a3 a4 a5 a6 a7 a8 jb eb mb b1 b2 b3 b4 b5 b6 b7 b8 re fl (ps2 g1 (Int.toNat i) n) g2 g3 g4 (ps2 (ps1 g5 (Int.toNat (a1 (Int.toNat i)).toInt) n) (Int.toNat (a2 (Int.toNat i)).toInt) n) rt la rs rg pd du ds me tt gr su gp mk rf m1 m2 m3 m4 m5 mr mf n1 n2 n3 n4 n5 nr nf th tr ea ma dm sm ty nx tk pl va fa lr ri s kp ik tn de sd dd sr tx pa), (GW ki ln bt rl cp cs ct cv 5 14 ja ea ma a1 a2 a3 a4 a5 a6 a7 a8 jb eb mb b1 b2 b3 b4 b5 b6 b7 b8 re fl (ps2 g1 (Int.toNat i) n) g2 g3 g4 (ps2 (ps1 g5 (Int.toNat (a1 (Int.toNat i)).toInt) n) (Int.toNat (a2 (Int.toNat i)).toInt) n) rt la rs rg pd du ds me tt gr su gp mk rf m1 m2 m3 m4 m5 mr mf n1 n2 n3 n4 n5 nr nf 0 tr ea ma dm sm ty nx tk pl va fa lr ri (rS5 de sd s ma 0 i n) kp ik tn de sd dd sr tx pa), ?_, c_payR01 (C := (cW ki ln bt rl cp cs ct cv 5 14 ja ea ma a1 a2 a3 a4 a5 a6 a7 a8 jb eb mb b1 b2 b3 b4 b5 b6 b7 b8 re fl (ps2 g1 (Int.toNat i) n) g2 g3 g4 (ps2 (ps1 g5 (Int.toNat (a1 (Int.toNat i)).toInt) n) (Int.toNat (a2 (Int.toNat i)).toInt) n) (dW rt la rs rg pd du ds me tt gr su gp mk rf m1 m2 m3 m4 m5 mr mf n1 n2 n3 n4 n5 nr nf []))) (th := th) (tr := tr) (db := ea) (sn := ma) (dm := dm) (sm := sm) (ty := ty) (nx := nx) (tk := tk) (pl := pl) (va := va) (fa := fa) (lr := lr) (ri := ri) (s := s) (kp := kp) (ik := ik) (tn := tn) (de := de) (sd := sd) (dd := dd) (sr := sr) (tx := tx) (pa := pa) rfl r9 r8 hX r6 r1 r2 vri rn' w1 hv, ?_, mid_GW⟩
        · rw [← cR_eq hL k3 vrs r1.2]
          exact c_payG0_01 q7 q8 r2 h5 r1 vri rn' w1 (hE.trans hv)
        · exact LI_to ⟨⟨⟨hla, hrf⟩, ⟨rfl, rfl⟩, ⟨q1, q2, q3, q4, q5, q6, q7, q8, q9, q10⟩, r1, r2, r3, r4, r5, z1, r7, r8, r9, r10⟩, z2, hK, ⟨et, hl⟩, hRo, hRo2, hL, hI0, hI1, hik, htt, hmk⟩
theorem LI_pay1 {mw : List va_E} {k i n : Int} (hk : -2147483648 ≤ k ∧ k ≤ 2147483647) (hi : -2147483648 ≤ i ∧ i ≤ 2147483647) (hn : -2147483648 ≤ n ∧ n ≤ 2147483647) (h : LI true mw) : ∃ (c : Int) (mw1 mw2 : List va_E), sX11_pay [.ref 0, iv k, iv i, iv n] mw = some (some (iv c), mw1) ∧ sX12_pay [.ref 56, iv k, iv i, iv n] mw1 = some (some (iv c), mw2) ∧ LI true mw2 ∧ mid mw1 := by
  refine LI_elim h (fun ki ln bt rl cp cs ct cv rr dr ja ea ma a1 a2 a3 a4 a5 a6 a7 a8 jb eb mb b1 b2 b3 b4 b5 b6 b7 b8 re fl g1 g2 g3 g4 g5 rt la rs rg pd du ds me tt gr su gp mk rf m1 m2 m3 m4 m5 mr mf n1 n2 n3 n4 n5 nr nf th tr db sn dm sm ty nx tk pl va fa lr ri s kp ik tn de sd dd sr tx pa e hh => ?_)
  obtain ⟨⟨⟨hla, hrf⟩, ⟨e1, e2⟩, ⟨q1, q2, q3, q4, q5, q6, q7, q8, q9, q10⟩, r1, r2, r3, r4, r5, r6, r7, r8, r9, r10⟩, hX, hK, ⟨et, hl⟩, hRo, hRo2, hLG, hI0, hI1, hik, htt, hmk⟩ := hh
  subst e
  clear h
  obtain rfl : rr = 14 := e1
  obtain rfl : dr = 5 := e2
  obtain ⟨k1, k2, k3, k4, k5⟩ := hRo2 rfl
  subst k1
  subst k2
  cases hok : (fTH eb mb k i && i3 n 1 999) with
  | false =>
    refine ⟨-1, (GW ki ln bt rl cp cs ct cv 14 5 ja ea ma a1 a2 a3 a4 a5 a6 a7 a8 jb eb mb b1 b2 b3 b4 b5 b6 b7 b8 re fl g1 g2 g3 g4 g5 rt la rs rg pd du ds me tt gr su gp mk rf m1 m2 m3 m4 m5 mr mf n1 n2 n3 n4 n5 nr nf th tr eb mb dm sm ty nx tk pl va fa lr ri s kp ik tn de sd dd sr tx pa), (GW ki ln bt rl cp cs ct cv 14 5 ja ea ma a1 a2 a3 a4 a5 a6 a7 a8 jb eb mb b1 b2 b3 b4 b5 b6 b7 b8 re fl g1 g2 g3 g4 g5 rt la rs rg pd du ds me tt gr su gp mk rf m1 m2 m3 m4 m5 mr mf n1 n2 n3 n4 n5 nr nf 0 tr eb mb dm sm ty nx tk pl va fa lr ri s kp ik tn de sd dd sr tx pa), c_payB1 hk hi hn r1 r2 hok, c_payRB (C := (cW ki ln bt rl cp cs ct cv 14 5 ja ea ma a1 a2 a3 a4 a5 a6 a7 a8 jb eb mb b1 b2 b3 b4 b5 b6 b7 b8 re fl g1 g2 g3 g4 g5 (dW rt la rs rg pd du ds me tt gr su gp mk rf m1 m2 m3 m4 m5 mr mf n1 n2 n3 n4 n5 nr nf []))) (th := th) (tr := tr) (db := eb) (sn := mb) (dm := dm) (sm := sm) (ty := ty) (nx := nx) (tk := tk) (pl := pl) (va := va) (fa := fa) (lr := lr) (ri := ri) (s := s) (kp := kp) (ik := ik) (tn := tn) (de := de) (sd := sd) (dd := dd) (sr := sr) (tx := tx) (pa := pa) rfl hk hi hn r1 r2 hok, ?_, mid_GW⟩
    exact LI_to ⟨⟨⟨hla, hrf⟩, ⟨rfl, rfl⟩, ⟨q1, q2, q3, q4, q5, q6, q7, q8, q9, q10⟩, r1, r2, r3, r4, r5, r6, r7, r8, r9, r10⟩, hX, hK, ⟨et, hl⟩, hRo, hRo2, hLG, hI0, hI1, hik, htt, hmk⟩
  | true =>
    rw [Bool.and_eq_true] at hok
    obtain ⟨w1, w2⟩ := hok
    have rn' := i3_t w2
    have h5 : ∀ p : Nat, p < 8 → 0 ≤ (g5 p).toInt ∧ (g5 p).toInt ≤ 9999 := fun p hp => by rw [hLG.2.2.2.2.1 p hp]; exact r6.2 _ (by omega) (by omega)
    have hP : PH eb mb re fl b1 b2 b3 b4 b5 b6 b7 b8 g1 g2 g3 g4 g5 s de sd := ⟨hLG, k3, k4, k5, r1, r2, r9, r8, r6, hX⟩
    rcases fTH_t r1 r2 w1 with ⟨rfl, vri⟩ | ⟨rfl, vri⟩
    · have vrs := TH_1 w1
      obtain ⟨e4, e5, e6, e7, rp, rd, h3⟩ := P_st hP vrs
      have hE := pay1_eq hP vrs rn'.1
      have hB := (cSS_eq (d := (b5 (Int.toNat i)).toInt) (y := (b4 (Int.toNat i)).toInt) r2 r9 hLG k4 (by rw [e4]; exact rp)).2
      have hB2 : 0 ≤ bcF (cSS b4 b5 b6 mb re fl (b5 (Int.toNat i)).toInt (b4 (Int.toNat i)).toInt) ∧ bcF (cSS b4 b5 b6 mb re fl (b5 (Int.toNat i)).toInt (b4 (Int.toNat i)).toInt) ≤ 32 := by
        rw [hB]
        have := rGm_r (sd := sd) (s := s) (d := (b5 (Int.toNat i)).toInt) (y := (b4 (Int.toNat i)).toInt) mb.toNat
        omega
      cases hv : rOK de sd s mb 1 i n with
      | false =>
        refine ⟨-2, (GW ki ln bt rl cp cs ct cv 14 5 ja ea ma a1 a2 a3 a4 a5 a6 a7 a8 jb eb mb b1 b2 b3 b4 b5 b6 b7 b8 re fl g1 g2 g3 g4 g5 rt la rs rg pd du ds me tt gr su gp mk rf m1 m2 m3 m4 m5 mr mf n1 n2 n3 n4 n5 nr nf th tr eb mb dm sm ty nx tk pl va fa lr ri s kp ik tn de sd dd sr tx pa), (GW ki ln bt rl cp cs ct cv 14 5 ja ea ma a1 a2 a3 a4 a5 a6 a7 a8 jb eb mb b1 b2 b3 b4 b5 b6 b7 b8 re fl g1 g2 g3 g4 g5 rt la rs rg pd du ds me tt gr su gp mk rf m1 m2 m3 m4 m5 mr mf n1 n2 n3 n4 n5 nr nf 0 tr eb mb dm sm ty nx tk pl va fa lr ri s kp ik tn de sd dd sr tx pa), c_payG1_10 q9 q10 r2 h5 r1 vri rn' hB2 w1 (hE.trans hv), c_payR10 (C := (cW ki ln bt rl cp cs ct cv 14 5 ja ea ma a1 a2 a3 a4 a5 a6 a7 a8 jb eb mb b1 b2 b3 b4 b5 b6 b7 b8 re fl g1 g2 g3 g4 g5 (dW rt la rs rg pd du ds me tt gr su gp mk rf m1 m2 m3 m4 m5 mr mf n1 n2 n3 n4 n5 nr nf []))) (th := th) (tr := tr) (db := eb) (sn := mb) (dm := dm) (sm := sm) (ty := ty) (nx := nx) (tk := tk) (pl := pl) (va := va) (fa := fa) (lr := lr) (ri := ri) (s := s) (kp := kp) (ik := ik) (tn := tn) (de := de) (sd := sd) (dd := dd) (sr := sr) (tx := tx) (pa := pa) rfl r9 r8 hX r6 r1 r2 vri rn' w1 hv, ?_, mid_GW⟩
        exact LI_to ⟨⟨⟨hla, hrf⟩, ⟨rfl, rfl⟩, ⟨q1, q2, q3, q4, q5, q6, q7, q8, q9, q10⟩, r1, r2, r3, r4, r5, r6, r7, r8, r9, r10⟩, hX, hK, ⟨et, hl⟩, hRo, hRo2, hLG, hI0, hI1, hik, htt, hmk⟩
      | true =>
        obtain ⟨z1, z2⟩ := pay1_s hP vrs rn' hv
        have hL := pay1_L hP vrs rn' hv
        refine ⟨fR de (rS5 de sd s mb 1 i n) (sd (Int.toNat (5 * i + 1))).toInt, (GW ki ln bt rl cp cs ct cv 14 5 ja ea ma a1 a2 a3 a4 a5 a6 a7 a8 jb eb mb b1 b2 b3 b4 b5 b6 b7 b8 re fl (ps2 g1 (Int.toNat (b5 (Int.toNat i)).toInt) n) (ps2 g2 (Int.toNat i) n) g3 (cAB b1 b4 b5 b6 b7 g4 mb re fl i n) (ps2 (ps1 g5 (Int.toNat (b4 (Int.toNat i)).toInt) n) (Int.toNat (b2 (Int.toNat (b5 (Int.toNat i)).toInt)).toInt) n) rt la rs rg pd du ds me tt gr su gp mk rf m1 m2 m3 m4 m5 mr mf n1 n2 n3 n4 n5 nr nf th tr eb mb dm sm ty nx tk pl va fa lr ri s kp ik tn de sd dd sr tx pa), (GW ki ln bt rl cp cs ct cv 14 5 ja ea ma a1 a2 a3 a4 a5 a6 a7 a8 jb eb mb b1 b2 b3 b4 b5 b6 b7 b8 re fl (ps2 g1 (Int.toNat (b5 (Int.toNat i)).toInt) n) (ps2 g2 (Int.toNat i) n) g3 (cAB b1 b4 b5 b6 b7 g4 mb re fl i n) (ps2 (ps1 g5 (Int.toNat (b4 (Int.toNat i)).toInt) n) (Int.toNat (b2 (Int.toNat (b5 (Int.toNat i)).toInt)).toInt) n) rt la rs rg pd du ds me tt gr su gp mk rf m1 m2 m3 m4 m5 mr mf n1 n2 n3 n4 n5 nr nf 0 tr eb mb dm sm ty nx tk pl va fa lr ri (rS5 de sd s mb 1 i n) kp ik tn de sd dd sr tx pa), ?_, c_payR11 (C := (cW ki ln bt rl cp cs ct cv 14 5 ja ea ma a1 a2 a3 a4 a5 a6 a7 a8 jb eb mb b1 b2 b3 b4 b5 b6 b7 b8 re fl (ps2 g1 (Int.toNat (b5 (Int.toNat i)).toInt) n) (ps2 g2 (Int.toNat i) n) g3 (cAB b1 b4 b5 b6 b7 g4 mb re fl i n) (ps2 (ps1 g5 (Int.toNat (b4 (Int.toNat i)).toInt) n) (Int.toNat (b2 (Int.toNat (b5 (Int.toNat i)).toInt)).toInt) n) (dW rt la rs rg pd du ds me tt gr su gp mk rf m1 m2 m3 m4 m5 mr mf n1 n2 n3 n4 n5 nr nf []))) (th := th) (tr := tr) (db := eb) (sn := mb) (dm := dm) (sm := sm) (ty := ty) (nx := nx) (tk := tk) (pl := pl) (va := va) (fa := fa) (lr := lr) (ri := ri) (s := s) (kp := kp) (ik := ik) (tn := tn) (de := de) (sd := sd) (dd := dd) (sr := sr) (tx := tx) (pa := pa) rfl r9 r8 hX r6 r1 r2 vri rn' w1 hv, ?_, mid_GW⟩
        · rw [← cR_eq hL k3 rd r1.2, ← e5]
          exact c_payG1_11 q9 q10 r2 h5 r1 vri rn' hB2 w1 (hE.trans hv)
        · exact LI_to ⟨⟨⟨hla, hrf⟩, ⟨rfl, rfl⟩, ⟨q1, q2, q3, q4, q5, q6, q7, q8, q9, q10⟩, r1, r2, r3, r4, r5, z1, r7, r8, r9, r10⟩, z2, hK, ⟨et, hl⟩, hRo, hRo2, hL, hI0, hI1, hik, htt, hmk⟩
    · have vrs := TH_0 w1
      have hE := pay0_eq (n := n) hP vrs
      cases hv : rOK de sd s mb 0 i n with
      | false =>
        refine ⟨-2, (GW ki ln bt rl cp cs ct cv 14 5 ja ea ma a1 a2 a3 a4 a5 a6 a7 a8 jb eb mb b1 b2 b3 b4 b5 b6 b7 b8 re fl g1 g2 g3 g4 g5 rt la rs rg pd du ds me tt gr su gp mk rf m1 m2 m3 m4 m5 mr mf n1 n2 n3 n4 n5 nr nf th tr eb mb dm sm ty nx tk pl va fa lr ri s kp ik tn de sd dd sr tx pa), (GW ki ln bt rl cp cs ct cv 14 5 ja ea ma a1 a2 a3 a4 a5 a6 a7 a8 jb eb mb b1 b2 b3 b4 b5 b6 b7 b8 re fl g1 g2 g3 g4 g5 rt la rs rg pd du ds me tt gr su gp mk rf m1 m2 m3 m4 m5 mr mf n1 n2 n3 n4 n5 nr nf 0 tr eb mb dm sm ty nx tk pl va fa lr ri s kp ik tn de sd dd sr tx pa), c_payG1_00 q9 q10 r2 h5 r1 vri rn' w1 (hE.trans hv), c_payR00 (C := (cW ki ln bt rl cp cs ct cv 14 5 ja ea ma a1 a2 a3 a4 a5 a6 a7 a8 jb eb mb b1 b2 b3 b4 b5 b6 b7 b8 re fl g1 g2 g3 g4 g5 (dW rt la rs rg pd du ds me tt gr su gp mk rf m1 m2 m3 m4 m5 mr mf n1 n2 n3 n4 n5 nr nf []))) (th := th) (tr := tr) (db := eb) (sn := mb) (dm := dm) (sm := sm) (ty := ty) (nx := nx) (tk := tk) (pl := pl) (va := va) (fa := fa) (lr := lr) (ri := ri) (s := s) (kp := kp) (ik := ik) (tn := tn) (de := de) (sd := sd) (dd := dd) (sr := sr) (tx := tx) (pa := pa) rfl r9 r8 hX r6 r1 r2 vri rn' w1 hv, ?_, mid_GW⟩
        exact LI_to ⟨⟨⟨hla, hrf⟩, ⟨rfl, rfl⟩, ⟨q1, q2, q3, q4, q5, q6, q7, q8, q9, q10⟩, r1, r2, r3, r4, r5, r6, r7, r8, r9, r10⟩, hX, hK, ⟨et, hl⟩, hRo, hRo2, hLG, hI0, hI1, hik, htt, hmk⟩
      | true =>
        obtain ⟨z1, z2⟩ := pay0_s hP vrs rn' hv
        have hL := pay0_L (n := n) hP vrs
        refine ⟨fR de (rS5 de sd s mb 0 i n) i, (GW ki ln bt rl cp cs ct cv 14 5 ja ea ma a1 a2 a3 a4 a5 a6 a7 a8 jb eb mb b1 b2 b3 b4 b5 b6 b7 b8 re fl (ps2 g1 (Int.toNat i) n) g2 g3 g4 (ps2 (ps1 g5 (Int.toNat (b1 (Int.toNat i)).toInt) n) (Int.toNat (b2 (Int.toNat i)).toInt) n) rt la rs rg pd du ds me tt gr su gp mk rf m1 m2 m3 m4 m5 mr mf n1 n2 n3 n4 n5 nr nf th tr eb mb dm sm ty nx tk pl va fa lr ri s kp ik tn de sd dd sr tx pa), (GW ki ln bt rl cp cs ct cv 14 5 ja ea ma a1 a2 a3 a4 a5 a6 a7 a8 jb eb mb b1 b2 b3 b4 b5 b6 b7 b8 re fl (ps2 g1 (Int.toNat i) n) g2 g3 g4 (ps2 (ps1 g5 (Int.toNat (b1 (Int.toNat i)).toInt) n) (Int.toNat (b2 (Int.toNat i)).toInt) n) rt la rs rg pd du ds me tt gr su gp mk rf m1 m2 m3 m4 m5 mr mf n1 n2 n3 n4 n5 nr nf 0 tr eb mb dm sm ty nx tk pl va fa lr ri (rS5 de sd s mb 0 i n) kp ik tn de sd dd sr tx pa), ?_, c_payR01 (C := (cW ki ln bt rl cp cs ct cv 14 5 ja ea ma a1 a2 a3 a4 a5 a6 a7 a8 jb eb mb b1 b2 b3 b4 b5 b6 b7 b8 re fl (ps2 g1 (Int.toNat i) n) g2 g3 g4 (ps2 (ps1 g5 (Int.toNat (b1 (Int.toNat i)).toInt) n) (Int.toNat (b2 (Int.toNat i)).toInt) n) (dW rt la rs rg pd du ds me tt gr su gp mk rf m1 m2 m3 m4 m5 mr mf n1 n2 n3 n4 n5 nr nf []))) (th := th) (tr := tr) (db := eb) (sn := mb) (dm := dm) (sm := sm) (ty := ty) (nx := nx) (tk := tk) (pl := pl) (va := va) (fa := fa) (lr := lr) (ri := ri) (s := s) (kp := kp) (ik := ik) (tn := tn) (de := de) (sd := sd) (dd := dd) (sr := sr) (tx := tx) (pa := pa) rfl r9 r8 hX r6 r1 r2 vri rn' w1 hv, ?_, mid_GW⟩
        · rw [← cR_eq hL k3 vrs r1.2]
          exact c_payG1_01 q9 q10 r2 h5 r1 vri rn' w1 (hE.trans hv)
        · exact LI_to ⟨⟨⟨hla, hrf⟩, ⟨rfl, rfl⟩, ⟨q1, q2, q3, q4, q5, q6, q7, q8, q9, q10⟩, r1, r2, r3, r4, r5, z1, r7, r8, r9, r10⟩, z2, hK, ⟨et, hl⟩, hRo, hRo2, hL, hI0, hI1, hik, htt, hmk⟩
theorem LI_pay {v : Bool} {mw : List va_E} {k i n : Int} (hk : -2147483648 ≤ k ∧ k ≤ 2147483647) (hi : -2147483648 ≤ i ∧ i ≤ 2147483647) (hn : -2147483648 ≤ n ∧ n ≤ 2147483647) (h : LI v mw) : ∃ (c : Int) (mw1 mw2 : List va_E), sX11_pay [.ref 0, iv k, iv i, iv n] mw = some (some (iv c), mw1) ∧ sX12_pay [.ref 56, iv k, iv i, iv n] mw1 = some (some (iv c), mw2) ∧ LI v mw2 ∧ mid mw1 := by
  cases v with
  | false => exact LI_pay0 hk hi hn h
  | true => exact LI_pay1 hk hi hn h
