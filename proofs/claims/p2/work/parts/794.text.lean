/-! ===== both texts: type, clear, papers ===== -/
theorem tx_B {bt tx : Nat → Int32} {n : Int} (h : tx_like bt tx n) : ∀ k : Nat, (k : Int) < n → 0 ≤ (tx k).toInt ∧ (tx k).toInt ≤ 255 := by
  intro k hk
  have := (h k hk).2
  omega
theorem apr_rng {v : Int64} : ∀ (m : Nat) {bt : Nat → Int32} {p : Int}, (∀ j, j < 400 → i7 (bt j) (-128) 127) → ∀ j, j < 400 → i7 (apr (gC v) m p bt j) (-128) 127
  | 0, bt, p, h => h
  | m + 1, bt, p, h => apr_rng m (fun j hj => by
      by_cases e : j = Int.toNat p
      · rw [e, upd_same]; exact (g_like v m).1
      · rw [upd_ne e]; exact h j hj)
def mid (mw : List va_E) : Prop := mw[3000]? = none ∧ ∃ F, mw[56]? = some (.inr (12, F))
theorem rL_len {o : List Value} {s kp ik tn de sd dd sr tx pa : Nat → Int32} : (rL o s kp ik tn de sd dd sr tx pa).length = 11 := rfl
section MID
variable {ki : Int} {ln : Int} {bt : Nat → Int32} {rl : Value} {cp : Int} {cs : Int} {ct : Int} {cv : Int} {rr : Nat} {dr : Nat} {ja : Int} {ea : Int} {ma : Int} {a1 : Nat → Int32} {a2 : Nat → Int32} {a3 : Nat → Int32} {a4 : Nat → Int32} {a5 : Nat → Int32} {a6 : Nat → Int32} {a7 : Nat → Int32} {a8 : Nat → Int32} {jb : Int} {eb : Int} {mb : Int} {b1 : Nat → Int32} {b2 : Nat → Int32} {b3 : Nat → Int32} {b4 : Nat → Int32} {b5 : Nat → Int32} {b6 : Nat → Int32} {b7 : Nat → Int32} {b8 : Nat → Int32} {re : Int} {fl : Int} {g1 : Nat → Int32} {g2 : Nat → Int32} {g3 : Nat → Int32} {g4 : Nat → Int32} {g5 : Nat → Int32} {D : List va_E} {th : Int} {tr : Int64} {db : Int} {sn : Int} {dm : Int} {sm : Int} {ty : Int} {nx : Int} {tk : Int} {pl : Int} {va : Int} {fa : Int} {lr : Int} {ri : Int} {s : Nat → Int32} {kp : Nat → Int32} {ik : Nat → Int32} {tn : Nat → Int32} {de : Nat → Int32} {sd : Nat → Int32} {dd : Nat → Int32} {sr : Nat → Int32} {tx : Nat → Int32} {pa : Nat → Int32}
theorem mid_cW (hD : D.length = 27) : mid (cW ki ln bt rl cp cs ct cv rr dr ja ea ma a1 a2 a3 a4 a5 a6 a7 a8 jb eb mb b1 b2 b3 b4 b5 b6 b7 b8 re fl g1 g2 g3 g4 g5 (D ++ (rL (ro_ th tr db sn dm sm ty nx tk pl va fa lr ri) s kp ik tn de sd dd sr tx pa))) := ⟨List.getElem?_eq_none (by rw [cW_len9, List.length_append, rL_len, hD]; decide), _, FW_56 hD⟩
end MID
theorem LI_clear {v : Bool} {mw : List va_E} (h : LI v mw) : ∃ (a : Int) (mw1 mw2 : List va_E), sX11_clear [.ref 0] mw = some (some (iv a), mw1) ∧ sX12_clear [.ref 56] mw1 = some (some (iv a), mw2) ∧ LI v mw2 ∧ mid mw1 := by
  obtain ⟨ki, ln, bt, rl, cp, cs, ct, cv, rr, dr, ja, ea, ma, a1, a2, a3, a4, a5, a6, a7, a8, jb, eb, mb, b1, b2, b3, b4, b5, b6, b7, b8, re, fl, g1, g2, g3, g4, g5, D, th, tr, db, sn, dm, sm, ty, nx, tk, pl, va, fa, lr, ri, s, kp, ik, tn, de, sd, dd, sr, tx, pa, e, ⟨⟨⟨hD, hM⟩, he, ⟨q1, q2, q3, q4, q5, q6, q7, q8, q9, q10⟩, r1, r2, r3, r4, r5, r6, r7, r8, r9, r10⟩, hX, hK, et, hl⟩⟩ := LI_form h
  subst e
  refine ⟨ln, (cW ki 0 bt rl cp cs ct cv rr dr ja ea ma a1 a2 a3 a4 a5 a6 a7 a8 jb eb mb b1 b2 b3 b4 b5 b6 b7 b8 re fl g1 g2 g3 g4 g5 (D ++ (rL (ro_ th tr db sn dm sm ty nx tk pl va fa lr ri) s kp ik tn de sd dd sr tx pa))), (cW ki 0 bt rl cp cs ct cv rr dr ja ea ma a1 a2 a3 a4 a5 a6 a7 a8 jb eb mb b1 b2 b3 b4 b5 b6 b7 b8 re fl g1 g2 g3 g4 g5 D) ++ (rL (ro_ 0 tr db sn dm sm 0 nx tk pl va fa lr ri) s kp ik tn de sd dd sr tx pa), c_clearC, ?_, ?_, mid_cW hD⟩
  · have := c_clearR (C := (cW ki 0 bt rl cp cs ct cv rr dr ja ea ma a1 a2 a3 a4 a5 a6 a7 a8 jb eb mb b1 b2 b3 b4 b5 b6 b7 b8 re fl g1 g2 g3 g4 g5 D)) (th := th) (tr := tr) (db := db) (sn := sn) (dm := dm) (sm := sm) (ty := ty) (nx := nx) (tk := tk) (pl := pl) (va := va) (fa := fa) (lr := lr) (ri := ri) (s := s) (kp := kp) (ik := ik) (tn := tn) (de := de) (sd := sd) (dd := dd) (sr := sr) (tx := tx) (pa := pa) (by rw [cW_len9, hD])
    rw [et] at this
    rw [et]
    exact this
  · show LI v (FW ki 0 bt rl cp cs ct cv rr dr ja ea ma a1 a2 a3 a4 a5 a6 a7 a8 jb eb mb b1 b2 b3 b4 b5 b6 b7 b8 re fl g1 g2 g3 g4 g5 D 0 tr db sn dm sm 0 nx tk pl va fa lr ri s kp ik tn de sd dd sr tx pa)
    exact LI_to ⟨⟨⟨hD, hM⟩, he, ⟨⟨by decide, by decide⟩, q2, q3, q4, q5, q6, q7, q8, q9, q10⟩, r1, r2, ⟨by decide, by decide⟩, r4, r5, r6, r7, r8, r9, r10⟩, hX, hK, rfl, fun k hk => by omega⟩
theorem LI_type {v : Bool} {mw : List va_E} {x : Int64} {a : Int} (ha : -2147483648 ≤ a ∧ a ≤ 2147483647) (h : LI v mw) : ∃ (c : Int) (mw1 mw2 : List va_E), sX11_type [.ref 0, .long x, iv a] mw = some (some (iv c), mw1) ∧ sX12_type [.ref 56, .long x, iv a] mw1 = some (some (iv c), mw2) ∧ LI v mw2 ∧ mid mw1 := by
  obtain ⟨ki, ln, bt, rl, cp, cs, ct, cv, rr, dr, ja, ea, ma, a1, a2, a3, a4, a5, a6, a7, a8, jb, eb, mb, b1, b2, b3, b4, b5, b6, b7, b8, re, fl, g1, g2, g3, g4, g5, D, th, tr, db, sn, dm, sm, ty, nx, tk, pl, va, fa, lr, ri, s, kp, ik, tn, de, sd, dd, sr, tx, pa, e, ⟨⟨⟨hD, hM⟩, he, ⟨q1, q2, q3, q4, q5, q6, q7, q8, q9, q10⟩, r1, r2, r3, r4, r5, r6, r7, r8, r9, r10⟩, hX, hK, et, hl⟩⟩ := LI_form h
  subst e
  refine ⟨(bif i3 a 1 8 then (bif decide (400 < ln + a) then (-3) else ln + a) else (-1)), (cW ki (bif (i3 a 1 8 && decide (ln + a ≤ 400)) then ln + a else ln) (bif (i3 a 1 8 && decide (ln + a ≤ 400)) then apr (gC x) a.toNat ln bt else bt) rl cp cs ct cv rr dr ja ea ma a1 a2 a3 a4 a5 a6 a7 a8 jb eb mb b1 b2 b3 b4 b5 b6 b7 b8 re fl g1 g2 g3 g4 g5 (D ++ (rL (ro_ th tr db sn dm sm ty nx tk pl va fa lr ri) s kp ik tn de sd dd sr tx pa))), (cW ki (bif (i3 a 1 8 && decide (ln + a ≤ 400)) then ln + a else ln) (bif (i3 a 1 8 && decide (ln + a ≤ 400)) then apr (gC x) a.toNat ln bt else bt) rl cp cs ct cv rr dr ja ea ma a1 a2 a3 a4 a5 a6 a7 a8 jb eb mb b1 b2 b3 b4 b5 b6 b7 b8 re fl g1 g2 g3 g4 g5 D) ++ (rL (ro_ 0 tr db sn dm sm (bif (i3 a 1 8 && decide (ln + a ≤ 400)) then ln + a else ln) nx tk pl va fa lr ri) s kp ik tn de sd dd sr (bif (i3 a 1 8 && decide (ln + a ≤ 400)) then apr (gR x) a.toNat ln tx else tx) pa), c_typeC q1 ha, ?_, ?_, mid_cW hD⟩
  · have := c_typeR (C := (cW ki (bif (i3 a 1 8 && decide (ln + a ≤ 400)) then ln + a else ln) (bif (i3 a 1 8 && decide (ln + a ≤ 400)) then apr (gC x) a.toNat ln bt else bt) rl cp cs ct cv rr dr ja ea ma a1 a2 a3 a4 a5 a6 a7 a8 jb eb mb b1 b2 b3 b4 b5 b6 b7 b8 re fl g1 g2 g3 g4 g5 D)) (v := x) (th := th) (tr := tr) (db := db) (sn := sn) (dm := dm) (sm := sm) (ty := ty) (nx := nx) (tk := tk) (pl := pl) (va := va) (fa := fa) (lr := lr) (ri := ri) (s := s) (kp := kp) (ik := ik) (tn := tn) (de := de) (sd := sd) (dd := dd) (sr := sr) (tx := tx) (pa := pa) (by rw [cW_len9, hD]) r3 ha
    rw [et] at this
    rw [et]
    exact this
  · show LI v (FW ki (bif (i3 a 1 8 && decide (ln + a ≤ 400)) then ln + a else ln) (bif (i3 a 1 8 && decide (ln + a ≤ 400)) then apr (gC x) a.toNat ln bt else bt) rl cp cs ct cv rr dr ja ea ma a1 a2 a3 a4 a5 a6 a7 a8 jb eb mb b1 b2 b3 b4 b5 b6 b7 b8 re fl g1 g2 g3 g4 g5 D 0 tr db sn dm sm (bif (i3 a 1 8 && decide (ln + a ≤ 400)) then ln + a else ln) nx tk pl va fa lr ri s kp ik tn de sd dd sr (bif (i3 a 1 8 && decide (ln + a ≤ 400)) then apr (gR x) a.toNat ln tx else tx) pa)
    cases hb : (i3 a 1 8 && decide (ln + a ≤ 400)) with
    | false => exact LI_to ⟨⟨⟨hD, hM⟩, he, ⟨q1, q2, q3, q4, q5, q6, q7, q8, q9, q10⟩, r1, r2, q1, r4, r5, r6, r7, r8, r9, r10⟩, hX, hK, rfl, hl⟩
    | true =>
      rw [Bool.and_eq_true] at hb
      have b1 := i3_t hb.1
      have b2 := of_decide_eq_true hb.2
      have q1' : 0 ≤ ln + a ∧ ln + a ≤ 400 := by omega
      refine LI_to ⟨⟨⟨hD, hM⟩, he, ⟨q1', apr_rng _ q2, q3, q4, q5, q6, q7, q8, q9, q10⟩, r1, r2, q1', r4, r5, r6, r7, r8, r9, r10⟩, hX, hK, rfl, ?_⟩
      have := apr_like (v := x) a.toNat q1.1 hl
      rw [show ln + (a.toNat : Int) = ln + a by omega] at this
      exact this
theorem end_ok {tx dd sr : Nat → Int32} {ln va : Int} (hln : 0 ≤ ln ∧ ln ≤ 400) (hB : ∀ k : Nat, (k : Int) < ln → 0 ≤ (tx k).toInt ∧ (tx k).toInt ≤ 255) (hva : -2147483648 ≤ va ∧ va ≤ 2147483647) : rp_ok ln (rp_end tx ln va dd sr) := rp_lp_ok hln hB 27 (rp_t0_ok hln hB hva) (by show (0 : Int) + (27 : Nat) ≤ 1000; decide)
theorem cpz_lt {j k : Nat} {f g : Nat → Int32} (h : k < j) : cpy j f g k = g k := by
  unfold cpy
  rw [Nat.ble_eq_true_of_le h]
  rfl
theorem cpz_ge {j k : Nat} {f g : Nat → Int32} (h : j ≤ k) : cpy j f g k = f k := by
  unfold cpy
  cases hb : Nat.ble (k + 1) j with
  | false => rfl
  | true => have := Nat.le_of_ble_eq_true hb; omega
theorem DE_cpy {n : Int} {de dd : Nat → Int32} (hn : 0 ≤ n) (h1 : DEr de) (h2 : DWd n dd) : DEr (cpy (3 * n.toNat) de dd) := by
  intro i hi
  by_cases q : (i : Int) < n
  · rw [cpz_lt (by omega), cpz_lt (by omega), cpz_lt (by omega)]
    exact h2 i q
  · rw [cpz_ge (by omega), cpz_ge (by omega), cpz_ge (by omega)]
    exact h1 i hi
theorem SD_cpy {n : Int} {sd sr : Nat → Int32} (hn : 0 ≤ n) (h1 : SDr sd) (h2 : DWs n sr) : SDr (cpy (5 * n.toNat) sd sr) := by
  intro i hi
  by_cases q : (i : Int) < n
  · rw [cpz_lt (by omega), cpz_lt (by omega), cpz_lt (by omega), cpz_lt (by omega)]
    obtain ⟨a1, a2, a3, a4, -⟩ := h2 i q
    exact ⟨a1, a2, a3, a4⟩
  · rw [cpz_ge (by omega), cpz_ge (by omega), cpz_ge (by omega), cpz_ge (by omega)]
    exact h1 i hi
theorem zrs_0 {s : Nat → Int32} {j : Nat} (h : ¬ (122 ≤ j ∧ j ≤ 129)) : zrs s j = Int32.ofInt 0 := by
  unfold zrs
  have : i3 (j : Int) 122 129 = false := by simp [i3]; omega
  rw [this]
  rfl
theorem zrs_1 {s : Nat → Int32} {j : Nat} (h : 122 ≤ j ∧ j ≤ 129) : zrs s j = s j := by
  unfold zrs
  have : i3 (j : Int) 122 129 = true := by simp [i3]; omega
  rw [this]
  rfl
theorem lim_n {n j : Nat} {f sd : Nat → Int32} (h : j < 26 ∨ 26 + n ≤ j) : lim n f sd j = f j := by
  unfold lim
  have : (Nat.ble 26 j && Nat.ble (j + 1) (26 + n)) = false := by
    cases h1 : Nat.ble 26 j with
    | false => rfl
    | true =>
      cases h2 : Nat.ble (j + 1) (26 + n) with
      | false => rfl
      | true =>
        have := Nat.le_of_ble_eq_true h1
        have := Nat.le_of_ble_eq_true h2
        omega
  rw [this]
  rfl
theorem lim_z0 {n j : Nat} {s sd : Nat → Int32} (h : j < 10) : lim n (cpy 131 s (zrs s)) sd j = Int32.ofInt 0 := by
  rw [lim_n (by omega), cpz_lt (by omega), zrs_0 (by omega)]
theorem RS_lim {n : Nat} {s sd : Nat → Int32} (hn : n ≤ 16) (h : RS s) : RS (lim n (cpy 131 s (zrs s)) sd) := by
  refine ⟨fun j hj => ?_, fun j h1 h2 => ?_⟩
  · rw [lim_z0 hj]
    exact ⟨by decide, by decide⟩
  · rw [lim_n (by omega), cpz_lt (by omega), zrs_1 ⟨h1, h2⟩]
    exact h.2 j h1 h2
theorem ik_0 {ik : Nat → Int32} : ∀ j : Nat, j < 2 → upd (upd ik 0 (vp_nar (mm_ty 2) (Int32.ofInt 0))) 1 (vp_nar (mm_ty 2) (Int32.ofInt 0)) j = 0 := by
  intro j hj
  match j, hj with
  | 0, _ => rfl
  | 1, _ => rfl
theorem LI_papers0 {mw : List va_E} (h : LI false mw) : ∃ (v : Bool) (c : Int) (mw1 mw2 : List va_E), sX11_papers [.ref 0] mw = some (some (iv c), mw1) ∧ sX12_papers [.ref 56] mw1 = some (some (iv c), mw2) ∧ LI v mw2 ∧ mid mw1 := by
  obtain ⟨ki, ln, bt, rl, cp, cs, ct, cv, rr, dr, ja, ea, ma, a1, a2, a3, a4, a5, a6, a7, a8, jb, eb, mb, b1, b2, b3, b4, b5, b6, b7, b8, re, fl, g1, g2, g3, g4, g5, D, th, tr, db, sn, dm, sm, ty, nx, tk, pl, va, fa, lr, ri, s, kp, ik, tn, de, sd, dd, sr, tx, pa, e, ⟨⟨⟨hD, hM⟩, ⟨e1, e2⟩, ⟨q1, q2, q3, q4, q5, q6, q7, q8, q9, q10⟩, r1, r2, r3, r4, r5, r6, r7, r8, r9, r10⟩, hX, hK, et, hl⟩⟩ := LI_form h
  subst e
  have et := et.symm
  subst et
  obtain rfl : rr = 5 := e1
  obtain rfl : dr = 14 := e2
  have hB := tx_B hl
  obtain ⟨⟨-, -, -, ⟨va1, va2, -⟩, -⟩, o2, o3, -, -⟩ := end_ok (tx := tx) (dd := dd) (sr := sr) (va := va) q1 hB r4
  obtain ⟨r, hr, hc⟩ := c_papersC0 (ki := ki) (ln := ln) (rl := rl) (cp := cp) (cs := cs) (ct := ct) (cv := cv) (ja := ja) (ea := ea) (ma := ma) (a1 := a1) (a2 := a2) (a3 := a3) (a4 := a4) (a5 := a5) (a6 := a6) (a7 := a7) (a8 := a8) (jb := jb) (eb := eb) (mb := mb) (b1 := b1) (b2 := b2) (b3 := b3) (b4 := b4) (b5 := b5) (b6 := b6) (b7 := b7) (b8 := b8) (re := re) (fl := fl) (g1 := g1) (g2 := g2) (g3 := g3) (g4 := g4) (g5 := g5) (tx := tx) (dd := dd) (sr := sr) (va := va) (D := D ++ (rL (ro_ th tr db sn dm sm ln nx tk pl va fa lr ri) s kp ik tn de sd dd sr tx pa)) (by rw [List.length_append, rL_len, hD]) q1 hl hB r4 q9 q10
  rcases hc with ⟨y1, y2, y3, y4, k1, k2, k3, k4, k5, k6, k7, k8, e, p1, p2, p3, dw, ds, kd, ks⟩ | ⟨y1, y2, y3, y4, k1, k2, k3, k4, k5, k6, k7, k8, z1, z2, z3, e, p1, z2r, z3r, kd, ks⟩
  · subst e
    have hR := c_papersR (C := (cW 0 0 bt (.ref 14) y1 y2 y3 y4 14 5 ja ea ma a1 a2 a3 a4 a5 a6 a7 a8 (rp_end tx ln va dd sr).2.2.2.2.2 (rp_end tx ln va dd sr).2.1 (rp_end tx ln va dd sr).2.2.1 k1 k2 k3 k4 k5 k6 k7 k8 0 0 (cpy 10 g1 zz) (cpy 16 g2 zz) (va_cpy k8 g3 0 0 16) (cpy 64 g4 zz) g5 D)) (th := th) (tr := tr) (db := db) (sn := sn) (dm := dm) (sm := sm) (nx := nx) (tk := tk) (pl := pl) (va := va) (fa := fa) (lr := lr) (ri := ri) (ty := ln) (s := s) (kp := kp) (ik := ik) (tn := tn) (de := de) (sd := sd) (dd := dd) (sr := sr) (tx := tx) (pa := pa) (by rw [cW_len9, hD]) q1 hB r4
    rw [decide_eq_true p1, cond_true] at hR
    refine ⟨true, _, _, _, hr, hR, ?_, mid_cW hD⟩
    show LI true (FW 0 0 bt (.ref 14) y1 y2 y3 y4 14 5 ja ea ma a1 a2 a3 a4 a5 a6 a7 a8 (rp_end tx ln va dd sr).2.2.2.2.2 (rp_end tx ln va dd sr).2.1 (rp_end tx ln va dd sr).2.2.1 k1 k2 k3 k4 k5 k6 k7 k8 0 0 (cpy 10 g1 zz) (cpy 16 g2 zz) (va_cpy k8 g3 0 0 16) (cpy 64 g4 zz) g5 D 0 tr (rp_end tx ln va dd sr).2.1 (rp_end tx ln va dd sr).2.2.1 (rp_end tx ln va dd sr).2.1 (rp_end tx ln va dd sr).2.2.1 0 ((rp_end tx ln va dd sr).1).1 ((rp_end tx ln va dd sr).1).2.1 ((rp_end tx ln va dd sr).1).2.2.1 ((rp_end tx ln va dd sr).1).2.2.2.1 ((rp_end tx ln va dd sr).1).2.2.2.2 lr ri (lim (rp_end tx ln va dd sr).2.2.1.toNat (cpy 131 s (zrs s)) (cpy (5 * (rp_end tx ln va dd sr).2.2.1.toNat) sd (rp_end tx ln va dd sr).2.2.2.2.1)) kp (upd (upd ik 0 (vp_nar (mm_ty 2) (Int32.ofInt 0))) 1 (vp_nar (mm_ty 2) (Int32.ofInt 0))) tn (cpy (3 * (rp_end tx ln va dd sr).2.1.toNat) de (rp_end tx ln va dd sr).2.2.2.1) (cpy (5 * (rp_end tx ln va dd sr).2.2.1.toNat) sd (rp_end tx ln va dd sr).2.2.2.2.1) (rp_end tx ln va dd sr).2.2.2.1 (rp_end tx ln va dd sr).2.2.2.2.1 tx pa)
    have sd' := SD_cpy o3.1 r9 ds
    have de' := DE_cpy o2.1 r8 dw
    refine LI_to ⟨⟨⟨hD, hM⟩, ⟨rfl, rfl⟩, ⟨⟨by decide, by decide⟩, q2, q3, q4, o2, o3, q7, q8, kd, ks⟩, o2, o3, ⟨by decide, by decide⟩, ⟨va1, va2⟩, r5, RS_lim (by omega) r6, (fun j hj => by rw [ik_0 j hj]; exact ⟨by decide, by decide⟩), de', sd', r10⟩, ⟨fun i hi h3 => ?_, fun d hd => ?_⟩, fun i hi hz => absurd (ik_0 i hi) hz, rfl, fun k hk => by omega⟩
    · by_cases q : (i : Int) < (rp_end tx ln va dd sr).2.2.1
      · rw [cpz_lt (by omega)] at h3 ⊢
        exact (ds i q).2.2.2.2 h3
      · rw [cpz_ge (by omega)] at h3 ⊢
        exact hX.1 i hi h3
    · rw [lim_z0 hd]
      exact (de' d hd).2.2.1
  · subst e
    have hR := c_papersR (C := (cW ki ln bt (.ref 14) y1 y2 y3 y4 5 14 ja ea ma a1 a2 a3 a4 a5 a6 a7 a8 z1 z2 z3 k1 k2 k3 k4 k5 k6 k7 k8 re fl g1 g2 g3 g4 g5 D)) (th := th) (tr := tr) (db := db) (sn := sn) (dm := dm) (sm := sm) (nx := nx) (tk := tk) (pl := pl) (va := va) (fa := fa) (lr := lr) (ri := ri) (ty := ln) (s := s) (kp := kp) (ik := ik) (tn := tn) (de := de) (sd := sd) (dd := dd) (sr := sr) (tx := tx) (pa := pa) (by rw [cW_len9, hD]) q1 hB r4
    rw [decide_eq_false (by omega), cond_false] at hR
    refine ⟨false, _, _, _, hr, hR, ?_, mid_cW hD⟩
    show LI false (FW ki ln bt (.ref 14) y1 y2 y3 y4 5 14 ja ea ma a1 a2 a3 a4 a5 a6 a7 a8 z1 z2 z3 k1 k2 k3 k4 k5 k6 k7 k8 re fl g1 g2 g3 g4 g5 D 0 tr db sn (rp_end tx ln va dd sr).2.1 (rp_end tx ln va dd sr).2.2.1 ln ((rp_end tx ln va dd sr).1).1 ((rp_end tx ln va dd sr).1).2.1 ((rp_end tx ln va dd sr).1).2.2.1 ((rp_end tx ln va dd sr).1).2.2.2.1 ((rp_end tx ln va dd sr).1).2.2.2.2 lr ri s kp ik tn de sd (rp_end tx ln va dd sr).2.2.2.1 (rp_end tx ln va dd sr).2.2.2.2.1 tx pa)
    exact LI_to ⟨⟨⟨hD, hM⟩, ⟨rfl, rfl⟩, ⟨q1, q2, q3, q4, z2r, z3r, q7, q8, kd, ks⟩, r1, r2, q1, ⟨va1, va2⟩, r5, r6, r7, r8, r9, r10⟩, hX, hK, rfl, hl⟩
theorem LI_papers1 {mw : List va_E} (h : LI true mw) : ∃ (v : Bool) (c : Int) (mw1 mw2 : List va_E), sX11_papers [.ref 0] mw = some (some (iv c), mw1) ∧ sX12_papers [.ref 56] mw1 = some (some (iv c), mw2) ∧ LI v mw2 ∧ mid mw1 := by
  obtain ⟨ki, ln, bt, rl, cp, cs, ct, cv, rr, dr, ja, ea, ma, a1, a2, a3, a4, a5, a6, a7, a8, jb, eb, mb, b1, b2, b3, b4, b5, b6, b7, b8, re, fl, g1, g2, g3, g4, g5, D, th, tr, db, sn, dm, sm, ty, nx, tk, pl, va, fa, lr, ri, s, kp, ik, tn, de, sd, dd, sr, tx, pa, e, ⟨⟨⟨hD, hM⟩, ⟨e1, e2⟩, ⟨q1, q2, q3, q4, q5, q6, q7, q8, q9, q10⟩, r1, r2, r3, r4, r5, r6, r7, r8, r9, r10⟩, hX, hK, et, hl⟩⟩ := LI_form h
  subst e
  have et := et.symm
  subst et
  obtain rfl : rr = 14 := e1
  obtain rfl : dr = 5 := e2
  have hB := tx_B hl
  obtain ⟨⟨-, -, -, ⟨va1, va2, -⟩, -⟩, o2, o3, -, -⟩ := end_ok (tx := tx) (dd := dd) (sr := sr) (va := va) q1 hB r4
  obtain ⟨r, hr, hc⟩ := c_papersC1 (ki := ki) (ln := ln) (rl := rl) (cp := cp) (cs := cs) (ct := ct) (cv := cv) (ja := ja) (ea := ea) (ma := ma) (a1 := a1) (a2 := a2) (a3 := a3) (a4 := a4) (a5 := a5) (a6 := a6) (a7 := a7) (a8 := a8) (jb := jb) (eb := eb) (mb := mb) (b1 := b1) (b2 := b2) (b3 := b3) (b4 := b4) (b5 := b5) (b6 := b6) (b7 := b7) (b8 := b8) (re := re) (fl := fl) (g1 := g1) (g2 := g2) (g3 := g3) (g4 := g4) (g5 := g5) (tx := tx) (dd := dd) (sr := sr) (va := va) (D := D ++ (rL (ro_ th tr db sn dm sm ln nx tk pl va fa lr ri) s kp ik tn de sd dd sr tx pa)) (by rw [List.length_append, rL_len, hD]) q1 hl hB r4 q7 q8
  rcases hc with ⟨y1, y2, y3, y4, k1, k2, k3, k4, k5, k6, k7, k8, e, p1, p2, p3, dw, ds, kd, ks⟩ | ⟨y1, y2, y3, y4, k1, k2, k3, k4, k5, k6, k7, k8, z1, z2, z3, e, p1, z2r, z3r, kd, ks⟩
  · subst e
    have hR := c_papersR (C := (cW 0 0 bt (.ref 5) y1 y2 y3 y4 5 14 (rp_end tx ln va dd sr).2.2.2.2.2 (rp_end tx ln va dd sr).2.1 (rp_end tx ln va dd sr).2.2.1 k1 k2 k3 k4 k5 k6 k7 k8 jb eb mb b1 b2 b3 b4 b5 b6 b7 b8 0 0 (cpy 10 g1 zz) (cpy 16 g2 zz) (va_cpy k8 g3 0 0 16) (cpy 64 g4 zz) g5 D)) (th := th) (tr := tr) (db := db) (sn := sn) (dm := dm) (sm := sm) (nx := nx) (tk := tk) (pl := pl) (va := va) (fa := fa) (lr := lr) (ri := ri) (ty := ln) (s := s) (kp := kp) (ik := ik) (tn := tn) (de := de) (sd := sd) (dd := dd) (sr := sr) (tx := tx) (pa := pa) (by rw [cW_len9, hD]) q1 hB r4
    rw [decide_eq_true p1, cond_true] at hR
    refine ⟨false, _, _, _, hr, hR, ?_, mid_cW hD⟩
    show LI false (FW 0 0 bt (.ref 5) y1 y2 y3 y4 5 14 (rp_end tx ln va dd sr).2.2.2.2.2 (rp_end tx ln va dd sr).2.1 (rp_end tx ln va dd sr).2.2.1 k1 k2 k3 k4 k5 k6 k7 k8 jb eb mb b1 b2 b3 b4 b5 b6 b7 b8 0 0 (cpy 10 g1 zz) (cpy 16 g2 zz) (va_cpy k8 g3 0 0 16) (cpy 64 g4 zz) g5 D 0 tr (rp_end tx ln va dd sr).2.1 (rp_end tx ln va dd sr).2.2.1 (rp_end tx ln va dd sr).2.1 (rp_end tx ln va dd sr).2.2.1 0 ((rp_end tx ln va dd sr).1).1 ((rp_end tx ln va dd sr).1).2.1 ((rp_end tx ln va dd sr).1).2.2.1 ((rp_end tx ln va dd sr).1).2.2.2.1 ((rp_end tx ln va dd sr).1).2.2.2.2 lr ri (lim (rp_end tx ln va dd sr).2.2.1.toNat (cpy 131 s (zrs s)) (cpy (5 * (rp_end tx ln va dd sr).2.2.1.toNat) sd (rp_end tx ln va dd sr).2.2.2.2.1)) kp (upd (upd ik 0 (vp_nar (mm_ty 2) (Int32.ofInt 0))) 1 (vp_nar (mm_ty 2) (Int32.ofInt 0))) tn (cpy (3 * (rp_end tx ln va dd sr).2.1.toNat) de (rp_end tx ln va dd sr).2.2.2.1) (cpy (5 * (rp_end tx ln va dd sr).2.2.1.toNat) sd (rp_end tx ln va dd sr).2.2.2.2.1) (rp_end tx ln va dd sr).2.2.2.1 (rp_end tx ln va dd sr).2.2.2.2.1 tx pa)
    have sd' := SD_cpy o3.1 r9 ds
    have de' := DE_cpy o2.1 r8 dw
    refine LI_to ⟨⟨⟨hD, hM⟩, ⟨rfl, rfl⟩, ⟨⟨by decide, by decide⟩, q2, o2, o3, q5, q6, kd, ks, q9, q10⟩, o2, o3, ⟨by decide, by decide⟩, ⟨va1, va2⟩, r5, RS_lim (by omega) r6, (fun j hj => by rw [ik_0 j hj]; exact ⟨by decide, by decide⟩), de', sd', r10⟩, ⟨fun i hi h3 => ?_, fun d hd => ?_⟩, fun i hi hz => absurd (ik_0 i hi) hz, rfl, fun k hk => by omega⟩
    · by_cases q : (i : Int) < (rp_end tx ln va dd sr).2.2.1
      · rw [cpz_lt (by omega)] at h3 ⊢
        exact (ds i q).2.2.2.2 h3
      · rw [cpz_ge (by omega)] at h3 ⊢
        exact hX.1 i hi h3
    · rw [lim_z0 hd]
      exact (de' d hd).2.2.1
  · subst e
    have hR := c_papersR (C := (cW ki ln bt (.ref 5) y1 y2 y3 y4 14 5 z1 z2 z3 k1 k2 k3 k4 k5 k6 k7 k8 jb eb mb b1 b2 b3 b4 b5 b6 b7 b8 re fl g1 g2 g3 g4 g5 D)) (th := th) (tr := tr) (db := db) (sn := sn) (dm := dm) (sm := sm) (nx := nx) (tk := tk) (pl := pl) (va := va) (fa := fa) (lr := lr) (ri := ri) (ty := ln) (s := s) (kp := kp) (ik := ik) (tn := tn) (de := de) (sd := sd) (dd := dd) (sr := sr) (tx := tx) (pa := pa) (by rw [cW_len9, hD]) q1 hB r4
    rw [decide_eq_false (by omega), cond_false] at hR
    refine ⟨true, _, _, _, hr, hR, ?_, mid_cW hD⟩
    show LI true (FW ki ln bt (.ref 5) y1 y2 y3 y4 14 5 z1 z2 z3 k1 k2 k3 k4 k5 k6 k7 k8 jb eb mb b1 b2 b3 b4 b5 b6 b7 b8 re fl g1 g2 g3 g4 g5 D 0 tr db sn (rp_end tx ln va dd sr).2.1 (rp_end tx ln va dd sr).2.2.1 ln ((rp_end tx ln va dd sr).1).1 ((rp_end tx ln va dd sr).1).2.1 ((rp_end tx ln va dd sr).1).2.2.1 ((rp_end tx ln va dd sr).1).2.2.2.1 ((rp_end tx ln va dd sr).1).2.2.2.2 lr ri s kp ik tn de sd (rp_end tx ln va dd sr).2.2.2.1 (rp_end tx ln va dd sr).2.2.2.2.1 tx pa)
    exact LI_to ⟨⟨⟨hD, hM⟩, ⟨rfl, rfl⟩, ⟨q1, q2, z2r, z3r, q5, q6, kd, ks, q9, q10⟩, r1, r2, q1, ⟨va1, va2⟩, r5, r6, r7, r8, r9, r10⟩, hX, hK, rfl, hl⟩
theorem LI_papers {v : Bool} {mw : List va_E} (h : LI v mw) : ∃ (v : Bool) (c : Int) (mw1 mw2 : List va_E), sX11_papers [.ref 0] mw = some (some (iv c), mw1) ∧ sX12_papers [.ref 56] mw1 = some (some (iv c), mw2) ∧ LI v mw2 ∧ mid mw1 := by
  cases v with
  | false => exact LI_papers0 h
  | true => exact LI_papers1 h
