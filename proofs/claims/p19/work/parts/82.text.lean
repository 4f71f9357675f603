/-! ===== both texts: type, clear, papers ===== -/
theorem tx_B {bt tx : Nat → Int32} {n : Int} (h : tx_like bt tx n) : ∀ k : Nat, (k : Int) < n → 0 ≤ (tx k).toInt ∧ (tx k).toInt ≤ 255 := by
  intro k hk
  have := (h k hk).2
  omega
theorem apr_rng {v : Int64} : ∀ (m : Nat) {bt : Nat → Int32} {p : Int}, (∀ j, j < 400 → i7 (bt j) (-128) 127) → ∀ j, j < 400 → i7 (apr (gC v) m p bt j) (-128) 127
  | 0, bt, p, h => h
  | m + 1, bt, p, h => apr_rng m (fun j hj => by
      by_cases e : j = Int.toNat p
      · rw [e, upd_same]; exact (g_like v m).1
      · rw [upd_ne e]; exact h j hj)
def mid (mw : List va_E) : Prop := mw[3000]? = none ∧ ∃ F, mw[56]? = some (.inr (12, F))
section MID
variable {ki : Int} {ln : Int} {bt : Nat → Int32} {rl : Value} {cp : Int} {cs : Int} {ct : Int} {cv : Int} {rr : Nat} {dr : Nat} {ja : Int} {ea : Int} {ma : Int} {a1 : Nat → Int32} {a2 : Nat → Int32} {a3 : Nat → Int32} {a4 : Nat → Int32} {a5 : Nat → Int32} {a6 : Nat → Int32} {a7 : Nat → Int32} {a8 : Nat → Int32} {jb : Int} {eb : Int} {mb : Int} {b1 : Nat → Int32} {b2 : Nat → Int32} {b3 : Nat → Int32} {b4 : Nat → Int32} {b5 : Nat → Int32} {b6 : Nat → Int32} {b7 : Nat → Int32} {b8 : Nat → Int32} {re : Int} {fl : Int} {g1 : Nat → Int32} {g2 : Nat → Int32} {g3 : Nat → Int32} {g4 : Nat → Int32} {g5 : Nat → Int32} {rt : Int} {la : Int} {rs : Int} {rg : Int} {pd : Nat → Int32} {du : Nat → Int32} {ds : Nat → Int32} {me : Nat → Int32} {tt : Nat → Int32} {gr : Nat → Int32} {su : Nat → Int32} {gp : Nat → Int32} {mk : Int64} {rf : Nat → Option Nat} {m1 : Nat → Int32} {m2 : Nat → Int32} {m3 : Nat → Int32} {m4 : Nat → Int32} {m5 : Nat → Int32} {mr : Int} {mf : Int} {n1 : Nat → Int32} {n2 : Nat → Int32} {n3 : Nat → Int32} {n4 : Nat → Int32} {n5 : Nat → Int32} {nr : Int} {nf : Int} {th : Int} {tr : Int64} {db : Int} {sn : Int} {dm : Int} {sm : Int} {ty : Int} {nx : Int} {tk : Int} {pl : Int} {va : Int} {fa : Int} {lr : Int} {ri : Int} {s : Nat → Int32} {kp : Nat → Int32} {ik : Nat → Int32} {tn : Nat → Int32} {de : Nat → Int32} {sd : Nat → Int32} {dd : Nat → Int32} {sr : Nat → Int32} {tx : Nat → Int32} {pa : Nat → Int32}
theorem mid_GW : mid (GW ki ln bt rl cp cs ct cv rr dr ja ea ma a1 a2 a3 a4 a5 a6 a7 a8 jb eb mb b1 b2 b3 b4 b5 b6 b7 b8 re fl g1 g2 g3 g4 g5 rt la rs rg pd du ds me tt gr su gp mk rf m1 m2 m3 m4 m5 mr mf n1 n2 n3 n4 n5 nr nf th tr db sn dm sm ty nx tk pl va fa lr ri s kp ik tn de sd dd sr tx pa) := ⟨List.getElem?_eq_none (by show 67 ≤ 3000; decide), _, rfl⟩
end MID
theorem LI_clear {v : Bool} {mw : List va_E} (h : LI v mw) : ∃ (a : Int) (mw1 mw2 : List va_E), sX11_clear [.ref 0] mw = some (some (iv a), mw1) ∧ sX12_clear [.ref 56] mw1 = some (some (iv a), mw2) ∧ LI v mw2 ∧ mid mw1 := by
  refine LI_elim h (fun ki ln bt rl cp cs ct cv rr dr ja ea ma a1 a2 a3 a4 a5 a6 a7 a8 jb eb mb b1 b2 b3 b4 b5 b6 b7 b8 re fl g1 g2 g3 g4 g5 rt la rs rg pd du ds me tt gr su gp mk rf m1 m2 m3 m4 m5 mr mf n1 n2 n3 n4 n5 nr nf th tr db sn dm sm ty nx tk pl va fa lr ri s kp ik tn de sd dd sr tx pa e hh => ?_)
  obtain ⟨⟨⟨hla, hrf⟩, he, ⟨q1, q2, q3, q4, q5, q6, q7, q8, q9, q10⟩, r1, r2, r3, r4, r5, r6, r7, r8, r9, r10⟩, hX, hK, ⟨et, hl⟩, hRo, hRo2, hLG, hI0, hI1, hik, htt, hmk⟩ := hh
  subst e
  clear h
  refine ⟨ln, (GW ki 0 bt rl cp cs ct cv rr dr ja ea ma a1 a2 a3 a4 a5 a6 a7 a8 jb eb mb b1 b2 b3 b4 b5 b6 b7 b8 re fl g1 g2 g3 g4 g5 rt la rs rg pd du ds me tt gr su gp mk rf m1 m2 m3 m4 m5 mr mf n1 n2 n3 n4 n5 nr nf th tr db sn dm sm ty nx tk pl va fa lr ri s kp ik tn de sd dd sr tx pa), (GW ki 0 bt rl cp cs ct cv rr dr ja ea ma a1 a2 a3 a4 a5 a6 a7 a8 jb eb mb b1 b2 b3 b4 b5 b6 b7 b8 re fl g1 g2 g3 g4 g5 rt la rs rg pd du ds me tt gr su gp mk rf m1 m2 m3 m4 m5 mr mf n1 n2 n3 n4 n5 nr nf 0 tr db sn dm sm 0 nx tk pl va fa lr ri s kp ik tn de sd dd sr tx pa), c_clearC, ?_, ?_, mid_GW⟩
  · have := c_clearR (C := (cW ki 0 bt rl cp cs ct cv rr dr ja ea ma a1 a2 a3 a4 a5 a6 a7 a8 jb eb mb b1 b2 b3 b4 b5 b6 b7 b8 re fl g1 g2 g3 g4 g5 (dW rt la rs rg pd du ds me tt gr su gp mk rf m1 m2 m3 m4 m5 mr mf n1 n2 n3 n4 n5 nr nf []))) (th := th) (tr := tr) (db := db) (sn := sn) (dm := dm) (sm := sm) (ty := ty) (nx := nx) (tk := tk) (pl := pl) (va := va) (fa := fa) (lr := lr) (ri := ri) (s := s) (kp := kp) (ik := ik) (tn := tn) (de := de) (sd := sd) (dd := dd) (sr := sr) (tx := tx) (pa := pa) rfl
    rw [et] at this
    rw [et]
    exact this
  · exact LI_to ⟨⟨⟨hla, hrf⟩, he, ⟨⟨by decide, by decide⟩, q2, q3, q4, q5, q6, q7, q8, q9, q10⟩, r1, r2, ⟨by decide, by decide⟩, r4, r5, r6, r7, r8, r9, r10⟩, hX, hK, ⟨rfl, fun k hk => by omega⟩, hRo, hRo2, hLG, hI0, hI1, hik, htt, hmk⟩
theorem LI_type {v : Bool} {mw : List va_E} {x : Int64} {a : Int} (ha : -2147483648 ≤ a ∧ a ≤ 2147483647) (h : LI v mw) : ∃ (c : Int) (mw1 mw2 : List va_E), sX11_type [.ref 0, .long x, iv a] mw = some (some (iv c), mw1) ∧ sX12_type [.ref 56, .long x, iv a] mw1 = some (some (iv c), mw2) ∧ LI v mw2 ∧ mid mw1 := by
  refine LI_elim h (fun ki ln bt rl cp cs ct cv rr dr ja ea ma a1 a2 a3 a4 a5 a6 a7 a8 jb eb mb b1 b2 b3 b4 b5 b6 b7 b8 re fl g1 g2 g3 g4 g5 rt la rs rg pd du ds me tt gr su gp mk rf m1 m2 m3 m4 m5 mr mf n1 n2 n3 n4 n5 nr nf th tr db sn dm sm ty nx tk pl va fa lr ri s kp ik tn de sd dd sr tx pa e hh => ?_)
  obtain ⟨⟨⟨hla, hrf⟩, he, ⟨q1, q2, q3, q4, q5, q6, q7, q8, q9, q10⟩, r1, r2, r3, r4, r5, r6, r7, r8, r9, r10⟩, hX, hK, ⟨et, hl⟩, hRo, hRo2, hLG, hI0, hI1, hik, htt, hmk⟩ := hh
  subst e
  clear h
  refine ⟨(bif i3 a 1 8 then (bif decide (400 < ln + a) then (-3) else ln + a) else (-1)), (GW ki (bif (i3 a 1 8 && decide (ln + a ≤ 400)) then ln + a else ln) (bif (i3 a 1 8 && decide (ln + a ≤ 400)) then apr (gC x) a.toNat ln bt else bt) rl cp cs ct cv rr dr ja ea ma a1 a2 a3 a4 a5 a6 a7 a8 jb eb mb b1 b2 b3 b4 b5 b6 b7 b8 re fl g1 g2 g3 g4 g5 rt la rs rg pd du ds me tt gr su gp mk rf m1 m2 m3 m4 m5 mr mf n1 n2 n3 n4 n5 nr nf th tr db sn dm sm ty nx tk pl va fa lr ri s kp ik tn de sd dd sr tx pa), (GW ki (bif (i3 a 1 8 && decide (ln + a ≤ 400)) then ln + a else ln) (bif (i3 a 1 8 && decide (ln + a ≤ 400)) then apr (gC x) a.toNat ln bt else bt) rl cp cs ct cv rr dr ja ea ma a1 a2 a3 a4 a5 a6 a7 a8 jb eb mb b1 b2 b3 b4 b5 b6 b7 b8 re fl g1 g2 g3 g4 g5 rt la rs rg pd du ds me tt gr su gp mk rf m1 m2 m3 m4 m5 mr mf n1 n2 n3 n4 n5 nr nf 0 tr db sn dm sm (bif (i3 a 1 8 && decide (ln + a ≤ 400)) then ln + a else ln) nx tk pl va fa lr ri s kp ik tn de sd dd sr (bif (i3 a 1 8 && decide (ln + a ≤ 400)) then apr (gR x) a.toNat ln tx else tx) pa), c_typeC q1 ha, ?_, ?_, mid_GW⟩
  · have := c_typeR (C := (cW ki (bif (i3 a 1 8 && decide (ln + a ≤ 400)) then ln + a else ln) (bif (i3 a 1 8 && decide (ln + a ≤ 400)) then apr (gC x) a.toNat ln bt else bt) rl cp cs ct cv rr dr ja ea ma a1 a2 a3 a4 a5 a6 a7 a8 jb eb mb b1 b2 b3 b4 b5 b6 b7 b8 re fl g1 g2 g3 g4 g5 (dW rt la rs rg pd du ds me tt gr su gp mk rf m1 m2 m3 m4 m5 mr mf n1 n2 n3 n4 n5 nr nf []))) (v := x) (th := th) (tr := tr) (db := db) (sn := sn) (dm := dm) (sm := sm) (ty := ty) (nx := nx) (tk := tk) (pl := pl) (va := va) (fa := fa) (lr := lr) (ri := ri) (s := s) (kp := kp) (ik := ik) (tn := tn) (de := de) (sd := sd) (dd := dd) (sr := sr) (tx := tx) (pa := pa) rfl r3 ha
    rw [et] at this
    rw [et]
    exact this
  · cases hb : (i3 a 1 8 && decide (ln + a ≤ 400)) with
    | false => exact LI_to ⟨⟨⟨hla, hrf⟩, he, ⟨q1, q2, q3, q4, q5, q6, q7, q8, q9, q10⟩, r1, r2, q1, r4, r5, r6, r7, r8, r9, r10⟩, hX, hK, ⟨rfl, hl⟩, hRo, hRo2, hLG, hI0, hI1, hik, htt, hmk⟩
    | true =>
      rw [Bool.and_eq_true] at hb
      have b1 := i3_t hb.1
      have b2 := of_decide_eq_true hb.2
      have q1' : 0 ≤ ln + a ∧ ln + a ≤ 400 := by omega
      refine LI_to ⟨⟨⟨hla, hrf⟩, he, ⟨q1', apr_rng _ q2, q3, q4, q5, q6, q7, q8, q9, q10⟩, r1, r2, q1', r4, r5, r6, r7, r8, r9, r10⟩, hX, hK, ⟨rfl, ?_⟩, hRo, hRo2, hLG, hI0, hI1, hik, htt, hmk⟩
      have := apr_like (v := x) a.toNat q1.1 hl
      rw [show ln + (a.toNat : Int) = ln + a by omega] at this
      exact this
theorem end_ok {tx dd sr : Nat → Int32} {ln va : Int} (hln : 0 ≤ ln ∧ ln ≤ 400) (hB : ∀ k : Nat, (k : Int) < ln → 0 ≤ (tx k).toInt ∧ (tx k).toInt ≤ 255) (hva : -2147483648 ≤ va ∧ va ≤ 2147483647) : rp_ok ln (rp_end tx ln va dd sr) := rp_lp_ok hln hB 27 (rp_t0_ok hln hB hva) (by show (0 : Int) + (27 : Nat) ≤ 1000; decide)
theorem cpz_lt {j k : Nat} {f g : Nat → Int32} (h : k < j) : cpy j f g k = g k := by
  unfold cpy
  rw [Nat.ble_eq_true_of_le h]
  rfl
theorem cpz_ge {j k : Nat} {f g : Nat → Int32} (h : j ≤ k) : cpy j f g k = f k := by
  unfold cpy
  cases hb : Nat.ble (k + 1) j with
  | false => rfl
  | true => have := Nat.le_of_ble_eq_true hb; omega
theorem DE_cpy {n : Int} {de dd : Nat → Int32} (hn : 0 ≤ n) (h1 : DEr de) (h2 : DWd n dd) : DEr (cpy (3 * n.toNat) de dd) := by
  intro i hi
  by_cases q : (i : Int) < n
  · rw [cpz_lt (by omega), cpz_lt (by omega), cpz_lt (by omega)]
    exact h2 i q
  · rw [cpz_ge (by omega), cpz_ge (by omega), cpz_ge (by omega)]
    exact h1 i hi
theorem SD_cpy {n : Int} {sd sr : Nat → Int32} (hn : 0 ≤ n) (h1 : SDr sd) (h2 : DWs n sr) : SDr (cpy (5 * n.toNat) sd sr) := by
  intro i hi
  by_cases q : (i : Int) < n
  · rw [cpz_lt (by omega), cpz_lt (by omega), cpz_lt (by omega), cpz_lt (by omega)]
    obtain ⟨a1, a2, a3, a4, -⟩ := h2 i q
    exact ⟨a1, a2, a3, a4⟩
  · rw [cpz_ge (by omega), cpz_ge (by omega), cpz_ge (by omega), cpz_ge (by omega)]
    exact h1 i hi
theorem zrs_0 {s : Nat → Int32} {j : Nat} (h : ¬ (122 ≤ j ∧ j ≤ 129)) : zrs s j = Int32.ofInt 0 := by
  unfold zrs
  have : i3 (j : Int) 122 129 = false := by simp [i3]; omega
  rw [this]
  rfl
theorem zrs_1 {s : Nat → Int32} {j : Nat} (h : 122 ≤ j ∧ j ≤ 129) : zrs s j = s j := by
  unfold zrs
  have : i3 (j : Int) 122 129 = true := by simp [i3]; omega
  rw [this]
  rfl
theorem lim_n {n j : Nat} {f sd : Nat → Int32} (h : j < 26 ∨ 26 + n ≤ j) : lim n f sd j = f j := by
  unfold lim
  have : (Nat.ble 26 j && Nat.ble (j + 1) (26 + n)) = false := by
    cases h1 : Nat.ble 26 j with
    | false => rfl
    | true =>
      cases h2 : Nat.ble (j + 1) (26 + n) with
      | false => rfl
      | true =>
        have := Nat.le_of_ble_eq_true h1
        have := Nat.le_of_ble_eq_true h2
        omega
  rw [this]
  rfl
theorem lim_z0 {n j : Nat} {s sd : Nat → Int32} (h : j < 10) : lim n (cpy 131 s (zrs s)) sd j = Int32.ofInt 0 := by
  rw [lim_n (by omega), cpz_lt (by omega), zrs_0 (by omega)]
theorem RS_lim {n : Nat} {s sd : Nat → Int32} (hn : n ≤ 16) (h : RS s) : RS (lim n (cpy 131 s (zrs s)) sd) := by
  refine ⟨fun j hj => ?_, fun j h1 h2 => ?_⟩
  · rw [lim_z0 hj]
    exact ⟨by decide, by decide⟩
  · rw [lim_n (by omega), cpz_lt (by omega), zrs_1 ⟨h1, h2⟩]
    exact h.2 j h1 h2
theorem ik_0 {ik : Nat → Int32} : ∀ j : Nat, j < 2 → upd (upd ik 0 (vp_nar (mm_ty 2) (Int32.ofInt 0))) 1 (vp_nar (mm_ty 2) (Int32.ofInt 0)) j = 0 := by
  intro j hj
  match j, hj with
  | 0, _ => rfl
  | 1, _ => rfl
theorem lim_i {n j : Nat} {f sd : Nat → Int32} (h : j < n) : lim n f sd (26 + j) = sd (5 * j + 4) := by
  unfold lim
  rw [Nat.ble_eq_true_of_le (show 26 ≤ 26 + j by omega), Nat.ble_eq_true_of_le (show 26 + j + 1 ≤ 26 + n by omega), Nat.add_sub_cancel_left]
  rfl
theorem lim_z {n j : Nat} {s sd : Nat → Int32} (h : j < 131) (h1 : j < 26 ∨ 26 + n ≤ j) (h2 : ¬ (122 ≤ j ∧ j ≤ 129)) : lim n (cpy 131 s (zrs s)) sd j = Int32.ofInt 0 := by
  rw [lim_n h1, cpz_lt h, zrs_0 h2]
theorem cpy_zz {n j : Nat} {g : Nat → Int32} (h : j < n) : cpy n g zz j = Int32.ofInt 0 := cpz_lt h
theorem cpy_k8 {k8 g : Nat → Int32} {j : Nat} (h : j < 16) : va_cpy k8 g 0 0 16 j = k8 j := by
  unfold va_cpy
  simp [h]
theorem zb_z (j : Nat) : zb (Int32.ofInt 0) j = false := zb_0 j
/-- a fresh ledger -/
theorem LG_new {n : Int} {g1 g2 g3 g4 g5 k8 s sd : Nat → Int32} {re fl : Int} (hn : 0 ≤ n ∧ n ≤ 16) (h : LG n g1 g2 g3 g4 g5 re fl s ∨ ∀ j : Nat, j < 8 → g5 j = s (122 + j)) (hk : ∀ j : Nat, (j : Int) < n → k8 j = sd (5 * j + 4)) (hm : ∀ j : Nat, (j : Int) < n → i7 (sd (5 * j + 4)) 0 999) : LG n (cpy 10 g1 zz) (cpy 16 g2 zz) (va_cpy k8 g3 0 0 16) (cpy 64 g4 zz) g5 0 0 (lim n.toNat (cpy 131 s (zrs s)) sd) := by
  have h5 : ∀ j : Nat, j < 8 → g5 j = s (122 + j) := by
    rcases h with h | h
    · exact h.2.2.2.2.1
    · exact h
  refine ⟨fun j hj => ?_, fun j hj => ?_, fun j hj => ?_, fun j hj => ?_, fun j hj => ?_, fun j hj => ?_, fun j j1 j2 => zb_z j, ?_, fun j j1 j2 => ?_, fun j hj => ?_⟩
  · rw [cpy_zz hj, lim_z (by omega) (by omega) (by omega)]
  · rw [cpy_zz hj, lim_z (by omega) (by omega) (by omega)]
  · rw [cpy_k8 (by omega), lim_i (by omega)]; exact hk j hj
  · rw [cpy_zz hj, lim_z (by omega) (by omega) (by omega)]
  · rw [lim_n (by omega), cpz_lt (by omega), zrs_1 (by omega)]; exact h5 j hj
  · rw [lim_z (by omega) (by omega) (by omega), zb_z]; rfl
  · rw [lim_z (by omega) (by omega) (by omega)]
  · rw [lim_z (by omega) (by omega) (by omega)]; exact zb_z j
  · rw [lim_i (by omega)]; exact hm j hj
theorem RRd_cpy {n : Int} {f1 f2 f3 de dd : Nat → Int32} (h : RRd n f1 f2 f3 dd) : RRd n f1 f2 f3 (cpy (3 * n.toNat) de dd) := fun i hi => by
  rw [cpz_lt (by omega), cpz_lt (by omega), cpz_lt (by omega)]
  exact h i hi
theorem OV_cpy {m n : Int} {sd sr : Nat → Int32} (h : OVx m n sr) : OVx m n (cpy (5 * n.toNat) sd sr) := fun i hi => by
  rw [cpz_lt (by omega), cpz_lt (by omega), cpz_lt (by omega)]
  exact h i hi
theorem RRs_cpy {n : Int} {f4 f5 f6 f7 f8 sd sr : Nat → Int32} (h : RRs n f4 f5 f6 f7 f8 sr) : RRs n f4 f5 f6 f7 f8 (cpy (5 * n.toNat) sd sr) := fun i hi => by
  rw [cpz_lt (by omega), cpz_lt (by omega), cpz_lt (by omega), cpz_lt (by omega), cpz_lt (by omega)]
  exact h i hi
theorem lim_v {A B : Bool} {n q : Int} (hn : 0 ≤ n ∧ n ≤ 999) (hq : A = true → B = true → 0 ≤ q) : i7 (Int32.ofInt (bif A then (bif B then (bif decide (n < q) then n else q) else 0) else n)) 0 999 := by
  have k : 0 ≤ (bif A then (bif B then (bif decide (n < q) then n else q) else 0) else n) ∧ (bif A then (bif B then (bif decide (n < q) then n else q) else 0) else n) ≤ 999 := by
    cases A with
    | false => exact hn
    | true =>
      cases B with
      | false => show (0 : Int) ≤ 0 ∧ (0 : Int) ≤ 999; decide
      | true =>
        have := hq rfl rfl
        by_cases e : n < q
        · rw [decide_eq_true e]; exact hn
        · rw [decide_eq_false e]; show 0 ≤ q ∧ q ≤ 999; omega
  unfold i7
  rw [iv_to (by omega)]
  exact k
theorem tv_nb {σ : pS} {l m : Int} (hl : 0 ≤ l) (hm : 0 ≤ m) : 0 ≤ pt_tv (nb l m σ) σ ∧ pt_tv (nb l m σ) σ ≤ m := by
  rcases tv_or (σ := σ) (b := nb l m σ) with e | ⟨e1, e2⟩
  · rw [e]; omega
  · rw [e2]
    have := i3_t (Bool.and_eq_true_iff.mp e1).2
    omega
theorem rs_lim {tx dd sr : Nat → Int32} {ty dm sm : Int} {σ : pS} (hty : 0 ≤ ty ∧ ty ≤ 400) (hB : ∀ k : Nat, (k : Int) < ty → 0 ≤ (tx k).toInt ∧ (tx k).toInt ≤ 255) (hσ : pt_ok ty σ) (hw : (rs_σ tx ty dm dd σ).2.2.2.2 < 0) (hdd : ∀ i : Nat, (i : Int) < dm → 0 ≤ (dd (3 * i + 2)).toInt ∧ (dd (3 * i + 2)).toInt ≤ 999) : i7 (rs_s tx ty dm sm dd sr σ (Int.toNat (5 * sm + 4))) 0 999 := by
  obtain ⟨-, h2, -⟩ := rs_alive hty hB hσ hw
  unfold rs_s
  rw [upd_same]
  refine lim_v (tv_nb (by decide) (by decide)) (fun _ _ => ?_)
  obtain ⟨k, hk⟩ := Int.eq_ofNat_of_zero_le h2.1
  have hd := hdd k (by omega)
  refine Int.ediv_nonneg (Int.mul_nonneg (tv_nb (by decide) (by decide)).1 ?_) (tv_nb (tv_nb (by decide) (by decide)).1 (by decide)).1
  rw [hk, show Int.toNat (3 * (k : Int) + 2) = 3 * k + 2 by omega]
  exact hd.1
theorem rv_lim {tx sr : Nat → Int32} {ty sm : Int} {σ : pS} : i7 (rv_s tx ty sm sr σ (Int.toNat (5 * sm + 4))) 0 999 := by
  unfold rv_s
  rw [upd_same]
  have := tv_nb (σ := pt_tk tx ty (bOf sr sm (pt_tv (bPer σ) σ) (pt_tk tx ty (bPer σ) σ)) (pt_tk tx ty (bPer σ) σ)) (l := 1) (m := 999) (by decide) (by decide)
  unfold i7
  rw [iv_to (by omega)]
  exact this
def LM (t : pT) : Prop := t.1.2.2.2.2 < 0 → (∀ i : Nat, (i : Int) < t.2.2.1 → i7 (t.2.2.2.2.1 (5 * i + 4)) 0 999) ∧ OVx t.2.1 t.2.2.1 t.2.2.2.2.1
theorem LM_it {tx : Nat → Int32} {ty : Int} {t : pT} (hty : 0 ≤ ty ∧ ty ≤ 400) (hB : ∀ k : Nat, (k : Int) < ty → 0 ≤ (tx k).toInt ∧ (tx k).toInt ≤ 255) (h : rp_ok ty t) (hL : LM t) : LM (rp_it tx ty t) := by
  obtain ⟨σ, dm, sm, dd, sr, it⟩ := t
  obtain ⟨h1, h2, h3, -, h5⟩ := h
  have h1 : pt_ok ty σ := h1
  have h2 : 0 ≤ dm ∧ dm ≤ 10 := h2
  have h3 : 0 ≤ sm ∧ sm ≤ 16 := h3
  have h5 : σ.2.2.2.2 < 0 → ∀ i : Nat, (i : Int) < dm → 0 ≤ (dd (3 * i + 2)).toInt ∧ (dd (3 * i + 2)).toInt ≤ 999 := h5
  have hL : σ.2.2.2.2 < 0 → (∀ i : Nat, (i : Int) < sm → i7 (sr (5 * i + 4)) 0 999) ∧ OVx dm sm sr := hL
  have g1 := pt_tk_ok (b := rp_b (σ, dm, sm, dd, sr, it)) hty hB h1
  intro hw
  have K : LM (rp_rd tx ty (pt_tv (rp_b (σ, dm, sm, dd, sr, it)) σ) (rp_w tx ty (σ, dm, sm, dd, sr, it))) ∧ pt_ok ty (rp_rd tx ty (pt_tv (rp_b (σ, dm, sm, dd, sr, it)) σ) (rp_w tx ty (σ, dm, sm, dd, sr, it))).1 := by
    unfold rp_rd rp_w
    by_cases q : (pt_tk tx ty (rp_b (σ, dm, sm, dd, sr, it)) σ).2.2.2.2 < 0
    · have s0 := (tk_well h1 q).1
      rw [decide_eq_true q, cond_true]
      by_cases e0 : pt_tv (rp_b (σ, dm, sm, dd, sr, it)) σ = 0
      · rw [decide_eq_true e0, cond_true]
        exact ⟨fun _ => ⟨(hL s0).1, fun i hi => ⟨by have := ((hL s0).2 i hi).1; show (sr (5 * i + 1)).toInt < dm + 1; omega, ((hL s0).2 i hi).2⟩⟩, rd_ok hty hB g1⟩
      · rw [decide_eq_false e0, cond_false]
        by_cases e1 : pt_tv (rp_b (σ, dm, sm, dd, sr, it)) σ = 1
        · rw [decide_eq_true e1, cond_true]
          refine ⟨fun hw2 => ⟨fun i hi => ?_, fun i hi => ?_⟩, rs_ok hty hB g1⟩
          · have hi : (i : Int) < sm + 1 := hi
            by_cases e : (i : Int) = sm
            · have := rs_lim (sm := sm) (sr := sr) hty hB g1 hw2 (h5 s0)
              rw [show Int.toNat (5 * sm + 4) = 5 * i + 4 by omega] at this
              exact this
            · show i7 (rs_s tx ty dm sm dd sr _ (5 * i + 4)) 0 999
              unfold rs_s
              rw [upd_ne (by omega), upd_ne (by omega), upd_ne (by omega), upd_ne (by omega), upd_ne (by omega)]
              exact (hL s0).1 i (by omega)
          · have hi : (i : Int) < sm + 1 := hi
            show (rs_s tx ty dm sm dd sr (pt_tk tx ty (rp_b (σ, dm, sm, dd, sr, it)) σ) (5 * i + 1)).toInt < dm ∧ ((rs_s tx ty dm sm dd sr (pt_tk tx ty (rp_b (σ, dm, sm, dd, sr, it)) σ) (5 * i + 2)).toInt = 3 → 0 ≤ (rs_s tx ty dm sm dd sr (pt_tk tx ty (rp_b (σ, dm, sm, dd, sr, it)) σ) (5 * i + 3)).toInt ∧ (rs_s tx ty dm sm dd sr (pt_tk tx ty (rp_b (σ, dm, sm, dd, sr, it)) σ) (5 * i + 3)).toInt < sm + 1)
            by_cases e : (i : Int) = sm
            · obtain ⟨-, k2, k3⟩ := rs_alive (σ := pt_tk tx ty (rp_b (σ, dm, sm, dd, sr, it)) σ) (dm := dm) (dd := dd) hty hB g1 hw2
              refine ⟨?_, fun z => ?_⟩
              · unfold rs_s
                rw [upd_ne (by omega), upd_ne (by omega), upd_ne (by omega), show 5 * i + 1 = Int.toNat (5 * sm + 1) by omega, upd_same, iv_to (by omega)]
                omega
              · unfold rs_s at z
                rw [upd_ne (by omega), upd_ne (by omega), show 5 * i + 2 = Int.toNat (5 * sm + 2) by omega, upd_same, iv_to (by omega)] at z
                omega
            · unfold rs_s
              rw [upd_ne (by omega), upd_ne (by omega), upd_ne (by omega), upd_ne (by omega), upd_ne (by omega), upd_ne (by omega), upd_ne (by omega), upd_ne (by omega), upd_ne (by omega), upd_ne (by omega), upd_ne (by omega), upd_ne (by omega), upd_ne (by omega), upd_ne (by omega), upd_ne (by omega)]
              have k := (hL s0).2 i (by omega)
              exact ⟨k.1, fun z => by have := k.2 z; omega⟩
        · rw [decide_eq_false e1, cond_false]
          refine ⟨fun hw2 => ⟨fun i hi => ?_, fun i hi => ?_⟩, rv_ok hty hB g1⟩
          · have hi : (i : Int) < sm + 1 := hi
            by_cases e : (i : Int) = sm
            · have := rv_lim (tx := tx) (ty := ty) (sm := sm) (sr := sr) (σ := pt_tk tx ty (rp_b (σ, dm, sm, dd, sr, it)) σ)
              rw [show Int.toNat (5 * sm + 4) = 5 * i + 4 by omega] at this
              exact this
            · show i7 (rv_s tx ty sm sr _ (5 * i + 4)) 0 999
              unfold rv_s
              rw [upd_ne (by omega), upd_ne (by omega), upd_ne (by omega), upd_ne (by omega), upd_ne (by omega)]
              exact (hL s0).1 i (by omega)
          · have hi : (i : Int) < sm + 1 := hi
            show (rv_s tx ty sm sr (pt_tk tx ty (rp_b (σ, dm, sm, dd, sr, it)) σ) (5 * i + 1)).toInt < dm ∧ ((rv_s tx ty sm sr (pt_tk tx ty (rp_b (σ, dm, sm, dd, sr, it)) σ) (5 * i + 2)).toInt = 3 → 0 ≤ (rv_s tx ty sm sr (pt_tk tx ty (rp_b (σ, dm, sm, dd, sr, it)) σ) (5 * i + 3)).toInt ∧ (rv_s tx ty sm sr (pt_tk tx ty (rp_b (σ, dm, sm, dd, sr, it)) σ) (5 * i + 3)).toInt < sm + 1)
            by_cases e : (i : Int) = sm
            · obtain ⟨-, k2, -⟩ := rv_alive (σ := pt_tk tx ty (rp_b (σ, dm, sm, dd, sr, it)) σ) (sm := sm) (sr := sr) hty hB g1 hw2
              refine ⟨?_, fun _ => ?_⟩
              · unfold rv_s
                rw [upd_ne (by omega), upd_ne (by omega), upd_ne (by omega), show 5 * i + 1 = Int.toNat (5 * sm + 1) by omega, upd_same, upd_ne (by omega), Int32.ofInt_toInt]
                obtain ⟨o, ho⟩ := Int.eq_ofNat_of_zero_le k2.1
                rw [ho, show Int.toNat (5 * (o : Int) + 1) = 5 * o + 1 by omega]
                exact ((hL s0).2 o (by omega)).1
              · unfold rv_s
                rw [upd_ne (by omega), show 5 * i + 3 = Int.toNat (5 * sm + 3) by omega, upd_same, iv_to (by omega)]
                omega
            · unfold rv_s
              rw [upd_ne (by omega), upd_ne (by omega), upd_ne (by omega), upd_ne (by omega), upd_ne (by omega), upd_ne (by omega), upd_ne (by omega), upd_ne (by omega), upd_ne (by omega), upd_ne (by omega), upd_ne (by omega), upd_ne (by omega), upd_ne (by omega), upd_ne (by omega), upd_ne (by omega)]
              have k := (hL s0).2 i (by omega)
              exact ⟨k.1, fun z => by have := k.2 z; omega⟩
    · rw [decide_eq_false q, cond_false]
      exact ⟨fun z => absurd z q, g1⟩
  exact K.1 (tk_well K.2 hw).1
theorem LM_lp {tx : Nat → Int32} {ty : Int} (hty : 0 ≤ ty ∧ ty ≤ 400) (hB : ∀ k : Nat, (k : Int) < ty → 0 ≤ (tx k).toInt ∧ (tx k).toInt ≤ 255) : ∀ (m : Nat) {t : pT}, rp_ok ty t → t.2.2.2.2.2 + m ≤ 1000 → LM t → LM (rp_lp tx ty m t)
  | 0, _, _, _, h => h
  | m + 1, t, hok, hm, h => by
    show LM (bif rp_go t then rp_lp tx ty m (rp_it tx ty t) else t)
    cases rp_go t with
    | false => exact h
    | true =>
      have e : (rp_it tx ty t).2.2.2.2.2 = t.2.2.2.2.2 + 1 := by
        unfold rp_it rp_e rp_rd
        cases decide ((rp_w tx ty t).1.2.2.2.2 < 0) with
        | false => rfl
        | true => cases decide (pt_tv (rp_b t) t.1 = 0) <;> cases decide (pt_tv (rp_b t) t.1 = 1) <;> rfl
      exact LM_lp hty hB m (rp_ok_it hty hB hok (by omega)) (by rw [e]; omega) (LM_it hty hB hok h)
theorem end_LM {tx dd sr : Nat → Int32} {ln va : Int} (hln : 0 ≤ ln ∧ ln ≤ 400) (hB : ∀ k : Nat, (k : Int) < ln → 0 ≤ (tx k).toInt ∧ (tx k).toInt ≤ 255) (hva : -2147483648 ≤ va ∧ va ≤ 2147483647) (hw : (rp_end tx ln va dd sr).1.2.2.2.2 < 0) : (∀ i : Nat, (i : Int) < (rp_end tx ln va dd sr).2.2.1 → i7 ((rp_end tx ln va dd sr).2.2.2.2.1 (5 * i + 4)) 0 999) ∧ OVx (rp_end tx ln va dd sr).2.1 (rp_end tx ln va dd sr).2.2.1 (rp_end tx ln va dd sr).2.2.2.2.1 := LM_lp hln hB 27 (rp_t0_ok hln hB hva) (by show (0 : Int) + (27 : Nat) ≤ 1000; decide) (fun _ => ⟨fun i hi => by have hi : (i : Int) < 0 := hi; omega, fun i hi => by have hi : (i : Int) < 0 := hi; omega⟩) hw

theorem LI_papers0 {mw : List va_E} (h : LI false mw) : ∃ (v : Bool) (c : Int) (mw1 mw2 : List va_E), sX11_papers [.ref 0] mw = some (some (iv c), mw1) ∧ sX12_papers [.ref 56] mw1 = some (some (iv c), mw2) ∧ LI v mw2 ∧ mid mw1 := by
  refine LI_elim h (fun ki ln bt rl cp cs ct cv rr dr ja ea ma a1 a2 a3 a4 a5 a6 a7 a8 jb eb mb b1 b2 b3 b4 b5 b6 b7 b8 re fl g1 g2 g3 g4 g5 rt la rs rg pd du ds me tt gr su gp mk rf m1 m2 m3 m4 m5 mr mf n1 n2 n3 n4 n5 nr nf th tr db sn dm sm ty nx tk pl va fa lr ri s kp ik tn de sd dd sr tx pa e hh => ?_)
  obtain ⟨⟨⟨hla, hrf⟩, ⟨e1, e2⟩, ⟨q1, q2, q3, q4, q5, q6, q7, q8, q9, q10⟩, r1, r2, r3, r4, r5, r6, r7, r8, r9, r10⟩, hX, hK, ⟨et, hl⟩, hRo, hRo2, hLG, hI0, hI1, hik, htt, hmk⟩ := hh
  subst e
  clear h
  have et := et.symm
  subst et
  obtain rfl : rr = 5 := e1
  obtain rfl : dr = 14 := e2
  have hB := tx_B hl
  obtain ⟨⟨-, -, -, ⟨va1, va2, -⟩, -⟩, o2, o3, -, -⟩ := end_ok (tx := tx) (dd := dd) (sr := sr) (va := va) q1 hB r4
  obtain ⟨r, hr, hc⟩ := c_papersC0 (ki := ki) (ln := ln) (rl := rl) (cp := cp) (cs := cs) (ct := ct) (cv := cv) (ja := ja) (ea := ea) (ma := ma) (a1 := a1) (a2 := a2) (a3 := a3) (a4 := a4) (a5 := a5) (a6 := a6) (a7 := a7) (a8 := a8) (jb := jb) (eb := eb) (mb := mb) (b1 := b1) (b2 := b2) (b3 := b3) (b4 := b4) (b5 := b5) (b6 := b6) (b7 := b7) (b8 := b8) (re := re) (fl := fl) (g1 := g1) (g2 := g2) (g3 := g3) (g4 := g4) (g5 := g5) (tx := tx) (dd := dd) (sr := sr) (va := va) (D := (dW rt la rs rg pd du ds me tt gr su gp mk rf m1 m2 m3 m4 m5 mr mf n1 n2 n3 n4 n5 nr nf (rL (ro_ th tr db sn dm sm ln nx tk pl va fa lr ri) s kp ik tn de sd dd sr tx pa))) rfl q1 hl hB r4 q9 q10
  rcases hc with ⟨y1, y2, y3, y4, k1, k2, k3, k4, k5, k6, k7, k8, e, p1, p2, p3, dw, dsq, kd, ks⟩ | ⟨y1, y2, y3, y4, k1, k2, k3, k4, k5, k6, k7, k8, z1, z2, z3, e, p1, z2r, z3r, kd, ks⟩
  · subst e
    have hR := c_papersR (C := (cW 0 0 bt (.ref 14) y1 y2 y3 y4 14 5 ja ea ma a1 a2 a3 a4 a5 a6 a7 a8 (rp_end tx ln va dd sr).2.2.2.2.2 (rp_end tx ln va dd sr).2.1 (rp_end tx ln va dd sr).2.2.1 k1 k2 k3 k4 k5 k6 k7 k8 0 0 (cpy 10 g1 zz) (cpy 16 g2 zz) (va_cpy k8 g3 0 0 16) (cpy 64 g4 zz) g5 (dW rt la rs rg pd du ds me tt gr su gp mk rf m1 m2 m3 m4 m5 mr mf n1 n2 n3 n4 n5 nr nf []))) (th := th) (tr := tr) (db := db) (sn := sn) (dm := dm) (sm := sm) (nx := nx) (tk := tk) (pl := pl) (va := va) (fa := fa) (lr := lr) (ri := ri) (ty := ln) (s := s) (kp := kp) (ik := ik) (tn := tn) (de := de) (sd := sd) (dd := dd) (sr := sr) (tx := tx) (pa := pa) rfl q1 hB r4
    rw [decide_eq_true p1, cond_true] at hR
    refine ⟨true, _, _, _, hr, hR, ?_, mid_GW⟩
    show LI true (GW 0 0 bt (.ref 14) y1 y2 y3 y4 14 5 ja ea ma a1 a2 a3 a4 a5 a6 a7 a8 (rp_end tx ln va dd sr).2.2.2.2.2 (rp_end tx ln va dd sr).2.1 (rp_end tx ln va dd sr).2.2.1 k1 k2 k3 k4 k5 k6 k7 k8 0 0 (cpy 10 g1 zz) (cpy 16 g2 zz) (va_cpy k8 g3 0 0 16) (cpy 64 g4 zz) g5 rt la rs rg pd du ds me tt gr su gp mk rf m1 m2 m3 m4 m5 mr mf n1 n2 n3 n4 n5 nr nf 0 tr (rp_end tx ln va dd sr).2.1 (rp_end tx ln va dd sr).2.2.1 (rp_end tx ln va dd sr).2.1 (rp_end tx ln va dd sr).2.2.1 0 ((rp_end tx ln va dd sr).1).1 ((rp_end tx ln va dd sr).1).2.1 ((rp_end tx ln va dd sr).1).2.2.1 ((rp_end tx ln va dd sr).1).2.2.2.1 ((rp_end tx ln va dd sr).1).2.2.2.2 lr ri (lim (rp_end tx ln va dd sr).2.2.1.toNat (cpy 131 s (zrs s)) (cpy (5 * (rp_end tx ln va dd sr).2.2.1.toNat) sd (rp_end tx ln va dd sr).2.2.2.2.1)) kp (upd (upd ik 0 (vp_nar (mm_ty 2) (Int32.ofInt 0))) 1 (vp_nar (mm_ty 2) (Int32.ofInt 0))) tn (cpy (3 * (rp_end tx ln va dd sr).2.1.toNat) de (rp_end tx ln va dd sr).2.2.2.1) (cpy (5 * (rp_end tx ln va dd sr).2.2.1.toNat) sd (rp_end tx ln va dd sr).2.2.2.2.1) (rp_end tx ln va dd sr).2.2.2.1 (rp_end tx ln va dd sr).2.2.2.2.1 tx pa)
    have sd' := SD_cpy o3.1 r9 dsq
    have de' := DE_cpy o2.1 r8 dw
    refine LI_to ⟨⟨⟨hla, hrf⟩, ⟨rfl, rfl⟩, ⟨⟨by decide, by decide⟩, q2, q3, q4, o2, o3, q7, q8, kd, ks⟩, o2, o3, ⟨by decide, by decide⟩, ⟨va1, va2⟩, r5, RS_lim (by omega) r6, (fun j hj => by rw [ik_0 j hj]; exact ⟨by decide, by decide⟩), de', sd', r10⟩, ⟨fun i hi h3 => ?_, fun d hd => ?_⟩, fun i hi hz => absurd (ik_0 i hi) hz, ⟨rfl, fun k hk => by omega⟩, (fun z => by cases z), (fun _ => ⟨rfl, rfl, RRd_cpy p2, RRs_cpy p3, OV_cpy (end_LM q1 hB r4 p1).2⟩), LG_new (re := re) (fl := fl) o3 (Or.inr hLG.2.2.2.2.1) (fun j hj => (RRs_cpy p3 j hj).2.2.2.2) (fun j hj => by rw [cpz_lt (by omega)]; exact (end_LM q1 hB r4 p1).1 j hj), (fun z => by rw [zb_z] at z; cases z), (fun z => by rw [zb_z] at z; cases z), (fun i hi => by rw [ik_0 i hi, zb_z]; rfl), htt, hmk⟩
    · by_cases q : (i : Int) < (rp_end tx ln va dd sr).2.2.1
      · rw [cpz_lt (by omega)] at h3 ⊢
        exact (dsq i q).2.2.2.2 h3
      · rw [cpz_ge (by omega)] at h3 ⊢
        exact hX.1 i hi h3
    · rw [lim_z0 hd]
      exact (de' d hd).2.2.1
  · subst e
    have hR := c_papersR (C := (cW ki ln bt (.ref 14) y1 y2 y3 y4 5 14 ja ea ma a1 a2 a3 a4 a5 a6 a7 a8 z1 z2 z3 k1 k2 k3 k4 k5 k6 k7 k8 re fl g1 g2 g3 g4 g5 (dW rt la rs rg pd du ds me tt gr su gp mk rf m1 m2 m3 m4 m5 mr mf n1 n2 n3 n4 n5 nr nf []))) (th := th) (tr := tr) (db := db) (sn := sn) (dm := dm) (sm := sm) (nx := nx) (tk := tk) (pl := pl) (va := va) (fa := fa) (lr := lr) (ri := ri) (ty := ln) (s := s) (kp := kp) (ik := ik) (tn := tn) (de := de) (sd := sd) (dd := dd) (sr := sr) (tx := tx) (pa := pa) rfl q1 hB r4
    rw [decide_eq_false (by omega), cond_false] at hR
    refine ⟨false, _, _, _, hr, hR, ?_, mid_GW⟩
    show LI false (GW ki ln bt (.ref 14) y1 y2 y3 y4 5 14 ja ea ma a1 a2 a3 a4 a5 a6 a7 a8 z1 z2 z3 k1 k2 k3 k4 k5 k6 k7 k8 re fl g1 g2 g3 g4 g5 rt la rs rg pd du ds me tt gr su gp mk rf m1 m2 m3 m4 m5 mr mf n1 n2 n3 n4 n5 nr nf 0 tr db sn (rp_end tx ln va dd sr).2.1 (rp_end tx ln va dd sr).2.2.1 ln ((rp_end tx ln va dd sr).1).1 ((rp_end tx ln va dd sr).1).2.1 ((rp_end tx ln va dd sr).1).2.2.1 ((rp_end tx ln va dd sr).1).2.2.2.1 ((rp_end tx ln va dd sr).1).2.2.2.2 lr ri s kp ik tn de sd (rp_end tx ln va dd sr).2.2.2.1 (rp_end tx ln va dd sr).2.2.2.2.1 tx pa)
    exact LI_to ⟨⟨⟨hla, hrf⟩, ⟨rfl, rfl⟩, ⟨q1, q2, q3, q4, z2r, z3r, q7, q8, kd, ks⟩, r1, r2, q1, ⟨va1, va2⟩, r5, r6, r7, r8, r9, r10⟩, hX, hK, ⟨rfl, hl⟩, hRo, (fun z => by cases z), hLG, hI0, hI1, hik, htt, hmk⟩
theorem LI_papers1 {mw : List va_E} (h : LI true mw) : ∃ (v : Bool) (c : Int) (mw1 mw2 : List va_E), sX11_papers [.ref 0] mw = some (some (iv c), mw1) ∧ sX12_papers [.ref 56] mw1 = some (some (iv c), mw2) ∧ LI v mw2 ∧ mid mw1 := by
  refine LI_elim h (fun ki ln bt rl cp cs ct cv rr dr ja ea ma a1 a2 a3 a4 a5 a6 a7 a8 jb eb mb b1 b2 b3 b4 b5 b6 b7 b8 re fl g1 g2 g3 g4 g5 rt la rs rg pd du ds me tt gr su gp mk rf m1 m2 m3 m4 m5 mr mf n1 n2 n3 n4 n5 nr nf th tr db sn dm sm ty nx tk pl va fa lr ri s kp ik tn de sd dd sr tx pa e hh => ?_)
  obtain ⟨⟨⟨hla, hrf⟩, ⟨e1, e2⟩, ⟨q1, q2, q3, q4, q5, q6, q7, q8, q9, q10⟩, r1, r2, r3, r4, r5, r6, r7, r8, r9, r10⟩, hX, hK, ⟨et, hl⟩, hRo, hRo2, hLG, hI0, hI1, hik, htt, hmk⟩ := hh
  subst e
  clear h
  have et := et.symm
  subst et
  obtain rfl : rr = 14 := e1
  obtain rfl : dr = 5 := e2
  have hB := tx_B hl
  obtain ⟨⟨-, -, -, ⟨va1, va2, -⟩, -⟩, o2, o3, -, -⟩ := end_ok (tx := tx) (dd := dd) (sr := sr) (va := va) q1 hB r4
  obtain ⟨r, hr, hc⟩ := c_papersC1 (ki := ki) (ln := ln) (rl := rl) (cp := cp) (cs := cs) (ct := ct) (cv := cv) (ja := ja) (ea := ea) (ma := ma) (a1 := a1) (a2 := a2) (a3 := a3) (a4 := a4) (a5 := a5) (a6 := a6) (a7 := a7) (a8 := a8) (jb := jb) (eb := eb) (mb := mb) (b1 := b1) (b2 := b2) (b3 := b3) (b4 := b4) (b5 := b5) (b6 := b6) (b7 := b7) (b8 := b8) (re := re) (fl := fl) (g1 := g1) (g2 := g2) (g3 := g3) (g4 := g4) (g5 := g5) (tx := tx) (dd := dd) (sr := sr) (va := va) (D := (dW rt la rs rg pd du ds me tt gr su gp mk rf m1 m2 m3 m4 m5 mr mf n1 n2 n3 n4 n5 nr nf (rL (ro_ th tr db sn dm sm ln nx tk pl va fa lr ri) s kp ik tn de sd dd sr tx pa))) rfl q1 hl hB r4 q7 q8
  rcases hc with ⟨y1, y2, y3, y4, k1, k2, k3, k4, k5, k6, k7, k8, e, p1, p2, p3, dw, dsq, kd, ks⟩ | ⟨y1, y2, y3, y4, k1, k2, k3, k4, k5, k6, k7, k8, z1, z2, z3, e, p1, z2r, z3r, kd, ks⟩
  · subst e
    have hR := c_papersR (C := (cW 0 0 bt (.ref 5) y1 y2 y3 y4 5 14 (rp_end tx ln va dd sr).2.2.2.2.2 (rp_end tx ln va dd sr).2.1 (rp_end tx ln va dd sr).2.2.1 k1 k2 k3 k4 k5 k6 k7 k8 jb eb mb b1 b2 b3 b4 b5 b6 b7 b8 0 0 (cpy 10 g1 zz) (cpy 16 g2 zz) (va_cpy k8 g3 0 0 16) (cpy 64 g4 zz) g5 (dW rt la rs rg pd du ds me tt gr su gp mk rf m1 m2 m3 m4 m5 mr mf n1 n2 n3 n4 n5 nr nf []))) (th := th) (tr := tr) (db := db) (sn := sn) (dm := dm) (sm := sm) (nx := nx) (tk := tk) (pl := pl) (va := va) (fa := fa) (lr := lr) (ri := ri) (ty := ln) (s := s) (kp := kp) (ik := ik) (tn := tn) (de := de) (sd := sd) (dd := dd) (sr := sr) (tx := tx) (pa := pa) rfl q1 hB r4
    rw [decide_eq_true p1, cond_true] at hR
    refine ⟨false, _, _, _, hr, hR, ?_, mid_GW⟩
    show LI false (GW 0 0 bt (.ref 5) y1 y2 y3 y4 5 14 (rp_end tx ln va dd sr).2.2.2.2.2 (rp_end tx ln va dd sr).2.1 (rp_end tx ln va dd sr).2.2.1 k1 k2 k3 k4 k5 k6 k7 k8 jb eb mb b1 b2 b3 b4 b5 b6 b7 b8 0 0 (cpy 10 g1 zz) (cpy 16 g2 zz) (va_cpy k8 g3 0 0 16) (cpy 64 g4 zz) g5 rt la rs rg pd du ds me tt gr su gp mk rf m1 m2 m3 m4 m5 mr mf n1 n2 n3 n4 n5 nr nf 0 tr (rp_end tx ln va dd sr).2.1 (rp_end tx ln va dd sr).2.2.1 (rp_end tx ln va dd sr).2.1 (rp_end tx ln va dd sr).2.2.1 0 ((rp_end tx ln va dd sr).1).1 ((rp_end tx ln va dd sr).1).2.1 ((rp_end tx ln va dd sr).1).2.2.1 ((rp_end tx ln va dd sr).1).2.2.2.1 ((rp_end tx ln va dd sr).1).2.2.2.2 lr ri (lim (rp_end tx ln va dd sr).2.2.1.toNat (cpy 131 s (zrs s)) (cpy (5 * (rp_end tx ln va dd sr).2.2.1.toNat) sd (rp_end tx ln va dd sr).2.2.2.2.1)) kp (upd (upd ik 0 (vp_nar (mm_ty 2) (Int32.ofInt 0))) 1 (vp_nar (mm_ty 2) (Int32.ofInt 0))) tn (cpy (3 * (rp_end tx ln va dd sr).2.1.toNat) de (rp_end tx ln va dd sr).2.2.2.1) (cpy (5 * (rp_end tx ln va dd sr).2.2.1.toNat) sd (rp_end tx ln va dd sr).2.2.2.2.1) (rp_end tx ln va dd sr).2.2.2.1 (rp_end tx ln va dd sr).2.2.2.2.1 tx pa)
    have sd' := SD_cpy o3.1 r9 dsq
    have de' := DE_cpy o2.1 r8 dw
    refine LI_to ⟨⟨⟨hla, hrf⟩, ⟨rfl, rfl⟩, ⟨⟨by decide, by decide⟩, q2, o2, o3, q5, q6, kd, ks, q9, q10⟩, o2, o3, ⟨by decide, by decide⟩, ⟨va1, va2⟩, r5, RS_lim (by omega) r6, (fun j hj => by rw [ik_0 j hj]; exact ⟨by decide, by decide⟩), de', sd', r10⟩, ⟨fun i hi h3 => ?_, fun d hd => ?_⟩, fun i hi hz => absurd (ik_0 i hi) hz, ⟨rfl, fun k hk => by omega⟩, (fun _ => ⟨rfl, rfl, RRd_cpy p2, RRs_cpy p3, OV_cpy (end_LM q1 hB r4 p1).2⟩), (fun z => by cases z), LG_new (re := re) (fl := fl) o3 (Or.inr hLG.2.2.2.2.1) (fun j hj => (RRs_cpy p3 j hj).2.2.2.2) (fun j hj => by rw [cpz_lt (by omega)]; exact (end_LM q1 hB r4 p1).1 j hj), (fun z => by rw [zb_z] at z; cases z), (fun z => by rw [zb_z] at z; cases z), (fun i hi => by rw [ik_0 i hi, zb_z]; rfl), htt, hmk⟩
    · by_cases q : (i : Int) < (rp_end tx ln va dd sr).2.2.1
      · rw [cpz_lt (by omega)] at h3 ⊢
        exact (dsq i q).2.2.2.2 h3
      · rw [cpz_ge (by omega)] at h3 ⊢
        exact hX.1 i hi h3
    · rw [lim_z0 hd]
      exact (de' d hd).2.2.1
  · subst e
    have hR := c_papersR (C := (cW ki ln bt (.ref 5) y1 y2 y3 y4 14 5 z1 z2 z3 k1 k2 k3 k4 k5 k6 k7 k8 jb eb mb b1 b2 b3 b4 b5 b6 b7 b8 re fl g1 g2 g3 g4 g5 (dW rt la rs rg pd du ds me tt gr su gp mk rf m1 m2 m3 m4 m5 mr mf n1 n2 n3 n4 n5 nr nf []))) (th := th) (tr := tr) (db := db) (sn := sn) (dm := dm) (sm := sm) (nx := nx) (tk := tk) (pl := pl) (va := va) (fa := fa) (lr := lr) (ri := ri) (ty := ln) (s := s) (kp := kp) (ik := ik) (tn := tn) (de := de) (sd := sd) (dd := dd) (sr := sr) (tx := tx) (pa := pa) rfl q1 hB r4
    rw [decide_eq_false (by omega), cond_false] at hR
    refine ⟨true, _, _, _, hr, hR, ?_, mid_GW⟩
    show LI true (GW ki ln bt (.ref 5) y1 y2 y3 y4 14 5 z1 z2 z3 k1 k2 k3 k4 k5 k6 k7 k8 jb eb mb b1 b2 b3 b4 b5 b6 b7 b8 re fl g1 g2 g3 g4 g5 rt la rs rg pd du ds me tt gr su gp mk rf m1 m2 m3 m4 m5 mr mf n1 n2 n3 n4 n5 nr nf 0 tr db sn (rp_end tx ln va dd sr).2.1 (rp_end tx ln va dd sr).2.2.1 ln ((rp_end tx ln va dd sr).1).1 ((rp_end tx ln va dd sr).1).2.1 ((rp_end tx ln va dd sr).1).2.2.1 ((rp_end tx ln va dd sr).1).2.2.2.1 ((rp_end tx ln va dd sr).1).2.2.2.2 lr ri s kp ik tn de sd (rp_end tx ln va dd sr).2.2.2.1 (rp_end tx ln va dd sr).2.2.2.2.1 tx pa)
    exact LI_to ⟨⟨⟨hla, hrf⟩, ⟨rfl, rfl⟩, ⟨q1, q2, z2r, z3r, q5, q6, kd, ks, q9, q10⟩, r1, r2, q1, ⟨va1, va2⟩, r5, r6, r7, r8, r9, r10⟩, hX, hK, ⟨rfl, hl⟩, (fun z => by cases z), hRo2, hLG, hI0, hI1, hik, htt, hmk⟩
theorem LI_papers {v : Bool} {mw : List va_E} (h : LI v mw) : ∃ (v : Bool) (c : Int) (mw1 mw2 : List va_E), sX11_papers [.ref 0] mw = some (some (iv c), mw1) ∧ sX12_papers [.ref 56] mw1 = some (some (iv c), mw2) ∧ LI v mw2 ∧ mid mw1 := by
  cases v with
  | false => exact LI_papers0 h
  | true => exact LI_papers1 h
