/-! ===== the invariant between calls ===== -/
def KE (mw : List va_E) : Prop := ∀ i : Nat, i < 2 → as_elt mw 59 i ≠ some 0 → (∀ d : Nat, d < 10 → ∃ x y, as_elt mw 58 (131 * i + d) = some x ∧ as_elt mw 61 (3 * d + 2) = some y ∧ 0 ≤ x.toInt ∧ x.toInt ≤ y.toInt) ∧ ∀ p : Nat, p < 8 → ∃ x, as_elt mw 58 (131 * i + 122 + p) = some x ∧ i7 x 0 9999
def TL (mw : List va_E) : Prop := ∃ n : Int, as_fld mw 1 1 = some (iv n) ∧ as_fld mw 56 15 = some (iv n) ∧ (0 ≤ n ∧ n ≤ 400) ∧ ∀ k : Nat, (k : Int) < n → ∃ x y, as_elt mw 2 k = some x ∧ as_elt mw 65 k = some y ∧ (-128 ≤ x.toInt ∧ x.toInt ≤ 127) ∧ y.toInt = x.toInt % 256
def LI (v : Bool) (mw : List va_E) : Prop := as_HI (shf v) mw ∧ as_Ex mw ∧ KE mw ∧ TL mw
theorem elt_at {mw : List va_E} {k t n j : Nat} {f : Nat → Int32} (h : mw[k]? = some (.inl (t, n, .inl f))) (hj : j < n) : as_elt mw k j = some (f j) := by
  unfold as_elt
  rw [h]
  have : Nat.ble (j + 1) n = true := Nat.ble_eq.mpr hj
  simp only [this, cond_true]
theorem elt_lt {mw : List va_E} {k t n j : Nat} {f : Nat → Int32} {x : Int32} (h : mw[k]? = some (.inl (t, n, .inl f))) (he : as_elt mw k j = some x) : j < n ∧ f j = x := by
  unfold as_elt at he
  rw [h] at he
  cases hb : Nat.ble (j + 1) n with
  | false => simp only [hb, cond_false] at he; cases he
  | true => simp only [hb, cond_true] at he; exact ⟨Nat.le_of_ble_eq_true hb, Option.some.inj he⟩
theorem shf_ok (v : Bool) : as_OK (shf v) = true := by
  cases v with
  | false => exact sh0_ok
  | true => exact sh1_ok
/-- rows and fields that stay -/
def ab_stE (sh : List ab_S) (k j : Nat) : Bool := match ab_arr sh k with
  | some a => a.2.2.any (fun r => r.2.2.1 && (Nat.ble r.1 j && Nat.ble j r.2.1))
  | none => false
theorem st_E {sh : List ab_S} {m1 m2 : List va_E} {k j : Nat} (hf : as_Fr sh m1 m2) (h : ab_stE sh k j = true) : as_elt m2 k j = as_elt m1 k j := by
  unfold ab_stE at h
  split at h
  · rename_i a ha
    obtain ⟨r, hr, h1⟩ := List.any_eq_true.mp h
    rw [Bool.and_eq_true, Bool.and_eq_true] at h1
    exact hf.1 k a ha r hr h1.1 j (Nat.le_of_ble_eq_true h1.2.1) (Nat.le_of_ble_eq_true h1.2.2)
  · cases h
theorem st_all {sh : List ab_S} {k n b t : Nat} {L : List (Int × Int)} (hs : sh[k]? = some (.inl (t, n, [(0, b, true, L)]))) {j : Nat} (hj : j ≤ b) : ab_stE sh k j = true := by
  have e : ab_arr sh k = some (t, n, [(0, b, true, L)]) := by unfold ab_arr; rw [hs]
  unfold ab_stE
  rw [e]
  show (true && (Nat.ble 0 j && Nat.ble j b) || false) = true
  rw [Nat.ble_eq_true_of_le (Nat.zero_le j), Nat.ble_eq_true_of_le hj]
  rfl
theorem stay0_2 {j : Nat} (hj : j ≤ 399) : ab_stE sh0 2 j = true := st_all (sh := sh0) (k := 2) rfl hj
theorem stay0_58 {j : Nat} (hj : j ≤ 261) : ab_stE sh0 58 j = true := st_all (sh := sh0) (k := 58) rfl hj
theorem stay0_59 {j : Nat} (hj : j ≤ 1) : ab_stE sh0 59 j = true := st_all (sh := sh0) (k := 59) rfl hj
theorem stay0_61 {j : Nat} (hj : j ≤ 29) : ab_stE sh0 61 j = true := st_all (sh := sh0) (k := 61) rfl hj
theorem stay0_65 {j : Nat} (hj : j ≤ 399) : ab_stE sh0 65 j = true := st_all (sh := sh0) (k := 65) rfl hj
theorem stay1_2 {j : Nat} (hj : j ≤ 399) : ab_stE sh1 2 j = true := st_all (sh := sh1) (k := 2) rfl hj
theorem stay1_58 {j : Nat} (hj : j ≤ 261) : ab_stE sh1 58 j = true := st_all (sh := sh1) (k := 58) rfl hj
theorem stay1_59 {j : Nat} (hj : j ≤ 1) : ab_stE sh1 59 j = true := st_all (sh := sh1) (k := 59) rfl hj
theorem stay1_61 {j : Nat} (hj : j ≤ 29) : ab_stE sh1 61 j = true := st_all (sh := sh1) (k := 61) rfl hj
theorem stay1_65 {j : Nat} (hj : j ≤ 399) : ab_stE sh1 65 j = true := st_all (sh := sh1) (k := 65) rfl hj
theorem stay_2 {v : Bool} {m1 m2 : List va_E} {j : Nat} (hf : as_Fr (shf v) m1 m2) (hj : j ≤ 399) : as_elt m2 2 j = as_elt m1 2 j := by
  cases v with
  | false => exact st_E hf (stay0_2 hj)
  | true => exact st_E hf (stay1_2 hj)
theorem stay_58 {v : Bool} {m1 m2 : List va_E} {j : Nat} (hf : as_Fr (shf v) m1 m2) (hj : j ≤ 261) : as_elt m2 58 j = as_elt m1 58 j := by
  cases v with
  | false => exact st_E hf (stay0_58 hj)
  | true => exact st_E hf (stay1_58 hj)
theorem stay_59 {v : Bool} {m1 m2 : List va_E} {j : Nat} (hf : as_Fr (shf v) m1 m2) (hj : j ≤ 1) : as_elt m2 59 j = as_elt m1 59 j := by
  cases v with
  | false => exact st_E hf (stay0_59 hj)
  | true => exact st_E hf (stay1_59 hj)
theorem stay_61 {v : Bool} {m1 m2 : List va_E} {j : Nat} (hf : as_Fr (shf v) m1 m2) (hj : j ≤ 29) : as_elt m2 61 j = as_elt m1 61 j := by
  cases v with
  | false => exact st_E hf (stay0_61 hj)
  | true => exact st_E hf (stay1_61 hj)
theorem stay_65 {v : Bool} {m1 m2 : List va_E} {j : Nat} (hf : as_Fr (shf v) m1 m2) (hj : j ≤ 399) : as_elt m2 65 j = as_elt m1 65 j := by
  cases v with
  | false => exact st_E hf (stay0_65 hj)
  | true => exact st_E hf (stay1_65 hj)
theorem stayF {v : Bool} {m1 m2 : List va_E} (hf : as_Fr (shf v) m1 m2) : as_fld m2 1 1 = as_fld m1 1 1 ∧ as_fld m2 56 15 = as_fld m1 56 15 := by
  cases v with
  | false => exact ⟨hf.2 1 1 (.inl (true, 0, 400)) rfl rfl, hf.2 56 15 (.inl (true, 0, 400)) rfl rfl⟩
  | true => exact ⟨hf.2 1 1 (.inl (true, 0, 400)) rfl rfl, hf.2 56 15 (.inl (true, 0, 400)) rfl rfl⟩
/-- what stays keeps the invariant -/
theorem LI_Fr {v : Bool} {m1 m2 : List va_E} (h : LI v m1) (hH : as_HI (shf v) m2) (hf : as_Fr (shf v) m1 m2) : LI v m2 := by
  obtain ⟨-, hX, hK, n, t1, t2, t3, t4⟩ := h
  obtain ⟨f1, f2⟩ := stayF hf
  refine ⟨hH, as_FrEx hf hH (shf_ok v) hX, fun i hi hz => ?_, n, f1.trans t1, f2.trans t2, t3, fun k hk => ?_⟩
  · rw [stay_59 hf (by omega)] at hz
    obtain ⟨k1, k2⟩ := hK i hi hz
    refine ⟨fun d hd => ?_, fun p hp => ?_⟩
    · obtain ⟨x, y, g1, g2, g3⟩ := k1 d hd
      exact ⟨x, y, (stay_58 hf (by omega)).trans g1, (stay_61 hf (by omega)).trans g2, g3⟩
    · obtain ⟨x, g1, g2⟩ := k2 p hp
      exact ⟨x, (stay_58 hf (by omega)).trans g1, g2⟩
  · obtain ⟨x, y, g1, g2, g3⟩ := t4 k hk
    exact ⟨x, y, (stay_2 hf (by omega)).trans g1, (stay_65 hf (by omega)).trans g2, g3⟩
section LIS
variable {ki : Int} {ln : Int} {bt : Nat → Int32} {rl : Value} {cp : Int} {cs : Int} {ct : Int} {cv : Int} {rr : Nat} {dr : Nat} {ja : Int} {ea : Int} {ma : Int} {a1 : Nat → Int32} {a2 : Nat → Int32} {a3 : Nat → Int32} {a4 : Nat → Int32} {a5 : Nat → Int32} {a6 : Nat → Int32} {a7 : Nat → Int32} {a8 : Nat → Int32} {jb : Int} {eb : Int} {mb : Int} {b1 : Nat → Int32} {b2 : Nat → Int32} {b3 : Nat → Int32} {b4 : Nat → Int32} {b5 : Nat → Int32} {b6 : Nat → Int32} {b7 : Nat → Int32} {b8 : Nat → Int32} {re : Int} {fl : Int} {g1 : Nat → Int32} {g2 : Nat → Int32} {g3 : Nat → Int32} {g4 : Nat → Int32} {g5 : Nat → Int32} {D : List va_E} {th : Int} {tr : Int64} {db : Int} {sn : Int} {dm : Int} {sm : Int} {ty : Int} {nx : Int} {tk : Int} {pl : Int} {va : Int} {fa : Int} {lr : Int} {ri : Int} {s : Nat → Int32} {kp : Nat → Int32} {ik : Nat → Int32} {tn : Nat → Int32} {de : Nat → Int32} {sd : Nat → Int32} {dd : Nat → Int32} {sr : Nat → Int32} {tx : Nat → Int32} {pa : Nat → Int32} {v : Bool}
theorem FW_2 (hD : D.length = 27) : (FW ki ln bt rl cp cs ct cv rr dr ja ea ma a1 a2 a3 a4 a5 a6 a7 a8 jb eb mb b1 b2 b3 b4 b5 b6 b7 b8 re fl g1 g2 g3 g4 g5 D th tr db sn dm sm ty nx tk pl va fa lr ri s kp ik tn de sd dd sr tx pa)[2]? = some (.inl (1, 400, .inl bt)) := rfl
theorem FW_57 (hD : D.length = 27) : (FW ki ln bt rl cp cs ct cv rr dr ja ea ma a1 a2 a3 a4 a5 a6 a7 a8 jb eb mb b1 b2 b3 b4 b5 b6 b7 b8 re fl g1 g2 g3 g4 g5 D th tr db sn dm sm ty nx tk pl va fa lr ri s kp ik tn de sd dd sr tx pa)[57]? = some (.inl (0, 131, .inl s)) := by
  rw [FW_R]
  exact rg_57 (by rw [cW_len9, hD])
theorem FW_58 (hD : D.length = 27) : (FW ki ln bt rl cp cs ct cv rr dr ja ea ma a1 a2 a3 a4 a5 a6 a7 a8 jb eb mb b1 b2 b3 b4 b5 b6 b7 b8 re fl g1 g2 g3 g4 g5 D th tr db sn dm sm ty nx tk pl va fa lr ri s kp ik tn de sd dd sr tx pa)[58]? = some (.inl (0, 262, .inl kp)) := by
  rw [FW_R]
  exact rg_58 (by rw [cW_len9, hD])
theorem FW_59 (hD : D.length = 27) : (FW ki ln bt rl cp cs ct cv rr dr ja ea ma a1 a2 a3 a4 a5 a6 a7 a8 jb eb mb b1 b2 b3 b4 b5 b6 b7 b8 re fl g1 g2 g3 g4 g5 D th tr db sn dm sm ty nx tk pl va fa lr ri s kp ik tn de sd dd sr tx pa)[59]? = some (.inl (2, 2, .inl ik)) := by
  rw [FW_R]
  exact rg_59 (by rw [cW_len9, hD])
theorem FW_61 (hD : D.length = 27) : (FW ki ln bt rl cp cs ct cv rr dr ja ea ma a1 a2 a3 a4 a5 a6 a7 a8 jb eb mb b1 b2 b3 b4 b5 b6 b7 b8 re fl g1 g2 g3 g4 g5 D th tr db sn dm sm ty nx tk pl va fa lr ri s kp ik tn de sd dd sr tx pa)[61]? = some (.inl (0, 30, .inl de)) := by
  rw [FW_R]
  exact rg_61 (by rw [cW_len9, hD])
theorem FW_62 (hD : D.length = 27) : (FW ki ln bt rl cp cs ct cv rr dr ja ea ma a1 a2 a3 a4 a5 a6 a7 a8 jb eb mb b1 b2 b3 b4 b5 b6 b7 b8 re fl g1 g2 g3 g4 g5 D th tr db sn dm sm ty nx tk pl va fa lr ri s kp ik tn de sd dd sr tx pa)[62]? = some (.inl (0, 80, .inl sd)) := by
  rw [FW_R]
  exact rg_62 (by rw [cW_len9, hD])
theorem FW_65 (hD : D.length = 27) : (FW ki ln bt rl cp cs ct cv rr dr ja ea ma a1 a2 a3 a4 a5 a6 a7 a8 jb eb mb b1 b2 b3 b4 b5 b6 b7 b8 re fl g1 g2 g3 g4 g5 D th tr db sn dm sm ty nx tk pl va fa lr ri s kp ik tn de sd dd sr tx pa)[65]? = some (.inl (0, 400, .inl tx)) := by
  rw [FW_R]
  exact rg_65 (by rw [cW_len9, hD])
theorem FW_56 (hD : D.length = 27) : (FW ki ln bt rl cp cs ct cv rr dr ja ea ma a1 a2 a3 a4 a5 a6 a7 a8 jb eb mb b1 b2 b3 b4 b5 b6 b7 b8 re fl g1 g2 g3 g4 g5 D th tr db sn dm sm ty nx tk pl va fa lr ri s kp ik tn de sd dd sr tx pa)[56]? = some (.inr (12, ro_ th tr db sn dm sm ty nx tk pl va fa lr ri)) := by
  rw [FW_R]
  exact rg_56 (by rw [cW_len9, hD])
theorem FW_f1 : as_fld (FW ki ln bt rl cp cs ct cv rr dr ja ea ma a1 a2 a3 a4 a5 a6 a7 a8 jb eb mb b1 b2 b3 b4 b5 b6 b7 b8 re fl g1 g2 g3 g4 g5 D th tr db sn dm sm ty nx tk pl va fa lr ri s kp ik tn de sd dd sr tx pa) 1 1 = some (iv ln) := rfl
theorem FW_f56 (hD : D.length = 27) : as_fld (FW ki ln bt rl cp cs ct cv rr dr ja ea ma a1 a2 a3 a4 a5 a6 a7 a8 jb eb mb b1 b2 b3 b4 b5 b6 b7 b8 re fl g1 g2 g3 g4 g5 D th tr db sn dm sm ty nx tk pl va fa lr ri s kp ik tn de sd dd sr tx pa) 56 15 = some (iv ty) := by
  unfold as_fld
  rw [FW_56 hD]
  rfl
theorem Ex_of (hD : D.length = 27) (h : as_Ex (FW ki ln bt rl cp cs ct cv rr dr ja ea ma a1 a2 a3 a4 a5 a6 a7 a8 jb eb mb b1 b2 b3 b4 b5 b6 b7 b8 re fl g1 g2 g3 g4 g5 D th tr db sn dm sm ty nx tk pl va fa lr ri s kp ik tn de sd dd sr tx pa)) : EXx s de sd := by
  refine ⟨fun i hi h3 => ?_, fun d hd => ?_⟩
  · refine h.1 (i : Int) _ ?_ ?_
    · show (as_elt (FW ki ln bt rl cp cs ct cv rr dr ja ea ma a1 a2 a3 a4 a5 a6 a7 a8 jb eb mb b1 b2 b3 b4 b5 b6 b7 b8 re fl g1 g2 g3 g4 g5 D th tr db sn dm sm ty nx tk pl va fa lr ri s kp ik tn de sd dd sr tx pa) 62 (5 * i + 2)).map (fun x => x.toInt) = some 3
      rw [elt_at (FW_62 hD) (by omega)]
      show some (sd (5 * i + 2)).toInt = some 3
      rw [h3]
    · show (as_elt (FW ki ln bt rl cp cs ct cv rr dr ja ea ma a1 a2 a3 a4 a5 a6 a7 a8 jb eb mb b1 b2 b3 b4 b5 b6 b7 b8 re fl g1 g2 g3 g4 g5 D th tr db sn dm sm ty nx tk pl va fa lr ri s kp ik tn de sd dd sr tx pa) 62 (5 * i + 3)).map (fun x => x.toInt) = some _
      rw [elt_at (FW_62 hD) (by omega)]
      rfl
  · refine h.2 (d : Int) _ _ ?_ ?_
    · show (as_elt (FW ki ln bt rl cp cs ct cv rr dr ja ea ma a1 a2 a3 a4 a5 a6 a7 a8 jb eb mb b1 b2 b3 b4 b5 b6 b7 b8 re fl g1 g2 g3 g4 g5 D th tr db sn dm sm ty nx tk pl va fa lr ri s kp ik tn de sd dd sr tx pa) 57 d).map (fun x => x.toInt) = some _
      rw [elt_at (FW_57 hD) (by omega)]
      rfl
    · show (as_elt (FW ki ln bt rl cp cs ct cv rr dr ja ea ma a1 a2 a3 a4 a5 a6 a7 a8 jb eb mb b1 b2 b3 b4 b5 b6 b7 b8 re fl g1 g2 g3 g4 g5 D th tr db sn dm sm ty nx tk pl va fa lr ri s kp ik tn de sd dd sr tx pa) 61 (3 * d + 2)).map (fun x => x.toInt) = some _
      rw [elt_at (FW_61 hD) (by omega)]
      rfl
theorem G_of {mw : List va_E} {k t n : Nat} {f : Nat → Int32} {i x : Int} (h : mw[k]? = some (.inl (t, n, .inl f))) (hx : as_G mw k i = some x) : ∃ j : Nat, i = (j : Int) ∧ j < n ∧ (f j).toInt = x := by
  cases i with
  | negSucc q => cases hx
  | ofNat q =>
    have hx : (as_elt mw k q).map (fun x => x.toInt) = some x := hx
    cases he : as_elt mw k q with
    | none => rw [he] at hx; cases hx
    | some y =>
      rw [he] at hx
      obtain ⟨h1, h2⟩ := elt_lt h he
      exact ⟨q, rfl, h1, by rw [h2]; exact Option.some.inj hx⟩
theorem Ex_to (hD : D.length = 27) (h : EXx s de sd) : as_Ex (FW ki ln bt rl cp cs ct cv rr dr ja ea ma a1 a2 a3 a4 a5 a6 a7 a8 jb eb mb b1 b2 b3 b4 b5 b6 b7 b8 re fl g1 g2 g3 g4 g5 D th tr db sn dm sm ty nx tk pl va fa lr ri s kp ik tn de sd dd sr tx pa) := by
  refine ⟨fun x v h1 h2 => ?_, fun x a b h1 h2 => ?_⟩
  · obtain ⟨j, j1, j2, j3⟩ := G_of (FW_62 hD) h1
    obtain ⟨q, q1, q2, q3⟩ := G_of (FW_62 hD) h2
    have hx : 0 ≤ x := by omega
    obtain ⟨i, rfl⟩ := Int.eq_ofNat_of_zero_le hx
    have e1 : j = 5 * i + 2 := by omega
    have e2 : q = 5 * i + 3 := by omega
    subst e1
    subst e2
    rw [← q3]
    exact h.1 i (by omega) j3
  · obtain ⟨j, j1, j2, j3⟩ := G_of (FW_57 hD) h1
    obtain ⟨q, q1, q2, q3⟩ := G_of (FW_61 hD) h2
    subst j1
    have e2 : q = 3 * j + 2 := by omega
    subst e2
    rw [← j3, ← q3]
    exact h.2 j (by omega)
theorem LI_of (h : LI v (FW ki ln bt rl cp cs ct cv rr dr ja ea ma a1 a2 a3 a4 a5 a6 a7 a8 jb eb mb b1 b2 b3 b4 b5 b6 b7 b8 re fl g1 g2 g3 g4 g5 D th tr db sn dm sm ty nx tk pl va fa lr ri s kp ik tn de sd dd sr tx pa)) (hF : (FH v ki ln bt rl cp cs ct cv rr dr ja ea ma a1 a2 a3 a4 a5 a6 a7 a8 jb eb mb b1 b2 b3 b4 b5 b6 b7 b8 re fl g1 g2 g3 g4 g5 D th tr db sn dm sm ty nx tk pl va fa lr ri s kp ik tn de sd dd sr tx pa)) : (FX v ki ln bt rl cp cs ct cv rr dr ja ea ma a1 a2 a3 a4 a5 a6 a7 a8 jb eb mb b1 b2 b3 b4 b5 b6 b7 b8 re fl g1 g2 g3 g4 g5 D th tr db sn dm sm ty nx tk pl va fa lr ri s kp ik tn de sd dd sr tx pa) := by
  obtain ⟨-, hX, hK, n, t1, t2, t3, t4⟩ := h
  have hD := hF.1.1
  rw [FW_f1] at t1
  rw [FW_f56 hD] at t2
  have r1 := hF.2.2.1.1
  have r2 := hF.2.2.2.2.2.1
  have e1 : ln = n := (iv_inj (by omega) (by omega)).mp (Value.int.inj (Option.some.inj t1))
  have e2 : ty = n := (iv_inj (by omega) (by omega)).mp (Value.int.inj (Option.some.inj t2))
  refine ⟨hF, Ex_of hD hX, fun i hi hz => ?_, e2.trans e1.symm, fun k hk => ?_⟩
  · obtain ⟨k1, k2⟩ := hK i hi (by rw [elt_at (FW_59 hD) hi]; exact fun z => hz (Option.some.inj z))
    refine ⟨fun d hd => ?_, fun p hp => ?_⟩
    · obtain ⟨x, y, g1, g2, g3⟩ := k1 d hd
      rw [(elt_lt (FW_58 hD) g1).2, (elt_lt (FW_61 hD) g2).2]
      exact g3
    · obtain ⟨x, g1, g2⟩ := k2 p hp
      rw [(elt_lt (FW_58 hD) g1).2]
      exact g2
  · obtain ⟨x, y, g1, g2, g3⟩ := t4 k (by omega)
    rw [(elt_lt (FW_2 hD) g1).2, (elt_lt (FW_65 hD) g2).2]
    exact g3
theorem LI_to (h : (FX v ki ln bt rl cp cs ct cv rr dr ja ea ma a1 a2 a3 a4 a5 a6 a7 a8 jb eb mb b1 b2 b3 b4 b5 b6 b7 b8 re fl g1 g2 g3 g4 g5 D th tr db sn dm sm ty nx tk pl va fa lr ri s kp ik tn de sd dd sr tx pa)) : LI v (FW ki ln bt rl cp cs ct cv rr dr ja ea ma a1 a2 a3 a4 a5 a6 a7 a8 jb eb mb b1 b2 b3 b4 b5 b6 b7 b8 re fl g1 g2 g3 g4 g5 D th tr db sn dm sm ty nx tk pl va fa lr ri s kp ik tn de sd dd sr tx pa) := by
  obtain ⟨hF, hX, hK, e, hl⟩ := h
  have hD := hF.1.1
  have r1 := hF.2.2.1.1
  refine ⟨FH_back hF, Ex_to hD hX, fun i hi hz => ?_, ln, FW_f1, by rw [FW_f56 hD, e], r1, fun k hk => ?_⟩
  · obtain ⟨k1, k2⟩ := hK i hi (fun z => hz (by rw [elt_at (FW_59 hD) hi, z]))
    exact ⟨fun d hd => ⟨_, _, elt_at (FW_58 hD) (by omega), elt_at (FW_61 hD) (by omega), k1 d hd⟩, fun p hp => ⟨_, elt_at (FW_58 hD) (by omega), k2 p hp⟩⟩
  · exact ⟨_, _, elt_at (FW_2 hD) (by omega), elt_at (FW_65 hD) (by omega), hl k hk⟩
theorem LI_form {mw : List va_E} (h : LI v mw) : ∃ (ki : Int) (ln : Int) (bt : Nat → Int32) (rl : Value) (cp : Int) (cs : Int) (ct : Int) (cv : Int) (rr : Nat) (dr : Nat) (ja : Int) (ea : Int) (ma : Int) (a1 : Nat → Int32) (a2 : Nat → Int32) (a3 : Nat → Int32) (a4 : Nat → Int32) (a5 : Nat → Int32) (a6 : Nat → Int32) (a7 : Nat → Int32) (a8 : Nat → Int32) (jb : Int) (eb : Int) (mb : Int) (b1 : Nat → Int32) (b2 : Nat → Int32) (b3 : Nat → Int32) (b4 : Nat → Int32) (b5 : Nat → Int32) (b6 : Nat → Int32) (b7 : Nat → Int32) (b8 : Nat → Int32) (re : Int) (fl : Int) (g1 : Nat → Int32) (g2 : Nat → Int32) (g3 : Nat → Int32) (g4 : Nat → Int32) (g5 : Nat → Int32) (D : List va_E) (th : Int) (tr : Int64) (db : Int) (sn : Int) (dm : Int) (sm : Int) (ty : Int) (nx : Int) (tk : Int) (pl : Int) (va : Int) (fa : Int) (lr : Int) (ri : Int) (s : Nat → Int32) (kp : Nat → Int32) (ik : Nat → Int32) (tn : Nat → Int32) (de : Nat → Int32) (sd : Nat → Int32) (dd : Nat → Int32) (sr : Nat → Int32) (tx : Nat → Int32) (pa : Nat → Int32), mw = (FW ki ln bt rl cp cs ct cv rr dr ja ea ma a1 a2 a3 a4 a5 a6 a7 a8 jb eb mb b1 b2 b3 b4 b5 b6 b7 b8 re fl g1 g2 g3 g4 g5 D th tr db sn dm sm ty nx tk pl va fa lr ri s kp ik tn de sd dd sr tx pa) ∧ (FX v ki ln bt rl cp cs ct cv rr dr ja ea ma a1 a2 a3 a4 a5 a6 a7 a8 jb eb mb b1 b2 b3 b4 b5 b6 b7 b8 re fl g1 g2 g3 g4 g5 D th tr db sn dm sm ty nx tk pl va fa lr ri s kp ik tn de sd dd sr tx pa) := by
  obtain ⟨ki, ln, bt, rl, cp, cs, ct, cv, rr, dr, ja, ea, ma, a1, a2, a3, a4, a5, a6, a7, a8, jb, eb, mb, b1, b2, b3, b4, b5, b6, b7, b8, re, fl, g1, g2, g3, g4, g5, D, th, tr, db, sn, dm, sm, ty, nx, tk, pl, va, fa, lr, ri, s, kp, ik, tn, de, sd, dd, sr, tx, pa, e, hF⟩ := FH_form h.1
  subst e
  exact ⟨ki, ln, bt, rl, cp, cs, ct, cv, rr, dr, ja, ea, ma, a1, a2, a3, a4, a5, a6, a7, a8, jb, eb, mb, b1, b2, b3, b4, b5, b6, b7, b8, re, fl, g1, g2, g3, g4, g5, D, th, tr, db, sn, dm, sm, ty, nx, tk, pl, va, fa, lr, ri, s, kp, ik, tn, de, sd, dd, sr, tx, pa, rfl, LI_of h hF⟩
end LIS
