/-! ===== both objects are made: the invariant at the loop's start ===== -/
def ckR (f : Nat → Int32) (j : Nat) (r : ab_R) : Bool := Nat.ble r.1 j && (Nat.ble j r.2.1 && (match r.2.2.2[j % r.2.2.2.length]? with
  | some sp => decide (sp.1 ≤ (f j).toInt) && decide ((f j).toInt ≤ sp.2)
  | none => false))
def ckF (F : ab_F) (v : Value) : Bool := match F, v with
  | .inl x, .int z => decide (x.2.1 ≤ z.toInt) && decide (z.toInt ≤ x.2.2)
  | .inr (some (some k)), .ref q => Nat.beq q k
  | .inr (some none), .long _ => true
  | .inr none, _ => true
  | _, _ => false
def ckFs : List ab_F → List Value → Bool
  | [], [] => true
  | F :: a, v :: b => ckF F v && ckFs a b
  | _, _ => false
def ckC (s : ab_S) (e : va_E) : Bool := match s, e with
  | .inl a, .inl x => Nat.beq x.1 a.1 && (Nat.beq x.2.1 a.2.1 && (match x.2.2 with
    | .inl f => (List.range a.2.1).all (fun j => a.2.2.any (ckR f j))
    | _ => false))
  | .inr (.inl o), .inr x => Nat.beq x.1 o.1 && ckFs o.2 x.2
  | .inr (.inr ks), .inl x => Nat.beq x.1 3 && (Nat.beq x.2.1 ks.length && (match x.2.2 with
    | .inr (.inr (.inr (.inr f))) => (List.range ks.length).all (fun j => decide (f j = ks[j]?))
    | _ => false))
  | _, _ => false
def ckW : List ab_S → List va_E → Bool
  | [], [] => true
  | s :: a, e :: b => ckC s e && ckW a b
  | _, _ => false
theorem ckR_ok {f : Nat → Int32} {j : Nat} {r : ab_R} (h : ckR f j r = true) : as_row f j r := by
  unfold ckR at h
  rw [Bool.and_eq_true, Bool.and_eq_true] at h
  obtain ⟨h1, h2, h3⟩ := h
  split at h3
  · rename_i sp hs
    rw [Bool.and_eq_true] at h3
    exact ⟨Nat.le_of_ble_eq_true h1, Nat.le_of_ble_eq_true h2, sp, hs, of_decide_eq_true h3.1, of_decide_eq_true h3.2⟩
  · cases h3
theorem ckF_ok {F : ab_F} {v : Value} (h : ckF F v = true) : as_fok F v := by
  unfold ckF at h
  split at h
  · rw [Bool.and_eq_true] at h
    exact ⟨of_decide_eq_true h.1, of_decide_eq_true h.2⟩
  · exact Nat.eq_of_beq_eq_true h
  · trivial
  · trivial
  · cases h
theorem ckFs_ok : ∀ {S : List ab_F} {F : List Value}, ckFs S F = true → F.length = S.length ∧ ∀ (j : Nat) (G : ab_F), S[j]? = some G → ∃ v, F[j]? = some v ∧ as_fok G v
  | [], [], _ => ⟨rfl, fun j G h => by simp at h⟩
  | [], _ :: _, h => by cases h
  | _ :: _, [], h => by cases h
  | G :: S, v :: F, h => by
    have h : (ckF G v && ckFs S F) = true := h
    rw [Bool.and_eq_true] at h
    obtain ⟨e, k⟩ := ckFs_ok h.2
    exact ⟨by rw [List.length_cons, List.length_cons, e], ca_cons (ckF_ok h.1) k⟩
theorem ckC_ok {s : ab_S} {e : va_E} (h : ckC s e = true) : as_cell s e := by
  unfold ckC at h
  split at h
  · rename_i a x
    rw [Bool.and_eq_true, Bool.and_eq_true] at h
    obtain ⟨h1, h2, h3⟩ := h
    split at h3
    · rename_i f hf
      refine ⟨Nat.eq_of_beq_eq_true h1, Nat.eq_of_beq_eq_true h2, f, hf, fun j hj => ?_⟩
      obtain ⟨r, r1, r2⟩ := List.any_eq_true.mp (List.all_eq_true.mp h3 j (List.mem_range.mpr hj))
      exact ⟨r, r1, ckR_ok r2⟩
    · cases h3
  · rename_i o x
    rw [Bool.and_eq_true] at h
    obtain ⟨k1, k2⟩ := ckFs_ok h.2
    exact ⟨Nat.eq_of_beq_eq_true h.1, k1, k2⟩
  · rename_i ks x
    rw [Bool.and_eq_true, Bool.and_eq_true] at h
    obtain ⟨h1, h2, h3⟩ := h
    split at h3
    · rename_i f hf
      refine ⟨Nat.eq_of_beq_eq_true h1, Nat.eq_of_beq_eq_true h2, f, hf, fun j k hk => ?_⟩
      have hj : j < ks.length := (List.getElem?_eq_some_iff.mp hk).1
      have := of_decide_eq_true (List.all_eq_true.mp h3 j (List.mem_range.mpr hj))
      rw [this, hk]
    · cases h3
  · cases h
theorem ckW_ok : ∀ {S : List ab_S} {W : List va_E}, ckW S W = true → as_HI S W
  | [], [], _ => hi_nil
  | [], _ :: _, h => by cases h
  | _ :: _, [], h => by cases h
  | s :: S, e :: W, h => by
    have h : (ckC s e && ckW S W) = true := h
    rw [Bool.and_eq_true] at h
    exact hi_cons (ckC_ok h.1) (ckW_ok h.2)
/-- an array of zeros -/
def ckZ (mw : List va_E) (k n : Nat) : Bool := (List.range n).all (fun j => decide (as_elt mw k j = some 0))
def ckA (q : Option mc_C) : Bool := match q with
  | some (a, b, pc, lv, st, mw) => Nat.beq a 67 && (Nat.beq b 13125 && (Nat.beq pc 18 && (decide (lv = [(3, iv 0), (2, .ref 56), (1, .ref 0), (0, .ref 3000)]) && (st.isEmpty && (ckW sh0 mw && (ckZ mw 57 10 && (ckZ mw 59 2 && (ckZ mw 61 30 && (ckZ mw 62 80 && (decide (as_fld mw 1 1 = some (iv 0)) && decide (as_fld mw 56 15 = some (iv 0))))))))))))
  | none => false
set_option maxRecDepth 100000 in
theorem ck_go : ckA lw_go = true := by decide +kernel
theorem ckZ_G {mw : List va_E} {k n : Nat} (h : ckZ mw k n = true) {j : Nat} (hj : j < n) : as_elt mw k j = some 0 := of_decide_eq_true (List.all_eq_true.mp h j (List.mem_range.mpr hj))
theorem LI_start : ∃ mw : List va_E, lw_go = some (67, 13125, 18, [(3, iv 0), (2, .ref 56), (1, .ref 0), (0, .ref 3000)], [], mw) ∧ mw.length = 67 ∧ LI false mw := by
  have h := ck_go
  cases hg : lw_go with
  | none => rw [hg] at h; cases h
  | some q =>
    obtain ⟨a, b, pc, lv, st, mw⟩ := q
    rw [hg] at h
    simp only [ckA, Bool.and_eq_true] at h
    obtain ⟨h1, h2, h3, h4, h5, h6, z57, z59, z61, z62, f1, f56⟩ := h
    have h1 := Nat.eq_of_beq_eq_true h1
    have h2 := Nat.eq_of_beq_eq_true h2
    have h3 := Nat.eq_of_beq_eq_true h3
    have h4 := of_decide_eq_true h4
    have h5 : st = [] := List.isEmpty_iff.mp h5
    subst h1 h2 h3 h4 h5
    have hH := ckW_ok h6
    refine ⟨mw, rfl, hH.1, hH, ⟨fun x v q1 q2 => ?_, fun x a b q1 q2 => ?_⟩, fun i hi hz => absurd (ckZ_G z59 hi) hz, 0, of_decide_eq_true f1, of_decide_eq_true f56, ⟨by decide, by decide⟩, fun k hk => by omega⟩
    · obtain ⟨j, j1, j2⟩ := as_Gdef (sh := sh0) (k := 62) (a := (0, 80, row62)) hH rfl q1
      have j2 : j < 80 := j2
      rw [j1] at q1
      have q1 : (as_elt mw 62 j).map (fun x => x.toInt) = some 3 := q1
      rw [ckZ_G z62 j2] at q1
      exact absurd (Option.some.inj q1) (by decide)
    · obtain ⟨j, j1, j2⟩ := as_Gdef (sh := sh0) (k := 61) (a := (0, 30, row61)) hH rfl q2
      have j2 : j < 30 := j2
      rw [j1] at q2
      have q2 : (as_elt mw 61 j).map (fun x => x.toInt) = some b := q2
      rw [ckZ_G z61 j2] at q2
      obtain ⟨i, i1, i2⟩ := as_Gdef (sh := sh0) (k := 57) (a := (0, 131, row57)) hH rfl q1
      rw [i1] at q1
      have q1 : (as_elt mw 57 i).map (fun x => x.toInt) = some a := q1
      rw [ckZ_G z57 (by omega)] at q1
      have e1 := Option.some.inj q1
      have e2 := Option.some.inj q2
      rw [← e1, ← e2]
      exact Int.le_refl _
theorem lw_pure {L : Nat} {xs : Nat → Int32} (hL : L ≤ 2048) : ∃ (y0 : mm_C) (n : Nat) (mw' : List va_E), lw_go = some (67, 13125, y0) ∧ y0.2.2.2.length = 67 ∧ lw_run vL_law L xs n y0 = some (some (.int 1), mw') := by
  obtain ⟨mw, h1, h2, h3⟩ := LI_start
  obtain ⟨r, h4, mw', h5⟩ := law_lp (L := L) (xs := xs) (Q := fun r => ∃ mw', r = (some (iv 1), mw')) hL (fun mw' => ⟨mw', rfl⟩) 513 0 false mw h3 (by decide) (by decide) (by omega)
  subst h5
  exact ⟨_, _, mw', h1, h2, h4⟩
