/-! ===== the checker is sound: a step ===== -/
def as_Fr (sh : List ab_S) (mw mw' : List va_E) : Prop := (∀ (k : Nat) (a : Nat × Nat × List ab_R), ab_arr sh k = some a → ∀ r ∈ a.2.2, r.2.2.1 = true → ∀ j, r.1 ≤ j → j ≤ r.2.1 → as_elt mw' k j = as_elt mw k j) ∧ ∀ (k j : Nat) (F : ab_F), ab_fs sh k j = some F → ab_roF F = true → as_fld mw' k j = as_fld mw k j
theorem as_Fr.rf {sh : List ab_S} {mw : List va_E} : as_Fr sh mw mw := ⟨fun _ _ _ _ _ _ _ _ _ => rfl, fun _ _ _ _ _ => rfl⟩
theorem as_Fr.tr {sh : List ab_S} {m1 m2 m3 : List va_E} (h : as_Fr sh m1 m2) (g : as_Fr sh m2 m3) : as_Fr sh m1 m3 := ⟨fun k a ha r hr hb j h1 h2 => (g.1 k a ha r hr hb j h1 h2).trans (h.1 k a ha r hr hb j h1 h2), fun k j F hF hb => (g.2 k j F hF hb).trans (h.2 k j F hF hb)⟩
def as_eff (sc : List ab_S) (e : ab_E) (lv : List (Nat × Value)) (mw : List va_E) (lv' : List (Nat × Value)) (mw' : List va_E) : Prop := ∀ (j : Nat) (v : Int), ab_bL sc j = false → as_E lv mw j = some v → match e with
  | none => as_E lv' mw' j = some v
  | some q => if q.1 = j then (match q.2 with
    | some c => as_E lv' mw' j = some (v + c)
    | none => True) else as_E lv' mw' j = some v
def as_go (sh sc : List ab_S) (lv : List (Nat × Value)) (mw : List va_E) (l : List ab_X) (q : Option (mm_C ⊕ mm_R)) : Prop := ∃ x : mm_C, q = some (.inl x) ∧ as_HI sh x.2.2.2 ∧ as_Fr sh mw x.2.2.2 ∧ ∃ y ∈ l, x.1 = y.1 ∧ as_st x.2.1 x.2.2.1 x.2.2.2 y.2.1 ∧ as_eff sc y.2.2 lv mw x.2.1 x.2.2.2
theorem as_eff.no {sc : List ab_S} {lv : List (Nat × Value)} {mw : List va_E} : as_eff sc none lv mw lv mw := fun _ _ _ h => h
section AST
variable {sh sc : List ab_S} {lv : List (Nat × Value)} {st : List Value} {mw : List va_E} {t : ab_T} {pn : Nat} {l : List ab_X}
/-- the stack alone changes -/
theorem as_pure {st' : List Value} {s' : List ab_V} (h : as_st lv st mw t) (hH : as_HI sh mw) (hs : as_stk (as_E lv mw) (as_G mw) s' st') (hl : (pn, ab_ofst t s', none) ∈ l) : as_go sh sc lv mw l (some (.inl (pn, lv, st', mw))) := ⟨_, rfl, hH, as_Fr.rf, _, hl, rfl, ⟨h.1, hs, h.2.2⟩, as_eff.no⟩
theorem as_top1 {a : ab_V} {r : List ab_V} (h : as_st lv st mw t) (ht : t.2.1 = a :: r) : ∃ v w, st = v :: w ∧ as_val (as_E lv mw) (as_G mw) a v ∧ as_stk (as_E lv mw) (as_G mw) r w := by
  have h2 := h.2.1
  rw [ht] at h2
  cases st with
  | nil => exact h2.elim
  | cons v w => exact ⟨v, w, rfl, h2.1, h2.2⟩
theorem as_top1I {I : ab_I} {r : List ab_V} (h : as_st lv st mw t) (ht : t.2.1 = .inl I :: r) : ∃ x w, st = .int x :: w ∧ as_in I x.toInt ∧ as_pv (as_E lv mw) (as_G mw) I.2.2.2.2 x.toInt ∧ as_stk (as_E lv mw) (as_G mw) r w := by
  obtain ⟨v, w, h1, h2, h3⟩ := as_top1 h ht
  cases v with
  | int x => exact ⟨x, w, h1, h2.1, h2.2, h3⟩
  | _ => exact h2.elim
theorem as_stkI {E : Nat → Option Int} {G : Nat → Int → Option Int} {I : ab_I} {r : List ab_V} {w : List Value} (h : as_stk E G (.inl I :: r) w) : ∃ x u, w = .int x :: u ∧ as_in I x.toInt ∧ as_pv E G I.2.2.2.2 x.toInt ∧ as_stk E G r u := by
  cases w with
  | nil => exact h.elim
  | cons v u =>
    cases v with
    | int x => exact ⟨x, u, rfl, h.1.1, h.1.2, h.2⟩
    | _ => exact h.1.elim
theorem as_stkR {E : Nat → Option Int} {G : Nat → Int → Option Int} {k : Nat} {r : List ab_V} {w : List Value} (h : as_stk E G (.inr (some k) :: r) w) : ∃ u, w = .ref k :: u ∧ as_stk E G r u := by
  cases w with
  | nil => exact h.elim
  | cons v u =>
    cases v with
    | ref q =>
      have : q = k := h.1
      subst this
      exact ⟨u, rfl, h.2⟩
    | _ => exact h.1.elim
theorem as_stkL {E : Nat → Option Int} {G : Nat → Int → Option Int} {r : List ab_V} {w : List Value} (h : as_stk E G (.inr none :: r) w) : ∃ x u, w = .long x :: u ∧ as_stk E G r u := by
  cases w with
  | nil => exact h.elim
  | cons v u =>
    cases v with
    | long x => exact ⟨x, u, rfl, h.2⟩
    | _ => exact h.1.elim
theorem as_push {v : Value} {a : ab_V} (h : as_st lv st mw t) (hH : as_HI sh mw) (hv : as_val (as_E lv mw) (as_G mw) a v) : as_go sh sc lv mw [(pn, ab_push t a, none)] (some (.inl (pn, lv, v :: st, mw))) := as_pure h hH (s' := a :: t.2.1) ⟨hv, h.2.1⟩ List.mem_cons_self
theorem as_cI (x : Int32) {E : Nat → Option Int} {G : Nat → Int → Option Int} : as_val E G (.inl (ab_c x.toInt)) (.int x) := ⟨as_inC _, trivial⟩
theorem as_kst {q : Option Value} (h : as_st lv st mw t) (hH : as_HI sh mw) (hl : ab_kst q pn t = some l) : as_go sh sc lv mw l (mm_const q pn lv st mw) := by
  unfold ab_kst at hl
  split at hl
  · cases hl; exact as_push h hH (as_cI _)
  · cases hl; exact as_push h hH trivial
  · cases hl; exact as_push h hH rfl
  · cases hl
theorem as_ldv {j : Nat} {num : Bool} (h : as_st lv st mw t) (hH : as_HI sh mw) (hl : ab_ldv j num pn t = some l) : as_go sh sc lv mw l (mm_load (bif num then 0 else 2) j pn lv st mw) := by
  unfold ab_ldv at hl
  cases hb0 : Nat.ble (j + 1) 1000 with
  | false => rw [hb0] at hl; cases hl
  | true =>
  rw [hb0] at hl
  simp only [cond_true] at hl
  have hj : j < 1000 := Nat.le_of_ble_eq_true hb0
  have hloc : as_loc lv mw j = mm_get lv j := by
    unfold as_loc
    cases hb : Nat.ble 1000 j with
    | false => rfl
    | true => have := Nat.le_of_ble_eq_true hb; omega
  split at hl
  · rename_i I hI
    cases num with
    | false => cases hl
    | true =>
      cases hl
      obtain ⟨x, g1, g2, g3, g4⟩ := as_lkI h hI
      have e1 : mm_load (bif true then 0 else 2) j pn lv st mw = some (.inl (pn, lv, .int x :: st, mw)) := by
        unfold mm_load
        rw [← hloc, g1]
        rfl
      rw [e1]
      exact as_push h hH ⟨g3, g2⟩
  · rename_i k hk
    cases num with
    | true => cases hl
    | false =>
      cases hl
      obtain ⟨v, g1, g2⟩ := as_lk h hk
      cases v with
      | ref q =>
        have e1 : mm_load (bif false then 0 else 2) j pn lv st mw = some (.inl (pn, lv, .ref q :: st, mw)) := by
          unfold mm_load
          rw [← hloc, g1]
          rfl
        rw [e1]
        exact as_push h hH g2
      | _ => exact g2.elim
  · cases hl
/-! stores to locals -/
theorem as_get_set1 {i : Nat} {v : Value} : mm_get (mm_set1 lv i v) i = some v := by
  unfold mm_get mm_set1
  rw [List.find?_cons_of_pos (by simp)]
  rfl
theorem as_get_ne {i j : Nat} {v w : Value} (hij : j ≠ i) (hc : w.category = 1) (h : mm_get lv j = some w) : mm_get (mm_set1 lv i v) j = some w := by
  unfold mm_get mm_set1 at *
  rw [List.find?_cons_of_neg (by simp; omega)]
  induction lv with
  | nil => cases h
  | cons q r ih =>
    by_cases hq : q.1 = j
    · rw [List.find?_cons_of_pos (by simp [hq])] at h
      have hw : q.2 = w := Option.some.inj h
      rw [List.filter_cons_of_pos (by simp [hq, hij, hw, hc])]
      rw [List.find?_cons_of_pos (by simp [hq])]
      exact congrArg some hw
    · rw [List.find?_cons_of_neg (by simpa using hq)] at h
      have := ih h
      rw [List.filter_cons]
      split
      · rw [List.find?_cons_of_neg (by simpa using hq)]
        exact this
      · exact this
def as_nol (t : ab_T) : Prop := ∀ q ∈ t.1, q.2 ≠ .inr none
theorem as_stE {j : Nat} {v : Value} (hj : j < 1000) : as_keep (fun q => Nat.beq q j) (fun _ => false) (as_E lv mw) (as_E (mm_set1 lv j v) mw) (as_G mw) (as_G mw) := by
  refine ⟨fun i x hi hx => ?_, fun _ _ _ _ h => h⟩
  have hij : i ≠ j := fun z => by subst z; simp [Nat.beq_refl] at hi
  unfold as_E as_loc at *
  cases hb : Nat.ble 1000 i with
  | true => rw [hb] at hx; exact hx
  | false =>
    rw [hb] at hx
    have hx : as_int (mm_get lv i) = some x := hx
    show as_int (mm_get (mm_set1 lv j v) i) = some x
    cases hg : mm_get lv i with
    | none => rw [hg] at hx; cases hx
    | some w =>
      rw [hg] at hx
      cases w with
      | int z => rw [as_get_ne hij rfl hg]; exact hx
      | _ => cases hx
theorem as_stL {j : Nat} {v : Value} (h : as_st lv st mw t) (hn : as_nol t) (hj : j < 1000) : as_st (mm_set1 lv j v) st mw (ab_for (fun q => Nat.beq q j) (fun _ => false) t) := by
  refine as_for h (fun i w hi ⟨a, ha⟩ hw => ?_) (as_stE hj)
  have hij : i ≠ j := fun z => by subst z; simp [Nat.beq_refl] at hi
  obtain ⟨w', g1, g2⟩ := h.1 _ ha
  have g1 : as_loc lv mw i = some w' := g1
  have e1 : w' = w := Option.some.inj (g1.symm.trans hw)
  subst e1
  have hc : w'.category = 1 := by
    have hna := hn _ ha
    cases a with
    | inl I => cases w' <;> first | rfl | exact g2.elim
    | inr q =>
      cases q with
      | none => exact absurd rfl hna
      | some k => cases w' <;> first | rfl | exact g2.elim
  unfold as_loc at *
  cases hb : Nat.ble 1000 i with
  | true => rw [hb] at hw; exact hw
  | false =>
    rw [hb] at hw
    exact as_get_ne hij hc hw
theorem as_effS {j : Nat} {v : Value} (hj : j < 1000) : as_eff sc (some (j, none)) lv mw (mm_set1 lv j v) mw := by
  intro i x hi hx
  show if j = i then True else _
  split
  · trivial
  · rename_i hij
    exact (as_stE (v := v) hj).1 i x (mm_beqF (fun z => hij z.symm)) hx
theorem as_locS {j : Nat} {v : Value} (hj : j < 1000) : as_loc (mm_set1 lv j v) mw j = some v := by
  unfold as_loc
  cases hb : Nat.ble 1000 j with
  | true => have := Nat.le_of_ble_eq_true hb; omega
  | false => exact as_get_set1
theorem as_stv {nL j : Nat} {num : Bool} (h : as_st lv st mw t) (hH : as_HI sh mw) (hn : as_nol t) (hl : ab_stv nL j num pn t = some l) : as_go sh sc lv mw l (mm_store nL (bif num then 0 else 2) j pn lv st mw) := by
  unfold ab_stv at hl
  cases hb : (Nat.ble (j + 1) nL && Nat.ble (j + 1) 1000) with
  | false => rw [hb] at hl; cases hl
  | true =>
    rw [hb] at hl
    rw [Bool.and_eq_true] at hb
    have hj : j < 1000 := Nat.le_of_ble_eq_true hb.2
    simp only [cond_true] at hl
    split at hl
    · rename_i I r ht
      cases num with
      | false => cases hl
      | true =>
        cases hl
        obtain ⟨x, w, rfl, g1, g2, g3⟩ := as_top1I h ht
        refine ⟨(pn, mm_set1 lv j (.int x), w, mw), by simp [mm_store, hb.1], hH, as_Fr.rf, _, List.mem_cons_self, rfl, ?_, as_effS hj⟩
        refine as_put (as_stL (t := ab_ofst t r) (st := w) ⟨h.1, g3, h.2.2⟩ hn hj) (as_locS hj) ?_
        exact as_val_keep (a := .inl I) (v := .int x) ⟨g1, g2⟩ (as_stE hj)
    · rename_i k r ht
      cases num with
      | true => cases hl
      | false =>
        cases hl
        obtain ⟨v, w, rfl, g2, g3⟩ := as_top1 h ht
        cases v with
        | ref q =>
          have : q = k := g2
          subst this
          refine ⟨(pn, mm_set1 lv j (.ref q), w, mw), by simp [mm_store, hb.1], hH, as_Fr.rf, _, List.mem_cons_self, rfl, ?_, as_effS hj⟩
          exact as_put (as_stL (t := ab_ofst t r) (st := w) ⟨h.1, g3, h.2.2⟩ hn hj) (as_locS hj) rfl
        | _ => exact g2.elim
    · cases hl
theorem as_nopv {E : Nat → Option Int} {G : Nat → Int → Option Int} {I : ab_I} {x : Int32} (h : as_in I x.toInt) : as_val E G (.inl (ab_nop I)) (.int x) := ⟨h, trivial⟩
theorem as_inc {nL j : Nat} {n : Int} (h : as_st lv st mw t) (hH : as_HI sh mw) (hn : as_nol t) (hl : ab_inc nL j (Int32.ofInt n).toInt pn t = some l) : as_go sh sc lv mw l (mm_iinc nL j n pn lv st mw) := by
  unfold ab_inc at hl
  cases hb : (Nat.ble (j + 1) nL && Nat.ble (j + 1) 1000) with
  | false => rw [hb] at hl; cases hl
  | true =>
    rw [hb] at hl
    rw [Bool.and_eq_true] at hb
    have hj : j < 1000 := Nat.le_of_ble_eq_true hb.2
    simp only [cond_true] at hl
    split at hl
    · rename_i I hI
      obtain ⟨x, g1, g2, g3, g4⟩ := as_lkI h hI
      have hloc : as_loc lv mw j = mm_get lv j := by
        unfold as_loc
        cases hb : Nat.ble 1000 j with
        | false => rfl
        | true => have := Nat.le_of_ble_eq_true hb; omega
      rw [hloc] at g1
      have e1 : mm_iinc nL j n pn lv st mw = some (.inl (pn, mm_set1 lv j (.int (x + Int32.ofInt n)), st, mw)) := by
        unfold mm_iinc
        rw [g1]
        simp [hb.1]
      rw [e1]
      have b1 := g3.1
      have b2 := g3.2.1
      cases hr : ab_rng (I.1 + (Int32.ofInt n).toInt) (I.2.1 + (Int32.ofInt n).toInt) with
      | true =>
        rw [hr] at hl
        simp only [cond_true] at hl
        cases hl
        refine ⟨_, rfl, hH, as_Fr.rf, _, List.mem_cons_self, rfl, as_put (as_stL h hn hj) (as_locS hj) (as_nopv (as_addc (E := fun _ => none) (G := fun _ _ => none) (I := ab_nop I) (x := x) (y := Int32.ofInt n) g3 trivial rfl).1), ?_⟩
        intro i v hi hv
        show if j = i then _ else _
        split
        · rename_i hij
          subst hij
          have e2 : v = x.toInt := Option.some.inj (hv.symm.trans g2)
          show as_E _ _ j = some (v + _)
          rw [as_E_of (as_locS hj), e2]
          have hr : -2147483648 ≤ I.1 + (Int32.ofInt n).toInt ∧ I.2.1 + (Int32.ofInt n).toInt ≤ 2147483647 := by simpa [ab_rng] using hr
          congr 1
          rw [Int32.toInt_add]
          apply Int.bmod_eq_of_le <;> omega
        · rename_i hij
          exact (as_stE (v := .int (x + Int32.ofInt n)) hj).1 i v (mm_beqF (fun z => hij z.symm)) hv
      | false =>
        rw [hr] at hl
        simp only [cond_false] at hl
        cases hl
        exact ⟨_, rfl, hH, as_Fr.rf, _, List.mem_cons_self, rfl, as_put (as_stL h hn hj) (as_locS hj) ⟨as_inTop _, trivial⟩, as_effS hj⟩
    · cases hl
end AST
