/-! ===== the checker is sound: what stays when locals, fields, cells change; order; refinement ===== -/
def as_keep (bL bC : Nat → Bool) (E E' : Nat → Option Int) (G G' : Nat → Int → Option Int) : Prop := (∀ j x, bL j = false → E j = some x → E' j = some x) ∧ ∀ k i x, bC k = false → G k i = some x → G' k i = some x
section ASK
variable {E E' : Nat → Option Int} {G G' : Nat → Int → Option Int} {bL bC : Nat → Bool}
theorem as_tL_keep {j : Nat} {lo hi : Int} (h : as_tL E j lo hi) (hk : as_keep bL bC E E' G G') (hm : bL j = false) : as_tL E' j lo hi := by
  obtain ⟨x, h1, h2⟩ := h
  exact ⟨x, hk.1 j x hm h1, h2⟩
theorem as_tE_keep {k a j c : Nat} {lo hi : Int} (h : as_tE E G k a j c lo hi) (hk : as_keep bL bC E E' G G') (hm : (bL j || bC k) = false) : as_tE E' G' k a j c lo hi := by
  obtain ⟨x, e, h1, h2, h3⟩ := h
  rw [Bool.or_eq_false_iff] at hm
  exact ⟨x, e, hk.1 j x hm.1 h1, hk.2 k _ e hm.2 h2, h3⟩
theorem as_two_keep {o i : Nat} (h : as_two E o i) (hk : as_keep bL bC E E' G G') (hm : (bL o || bL i) = false) : as_two E' o i := by
  obtain ⟨x, y, h1, h2, h3⟩ := h
  rw [Bool.or_eq_false_iff] at hm
  exact ⟨x, y, hk.1 o x hm.1 h1, hk.1 i y hm.2 h2, h3⟩
theorem as_pv_keep {p : List Nat} {v : Int} (h : as_pv E G p v) (hk : as_keep bL bC E E' G G') (hm : ab_men bL bC p = false) : as_pv E' G' p v := by
  unfold as_pv
  split
  · exact hk.1 _ _ hm h
  · obtain ⟨x, h1, h2⟩ := h
    exact ⟨x, hk.1 _ x hm h1, h2⟩
  · obtain ⟨x, h1, h2⟩ := h
    have hm : (bL _ || bC _) = false := hm
    rw [Bool.or_eq_false_iff] at hm
    exact ⟨x, hk.1 _ x hm.1 h1, hk.2 _ _ _ hm.2 h2⟩
  · exact fun z => as_tL_keep (h z) hk hm
  · exact fun z => as_tE_keep (h z) hk hm
  · exact fun z => as_two_keep (h z) hk hm
  · trivial
theorem as_fact_keep {f : List Nat} (h : as_fact E G f) (hk : as_keep bL bC E E' G G') (hm : ab_menF bL bC f = false) : as_fact E' G' f := by
  unfold as_fact
  split
  · exact as_tE_keep h hk hm
  · exact as_two_keep h hk hm
  · obtain ⟨x, y, h1, h2, h3⟩ := h
    have hm : (bL _ || bL _) = false := hm
    rw [Bool.or_eq_false_iff] at hm
    exact ⟨x, y, hk.1 _ x hm.1 h1, hk.1 _ y hm.2 h2, h3⟩
  · trivial
theorem as_val_keep {a : ab_V} {v : Value} (h : as_val E G a v) (hk : as_keep bL bC E E' G G') : as_val E' G' (ab_clr bL bC a) v := by
  cases a with
  | inl I =>
    cases v with
    | int x =>
      obtain ⟨h1, h2⟩ := h
      cases hm : ab_men bL bC I.2.2.2.2 with
      | true =>
        have e : ab_clr bL bC (.inl I) = .inl (I.1, I.2.1, I.2.2.1, I.2.2.2.1, []) := by simp [ab_clr, hm]
        rw [e]
        exact ⟨h1, trivial⟩
      | false =>
        have e : ab_clr bL bC (.inl I) = .inl I := by simp [ab_clr, hm]
        rw [e]
        exact ⟨h1, as_pv_keep h2 hk hm⟩
    | _ => exact h.elim
  | inr q => cases q <;> cases v <;> first | exact h | exact h.elim
theorem as_stk_keep (hk : as_keep bL bC E E' G G') : ∀ {s : List ab_V} {w : List Value}, as_stk E G s w → as_stk E' G' (s.map (ab_clr bL bC)) w
  | [], [], h => trivial
  | a :: s, v :: w, h => ⟨as_val_keep h.1 hk, as_stk_keep hk h.2⟩
  | [], _ :: _, h => h.elim
  | _ :: _, [], h => h.elim
end ASK
/-- the number of a local (a field) that has one -/
theorem as_E_of {lv : List (Nat × Value)} {mw : List va_E} {j : Nat} {x : Int32} (h : as_loc lv mw j = some (.int x)) : as_E lv mw j = some x.toInt := by
  unfold as_E
  rw [h]
  rfl
/-- behind a change: locals, fields and cells but bL and bC stay -/
theorem as_for {bL bC : Nat → Bool} {lv lv' : List (Nat × Value)} {st : List Value} {mw mw' : List va_E} {t : ab_T} (h : as_st lv st mw t) (hl : ∀ j v, bL j = false → (∃ a, (j, a) ∈ t.1) → as_loc lv mw j = some v → as_loc lv' mw' j = some v) (hk : as_keep bL bC (as_E lv mw) (as_E lv' mw') (as_G mw) (as_G mw')) : as_st lv' st mw' (ab_for bL bC t) := by
  obtain ⟨h1, h2, h3⟩ := h
  refine ⟨fun q hq => ?_, as_stk_keep hk h2, fun f hf => ?_⟩
  · obtain ⟨r, hr, rfl⟩ := List.mem_map.mp hq
    obtain ⟨hr1, hr2⟩ := List.mem_filter.mp hr
    obtain ⟨v, g1, g2⟩ := h1 r hr1
    exact ⟨v, hl r.1 v (by simpa using hr2) ⟨r.2, hr1⟩ g1, as_val_keep g2 hk⟩
  · obtain ⟨hf1, hf2⟩ := List.mem_filter.mp hf
    exact as_fact_keep (h3 f hf1) hk (by simpa using hf2)
theorem as_put {lv : List (Nat × Value)} {st : List Value} {mw : List va_E} {t : ab_T} {j : Nat} {a : ab_V} {v : Value} (h : as_st lv st mw t) (hv : as_loc lv mw j = some v) (ha : as_val (as_E lv mw) (as_G mw) a v) : as_st lv st mw (ab_put t j a) := by
  refine ⟨fun q hq => ?_, h.2.1, h.2.2⟩
  rcases List.mem_cons.mp hq with rfl | hq
  · exact ⟨v, hv, ha⟩
  · exact h.1 q hq
theorem as_lk {lv : List (Nat × Value)} {st : List Value} {mw : List va_E} {t : ab_T} {j : Nat} {a : ab_V} (h : as_st lv st mw t) (hl : ab_lk t.1 j = some a) : ∃ v, as_loc lv mw j = some v ∧ as_val (as_E lv mw) (as_G mw) a v := by
  unfold ab_lk at hl
  cases hf : t.1.find? (fun q => Nat.beq q.1 j) with
  | none => rw [hf] at hl; cases hl
  | some q =>
    rw [hf] at hl
    have e1 : q.2 = a := Option.some.inj hl
    have e2 : q.1 = j := Nat.eq_of_beq_eq_true (by have z := List.find?_some hf; exact z)
    have := h.1 q (List.mem_of_find?_eq_some hf)
    rw [e1, e2] at this
    exact this
theorem as_lkI {lv : List (Nat × Value)} {st : List Value} {mw : List va_E} {t : ab_T} {j : Nat} {I : ab_I} (h : as_st lv st mw t) (hl : ab_lk t.1 j = some (.inl I)) : ∃ x : Int32, as_loc lv mw j = some (.int x) ∧ as_E lv mw j = some x.toInt ∧ as_in I x.toInt ∧ as_pv (as_E lv mw) (as_G mw) I.2.2.2.2 x.toInt := by
  obtain ⟨v, h1, h2⟩ := as_lk h hl
  cases v with
  | int x => exact ⟨x, h1, as_E_of h1, h2.1, h2.2⟩
  | _ => exact h2.elim
/-! the order -/
section ASO
variable {E : Nat → Option Int} {G : Nat → Int → Option Int}
theorem as_leI {I J : ab_I} {v : Int} (h : ab_leI I J = true) (hv : as_in I v) (hp : as_pv E G I.2.2.2.2 v) : as_in J v ∧ as_pv E G J.2.2.2.2 v := by
  unfold ab_leI at h
  simp only [Bool.and_eq_true, decide_eq_true_eq] at h
  obtain ⟨h0, h1, h2, h3, h4⟩ := h
  have h0 := Nat.le_of_ble_eq_true h0
  obtain ⟨a1, a2, a3, a4⟩ := hv
  refine ⟨⟨by omega, by omega, ?_, h0⟩, ?_⟩
  · rw [Bool.or_eq_true, Bool.or_eq_true, Bool.and_eq_true, Bool.and_eq_true, Bool.and_eq_true, decide_eq_true_eq] at h3
    rcases h3 with ⟨b1, b2⟩ | ⟨b1, b2⟩ | ⟨b1, b2⟩
    · rw [Nat.eq_of_beq_eq_true b1, Nat.eq_of_beq_eq_true b2]
      exact Int.emod_one _
    · have b1 := Nat.eq_of_beq_eq_true b1
      have b2 := Nat.eq_of_beq_eq_true b2
      have hd : (J.2.2.1 : Int) ∣ (I.2.2.1 : Int) := Int.natCast_dvd_natCast.mpr (Nat.dvd_of_mod_eq_zero b1)
      rw [← Int.emod_emod_of_dvd v hd, a3, ← b2]
      rfl
    · rw [as_isC b1 ⟨a1, a2, a3, a4⟩]
      exact b2
  · rw [Bool.or_eq_true] at h4
    rcases h4 with h4 | h4
    · rw [List.isEmpty_iff.mp h4]
      exact trivial
    · rw [← (beq_iff_eq.mp h4)]
      exact hp
theorem as_leV {a b : ab_V} {v : Value} (h : ab_leV a b = true) (hv : as_val E G a v) : as_val E G b v := by
  cases a with
  | inl I =>
    cases b with
    | inl J =>
      cases v with
      | int x => exact as_leI h hv.1 hv.2
      | _ => exact hv.elim
    | inr q => cases h
  | inr q =>
    cases b with
    | inl J => cases q <;> cases h
    | inr r =>
      cases q with
      | none => cases r with
        | none => exact hv
        | some k => cases h
      | some k => cases r with
        | none => cases h
        | some k' =>
          have := Nat.eq_of_beq_eq_true h
          subst this
          exact hv
theorem as_leS : ∀ {s t : List ab_V} {w : List Value}, ab_leS s t = true → as_stk E G s w → as_stk E G t w
  | [], [], w, h, hv => hv
  | a :: s, b :: t, v :: w, h, hv => by
    have h : (ab_leV a b && ab_leS s t) = true := h
    rw [Bool.and_eq_true] at h
    exact ⟨as_leV h.1 hv.1, as_leS h.2 hv.2⟩
  | a :: s, b :: t, [], h, hv => hv.elim
  | [], _ :: _, _, h, _ => by cases h
  | _ :: _, [], _, h, _ => by cases h
end ASO
theorem as_le {lv : List (Nat × Value)} {st : List Value} {mw : List va_E} {t u : ab_T} (h : as_st lv st mw t) (hle : ab_le t u = true) : as_st lv st mw u := by
  unfold ab_le at hle
  rw [Bool.and_eq_true, Bool.and_eq_true] at hle
  obtain ⟨h1, h2, h3⟩ := hle
  refine ⟨fun q hq => ?_, as_leS h1 h.2.1, fun f hf => ?_⟩
  · have h4 := List.all_eq_true.mp h2 q hq
    split at h4
    · rename_i a ha
      obtain ⟨v, g1, g2⟩ := as_lk h ha
      exact ⟨v, g1, as_leV h4 g2⟩
    · cases h4
  · obtain ⟨g, hg, he⟩ := List.any_eq_true.mp (List.all_eq_true.mp h3 f hf)
    rw [← (beq_iff_eq.mp he)]
    exact h.2.2 g hg
