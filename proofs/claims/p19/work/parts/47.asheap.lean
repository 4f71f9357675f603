/-! ===== the checker is sound: fields, arrays ===== -/
theorem as_get_eq {mw : List va_E} {k : Nat} {e e0 : va_E} (h : mw[k]? = some e0) : (mw.set k e)[k]? = some e := by
  rw [List.getElem?_set_self (List.getElem?_eq_some_iff.mp h).1]
theorem as_get_of {mw : List va_E} {k q : Nat} {e : va_E} (h : q ≠ k) : (mw.set k e)[q]? = mw[q]? := List.getElem?_set_ne (fun z => h z.symm)
theorem as_fld_of {mw : List va_E} {k q j : Nat} {e : va_E} (h : q ≠ k) : as_fld (mw.set k e) q j = as_fld mw q j := by unfold as_fld; rw [as_get_of h]
theorem as_elt_of {mw : List va_E} {k q j : Nat} {e : va_E} (h : q ≠ k) : as_elt (mw.set k e) q j = as_elt mw q j := by unfold as_elt; rw [as_get_of h]
theorem as_key {k j : Nat} (hj : j < 1000) : ab_key k j / 1000 - 1 = k ∧ ab_key k j % 1000 = j ∧ 1000 ≤ ab_key k j := by unfold ab_key; omega
theorem as_lockey {lv : List (Nat × Value)} {mw : List va_E} {k j : Nat} (hj : j < 1000) : as_loc lv mw (ab_key k j) = as_fld mw k j := by
  obtain ⟨h1, h2, h3⟩ := as_key (k := k) hj
  unfold as_loc
  rw [show Nat.ble 1000 (ab_key k j) = true from Nat.ble_eq.mpr h3, h1, h2]
  rfl
theorem ab_eff_key (key : Nat) (p : List Nat) : ∃ c, ab_eff key p = some (key, c) := by
  unfold ab_eff
  split
  · cases hb : Nat.beq _ key with
    | true => exact ⟨_, rfl⟩
    | false => exact ⟨_, rfl⟩
  · exact ⟨_, rfl⟩
theorem as_effK {E : Nat → Option Int} {G : Nat → Int → Option Int} {key : Nat} {p : List Nat} {v z : Int} (hp : as_pv E G p z) (hv : E key = some v) : ab_eff key p = some (key, none) ∨ ∃ c : Nat, ab_eff key p = some (key, some (c : Int)) ∧ z = v + c := by
  unfold ab_eff
  split
  · rename_i j c
    obtain ⟨x, x1, x2⟩ := hp
    cases hb : Nat.beq j key with
    | false => exact Or.inl rfl
    | true =>
      have := Nat.eq_of_beq_eq_true hb
      subst this
      have e : x = v := Option.some.inj (x1.symm.trans hv)
      subst e
      exact Or.inr ⟨c, rfl, by omega⟩
  · exact Or.inl rfl
section ASH
variable {sh sc : List ab_S} {lv : List (Nat × Value)} {st : List Value} {mw : List va_E} {t : ab_T} {pc pn : Nat} {l : List ab_X}
theorem as_gtf {q : Option (Nat × Nat)} {rf : Nat → Option Value} (h : as_st lv st mw t) (hH : as_HI sh mw) (hl : ab_gtf sh q pc t = some l) : as_go sh sc lv mw l (mm_getf q rf (pc + 3) lv st mw) := by
  unfold ab_gtf at hl
  split at hl
  · rename_i ci j k r ht
    have h2 := h.2.1
    rw [ht] at h2
    obtain ⟨w, rfl, h3⟩ := as_stkR h2
    split at hl
    · rename_i x hx
      obtain ⟨y, g1, g2, g3, g4⟩ := as_obj hH hx
      cases hb : (Nat.beq x.1 ci && Nat.ble (j + 1) 1000) with
      | false => rw [hb] at hl; cases hl
      | true =>
        rw [hb] at hl
        rw [Bool.and_eq_true] at hb
        have hc := Nat.eq_of_beq_eq_true hb.1
        have hj : j < 1000 := Nat.le_of_ble_eq_true hb.2
        simp only [cond_true] at hl
        have go : ∀ F, x.2[j]? = some F → ∃ v, as_fld mw k j = some v ∧ as_fok F v ∧ mm_getf (some (ci, j)) rf (pc + 3) lv (.ref k :: w) mw = some (.inl (pc + 3, lv, v :: w, mw)) := by
          intro F hF
          obtain ⟨v, f1, f2⟩ := g4 j F hF
          refine ⟨v, by unfold as_fld; rw [g1]; exact f1, f2, ?_⟩
          unfold mm_getf
          simp only [g1, g2, hc, f1]
          simp
        split at hl
        · rename_i F hF
          obtain ⟨v, f1, f2, f3⟩ := go _ hF
          cases v with
          | int z =>
            rw [f3]
            have hE : as_E lv mw (ab_key k j) = some z.toInt := as_E_of (by rw [as_lockey hj]; exact f1)
            split at hl
            · rename_i I hI
              cases hl
              obtain ⟨z', k1, k2, k3, k4⟩ := as_lkI h hI
              have e1 : z'.toInt = z.toInt := Option.some.inj (k2.symm.trans hE)
              exact as_pure h hH (s' := .inl (I.1, I.2.1, I.2.2.1, I.2.2.2.1, [1, ab_key k j]) :: r) ⟨⟨by rw [← e1]; exact k3, hE⟩, h3⟩ List.mem_cons_self
            · cases hl
              exact as_pure h hH (s' := .inl (F.2.1, F.2.2, 1, 0, [1, ab_key k j]) :: r) ⟨⟨⟨f2.1, f2.2, Int.emod_one _, Nat.one_pos⟩, hE⟩, h3⟩ List.mem_cons_self
          | _ => exact f2.elim
        · rename_i p hF
          cases hl
          obtain ⟨v, f1, f2, f3⟩ := go _ hF
          cases v with
          | ref z =>
            rw [f3]
            exact as_pure h hH (s' := .inr (some p) :: r) ⟨f2, h3⟩ List.mem_cons_self
          | _ => exact f2.elim
        · rename_i hF
          cases hl
          obtain ⟨v, f1, f2, f3⟩ := go _ hF
          cases v with
          | long z =>
            rw [f3]
            exact as_pure h hH (s' := .inr none :: r) ⟨trivial, h3⟩ List.mem_cons_self
          | _ => exact f2.elim
        · cases hl
    · cases hl
  · cases hl
/-- a field is written -/
theorem as_setF {k j : Nat} {x : Nat × List ab_F} {y : Nat × List Value} {F : ab_F} {v : Value} (hH : as_HI sh mw) (hx : sh[k]? = some (.inr (.inl x))) (hy : mw[k]? = some (.inr y)) (hF : x.2[j]? = some F) (hro : ab_roF F = false) (hv : as_fok F v) : as_HI sh (mw.set k (.inr (y.1, y.2.set j v))) ∧ as_Fr sh mw (mw.set k (.inr (y.1, y.2.set j v))) ∧ (∀ q i, ¬ (q = k ∧ i = j) → as_fld (mw.set k (.inr (y.1, y.2.set j v))) q i = as_fld mw q i) ∧ (∀ q i, as_elt (mw.set k (.inr (y.1, y.2.set j v))) q i = as_elt mw q i) ∧ as_fld (mw.set k (.inr (y.1, y.2.set j v))) k j = some v := by
  obtain ⟨y', g1, g2, g3, g4⟩ := as_obj hH hx
  have : y' = y := by rw [hy] at g1; exact (Sum.inr.inj (Option.some.inj g1)).symm
  subst this
  have hself := as_get_eq (e := .inr (y'.1, y'.2.set j v)) hy
  have hjl : j < y'.2.length := by rw [g3]; exact (List.getElem?_eq_some_iff.mp hF).1
  have f1 : ∀ q i, ¬ (q = k ∧ i = j) → as_fld (mw.set k (.inr (y'.1, y'.2.set j v))) q i = as_fld mw q i := by
    intro q i hne
    by_cases hq : q = k
    · subst hq
      unfold as_fld
      rw [hself, hy]
      exact List.getElem?_set_ne (fun z => hne ⟨rfl, z.symm⟩)
    · exact as_fld_of hq
  have f2 : ∀ q i, as_elt (mw.set k (.inr (y'.1, y'.2.set j v))) q i = as_elt mw q i := by
    intro q i
    by_cases hq : q = k
    · subst hq
      unfold as_elt
      rw [hself, hy]
    · exact as_elt_of hq
  refine ⟨⟨by rw [List.length_set]; exact hH.1, fun q s hs => ?_⟩, ⟨fun q a ha r hr hb i h1 h2 => f2 q i, fun q i F' hF' hb => f1 q i ?_⟩, f1, f2, ?_⟩
  · by_cases hq : q = k
    · subst hq
      rw [hx] at hs
      cases hs
      refine ⟨_, hself, g2, by rw [List.length_set]; exact g3, fun i F' hF' => ?_⟩
      by_cases hi : i = j
      · subst hi
        rw [hF] at hF'
        cases hF'
        exact ⟨v, List.getElem?_set_self hjl, hv⟩
      · obtain ⟨w, w1, w2⟩ := g4 i F' hF'
        exact ⟨w, by rw [List.getElem?_set_ne (fun z => hi z.symm)]; exact w1, w2⟩
    · rw [as_get_of hq]
      exact hH.2 q s hs
  · rintro ⟨rfl, rfl⟩
    unfold ab_fs at hF'
    rw [hx] at hF'
    have hF' : x.2[i]? = some F' := hF'
    rw [hF] at hF'
    cases hF'
    rw [hro] at hb
    cases hb
  · unfold as_fld
    rw [hself]
    exact List.getElem?_set_self hjl
theorem as_ptf {q : Option (Nat × Nat × FieldType)} (h : as_st lv st mw t) (hH : as_HI sh mw) (hl : ab_ptf sh q pc t = some l) : as_go sh sc lv mw l (mm_putf q (pc + 3) lv st mw) := by
  unfold ab_ptf at hl
  split at hl
  · rename_i ci j ty V k r ht
    have h2 := h.2.1
    rw [ht] at h2
    obtain ⟨z, w0, rfl, a1, a2, h2⟩ := as_stkI h2
    obtain ⟨w, rfl, h3⟩ := as_stkR h2
    split at hl
    · rename_i x hx
      obtain ⟨y, g1, g2, g3, g4⟩ := as_obj hH hx
      cases hb : (Nat.beq x.1 ci && (decide (ty = .int) && Nat.ble (j + 1) 1000)) with
      | false => rw [hb] at hl; cases hl
      | true =>
        rw [hb] at hl
        simp only [Bool.and_eq_true, decide_eq_true_eq] at hb
        obtain ⟨hc, rfl, hj⟩ := hb
        have hc := Nat.eq_of_beq_eq_true hc
        have hj : j < 1000 := Nat.le_of_ble_eq_true hj
        simp only [cond_true] at hl
        split at hl
        · rename_i F hF
          cases hd : (!F.1 && (decide (F.2.1 ≤ V.1) && decide (V.2.1 ≤ F.2.2))) with
          | false => rw [hd] at hl; cases hl
          | true =>
            rw [hd] at hl
            simp only [Bool.and_eq_true, decide_eq_true_eq, Bool.not_eq_true'] at hd
            obtain ⟨d1, d2, d3⟩ := hd
            simp only [cond_true] at hl
            cases hl
            have b1 := a1.1
            have b2 := a1.2.1
            obtain ⟨s1, s2, s3, s4, s5⟩ := as_setF (v := .int z) hH hx g1 hF d1 ⟨by omega, by omega⟩
            have hjl : j < y.2.length := by rw [g3]; exact (List.getElem?_eq_some_iff.mp hF).1
            have e1 : mm_putf (some (ci, j, .int)) (pc + 3) lv (.int z :: .ref k :: w) mw = some (.inl (pc + 3, lv, w, mw.set k (.inr (y.1, y.2.set j (.int z))))) := by
              unfold mm_putf
              simp only [g1]
              have e2 : (y.1 == ci && (decide (narrow .int (.int z) = .int z) && (fits .int (.int z) && Nat.ble (j + 1) y.2.length))) = true := by
                rw [g2, hc, Nat.ble_eq.mpr hjl]
                simp [narrow, fits]
              rw [e2]
              rfl
            rw [e1]
            have hkeep : as_keep (fun q => Nat.beq q (ab_key k j)) (fun _ => false) (as_E lv mw) (as_E lv (mw.set k (.inr (y.1, y.2.set j (.int z))))) (as_G mw) (as_G (mw.set k (.inr (y.1, y.2.set j (.int z))))) := by
              refine ⟨fun i v hi hv => ?_, fun q i v _ hv => ?_⟩
              · unfold as_E as_loc at *
                cases hb : Nat.ble 1000 i with
                | false => rw [hb] at hv; exact hv
                | true =>
                  rw [hb] at hv
                  have hle := Nat.le_of_ble_eq_true hb
                  show as_int (as_fld _ _ _) = some v
                  rw [s3 _ _ (by
                    rintro ⟨u1, u2⟩
                    have : i = ab_key k j := by unfold ab_key; omega
                    have hz : Nat.beq i (ab_key k j) = true := by rw [this]; exact Nat.beq_refl _
                    have hi : Nat.beq i (ab_key k j) = false := hi
                    rw [hz] at hi
                    cases hi)]
                  exact hv
              · unfold as_G at *
                cases i with
                | ofNat n => simp only at hv ⊢; rw [s4]; exact hv
                | negSucc n => exact hv
            refine ⟨_, rfl, s1, s2, _, List.mem_cons_self, rfl, ?_, ?_⟩
            · refine as_put (as_for (t := ab_ofst t r) (st := w) ⟨h.1, h3, h.2.2⟩ (fun i v hi _ hv => ?_) hkeep) (v := .int z) (by rw [as_lockey hj]; exact s5) (as_val_keep (a := .inl V) (v := .int z) ⟨a1, a2⟩ hkeep)
              unfold as_loc at *
              cases hb : Nat.ble 1000 i with
              | false => rw [hb] at hv; exact hv
              | true =>
                rw [hb] at hv
                have hle := Nat.le_of_ble_eq_true hb
                show as_fld _ _ _ = some v
                rw [s3 _ _ (by
                  rintro ⟨u1, u2⟩
                  have : i = ab_key k j := by unfold ab_key; omega
                  have hz : Nat.beq i (ab_key k j) = true := by rw [this]; exact Nat.beq_refl _
                  have hi : Nat.beq i (ab_key k j) = false := hi
                  rw [hz] at hi
                  cases hi)]
                exact hv
            · intro i v hi hv
              by_cases hik : i = ab_key k j
              · subst hik
                have hnew : as_E lv (mw.set k (.inr (y.1, y.2.set j (.int z)))) (ab_key k j) = some z.toInt := as_E_of (by rw [as_lockey hj]; exact s5)
                rcases as_effK (key := ab_key k j) a2 hv with e9 | ⟨c, e9, e8⟩
                · show match ab_eff (ab_key k j) V.2.2.2.2 with | none => _ | some q => _
                  rw [e9]
                  show if ab_key k j = ab_key k j then True else _
                  rw [if_pos rfl]
                  trivial
                · show match ab_eff (ab_key k j) V.2.2.2.2 with | none => _ | some q => _
                  rw [e9]
                  show if ab_key k j = ab_key k j then as_E lv (mw.set k (.inr (y.1, y.2.set j (.int z)))) (ab_key k j) = some (v + (c : Int)) else _
                  rw [if_pos rfl, hnew, e8]
              · have hEq : as_E lv (mw.set k (.inr (y.1, y.2.set j (.int z)))) i = some v := hkeep.1 i v (mm_beqF hik) hv
                obtain ⟨c, hcc⟩ := ab_eff_key (ab_key k j) V.2.2.2.2
                show match ab_eff (ab_key k j) V.2.2.2.2 with | none => _ | some q => _
                rw [hcc]
                show if ab_key k j = i then _ else _
                rw [if_neg (fun z => hik z.symm)]
                exact hEq
        · cases hl
    · cases hl
  · rename_i ci j ty k r ht
    have h2 := h.2.1
    rw [ht] at h2
    obtain ⟨z, w0, rfl, h5⟩ := as_stkL h2
    obtain ⟨w, rfl, h3⟩ := as_stkR h5
    split at hl
    · rename_i x hx
      obtain ⟨y, g1, g2, g3, g4⟩ := as_obj hH hx
      cases hb : (Nat.beq x.1 ci && decide (ty = .long)) with
      | false => rw [hb] at hl; cases hl
      | true =>
        rw [hb] at hl
        simp only [Bool.and_eq_true, decide_eq_true_eq] at hb
        obtain ⟨hc, rfl⟩ := hb
        have hc := Nat.eq_of_beq_eq_true hc
        simp only [cond_true] at hl
        split at hl
        · rename_i hF
          cases hl
          obtain ⟨s1, s2, s3, s4, s5⟩ := as_setF (v := .long z) hH hx g1 hF rfl trivial
          have hjl : j < y.2.length := by rw [g3]; exact (List.getElem?_eq_some_iff.mp hF).1
          obtain ⟨v0, f1, f2⟩ := g4 j _ hF
          have e1 : mm_putf (some (ci, j, .long)) (pc + 3) lv (.long z :: .ref k :: w) mw = some (.inl (pc + 3, lv, w, mw.set k (.inr (y.1, y.2.set j (.long z))))) := by
            unfold mm_putf
            simp only [g1]
            have e2 : (y.1 == ci && (decide (narrow .long (.long z) = .long z) && (fits .long (.long z) && Nat.ble (j + 1) y.2.length))) = true := by
              rw [g2, hc, Nat.ble_eq.mpr hjl]
              simp [narrow, fits]
            rw [e2]
            rfl
          rw [e1]
          have hfl : ∀ q i, as_fld (mw.set k (.inr (y.1, y.2.set j (.long z)))) q i = as_fld mw q i ∨ (as_fld (mw.set k (.inr (y.1, y.2.set j (.long z)))) q i = some (.long z) ∧ ∃ z0, as_fld mw q i = some (.long z0)) := by
            intro q i
            by_cases hqi : q = k ∧ i = j
            · obtain ⟨rfl, rfl⟩ := hqi
              refine Or.inr ⟨s5, ?_⟩
              cases v0 with
              | long z0 => exact ⟨z0, by unfold as_fld; rw [g1]; exact f1⟩
              | _ => exact f2.elim
            · exact Or.inl (s3 q i hqi)
          have hE : ∀ i v, as_E lv mw i = some v → as_E lv (mw.set k (.inr (y.1, y.2.set j (.long z)))) i = some v := by
            intro i v hv
            unfold as_E as_loc at *
            cases hb : Nat.ble 1000 i with
            | false => rw [hb] at hv; exact hv
            | true =>
              rw [hb] at hv
              show as_int (as_fld _ _ _) = some v
              rcases hfl (i / 1000 - 1) (i % 1000) with e | ⟨-, z0, e⟩
              · rw [e]; exact hv
              · have hv : as_int (as_fld mw (i / 1000 - 1) (i % 1000)) = some v := hv
                rw [e] at hv
                cases hv
          have hkeep : as_keep (fun _ => false) (fun _ => false) (as_E lv mw) (as_E lv (mw.set k (.inr (y.1, y.2.set j (.long z))))) (as_G mw) (as_G (mw.set k (.inr (y.1, y.2.set j (.long z))))) := by
            refine ⟨fun i v _ hv => hE i v hv, fun q i v _ hv => ?_⟩
            unfold as_G at *
            cases i with
            | ofNat n => simp only at hv ⊢; rw [s4]; exact hv
            | negSucc n => exact hv
          have hno : ∀ p, ab_men (fun _ => false) (fun _ => false) p = false := by
            intro p
            unfold ab_men
            split <;> rfl
          have hnoF : ∀ p, ab_menF (fun _ => false) (fun _ => false) p = false := by
            intro p
            unfold ab_menF
            split <;> rfl
          have hcl : ∀ a : ab_V, ab_clr (fun _ => false) (fun _ => false) a = a := by
            intro a
            cases a with
            | inl I => simp [ab_clr, hno]
            | inr q => rfl
          refine ⟨_, rfl, s1, s2, _, List.mem_cons_self, rfl, ⟨fun q hq => ?_, ?_, fun f hf => as_fact_keep (h.2.2 f hf) hkeep (hnoF f)⟩, fun i v hi hv => hE i v hv⟩
          · obtain ⟨v, f1, f2⟩ := h.1 q hq
            have f2' := as_val_keep f2 hkeep
            rw [hcl] at f2'
            cases hb : Nat.ble 1000 q.1 with
            | false =>
              refine ⟨v, ?_, f2'⟩
              unfold as_loc at *
              rw [hb] at f1 ⊢
              exact f1
            | true =>
              rcases hfl (q.1 / 1000 - 1) (q.1 % 1000) with e | ⟨e1, z0, e2⟩
              · refine ⟨v, ?_, f2'⟩
                unfold as_loc at *
                rw [hb] at f1 ⊢
                show as_fld _ _ _ = some v
                rw [e]
                exact f1
              · refine ⟨.long z, ?_, ?_⟩
                · unfold as_loc
                  rw [hb]
                  exact e1
                · unfold as_loc at f1
                  rw [hb] at f1
                  have f1 : as_fld mw (q.1 / 1000 - 1) (q.1 % 1000) = some v := f1
                  rw [e2] at f1
                  cases f1
                  generalize q.2 = a at f2'
                  cases a with
                  | inl I => exact f2'.elim
                  | inr u => cases u with
                    | none => exact trivial
                    | some u => exact f2'.elim
          · have := as_stk_keep hkeep h3
            have e3 : r.map (ab_clr (fun _ => false) (fun _ => false)) = r := by
              rw [show (ab_clr (fun _ => false) (fun _ => false)) = id from funext hcl, List.map_id]
            rw [e3] at this
            exact this
        · cases hl
    · cases hl
  · cases hl
end ASH
