/-! ===== the checker is sound: worlds as the shape has them; refinement ===== -/
def as_fok (F : ab_F) (v : Value) : Prop := match F, v with
  | .inl x, .int z => x.2.1 ≤ z.toInt ∧ z.toInt ≤ x.2.2
  | .inr (some (some k)), .ref q => q = k
  | .inr (some none), .long _ => True
  | .inr none, _ => True
  | _, _ => False
def as_row (f : Nat → Int32) (j : Nat) (r : ab_R) : Prop := r.1 ≤ j ∧ j ≤ r.2.1 ∧ ∃ sp, r.2.2.2[j % r.2.2.2.length]? = some sp ∧ sp.1 ≤ (f j).toInt ∧ (f j).toInt ≤ sp.2
def as_cell (s : ab_S) (e : va_E) : Prop := match s, e with
  | .inl a, .inl x => x.1 = a.1 ∧ x.2.1 = a.2.1 ∧ ∃ f, x.2.2 = .inl f ∧ ∀ j, j < a.2.1 → ∃ r ∈ a.2.2, as_row f j r
  | .inr (.inl o), .inr x => x.1 = o.1 ∧ x.2.length = o.2.length ∧ ∀ (j : Nat) (F : ab_F), o.2[j]? = some F → ∃ v, x.2[j]? = some v ∧ as_fok F v
  | .inr (.inr ks), .inl x => x.1 = 3 ∧ x.2.1 = ks.length ∧ ∃ f, x.2.2 = .inr (.inr (.inr (.inr f))) ∧ ∀ (j k : Nat), ks[j]? = some k → f j = some k
  | _, _ => False
def as_HI (sh : List ab_S) (mw : List va_E) : Prop := mw.length = sh.length ∧ ∀ (k : Nat) (s : ab_S), sh[k]? = some s → ∃ e, mw[k]? = some e ∧ as_cell s e
section ASR
variable {sh : List ab_S} {lv : List (Nat × Value)} {st : List Value} {mw : List va_E}
theorem as_arr {k : Nat} {a : Nat × Nat × List ab_R} (h : as_HI sh mw) (hk : ab_arr sh k = some a) : ∃ (x : Nat × vp_A) (f : Nat → Int32), mw[k]? = some (.inl x) ∧ x.1 = a.1 ∧ x.2.1 = a.2.1 ∧ x.2.2 = .inl f ∧ ∀ j, j < a.2.1 → ∃ r ∈ a.2.2, as_row f j r := by
  unfold ab_arr at hk
  split at hk
  · rename_i y hy
    cases hk
    obtain ⟨e, h1, h2⟩ := h.2 k _ hy
    cases e with
    | inl x =>
      obtain ⟨g1, g2, f, g3, g4⟩ := h2
      exact ⟨x, f, h1, g1, g2, g3, g4⟩
    | inr x => exact h2.elim
  · cases hk
theorem as_obj {k : Nat} {o : Nat × List ab_F} (h : as_HI sh mw) (hk : sh[k]? = some (.inr (.inl o))) : ∃ x : Nat × List Value, mw[k]? = some (.inr x) ∧ x.1 = o.1 ∧ x.2.length = o.2.length ∧ ∀ (j : Nat) (F : ab_F), o.2[j]? = some F → ∃ v, x.2[j]? = some v ∧ as_fok F v := by
  obtain ⟨e, h1, h2⟩ := h.2 k _ hk
  cases e with
  | inl x => exact h2.elim
  | inr x => exact ⟨x, h1, h2⟩
theorem as_fsI {k j : Nat} {x : Bool × Int × Int} (h : as_HI sh mw) (hk : ab_fs sh k j = some (.inl x)) : ∃ z : Int32, as_fld mw k j = some (.int z) ∧ x.2.1 ≤ z.toInt ∧ z.toInt ≤ x.2.2 := by
  unfold ab_fs at hk
  split at hk
  · rename_i o ho
    obtain ⟨y, h1, -, -, h3⟩ := as_obj h ho
    obtain ⟨v, g1, g2⟩ := h3 j _ hk
    cases v with
    | int z => exact ⟨z, by unfold as_fld; rw [h1]; exact g1, g2⟩
    | _ => exact g2.elim
  · cases hk
theorem as_meet {t : ab_T} {j : Nat} {lo hi v : Int} (h : as_st lv st mw t) (hH : as_HI sh mw) (hv : as_E lv mw j = some v) (h1 : lo ≤ v) (h2 : v ≤ hi) : ∃ u, ab_meet sh t j lo hi = some u ∧ as_st lv st mw u := by
  unfold ab_meet
  cases hl : ab_lk t.1 j with
  | some a =>
    cases a with
    | inl I =>
      obtain ⟨x, g1, g2, g3, g4⟩ := as_lkI h hl
      have e1 : x.toInt = v := Option.some.inj (g2.symm.trans hv)
      have b1 := g3.1
      have b2 := g3.2.1
      have hd : decide (max I.1 lo ≤ min I.2.1 hi) = true := by simp only [decide_eq_true_eq]; omega
      simp only [hd, cond_true]
      exact ⟨_, rfl, as_put h g1 ⟨⟨by show max I.1 lo ≤ _; omega, by show _ ≤ min I.2.1 hi; omega, g3.2.2.1, g3.2.2.2⟩, g4⟩⟩
    | inr q => exact ⟨t, rfl, h⟩
  | none =>
    cases hb : Nat.ble 1000 j with
    | false => exact ⟨t, rfl, h⟩
    | true =>
      simp only [cond_true]
      split
      · rename_i x hx
        obtain ⟨z, g1, g2, g3⟩ := as_fsI hH hx
        have gl : as_loc lv mw j = some (.int z) := by unfold as_loc; rw [hb]; exact g1
        have e1 : z.toInt = v := Option.some.inj ((as_E_of gl).symm.trans hv)
        have hd : decide (max x.2.1 lo ≤ min x.2.2 hi) = true := by simp only [decide_eq_true_eq]; omega
        simp only [hd, cond_true]
        exact ⟨_, rfl, as_put h gl ⟨⟨by show max x.2.1 lo ≤ _; omega, by show _ ≤ min x.2.2 hi; omega, Int.emod_one _, Nat.one_pos⟩, trivial⟩⟩
      · exact ⟨t, rfl, h⟩
theorem as_addF {t : ab_T} {f : List Nat} (h : as_st lv st mw t) (hf : as_fact (as_E lv mw) (as_G mw) f) : as_st lv st mw (ab_addF t f) := by
  refine ⟨h.1, h.2.1, fun g hg => ?_⟩
  rcases List.mem_cons.mp hg with rfl | hg
  · exact hf
  · exact h.2.2 g hg
theorem as_meetL {t : ab_T} {j : Nat} {lo hi : Int} (h : as_st lv st mw t) (hH : as_HI sh mw) (ht : as_tL (as_E lv mw) j lo hi) : ∃ u, ab_meet sh t j lo hi = some u ∧ as_st lv st mw u := by
  obtain ⟨x, h1, h2, h3⟩ := ht
  exact as_meet h hH h1 h2 h3
theorem as_nes {s : Nat} {lo hi v : Int} {ne : Option Int} (h1 : lo ≤ v) (h2 : v ≤ hi) (hn : ∀ z, ne = some z → v ≠ z) {c : Int} (h : (decide (c < lo) || (decide (hi < c) || ne == some c)) = true) : v ≠ c := by
  rw [Bool.or_eq_true, Bool.or_eq_true, decide_eq_true_eq, decide_eq_true_eq, beq_iff_eq] at h
  rcases h with h | h | h
  · omega
  · omega
  · exact hn c h
theorem as_ref0 {t : ab_T} {p : List Nat} {lo hi v : Int} {ne : Option Int} (h : as_st lv st mw t) (hH : as_HI sh mw) (hp : as_pv (as_E lv mw) (as_G mw) p v) (h1 : lo ≤ v) (h2 : v ≤ hi) (hn : ∀ z, ne = some z → v ≠ z) : ∃ u, ab_ref0 sh t p lo hi ne = some u ∧ as_st lv st mw u := by
  unfold ab_ref0
  split
  · exact as_meet h hH hp h1 h2
  · cases hd : decide (0 ≤ lo) with
    | false => exact ⟨t, rfl, h⟩
    | true =>
      have hd : 0 ≤ lo := by simpa using hd
      refine ⟨_, rfl, as_addF h ?_⟩
      obtain ⟨x, g1, g2⟩ := hp
      refine ⟨x, v, g1, g2, ?_, ?_⟩
      · rw [Int.toNat_of_nonneg hd]; exact h1
      · rw [Int.toNat_of_nonneg (by omega)]; exact h2
  · rename_i s l hh j
    cases hd : (decide (ab_sent s < lo) || (decide (hi < ab_sent s) || ne == some (ab_sent s))) with
    | false => exact ⟨t, rfl, h⟩
    | true => exact as_meetL h hH (hp (as_nes (s := s) h1 h2 hn hd))
  · rename_i s l hh k a j c
    cases hd : (decide (ab_sent s < lo) || (decide (hi < ab_sent s) || ne == some (ab_sent s))) with
    | false => exact ⟨t, rfl, h⟩
    | true => exact ⟨_, rfl, as_addF h (hp (as_nes (s := s) h1 h2 hn hd))⟩
  · rename_i o i
    cases hd : (decide (0 < lo) || (decide (hi < 0) || ne == some 0)) with
    | false => exact ⟨t, rfl, h⟩
    | true =>
      have h3 := hp (as_nes (s := 0) h1 h2 hn hd)
      obtain ⟨x, y, g1, g2, g3⟩ := id h3
      have g4 : 0 ≤ x ∧ x ≤ 1 := by omega
      exact as_meet (as_addF h h3) hH g1 g4.1 g4.2
  · exact ⟨t, rfl, h⟩
theorem as_twoF {j : Nat} : ∀ (F : List (List Nat)) (t : ab_T), as_st lv st mw t → as_HI sh mw → (∀ f ∈ F, as_fact (as_E lv mw) (as_G mw) f) → ∃ u, F.foldl (fun u f => match u, f with
  | some w, [2, o, i] => bif Nat.beq o j then (match ab_lk w.1 j with
    | some (.inl I) => bif decide (I.1 = 1) && decide (I.2.1 = 1) then ab_meet sh w i 0 15 else bif decide (I.2.1 ≤ 0) then ab_meet sh w i 0 9 else some w
    | _ => some w) else some w
  | u, _ => u) (some t) = some u ∧ as_st lv st mw u
  | [], t, h, hH, hF => ⟨t, rfl, h⟩
  | f :: F, t, h, hH, hF => by
    have hF' : ∀ g ∈ F, as_fact (as_E lv mw) (as_G mw) g := fun g hg => hF g (List.mem_cons_of_mem _ hg)
    have hf := hF f List.mem_cons_self
    rw [List.foldl_cons]
    have key : ∃ w, (match some t, f with
      | some w, [2, o, i] => bif Nat.beq o j then (match ab_lk w.1 j with
        | some (.inl I) => bif decide (I.1 = 1) && decide (I.2.1 = 1) then ab_meet sh w i 0 15 else bif decide (I.2.1 ≤ 0) then ab_meet sh w i 0 9 else some w
        | _ => some w) else some w
      | u, _ => u) = some w ∧ as_st lv st mw w := by
      split
      · rename_i w o i hw
        cases hw
        cases hb : Nat.beq o j with
        | false => exact ⟨t, rfl, h⟩
        | true =>
          have hb := Nat.eq_of_beq_eq_true hb
          subst hb
          simp only [cond_true]
          split
          · rename_i I hI
            obtain ⟨x, g1, g2, g3, g4⟩ := as_lkI h hI
            obtain ⟨a, b, k1, k2, k3⟩ := hf
            have e1 : x.toInt = a := Option.some.inj (g2.symm.trans k1)
            have b1 := g3.1
            have b2 := g3.2.1
            cases c1 : (decide (I.1 = 1) && decide (I.2.1 = 1)) with
            | true =>
              simp only [Bool.and_eq_true, decide_eq_true_eq] at c1
              simp only [cond_true]
              refine as_meet h hH k2 ?_ ?_ <;> omega
            | false =>
              simp only [cond_false]
              cases c2 : decide (I.2.1 ≤ 0) with
              | true =>
                have c2 : I.2.1 ≤ 0 := by simpa using c2
                simp only [cond_true]
                refine as_meet h hH k2 ?_ ?_ <;> omega
              | false => exact ⟨t, rfl, h⟩
          · exact ⟨t, rfl, h⟩
      · exact ⟨t, rfl, h⟩
    obtain ⟨w, hw, hs⟩ := key
    rw [hw]
    exact as_twoF F w hs hH hF'
theorem as_ref {t : ab_T} {p : List Nat} {lo hi v : Int} {ne : Option Int} (h : as_st lv st mw t) (hH : as_HI sh mw) (hp : as_pv (as_E lv mw) (as_G mw) p v) (h1 : lo ≤ v) (h2 : v ≤ hi) (hn : ∀ z, ne = some z → v ≠ z) : ∃ u, ab_ref sh t p lo hi ne = some u ∧ as_st lv st mw u := by
  unfold ab_ref
  split
  · rename_i j
    obtain ⟨u, e1, s1⟩ := as_meet h hH hp h1 h2
    rw [e1]
    simp only
    split
    · rename_i I hI
      obtain ⟨x, g1, g2, g3, g4⟩ := as_lkI s1 hI
      have e2 : x.toInt = v := Option.some.inj (g2.symm.trans hp)
      obtain ⟨w, e3, s3⟩ := as_ref0 (p := bif I.2.2.2.2.head? == some 1 then [] else I.2.2.2.2) (lo := I.1) (hi := I.2.1) (ne := ne) (v := v) s1 hH (by
        cases hb : (I.2.2.2.2.head? == some 1) with
        | true => exact trivial
        | false => rw [← e2]; exact g4) (by rw [← e2]; exact g3.1) (by rw [← e2]; exact g3.2.1) hn
      rw [e3]
      exact as_twoF w.2.2 w s3 hH s3.2.2
    · exact ⟨u, rfl, s1⟩
  · exact as_ref0 h hH hp h1 h2 hn
/-- a comparison that holds -/
theorem as_cut {c : ClassFile.Cond} {I J : ab_I} {x y : Int32} (hI : as_in I x.toInt) (hJ : as_in J y.toInt) (h : mm_cnd c x y = true) : (ab_cut c I J).1 ≤ x.toInt ∧ x.toInt ≤ (ab_cut c I J).2.1 ∧ (ab_cut c I J).2.2.1 ≤ y.toInt ∧ y.toInt ≤ (ab_cut c I J).2.2.2.1 ∧ ∀ z, (ab_cut c I J).2.2.2.2 = some z → x.toInt ≠ z := by
  have a1 := hI.1; have a2 := hI.2.1; have b1 := hJ.1; have b2 := hJ.2.1
  cases c with
  | eq =>
    have h : x = y := by simpa [mm_cnd] using h
    subst h
    refine ⟨?_, ?_, ?_, ?_, fun z hz => by cases hz⟩ <;> simp only [ab_cut] <;> omega
  | lt =>
    have h : x.toInt < y.toInt := Int32.lt_iff_toInt_lt.mp (by simpa [mm_cnd] using h)
    refine ⟨?_, ?_, ?_, ?_, fun z hz => by cases hz⟩ <;> simp only [ab_cut] <;> omega
  | ge =>
    have h : y.toInt ≤ x.toInt := Int32.le_iff_toInt_le.mp (by simpa [mm_cnd] using h)
    refine ⟨?_, ?_, ?_, ?_, fun z hz => by cases hz⟩ <;> simp only [ab_cut] <;> omega
  | gt =>
    have h : y.toInt < x.toInt := Int32.lt_iff_toInt_lt.mp (by simpa [mm_cnd] using h)
    refine ⟨?_, ?_, ?_, ?_, fun z hz => by cases hz⟩ <;> simp only [ab_cut] <;> omega
  | le =>
    have h : x.toInt ≤ y.toInt := Int32.le_iff_toInt_le.mp (by simpa [mm_cnd] using h)
    refine ⟨?_, ?_, ?_, ?_, fun z hz => by cases hz⟩ <;> simp only [ab_cut] <;> omega
  | ne =>
    have h : ¬ x = y := by simpa [mm_cnd] using h
    have h : x.toInt ≠ y.toInt := fun z => h (Int32.toInt_inj.mp z)
    simp only [ab_cut]
    cases hc : ab_isC J with
    | false =>
      simp only [cond_false]
      exact ⟨a1, a2, b1, b2, fun z hz => by cases hz⟩
    | true =>
      have hy := as_isC hc hJ
      simp only [cond_true]
      refine ⟨?_, ?_, b1, b2, fun z hz => by cases hz; omega⟩
      · by_cases g : I.1 = J.1
        · simp only [g, decide_true, cond_true]; omega
        · simp only [g, decide_false, cond_false]; exact a1
      · by_cases g : I.2.1 = J.1
        · simp only [g, decide_true, cond_true]; omega
        · simp only [g, decide_false, cond_false]; exact a2
theorem as_ltF {c : ClassFile.Cond} {I J : ab_I} {x y : Int32} {t : ab_T} (h : as_st lv st mw t) (hI : as_in I x.toInt) (hp : as_pv (as_E lv mw) (as_G mw) I.2.2.2.2 x.toInt) (hq : as_pv (as_E lv mw) (as_G mw) J.2.2.2.2 y.toInt) (hc : mm_cnd c x y = true) : as_st lv st mw (ab_lt c I J t) := by
  unfold ab_lt
  split
  · rename_i a b ha hb
    rw [ha] at hp
    rw [hb] at hq
    have hc : x.toInt < y.toInt := Int32.lt_iff_toInt_lt.mp (by simpa [mm_cnd] using hc)
    have b1 := hI.1
    cases hd : decide (0 ≤ I.1) with
    | false => exact h
    | true =>
      rw [decide_eq_true_eq] at hd
      exact as_addF h ⟨x.toInt, y.toInt, hp, hq, by omega, hc⟩
  · exact h
theorem as_cmp {c : ClassFile.Cond} {I J : ab_I} {x y : Int32} {t : ab_T} (h : as_st lv st mw t) (hH : as_HI sh mw) (hI : as_in I x.toInt) (hJ : as_in J y.toInt) (hp : as_pv (as_E lv mw) (as_G mw) I.2.2.2.2 x.toInt) (hq : as_pv (as_E lv mw) (as_G mw) J.2.2.2.2 y.toInt) (hc : mm_cnd c x y = true) : ∃ u, ab_cmp sh c I J t = some u ∧ as_st lv st mw u := by
  obtain ⟨k1, k2, k3, k4, k5⟩ := as_cut hI hJ hc
  unfold ab_cmp
  have hd : (decide ((ab_cut c I J).1 ≤ (ab_cut c I J).2.1) && decide ((ab_cut c I J).2.2.1 ≤ (ab_cut c I J).2.2.2.1)) = true := by
    simp only [Bool.and_eq_true, decide_eq_true_eq]
    omega
  simp only [hd, cond_true]
  obtain ⟨u, e1, s1⟩ := as_ref h hH hp k1 k2 k5
  rw [e1]
  obtain ⟨w, e2, s2⟩ := as_ref (ne := none) s1 hH hq k3 k4 (fun z hz => by cases hz)
  exact ⟨_, by simp only [e2]; rfl, as_ltF s2 hI hp hq hc⟩
end ASR
