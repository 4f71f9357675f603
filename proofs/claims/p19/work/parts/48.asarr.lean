/-! ===== the checker is sound: arrays ===== -/
/-- the relations between cells that reads rest on, both of the reference: a standing of kind 3 has one that it is for; what is paid of a debt isn't above it -/
def as_Ex (mw : List va_E) : Prop := (∀ x v : Int, as_G mw 62 (5 * x + 2) = some 3 → as_G mw 62 (5 * x + 3) = some v → 0 ≤ v ∧ v ≤ 15) ∧ ∀ x a b : Int, as_G mw 57 x = some a → as_G mw 61 (3 * x + 2) = some b → a ≤ b
def as_hc (v : Int) (a : Option (Int × Int)) : Prop := ∃ x, a = some x ∧ x.1 ≤ v ∧ v ≤ x.2
theorem as_foldK {α β : Type} {P : β → Prop} {f : β → α → β} (hf : ∀ a x, P a → P (f a x)) : ∀ (l : List α) (a : β), P a → P (l.foldl f a)
  | [], a, h => h
  | x :: l, a, h => as_foldK hf l (f a x) (hf a x h)
theorem as_foldH {α β : Type} {P : β → Prop} {f : β → α → β} (hf : ∀ a x, P a → P (f a x)) {x0 : α} (h0 : ∀ a, P (f a x0)) : ∀ (l : List α) (a : β), x0 ∈ l → P (l.foldl f a)
  | [], a, h => by cases h
  | x :: l, a, h => by
    rw [List.foldl_cons]
    rcases List.mem_cons.mp h with rfl | h
    · exact as_foldK hf l _ (h0 a)
    · exact as_foldH hf h0 l _ h
theorem as_hull {v : Int} {a : Option (Int × Int)} {b : Int × Int} (h : as_hc v a) : as_hc v (ab_hull a b) := by
  obtain ⟨x, rfl, h1, h2⟩ := h
  exact ⟨_, rfl, by show min x.1 b.1 ≤ v; omega, by show v ≤ max x.2 b.2; omega⟩
theorem as_hull2 {v : Int} {a : Option (Int × Int)} {b : Int × Int} (h1 : b.1 ≤ v) (h2 : v ≤ b.2) : as_hc v (ab_hull a b) := by
  cases a with
  | none => exact ⟨b, rfl, h1, h2⟩
  | some x => exact ⟨_, rfl, by show min x.1 b.1 ≤ v; omega, by show v ≤ max x.2 b.2; omega⟩
theorem as_hstep {v : Int} {a : Option (Int × Int)} {b : Bool} {o : Option (Int × Int)} (ha : as_hc v a) : as_hc v (bif b then a else (match o with | some s => ab_hull a s | none => a)) := by
  cases b with
  | true => exact ha
  | false =>
    cases o with
    | none => exact ha
    | some s => exact as_hull ha
theorem as_rdr_k {I : ab_I} {v : Int} {a : Option (Int × Int)} {r : ab_R} (h : as_hc v a) : as_hc v (ab_rdr I a r) := by
  unfold ab_rdr
  cases (decide (I.2.1 < (r.1 : Int)) || decide ((r.2.1 : Int) < I.1)) with
  | true => exact h
  | false =>
    exact as_foldK (P := as_hc v) (fun a q ha => as_hstep ha) _ a h
theorem as_rdr_h {I : ab_I} {j : Nat} {f : Nat → Int32} {a : Option (Int × Int)} {r : ab_R} (hI : as_in I (j : Int)) (hr : as_row f j r) : as_hc (f j).toInt (ab_rdr I a r) := by
  obtain ⟨h1, h2, sp, h3, h4, h5⟩ := hr
  have b1 := hI.1
  have b2 := hI.2.1
  unfold ab_rdr
  have hs : (decide (I.2.1 < (r.1 : Int)) || decide ((r.2.1 : Int) < I.1)) = false := by
    rw [Bool.or_eq_false_iff, decide_eq_false_iff_not, decide_eq_false_iff_not]
    omega
  rw [hs]
  simp only [cond_false]
  have hP : 0 < r.2.2.2.length := by
    have := (List.getElem?_eq_some_iff.mp h3).1
    omega
  refine as_foldH (P := as_hc (f j).toInt) (fun a q ha => ?_) (x0 := j % r.2.2.2.length) (fun a => ?_) _ a (List.mem_range.mpr (Nat.mod_lt _ hP))
  · exact as_hstep ha
  · have hc : ((Nat.beq (I.2.2.1 % r.2.2.2.length) 0 && !Nat.beq (I.2.2.2.1 % r.2.2.2.length) (j % r.2.2.2.length)) || (ab_isC I && !decide (I.1 % (r.2.2.2.length : Int) = ((j % r.2.2.2.length : Nat) : Int)))) = false := by
      rw [Bool.or_eq_false_iff]
      constructor
      · cases hm : Nat.beq (I.2.2.1 % r.2.2.2.length) 0 with
        | false => rfl
        | true =>
          have hm := Nat.eq_of_beq_eq_true hm
          have hd : ((r.2.2.2.length : Nat) : Int) ∣ (I.2.2.1 : Int) := Int.natCast_dvd_natCast.mpr (Nat.dvd_of_mod_eq_zero hm)
          have e1 : (j : Int) % (r.2.2.2.length : Int) = (I.2.2.2.1 : Int) % (r.2.2.2.length : Int) := by rw [← Int.emod_emod_of_dvd _ hd, hI.2.2.1]
          have e2 : I.2.2.2.1 % r.2.2.2.length = j % r.2.2.2.length := by
            have : ((j % r.2.2.2.length : Nat) : Int) = ((I.2.2.2.1 % r.2.2.2.length : Nat) : Int) := by rw [Int.natCast_emod, Int.natCast_emod]; exact e1
            exact (Int.ofNat_inj.mp this).symm
          rw [e2, Nat.beq_refl]
          rfl
      · cases hm : ab_isC I with
        | false => rfl
        | true =>
          rw [← as_isC hm hI]
          have : ((j : Int) % (r.2.2.2.length : Int) = ((j % r.2.2.2.length : Nat) : Int)) := by rw [Int.natCast_emod]
          rw [decide_eq_true this]
          rfl
    rw [hc]
    simp only [cond_false, h3]
    exact as_hull2 h4 h5
theorem as_rd {I : ab_I} {j : Nat} {f : Nat → Int32} {rs : List ab_R} {r : ab_R} (hI : as_in I (j : Int)) (hm : r ∈ rs) (hr : as_row f j r) : as_hc (f j).toInt (ab_rd I rs) := as_foldH (P := as_hc (f j).toInt) (f := ab_rdr I) (fun _ _ h => as_rdr_k h) (fun _ => as_rdr_h hI hr) rs none hm
section ASA
variable {sh sc : List ab_S} {lv : List (Nat × Value)} {st : List Value} {mw : List va_E} {t : ab_T} {pc : Nat} {l : List ab_X}
theorem as_fct {F : List (List Nat)} {p : List Nat} {v : Int} (hX : as_Ex mw) (hF : ∀ f ∈ F, as_fact (as_E lv mw) (as_G mw) f) (hp : as_pv (as_E lv mw) (as_G mw) p v) : ∀ {x : Int × Int}, x.1 ≤ v ∧ v ≤ x.2 → (ab_fct F p x).1 ≤ v ∧ v ≤ (ab_fct F p x).2 := by
  unfold ab_fct
  induction F with
  | nil => intro x h; exact h
  | cons f F ih =>
    intro x h
    rw [List.foldl_cons]
    refine ih (fun g hg => hF g (List.mem_cons_of_mem _ hg)) ?_
    have hf := hF f List.mem_cons_self
    split
    · rename_i k a j c k' a' j' c' lo hi
      cases h1 : (Nat.beq k k' && (Nat.beq a a' && Nat.beq j j')) with
      | false => exact h
      | true =>
        simp only [Bool.and_eq_true] at h1
        obtain ⟨e1, e2, e3⟩ := h1
        have e1 := Nat.eq_of_beq_eq_true e1
        have e2 := Nat.eq_of_beq_eq_true e2
        have e3 := Nat.eq_of_beq_eq_true e3
        subst e1; subst e2; subst e3
        simp only [cond_true]
        obtain ⟨y, p1, p2⟩ := hp
        obtain ⟨y', u, f1, f2, f3, f4⟩ := hf
        have e4 : y' = y := Option.some.inj (f1.symm.trans p1)
        subst e4
        cases h2 : Nat.beq c c' with
        | true =>
          have e5 := Nat.eq_of_beq_eq_true h2
          subst e5
          have e6 : u = v := Option.some.inj (f2.symm.trans p2)
          subst e6
          simp only [cond_true]
          exact ⟨by show max x.1 (lo : Int) ≤ u; omega, by show u ≤ min x.2 (hi : Int); omega⟩
        | false =>
          simp only [cond_false]
          cases h3 : (Nat.beq k 62 && (Nat.beq a 5 && (Nat.beq c 3 && (Nat.beq c' 2 && (Nat.beq lo 3 && Nat.beq hi 3))))) with
          | false => exact h
          | true =>
            simp only [Bool.and_eq_true] at h3
            obtain ⟨g1, g2, g3, g4, g5, g6⟩ := h3
            have g1 := Nat.eq_of_beq_eq_true g1
            have g2 := Nat.eq_of_beq_eq_true g2
            have g3 := Nat.eq_of_beq_eq_true g3
            have g4 := Nat.eq_of_beq_eq_true g4
            have g5 := Nat.eq_of_beq_eq_true g5
            have g6 := Nat.eq_of_beq_eq_true g6
            subst g1; subst g2; subst g3; subst g4; subst g5; subst g6
            have hu : u = 3 := by have f3 : (3 : Int) ≤ u := f3; have f4 : u ≤ (3 : Int) := f4; omega
            subst hu
            have := hX.1 y' v f2 p2
            simp only [cond_true]
            exact ⟨by show max x.1 0 ≤ v; omega, by show v ≤ min x.2 15; omega⟩
    · exact h
theorem as_pel {k : Nat} {p : List Nat} {i v : Int} (hp : as_pv (as_E lv mw) (as_G mw) p i) (hg : as_G mw k i = some v) : as_pv (as_E lv mw) (as_G mw) (ab_pel k p) v := by
  unfold ab_pel
  split
  · exact ⟨i, hp, by simpa using hg⟩
  · obtain ⟨x, h1, h2⟩ := hp
    exact ⟨x, h1, by rw [← h2]; exact hg⟩
  · exact trivial
theorem as_clamp {x : Int32} (h : 0 ≤ x.toInt) : x.toInt = ((x.toNatClampNeg : Nat) : Int) := by
  show x.toInt = ((x.toInt.toNat : Nat) : Int)
  omega
theorem as_inB {I : ab_I} {n : Nat} {x : Int32} (h : ab_in I n = true) (hx : as_in I x.toInt) : 0 ≤ x.toInt ∧ x.toNatClampNeg < n ∧ mm_inB x n = true := by
  unfold ab_in at h
  rw [Bool.and_eq_true, decide_eq_true_eq, decide_eq_true_eq] at h
  have b1 := hx.1
  have b2 := hx.2.1
  have h0 : 0 ≤ x.toInt := by omega
  have hc := as_clamp h0
  have hlt : x.toNatClampNeg < n := by omega
  refine ⟨h0, hlt, ?_⟩
  unfold mm_inB
  have e1 : decide (x < 0) = false := by
    rw [decide_eq_false_iff_not, Int32.lt_iff_toInt_lt, Int32.toInt_zero]
    omega
  have e2 : Nat.ble n x.toNatClampNeg = false := by
    cases hb : Nat.ble n x.toNatClampNeg with
    | false => rfl
    | true => have := Nat.le_of_ble_eq_true hb; omega
  rw [e1, e2]
  rfl
/-- a read, of the world or of what stands outside it -/
theorem as_ald {tag : Nat → Bool} {ro : Nat → Option (Nat × Nat × Int × Int)} {ro' : Nat → Option (Nat × Nat × (Nat → Int32))} {rd : Option (mm_C ⊕ mm_R)} (h : as_st lv st mw t) (hH : as_HI sh mw) (hX : as_Ex mw) (hro : ∀ k g n lo hi, ro k = some (g, n, lo, hi) → ∃ f, ro' k = some (g, n, f) ∧ ∀ j, j < n → lo ≤ (f j).toInt ∧ (f j).toInt ≤ hi)
    (hw : ∀ (i : Int32) (k : Nat) (w : List Value) (x : Nat × vp_A) (f : Nat → Int32), st = .int i :: .ref k :: w → mw[k]? = some (.inl x) → x.2.2 = .inl f → tag x.1 = true → mm_inB i x.2.1 = true → rd = some (.inl (pc + 1, lv, .int (f i.toNatClampNeg) :: w, mw)))
    (ho : ∀ (i : Int32) (k : Nat) (w : List Value) (g n : Nat) (f : Nat → Int32), st = .int i :: .ref k :: w → mw[k]? = none → ro' k = some (g, n, f) → tag g = true → mm_inB i n = true → rd = some (.inl (pc + 1, lv, .int (f i.toNatClampNeg) :: w, mw)))
    (hl : ab_ald sh tag ro pc t = some l) : as_go sh sc lv mw l rd := by
  unfold ab_ald at hl
  split at hl
  · rename_i I k r ht
    have h2 := h.2.1
    rw [ht] at h2
    obtain ⟨z, w0, hst, a1, a2, h5⟩ := as_stkI h2
    obtain ⟨w, hw0, h3⟩ := as_stkR h5
    subst hw0
    split at hl
    · rename_i x hx
      obtain ⟨y, f, g1, g2, g3, g4, g5⟩ := as_arr hH hx
      cases hb : (tag x.1 && ab_in I x.2.1) with
      | false => rw [hb] at hl; cases hl
      | true =>
        rw [hb] at hl
        rw [Bool.and_eq_true] at hb
        simp only [cond_true] at hl
        obtain ⟨i0, i1, i2⟩ := as_inB hb.2 a1
        have hc := as_clamp i0
        obtain ⟨r0, hr0, hrow⟩ := g5 _ i1
        have hI : as_in I ((z.toNatClampNeg : Nat) : Int) := by rw [← hc]; exact a1
        obtain ⟨y0, e1, v1, v2⟩ := as_rd hI hr0 hrow
        rw [e1] at hl
        simp only at hl
        cases hl
        have hg : as_G mw k z.toInt = some (f z.toNatClampNeg).toInt := by
          rw [hc]
          show (as_elt mw k z.toNatClampNeg).map _ = _
          unfold as_elt
          rw [g1]
          simp only [g4]
          rw [g3, Nat.ble_eq.mpr i1]
          rfl
        have hp := as_pel (k := k) a2 hg
        rw [hw z k w y f hst g1 g4 (by rw [g2]; exact hb.1) (by rw [g3]; exact i2)]
        have hz := as_fct hX h.2.2 hp ⟨v1, v2⟩
        refine as_pure h hH (s' := .inl (_, _, 1, 0, ab_pel k I.2.2.2.2) :: r) ⟨⟨⟨hz.1, hz.2, Int.emod_one _, Nat.one_pos⟩, hp⟩, h3⟩ List.mem_cons_self
    · split at hl
      · rename_i hn _ g n lo hi hr
        cases hb : (tag g && (ab_in I n && Nat.ble sh.length k)) with
        | false => rw [hb] at hl; cases hl
        | true =>
          rw [hb] at hl
          simp only [Bool.and_eq_true] at hb
          simp only [cond_true] at hl
          cases hl
          obtain ⟨i0, i1, i2⟩ := as_inB hb.2.1 a1
          obtain ⟨f, f1, f2⟩ := hro k g n lo hi hr
          have hnone : mw[k]? = none := List.getElem?_eq_none (by rw [hH.1]; exact Nat.le_of_ble_eq_true hb.2.2)
          rw [ho z k w g n f hst hnone f1 hb.1 i2]
          obtain ⟨u1, u2⟩ := f2 _ i1
          exact as_pure h hH (s' := .inl (lo, hi, 1, 0, []) :: r) ⟨⟨⟨u1, u2, Int.emod_one _, Nat.one_pos⟩, trivial⟩, h3⟩ List.mem_cons_self
      · cases hl
  · cases hl
/-- an array's contents change, where rows may -/
theorem as_setA {k : Nat} {a : Nat × Nat × List ab_R} {x : Nat × vp_A} {f g : Nat → Int32} (hH : as_HI sh mw) (ha : ab_arr sh k = some a) (hx : mw[k]? = some (.inl x)) (hf : x.2.2 = .inl f) (hg : ∀ j, j < a.2.1 → g j = f j ∨ ∀ r ∈ a.2.2, r.1 ≤ j → j ≤ r.2.1 → r.2.2.1 = false ∧ ∀ sp ∈ r.2.2.2, sp.1 ≤ (g j).toInt ∧ (g j).toInt ≤ sp.2) : as_HI sh (mw.set k (.inl (x.1, x.2.1, .inl g))) ∧ as_Fr sh mw (mw.set k (.inl (x.1, x.2.1, .inl g))) ∧ (∀ q i, as_fld (mw.set k (.inl (x.1, x.2.1, .inl g))) q i = as_fld mw q i) ∧ (∀ q i, q ≠ k → as_elt (mw.set k (.inl (x.1, x.2.1, .inl g))) q i = as_elt mw q i) := by
  obtain ⟨y, f', g1, g2, g3, g4, g5⟩ := as_arr hH ha
  have : y = x := by rw [hx] at g1; exact (Sum.inl.inj (Option.some.inj g1)).symm
  subst this
  have : f' = f := by rw [hf] at g4; exact (Sum.inl.inj g4).symm
  subst this
  have hself := as_get_eq (e := .inl (y.1, y.2.1, .inl g)) hx
  have hsk : sh[k]? = some (.inl a) := by
    unfold ab_arr at ha
    split at ha
    · rename_i z hz
      cases ha
      exact hz
    · cases ha
  have f1 : ∀ q i, as_fld (mw.set k (.inl (y.1, y.2.1, .inl g))) q i = as_fld mw q i := by
    intro q i
    by_cases hq : q = k
    · subst hq
      unfold as_fld
      rw [hself, hx]
    · exact as_fld_of hq
  have f2 : ∀ q i, q ≠ k → as_elt (mw.set k (.inl (y.1, y.2.1, .inl g))) q i = as_elt mw q i := fun q i hq => as_elt_of hq
  refine ⟨⟨by rw [List.length_set]; exact hH.1, fun q s hs => ?_⟩, ⟨fun q b hb r hr hro j h1 h2 => ?_, fun q i F hF hro => f1 q i⟩, f1, f2⟩
  · by_cases hq : q = k
    · subst hq
      rw [hsk] at hs
      cases hs
      refine ⟨_, hself, g2, g3, g, rfl, fun j hj => ?_⟩
      obtain ⟨r, hr, r1, r2, sp, r3, r4, r5⟩ := g5 j hj
      rcases hg j hj with e | e
      · exact ⟨r, hr, r1, r2, sp, r3, by rw [e]; exact r4, by rw [e]; exact r5⟩
      · obtain ⟨-, e2⟩ := e r hr r1 r2
        obtain ⟨u1, u2⟩ := e2 sp (List.mem_of_getElem? r3)
        exact ⟨r, hr, r1, r2, sp, r3, u1, u2⟩
    · rw [as_get_of hq]
      exact hH.2 q s hs
  · by_cases hq : q = k
    · subst hq
      rw [ha] at hb
      cases hb
      unfold as_elt
      rw [hself, hx]
      simp only [hf]
      cases hlt : Nat.ble (j + 1) y.2.1 with
      | false => rfl
      | true =>
        have hlt : j < a.2.1 := by rw [← g3]; exact Nat.le_of_ble_eq_true hlt
        rcases hg j hlt with e | e
        · simp only [cond_true, e]
        · obtain ⟨e1, -⟩ := e r hr h1 h2
          rw [hro] at e1
          cases e1
    · exact f2 q j hq
/-- what is known behind a change of one array -/
theorem as_forA {k : Nat} {mw' : List va_E} {r : List ab_V} {w : List Value} (h : as_st lv st mw t) (h3 : as_stk (as_E lv mw) (as_G mw) r w) (f1 : ∀ q i, as_fld mw' q i = as_fld mw q i) (f2 : ∀ q i, q ≠ k → as_elt mw' q i = as_elt mw q i) : as_st lv w mw' (ab_for (fun _ => false) (fun q => Nat.beq q k) (ab_ofst t r)) ∧ as_eff sc none lv mw lv mw' := by
  have hloc : ∀ i, as_loc lv mw' i = as_loc lv mw i := by
    intro i
    unfold as_loc
    rw [f1]
  have hE : as_E lv mw' = as_E lv mw := funext (fun i => by unfold as_E; rw [hloc])
  refine ⟨as_for (t := ab_ofst t r) (st := w) ⟨h.1, h3, h.2.2⟩ (fun i v _ _ hv => by rw [hloc]; exact hv) ⟨fun i v _ hv => by rw [hE]; exact hv, fun q i v hq hv => ?_⟩, fun i v _ hv => ?_⟩
  · have hq : q ≠ k := fun z => by subst z; simp [Nat.beq_refl] at hq
    unfold as_G at *
    cases i with
    | ofNat n => simp only at hv ⊢; rw [f2 q n hq]; exact hv
    | negSucc n => exact hv
  · show as_E lv mw' i = some v
    rw [hE]
    exact hv
theorem as_wrok {I : ab_I} {V : Option ab_I} {r : ab_R} {j : Nat} (h : ab_wrok I V r = true) (hI : as_in I (j : Int)) (h1 : r.1 ≤ j) (h2 : j ≤ r.2.1) {z : Int32} (hz : ∀ v, V = some v → as_in v z.toInt) : r.2.2.1 = false ∧ ∀ sp ∈ r.2.2.2, sp.1 ≤ z.toInt ∧ z.toInt ≤ sp.2 := by
  have b1 := hI.1
  have b2 := hI.2.1
  unfold ab_wrok at h
  rw [Bool.or_eq_true] at h
  rcases h with h | h
  · rw [Bool.or_eq_true, decide_eq_true_eq, decide_eq_true_eq] at h
    omega
  · rw [Bool.and_eq_true] at h
    refine ⟨by simpa using h.1, fun sp hsp => ?_⟩
    have h3 := List.all_eq_true.mp h.2 sp hsp
    split at h3
    · rename_i v
      rw [Bool.and_eq_true, decide_eq_true_eq, decide_eq_true_eq] at h3
      have := hz v rfl
      have c1 := this.1
      have c2 := this.2.1
      omega
    · rw [Bool.and_eq_true, decide_eq_true_eq, decide_eq_true_eq] at h3
      have := as_lo z
      have := as_hi z
      omega
theorem as_ast {tag : Nat → Bool} {nar : Bool} {wr : Option (mm_C ⊕ mm_R)} {nv : Nat → Int32 → Int32} (h : as_st lv st mw t) (hH : as_HI sh mw) (hnv : nar = false → ∀ g v, nv g v = v)
    (hw : ∀ (v i : Int32) (k : Nat) (w : List Value) (x : Nat × vp_A) (f : Nat → Int32), st = .int v :: .int i :: .ref k :: w → mw[k]? = some (.inl x) → x.2.2 = .inl f → tag x.1 = true → mm_inB i x.2.1 = true → wr = some (.inl (pc + 1, lv, w, mw.set k (.inl (x.1, x.2.1, .inl (upd f i.toNatClampNeg (nv x.1 v)))))))
    (hl : ab_ast sh tag nar pc t = some l) : as_go sh sc lv mw l wr := by
  unfold ab_ast at hl
  split at hl
  · rename_i V I k r ht
    have h2 := h.2.1
    rw [ht] at h2
    obtain ⟨v, w1, hst, c1, c2, h4⟩ := as_stkI h2
    obtain ⟨z, w0, hw1, a1, a2, h5⟩ := as_stkI h4
    obtain ⟨w, hw0, h3⟩ := as_stkR h5
    subst hw0; subst hw1
    split at hl
    · rename_i x hx
      obtain ⟨y, f, g1, g2, g3, g4, g5⟩ := as_arr hH hx
      cases hb : (tag x.1 && (ab_in I x.2.1 && x.2.2.all (ab_wrok I (bif nar then none else some V)))) with
      | false => rw [hb] at hl; cases hl
      | true =>
        rw [hb] at hl
        simp only [Bool.and_eq_true] at hb
        simp only [cond_true] at hl
        cases hl
        obtain ⟨i0, i1, i2⟩ := as_inB hb.2.1 a1
        have hc := as_clamp i0
        have hI : as_in I ((z.toNatClampNeg : Nat) : Int) := by rw [← hc]; exact a1
        rw [hw v z k w y f hst g1 g4 (by rw [g2]; exact hb.1) (by rw [g3]; exact i2)]
        obtain ⟨s1, s2, s3, s4⟩ := as_setA (g := upd f z.toNatClampNeg (nv y.1 v)) hH hx g1 g4 (fun j hj => by
          by_cases hjz : j = z.toNatClampNeg
          · subst hjz
            refine Or.inr (fun r hr r1 r2 => ?_)
            have e1 : upd f z.toNatClampNeg (nv y.1 v) z.toNatClampNeg = nv y.1 v := by simp [upd]
            rw [e1]
            refine as_wrok (List.all_eq_true.mp hb.2.2 r hr) hI r1 r2 (fun V' hV' => ?_)
            cases nar with
            | true => cases hV'
            | false =>
              cases hV'
              rw [hnv rfl]
              exact c1
          · exact Or.inl (by simp [upd, hjz]))
        obtain ⟨q1, q2⟩ := as_forA h h3 s3 s4
        exact ⟨_, rfl, s1, s2, _, List.mem_cons_self, rfl, q1, q2⟩
    · cases hl
  · cases hl
end ASA
