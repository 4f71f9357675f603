/-! ===== the checker is sound: copies, rows of ledgers, branches, switches, calls ===== -/
section ASC
variable {sh sc : List ab_S} {lv : List (Nat × Value)} {st : List Value} {mw : List va_E} {t : ab_T} {pc : Nat} {l : List ab_X}
def as_arg (vs : List Value) (j : Nat) : Option Int := as_int vs[j]?
def as_g0 (_ : Nat) (_ : Int) : Option Int := none
def as_rs (vs : List Value) (res : Option ab_V) (r : Option Value) : Prop := match res, r with
  | some a, some v => as_val (as_arg vs) as_g0 a v
  | none, none => True
  | _, _ => False
/-- what a summary says of a method's meaning -/
def as_Sum (sh : List ab_S) (q : ab_Q) (f : mm_F) : Prop := ∀ (vs : List Value) (mw : List va_E), as_HI sh mw → as_Ex mw → as_stk (as_arg vs) as_g0 q.1 vs → (∀ g ∈ q.2.1, as_fact (as_arg vs) as_g0 g) → ∃ r mw', f vs mw = some (r, mw') ∧ as_HI sh mw' ∧ as_Fr sh mw mw' ∧ as_rs vs q.2.2 r
theorem as_stk_len {E : Nat → Option Int} {G : Nat → Int → Option Int} : ∀ {s : List ab_V} {w : List Value}, as_stk E G s w → s.length = w.length
  | [], [], _ => rfl
  | _ :: _, _ :: _, h => by rw [List.length_cons, List.length_cons, as_stk_len h.2]
  | [], _ :: _, h => h.elim
  | _ :: _, [], h => h.elim
theorem as_stk_get {E : Nat → Option Int} {G : Nat → Int → Option Int} : ∀ {s : List ab_V} {w : List Value} {i : Nat} {a : ab_V}, as_stk E G s w → s[i]? = some a → ∃ v, w[i]? = some v ∧ as_val E G a v
  | [], _, i, a, _, h => by simp at h
  | b :: s, v :: w, 0, a, h, e => by
    have e : b = a := by simpa using e
    subst e
    exact ⟨v, rfl, h.1⟩
  | b :: s, v :: w, i + 1, a, h, e => by
    have e : s[i]? = some a := by simpa using e
    obtain ⟨u, h1, h2⟩ := as_stk_get h.2 e
    exact ⟨u, by simpa using h1, h2⟩
  | _ :: _, [], _, _, h, _ => h.elim
theorem as_stk_app {E : Nat → Option Int} {G : Nat → Int → Option Int} : ∀ {s s' : List ab_V} {w w' : List Value}, as_stk E G s w → as_stk E G s' w' → as_stk E G (s ++ s') (w ++ w')
  | [], _, [], _, _, h => h
  | _ :: _, _, _ :: _, _, g, h => ⟨g.1, as_stk_app g.2 h⟩
  | [], _, _ :: _, _, g, _ => g.elim
  | _ :: _, _, [], _, g, _ => g.elim
theorem as_stk_rev {E : Nat → Option Int} {G : Nat → Int → Option Int} : ∀ {s : List ab_V} {w : List Value}, as_stk E G s w → as_stk E G s.reverse w.reverse
  | [], [], _ => trivial
  | a :: s, v :: w, h => by
    rw [List.reverse_cons, List.reverse_cons]
    exact as_stk_app (as_stk_rev h.2) ⟨h.1, trivial⟩
  | [], _ :: _, h => h.elim
  | _ :: _, [], h => h.elim
theorem as_stk_cut {E : Nat → Option Int} {G : Nat → Int → Option Int} : ∀ {s : List ab_V} {w : List Value} (n : Nat), as_stk E G s w → as_stk E G (s.take n) (w.take n) ∧ as_stk E G (s.drop n) (w.drop n)
  | [], [], n, _ => by simp [as_stk]
  | a :: s, v :: w, 0, h => ⟨trivial, h⟩
  | a :: s, v :: w, n + 1, h => ⟨⟨h.1, (as_stk_cut n h.2).1⟩, (as_stk_cut n h.2).2⟩
  | [], _ :: _, _, h => h.elim
  | _ :: _, [], _, h => h.elim
theorem as_stk_cat {E : Nat → Option Int} {G : Nat → Int → Option Int} : ∀ {s : List ab_V} {w : List Value}, as_stk E G s w → (w.map fun v => v.category) = (s.map ab_cat)
  | [], [], _ => rfl
  | a :: s, v :: w, h => by
    rw [List.map_cons, List.map_cons, as_stk_cat h.2]
    congr 1
    have h1 := h.1
    cases a with
    | inl I => cases v <;> first | rfl | exact h1.elim
    | inr q => cases q <;> cases v <;> first | rfl | exact h1.elim
  | [], _ :: _, h => h.elim
  | _ :: _, [], h => h.elim
theorem as_args {E : Nat → Option Int} {G : Nat → Int → Option Int} {E' : Nat → Option Int} {G' : Nat → Int → Option Int} : ∀ {A B : List ab_V} {vs : List Value}, as_stk E G A vs → ab_argok A B = true → as_stk E' G' B vs
  | [], [], vs, h, _ => by cases vs with | nil => trivial | cons => exact h.elim
  | a :: A, b :: B, v :: vs, h, g => by
    unfold ab_argok at g
    rw [Bool.and_eq_true, Bool.and_eq_true] at g
    refine ⟨?_, as_args h.2 g.2.2⟩
    have h1 := as_leV g.2.1 h.1
    cases b with
    | inl J =>
      cases v with
      | int x =>
        refine ⟨h1.1, ?_⟩
        rw [List.isEmpty_iff.mp g.1]
        exact trivial
      | _ => exact h1.elim
    | inr q => cases q <;> cases v <;> first | exact h1 | exact h1.elim
  | a :: A, b :: B, [], h, _ => h.elim
  | [], _ :: _, _, _, g => by cases g
  | _ :: _, [], _, _, g => by cases g
/-- an argument that is the number of a local -/
theorem as_argI {E : Nat → Option Int} {G : Nat → Int → Option Int} {A : List ab_V} {vs : List Value} {j : Nat} {I : ab_I} (h : as_stk E G A vs) (hj : A[j]? = some (.inl I)) : ∃ x : Int, as_arg vs j = some x ∧ as_pv E G I.2.2.2.2 x := by
  obtain ⟨v, h1, h2⟩ := as_stk_get h hj
  cases v with
  | int z => exact ⟨z.toInt, by unfold as_arg; rw [h1]; rfl, h2.2⟩
  | _ => exact h2.elim
theorem as_fok2 {F : List (List Nat)} {A : List ab_V} {vs : List Value} {f : List Nat} {E : Nat → Option Int} {G : Nat → Int → Option Int} (h : as_stk E G A vs) (hF : ∀ g ∈ F, as_fact E G g) (hf : ab_fok F A f = true) : as_fact (as_arg vs) as_g0 f := by
  unfold ab_fok at hf
  split at hf
  · rename_i o i
    split at hf
    · rename_i I J hI hJ
      split at hf
      · rename_i a b ha hb
        obtain ⟨g, hg, he⟩ := List.any_eq_true.mp hf
        have he := beq_iff_eq.mp he
        subst he
        obtain ⟨x, p1, p2⟩ := as_argI h hI
        obtain ⟨y, q1, q2⟩ := as_argI h hJ
        rw [ha] at p2
        rw [hb] at q2
        obtain ⟨x', y', g1, g2, g3⟩ := hF _ hg
        have e1 : x' = x := Option.some.inj (g1.symm.trans p2)
        have e2 : y' = y := Option.some.inj (g2.symm.trans q2)
        subst e1; subst e2
        exact ⟨x', y', p1, q1, g3⟩
      · cases hf
    · cases hf
  · cases hf
theorem as_subst {A : List ab_V} {vs : List Value} {p : List Nat} {v : Int} {E : Nat → Option Int} {G : Nat → Int → Option Int} (h : as_stk E G A vs) (hp : as_pv (as_arg vs) as_g0 p v) : as_pv E G (ab_subst A p) v := by
  unfold ab_subst
  split
  · rename_i s lo hi j
    split
    · rename_i I hI
      obtain ⟨x, p1, p2⟩ := as_argI h hI
      have hp : v ≠ ab_sent s → as_tL (as_arg vs) j lo hi := hp
      split
      · rename_i a ha
        rw [ha] at p2
        intro hv
        obtain ⟨x', e1, e2⟩ := hp hv
        have : x' = x := Option.some.inj (e1.symm.trans p1)
        subst this
        exact ⟨x', p2, e2⟩
      · rename_i k a b c ha
        rw [ha] at p2
        intro hv
        obtain ⟨x', e1, e2⟩ := hp hv
        have : x' = x := Option.some.inj (e1.symm.trans p1)
        subst this
        obtain ⟨y, y1, y2⟩ := p2
        exact ⟨y, x', y1, y2, e2⟩
      · exact trivial
    · exact trivial
  · rename_i o i
    split
    · rename_i I J hI hJ
      split
      · rename_i a b ha hb
        obtain ⟨x, p1, p2⟩ := as_argI h hI
        obtain ⟨y, q1, q2⟩ := as_argI h hJ
        rw [ha] at p2
        rw [hb] at q2
        have hp : v ≠ 0 → as_two (as_arg vs) o i := hp
        intro hv
        obtain ⟨x', y', g1, g2, g3⟩ := hp hv
        have e1 : x' = x := Option.some.inj (g1.symm.trans p1)
        have e2 : y' = y := Option.some.inj (g2.symm.trans q1)
        subst e1; subst e2
        exact ⟨x', y', p2, q2, g3⟩
      · exact trivial
    · exact trivial
  · exact trivial
/-- an array all of whose rows stay -/
theorem as_FrG {m1 m2 : List va_E} {k : Nat} {i x : Int} (hf : as_Fr sh m1 m2) (hH : as_HI sh m1) (hk : ab_bC sh k = false) (hx : as_G m1 k i = some x) : as_G m2 k i = some x := by
  unfold ab_bC at hk
  split at hk
  · rename_i a ha
    have hk : a.2.2.all (fun r => r.2.2.1) = true := by simpa using hk
    cases i with
    | negSucc n => cases hx
    | ofNat n =>
      have hx : (as_elt m1 k n).map (fun x => x.toInt) = some x := hx
      show (as_elt m2 k n).map (fun x => x.toInt) = some x
      obtain ⟨y, f, g1, g2, g3, g4, g5⟩ := as_arr hH ha
      have hn : n < a.2.1 := by
        cases hb : Nat.ble (n + 1) y.2.1 with
        | true => rw [← g3]; exact Nat.le_of_ble_eq_true hb
        | false =>
          unfold as_elt at hx
          rw [g1] at hx
          simp only [g4, hb, cond_false] at hx
          cases hx
      obtain ⟨r, hr, r1, r2, -⟩ := g5 n hn
      rw [hf.1 k a ha r hr (List.all_eq_true.mp hk r hr) n r1 r2]
      exact hx
  · cases hk
theorem as_Fr.sy {m1 m2 : List va_E} (h : as_Fr sh m1 m2) : as_Fr sh m2 m1 := ⟨fun k a ha r hr hb j h1 h2 => (h.1 k a ha r hr hb j h1 h2).symm, fun k j F hF hb => (h.2 k j F hF hb).symm⟩
theorem as_Gdef {k : Nat} {i x : Int} {a : Nat × Nat × List ab_R} (hH : as_HI sh mw) (ha : ab_arr sh k = some a) (h : as_G mw k i = some x) : ∃ n : Nat, i = (n : Int) ∧ n < a.2.1 := by
  cases i with
  | negSucc n => cases h
  | ofNat n =>
    have h : (as_elt mw k n).map (fun x => x.toInt) = some x := h
    obtain ⟨y, f, g1, g2, g3, g4, g5⟩ := as_arr hH ha
    refine ⟨n, rfl, ?_⟩
    cases hb : Nat.ble (n + 1) y.2.1 with
    | true => rw [← g3]; exact Nat.le_of_ble_eq_true hb
    | false =>
      unfold as_elt at h
      rw [g1] at h
      simp only [g4, hb, cond_false] at h
      cases h
def as_OK (sh : List ab_S) : Bool := !ab_bC sh 62 && (!ab_bC sh 61 && ((match ab_arr sh 57 with
  | some a => a.2.2.any (fun r => r.2.2.1 && (Nat.beq r.1 0 && Nat.ble 9 r.2.1))
  | none => false) && (match ab_arr sh 61 with
  | some a => Nat.beq a.2.1 30
  | none => false)))
theorem as_FrEx {m1 m2 : List va_E} (hf : as_Fr sh m1 m2) (hH : as_HI sh m2) (hk : as_OK sh = true) (hX : as_Ex m1) : as_Ex m2 := by
  unfold as_OK at hk
  rw [Bool.and_eq_true, Bool.and_eq_true, Bool.and_eq_true] at hk
  obtain ⟨k1, k2, k3, k4⟩ := hk
  have k1 : ab_bC sh 62 = false := by simpa using k1
  have k2 : ab_bC sh 61 = false := by simpa using k2
  refine ⟨fun x v h1 h2 => hX.1 x v (as_FrG hf.sy hH k1 h1) (as_FrG hf.sy hH k1 h2), fun x a b h1 h2 => ?_⟩
  refine hX.2 x a b ?_ (as_FrG hf.sy hH k2 h2)
  split at k4
  · rename_i a61 ha61
    obtain ⟨n, n1, n2⟩ := as_Gdef hH ha61 h2
    rw [Nat.eq_of_beq_eq_true k4] at n2
    split at k3
    · rename_i a57 ha57
      obtain ⟨r, hr, hr2⟩ := List.any_eq_true.mp k3
      simp only [Bool.and_eq_true] at hr2
      obtain ⟨r1, r2, r3⟩ := hr2
      have r2 := Nat.eq_of_beq_eq_true r2
      have r3 := Nat.le_of_ble_eq_true r3
      cases x with
      | negSucc q => cases h1
      | ofNat q =>
        have h1 : (as_elt m2 57 q).map (fun x => x.toInt) = some a := h1
        show (as_elt m1 57 q).map (fun x => x.toInt) = some a
        have n1 : 3 * (q : Int) + 2 = (n : Int) := n1
        rw [← hf.1 57 a57 ha57 r hr r1 q (by omega) (by omega)]
        exact h1
    · cases k3
  · cases k4
/-- two shapes that differ in what stays alone -/
def as_Sub (sh sc : List ab_S) : Prop := (∀ mw, as_HI sh mw → as_HI sc mw) ∧ (∀ mw, as_HI sc mw → as_HI sh mw) ∧ ∀ m1 m2, as_Fr sc m1 m2 → as_Fr sh m1 m2
theorem as_Sub.rf : as_Sub sh sh := ⟨fun _ h => h, fun _ h => h, fun _ _ h => h⟩
theorem as_FrL {m2 : List va_E} {j : Nat} (hf : as_Fr sh mw m2) (hj : ab_bL sh j = false) : as_loc lv m2 j = as_loc lv mw j := by
  unfold ab_bL at hj
  unfold as_loc
  cases hb : Nat.ble 1000 j with
  | false => rfl
  | true =>
    rw [hb] at hj
    simp only [Bool.true_and] at hj
    simp only [cond_true]
    split at hj
    · rename_i F hF
      exact hf.2 _ _ F hF (by simpa using hj)
    · cases hj
theorem as_FrK {m2 : List va_E} (hf : as_Fr sh mw m2) (hH : as_HI sh mw) : as_keep (ab_bL sh) (ab_bC sh) (as_E lv mw) (as_E lv m2) (as_G mw) (as_G m2) := ⟨fun j x hj hx => by unfold as_E at *; rw [as_FrL hf hj]; exact hx, fun k i x hk hx => as_FrG hf hH hk hx⟩
theorem as_callA {n : Nat} {rc : Option Nat} {f : mm_F} {Qs : List ab_Q} (h : as_st lv st mw t) (hH : as_HI sh mw) (hX : as_Ex mw) (hSb : as_Sub sh sc) (hQ : ∀ q ∈ Qs, as_Sum sc q f) (hrc : mm_rc rc (st.take n).reverse mw = true) (hl : ab_callA sc n Qs pc t = some l) : as_go sh sc lv mw l (mm_call (some (n, rc, f)) (pc + 3) lv st mw) := by
  unfold ab_callA at hl
  cases hb : (Nat.ble n t.2.1.length && Nat.ble ((t.2.1.drop n).map ab_cat).sum 8) with
  | false => rw [hb] at hl; cases hl
  | true =>
    rw [hb] at hl
    rw [Bool.and_eq_true] at hb
    simp only [cond_true] at hl
    have hst := h.2.1
    obtain ⟨c1, c2⟩ := as_stk_cut n hst
    have c3 := as_stk_rev c1
    split at hl
    · rename_i q hq
      cases hl
      unfold ab_sel at hq
      have q1 := List.find?_some hq
      have q2 := List.mem_of_find?_eq_some hq
      rw [Bool.and_eq_true] at q1
      obtain ⟨r, mw', e1, e2, e3, e4⟩ := hQ q q2 (st.take n).reverse mw (hSb.1 mw hH) hX (as_args c3 q1.1) (fun g hg => as_fok2 c3 h.2.2 (List.all_eq_true.mp q1.2 g hg))
      have hcall : mm_call (some (n, rc, f)) (pc + 3) lv st mw = some (.inl (pc + 3, lv, r.toList ++ st.drop n, mw')) := by
        unfold mm_call
        have hc : (Nat.ble n st.length && (mm_rc rc (st.take n).reverse mw && Nat.ble ((st.drop n).map fun v => v.category).sum 8)) = true := by
          rw [hrc, as_stk_cat c2, hb.2, ← as_stk_len hst, hb.1]
          rfl
        simp only [hc, cond_true, e1]
      rw [hcall]
      have hkeep := as_FrK (lv := lv) e3 (hSb.1 mw hH)
      have hfor := as_for (t := ab_ofst t (t.2.1.drop n)) (st := st.drop n) (lv' := lv) (mw' := mw') ⟨h.1, c2, h.2.2⟩ (fun j v hj _ hv => by rw [as_FrL e3 hj]; exact hv) hkeep
      refine ⟨_, rfl, hSb.2.1 _ e2, hSb.2.2 _ _ e3, _, List.mem_cons_self, rfl, ⟨hfor.1, as_stk_app ?_ hfor.2.1, hfor.2.2⟩, fun j v hj hv => ?_⟩
      · have c4 := as_stk_keep hkeep c3
        unfold ab_res
        unfold as_rs at e4
        split at e4
        · rename_i a v ha
          cases a with
          | inl I =>
            rw [ha]
            cases v with
            | int z => exact ⟨⟨e4.1, as_subst c4 e4.2⟩, trivial⟩
            | _ => exact e4.elim
          | inr k => rw [ha]; cases k <;> cases v <;> first | exact ⟨e4, trivial⟩ | exact e4.elim
        · rename_i ha
          rw [ha]
          exact trivial
        · exact e4.elim
      · exact hkeep.1 j v hj hv
    · cases hl
end ASC
section ASB
variable {sh sc : List ab_S} {lv : List (Nat × Value)} {st : List Value} {mw : List va_E} {t : ab_T} {pc : Nat} {l : List ab_X}
theorem as_aal (h : as_st lv st mw t) (hH : as_HI sh mw) (hl : ab_aal sh pc t = some l) : as_go sh sc lv mw l (mm_aald (pc + 1) lv st mw) := by
  unfold ab_aal at hl
  split at hl
  · rename_i I k r ht
    have h2 := h.2.1
    rw [ht] at h2
    obtain ⟨z, w0, hst, a1, a2, h5⟩ := as_stkI h2
    obtain ⟨w, hw0, h3⟩ := as_stkR h5
    subst hw0
    subst hst
    split at hl
    · rename_i ks hk
      cases hb : ab_in I ks.length with
      | false => rw [hb] at hl; cases hl
      | true =>
        rw [hb] at hl
        simp only [cond_true] at hl
        cases hl
        obtain ⟨e, g1, g2⟩ := hH.2 k _ hk
        cases e with
        | inr x => exact g2.elim
        | inl x =>
          obtain ⟨k1, k2, f, k3, k4⟩ := g2
          obtain ⟨i0, i1, i2⟩ := as_inB hb a1
          have hc := as_clamp i0
          have hp : ks[z.toNatClampNeg]? = some ks[z.toNatClampNeg] := List.getElem?_eq_getElem i1
          have hf := k4 _ _ hp
          have e1 : mm_aald (pc + 1) lv (.int z :: .ref k :: w) mw = some (.inl (pc + 1, lv, .ref ks[z.toNatClampNeg] :: w, mw)) := by
            unfold mm_aald
            simp only [g1, k3, k1, k2, i2, hf]
            rfl
          rw [e1]
          refine as_pure h hH (s' := .inr (some ks[z.toNatClampNeg]) :: r) ⟨rfl, h3⟩ ?_
          refine List.mem_flatMap.mpr ⟨z.toNatClampNeg, List.mem_range.mpr i1, ?_⟩
          have b1 := a1.1
          have b2 := a1.2.1
          have hd : (decide (I.1 ≤ ((z.toNatClampNeg : Nat) : Int)) && decide (((z.toNatClampNeg : Nat) : Int) ≤ I.2.1)) = true := by
            rw [Bool.and_eq_true, decide_eq_true_eq, decide_eq_true_eq, ← hc]
            exact ⟨b1, b2⟩
          simp only [hp, hd, cond_true]
          exact List.mem_cons_self
    · cases hl
  · cases hl
theorem as_negc (c : ClassFile.Cond) (x y : Int32) (h : mm_cnd c x y = false) : mm_cnd (ab_neg c) x y = true := by
  cases c <;> simp [mm_cnd, ab_neg] at h ⊢ <;> first | exact h | exact Int32.not_lt.mp h | exact Int32.not_le.mp h
theorem as_br {off : Int} {c : ClassFile.Cond} {I J : ab_I} {x y : Int32} {w : List Value} {q : Nat → Option (mm_C ⊕ mm_R)} (h : as_st lv w mw t) (hH : as_HI sh mw) (hI : as_in I x.toInt) (hJ : as_in J y.toInt) (hp : as_pv (as_E lv mw) (as_G mw) I.2.2.2.2 x.toInt) (hq : as_pv (as_E lv mw) (as_G mw) J.2.2.2.2 y.toInt) (hl : ab_br sh pc off c I J t = some l) : ∃ p, mm_jmp pc off = some p ∧ as_go sh sc lv mw l (some (.inl (bif mm_cnd c x y then p else pc + 3, lv, w, mw))) := by
  unfold ab_br at hl
  split at hl
  · rename_i p hj
    cases hl
    refine ⟨p, hj, ?_⟩
    cases hc : mm_cnd c x y with
    | true =>
      obtain ⟨u, e1, s1⟩ := as_cmp h hH hI hJ hp hq hc
      exact ⟨_, rfl, hH, as_Fr.rf, (p, u, none), List.mem_append.mpr (Or.inl (by rw [e1]; exact List.mem_cons_self)), rfl, s1, as_eff.no⟩
    | false =>
      obtain ⟨u, e1, s1⟩ := as_cmp h hH hI hJ hp hq (as_negc c x y hc)
      exact ⟨_, rfl, hH, as_Fr.rf, (pc + 3, u, none), List.mem_append.mpr (Or.inr (by rw [e1]; exact List.mem_cons_self)), rfl, s1, as_eff.no⟩
  · cases hl
theorem as_if {c : ClassFile.Cond} {off : Int} {I : ab_I} {r : List ab_V} (h : as_st lv st mw t) (hH : as_HI sh mw) (ht : t.2.1 = .inl I :: r) (hl : ab_br sh pc off c I (ab_c 0) (ab_ofst t r) = some l) : as_go sh sc lv mw l (mm_if c off pc lv st mw) := by
  obtain ⟨x, w, rfl, a1, a2, a3⟩ := as_top1I h ht
  obtain ⟨p, e1, e2⟩ := as_br (q := fun _ => none) (w := w) (t := ab_ofst t r) (y := 0) ⟨h.1, a3, h.2.2⟩ hH a1 (as_inC 0) a2 trivial hl
  unfold mm_if
  simp only [e1]
  exact e2
theorem as_icmp {c : ClassFile.Cond} {off : Int} {I J : ab_I} {r : List ab_V} (h : as_st lv st mw t) (hH : as_HI sh mw) (ht : t.2.1 = .inl J :: .inl I :: r) (hl : ab_br sh pc off c I J (ab_ofst t r) = some l) : as_go sh sc lv mw l (mm_icmp c off pc lv st mw) := by
  have h2 := h.2.1
  rw [ht] at h2
  obtain ⟨y, w0, rfl, b1, b2, h5⟩ := as_stkI h2
  obtain ⟨x, w, rfl, a1, a2, a3⟩ := as_stkI h5
  obtain ⟨p, e1, e2⟩ := as_br (q := fun _ => none) (w := w) (t := ab_ofst t r) ⟨h.1, a3, h.2.2⟩ hH a1 b1 a2 b2 hl
  unfold mm_icmp
  simp only [e1]
  exact e2
/-- a switch: the case whose number it is, or the way of all others -/
theorem as_swt {I : ab_I} {x : Int32} {w : List Value} {d : Option Int} {o : Int} (h : as_st lv w mw t) (hH : as_HI sh mw) (hI : as_in I x.toInt) (hp : as_pv (as_E lv mw) (as_G mw) I.2.2.2.2 x.toInt) : ∀ {cs : List (Int × Int)} {l : List ab_X}, ab_swt sh cs d pc I t = some l → ((x.toInt, o) ∈ cs ∨ d = some o) → as_go sh sc lv mw l (mm_goto (mm_jmp pc o) lv w mw)
  | [], l, hl, ho => by
    rcases ho with ho | ho
    · cases ho
    · subst ho
      unfold ab_swt at hl
      simp only [List.foldr_nil] at hl
      split at hl
      · rename_i p hj
        cases hl
        rw [hj]
        exact ⟨_, rfl, hH, as_Fr.rf, _, List.mem_cons_self, rfl, h, as_eff.no⟩
      · cases hl
  | q :: cs, l, hl, ho => by
    unfold ab_swt at hl
    rw [List.foldr_cons] at hl
    split at hl
    · rename_i l0 hl0
      have hl0 : ab_swt sh cs d pc I t = some l0 := hl0
      cases hb : (decide (I.1 ≤ q.1) && decide (q.1 ≤ I.2.1)) with
      | false =>
        rw [hb] at hl
        simp only [cond_false] at hl
        cases hl
        refine as_swt h hH hI hp hl0 ?_
        rcases ho with ho | ho
        · rcases List.mem_cons.mp ho with e | ho
          · exfalso
            have b1 := hI.1
            have b2 := hI.2.1
            rw [← e] at hb
            rw [Bool.and_eq_false_iff, decide_eq_false_iff_not, decide_eq_false_iff_not] at hb
            rcases hb with hb | hb
            · exact hb b1
            · exact hb b2
          · exact Or.inl ho
        · exact Or.inr ho
      | true =>
        rw [hb] at hl
        simp only [cond_true] at hl
        split at hl
        · rename_i p hj
          by_cases hx : (x.toInt, o) = q
          · have e1 : x.toInt = q.1 := by rw [← hx]
            have e2 : o = q.2 := by rw [← hx]
            obtain ⟨u, f1, f2⟩ := as_ref (ne := none) h hH hp (lo := q.1) (hi := q.1) (by omega) (by omega) (fun z hz => by cases hz)
            rw [f1] at hl
            cases hl
            rw [e2, hj]
            exact ⟨_, rfl, hH, as_Fr.rf, _, List.mem_cons_self, rfl, f2, as_eff.no⟩
          · have ho' : (x.toInt, o) ∈ cs ∨ d = some o := by
              rcases ho with ho | ho
              · rcases List.mem_cons.mp ho with e | ho
                · exact absurd e hx
                · exact Or.inl ho
              · exact Or.inr ho
            obtain ⟨y, y1, y2, y3, z, y4, y5⟩ := as_swt h hH hI hp hl0 ho'
            split at hl
            · cases hl
              exact ⟨y, y1, y2, y3, z, List.mem_cons_of_mem _ y4, y5⟩
            · cases hl
              exact ⟨y, y1, y2, y3, z, y4, y5⟩
        · cases hl
    · cases hl
theorem as_i2 {f : ab_I → ab_I → Option ab_I} {ok : Int32 → Bool} {g : Int32 → Int32 → Int32} (h : as_st lv st mw t) (hH : as_HI sh mw) (hf : ∀ (I J Q : ab_I) (x y : Int32), as_in I x.toInt → as_in J y.toInt → as_pv (as_E lv mw) (as_G mw) I.2.2.2.2 x.toInt → as_pv (as_E lv mw) (as_G mw) J.2.2.2.2 y.toInt → f I J = some Q → ok y = true ∧ as_in Q (g x y).toInt ∧ as_pv (as_E lv mw) (as_G mw) Q.2.2.2.2 (g x y).toInt) (hl : ab_i2 f pc t = some l) : as_go sh sc lv mw l (mm_i2 ok g (pc + 1) lv st mw) := by
  unfold ab_i2 at hl
  split at hl
  · rename_i J I r ht
    have h2 := h.2.1
    rw [ht] at h2
    obtain ⟨y, w0, rfl, b1, b2, h5⟩ := as_stkI h2
    obtain ⟨x, w, rfl, a1, a2, a3⟩ := as_stkI h5
    split at hl
    · rename_i Q hQ
      cases hl
      obtain ⟨c1, c2, c3⟩ := hf I J Q x y a1 b1 a2 b2 hQ
      have e1 : mm_i2 ok g (pc + 1) lv (.int y :: .int x :: w) mw = some (.inl (pc + 1, lv, .int (g x y) :: w, mw)) := by
        unfold mm_i2
        simp only [c1, cond_true]
      rw [e1]
      exact as_pure h hH (s' := .inl Q :: r) ⟨⟨c2, c3⟩, a3⟩ List.mem_cons_self
    · cases hl
  · cases hl
theorem as_acp (h : as_st lv st mw t) (hH : as_HI sh mw) (hl : ab_acp sh pc t = some l) : as_go sh sc lv mw l (mm_call (some (5, none, mm_acp)) (pc + 3) lv st mw) := by
  unfold ab_acp at hl
  split at hl
  · rename_i N D k1 P k0 r ht
    have h2 := h.2.1
    rw [ht] at h2
    obtain ⟨n, w4, rfl, n1, n2, i4⟩ := as_stkI h2
    obtain ⟨d, w3, rfl, d1, d2, i3⟩ := as_stkI i4
    obtain ⟨w2, rfl, i2⟩ := as_stkR i3
    obtain ⟨p, w1, rfl, p1, p2, i1⟩ := as_stkI i2
    obtain ⟨w, rfl, h3⟩ := as_stkR i1
    split at hl
    · rename_i x0 x1 hx0 hx1
      obtain ⟨y0, f0, a1, a2, a3, a4, a5⟩ := as_arr hH hx0
      obtain ⟨y1, f1, b1, b2, b3, b4, b5⟩ := as_arr hH hx1
      cases hb : ((Nat.beq x0.1 0 && Nat.beq x1.1 0) && ((decide (P.1 = 0) && decide (P.2.1 = 0)) && ((decide (D.1 = 0) && decide (D.2.1 = 0)) && ((decide (0 ≤ N.1) && (decide (N.2.1 ≤ (x0.2.1 : Int)) && decide (N.2.1 ≤ (x1.2.1 : Int)))) && (x1.2.2.all (ab_wrok (0, (x1.2.1 : Int), 1, 0, []) none) && Nat.ble (r.map ab_cat).sum 8))))) with
      | false => rw [hb] at hl; cases hl
      | true =>
        rw [hb] at hl
        simp only [Bool.and_eq_true, decide_eq_true_eq] at hb
        obtain ⟨⟨g1, g2⟩, ⟨g3, g4⟩, ⟨g5, g6⟩, ⟨g7, g8, g9⟩, g10, g11⟩ := hb
        have g1 := Nat.eq_of_beq_eq_true g1
        have g2 := Nat.eq_of_beq_eq_true g2
        simp only [cond_true] at hl
        cases hl
        have hn1 := n1.1
        have hn2 := n1.2.1
        have hd1 := d1.1
        have hd2 := d1.2.1
        have hp1 := p1.1
        have hp2 := p1.2.1
        have cn := as_clamp (x := n) (by omega)
        have cd := as_clamp (x := d) (by omega)
        have cp := as_clamp (x := p) (by omega)
        have hng : ∀ z : Int32, 0 ≤ z.toInt → (!decide (z < 0)) = true := by
          intro z hz
          simp only [Bool.not_eq_true', decide_eq_false_iff_not, Int32.lt_iff_toInt_lt, Int32.toInt_zero]
          omega
        have e1 : mm_call (some (5, none, mm_acp)) (pc + 3) lv (.int n :: .int d :: .ref k1 :: .int p :: .ref k0 :: w) mw = some (.inl (pc + 3, lv, w, mw.set k1 (.inl (y1.1, y1.2.1, .inl (va_cpy f0 f1 p.toNatClampNeg d.toNatClampNeg n.toNatClampNeg))))) := by
          have hc : (Nat.ble 5 (Value.int n :: .int d :: .ref k1 :: .int p :: .ref k0 :: w).length && (mm_rc none ((Value.int n :: .int d :: .ref k1 :: .int p :: .ref k0 :: w).take 5).reverse mw && Nat.ble (((Value.int n :: .int d :: .ref k1 :: .int p :: .ref k0 :: w).drop 5).map fun v => v.category).sum 8)) = true := by
            have hc1 : Nat.ble (((Value.int n :: .int d :: .ref k1 :: .int p :: .ref k0 :: w).drop 5).map fun v => v.category).sum 8 = true := by
              show Nat.ble (w.map fun v => v.category).sum 8 = true
              rw [as_stk_cat h3]
              exact g11
            rw [hc1, Nat.ble_eq.mpr (by simp only [List.length_cons]; omega)]
            rfl
          have hm : mm_acp [.ref k0, .int p, .ref k1, .int d, .int n] mw = some (none, mw.set k1 (.inl (y1.1, y1.2.1, .inl (va_cpy f0 f1 p.toNatClampNeg d.toNatClampNeg n.toNatClampNeg)))) := by
            unfold mm_acp
            simp only [a1, b1, a4, b4]
            have : ((y0.1 == 0 && y1.1 == 0) && (!decide (p < 0) && (!decide (d < 0) && (!decide (n < 0) && (Nat.ble (p.toNatClampNeg + n.toNatClampNeg) y0.2.1 && Nat.ble (d.toNatClampNeg + n.toNatClampNeg) y1.2.1))))) = true := by
              rw [a2, b2, g1, g2, hng p (by omega), hng d (by omega), hng n (by omega), a3, b3, Nat.ble_eq.mpr (by omega), Nat.ble_eq.mpr (by omega)]
              rfl
            rw [this]
            rfl
          unfold mm_call
          simp only [hc, cond_true]
          show (match mm_acp [.ref k0, .int p, .ref k1, .int d, .int n] mw with | some (r, mw') => _ | none => none) = _
          rw [hm]
          rfl
        rw [e1]
        obtain ⟨s1, s2, s3, s4⟩ := as_setA (g := va_cpy f0 f1 p.toNatClampNeg d.toNatClampNeg n.toNatClampNeg) hH hx1 b1 b4 (fun j hj => Or.inr (fun r hr r1 r2 => as_wrok (List.all_eq_true.mp g10 r hr) (j := j) ⟨by show (0 : Int) ≤ _; omega, by show (j : Int) ≤ (x1.2.1 : Int); omega, Int.emod_one _, Nat.one_pos⟩ r1 r2 (fun v hv => by cases hv)))
        obtain ⟨q1, q2⟩ := as_forA h h3 s3 s4
        exact ⟨_, rfl, s1, s2, _, List.mem_cons_self, rfl, q1, q2⟩
    · cases hl
  · cases hl
end ASB
