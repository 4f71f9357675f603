/-! ===== the checker is sound: every instruction ===== -/
section ASW
variable {sh sc : List ab_S} {lv : List (Nat × Value)} {st : List Value} {mw : List va_E} {t : ab_T} {pc : Nat} {l : List ab_X}
variable {gf : Nat → Option (Nat × Nat)} {pf : Nat → Option (Nat × Nat × FieldType)} {qv : Nat → Option (Nat × Nat × List ab_Q)} {qs : Nat → Option (Nat × List ab_Q)} {ac : Nat → Bool} {kc gs : Nat → Option Value} {nL : Nat} {mv ms : Nat → Option (Nat × Option Nat × mm_F)} {rf : Nat → Nat → Option Value} {rt : Option FieldType}
theorem as_sw1 {f : Int32 → Option Int} {cs : List (Int × Int)} {d : Option Int} {I : ab_I} {r : List ab_V} (h : as_st lv st mw t) (hH : as_HI sh mw) (ht : t.2.1 = .inl I :: r) (hf : ∀ x : Int32, as_in I x.toInt → ∃ o, f x = some o ∧ ((x.toInt, o) ∈ cs ∨ d = some o)) (hl : ab_swt sh cs d pc I (ab_ofst t r) = some l) : as_go sh sc lv mw l (mm_sw f pc lv st mw) := by
  obtain ⟨x, w, rfl, a1, a2, a3⟩ := as_top1I h ht
  obtain ⟨o, e1, e2⟩ := hf x a1
  unfold mm_sw
  simp only [e1]
  exact as_swt (t := ab_ofst t r) (w := w) ⟨h.1, a3, h.2.2⟩ hH a1 a2 hl e2
theorem as_tsw {d lo hi : Int} {offs : Array Int} {I : ab_I} {x : Int32} (hb : hi = lo + (offs.toList.length : Int) - 1) (hI : as_in I x.toInt) : ∃ o, mm_tsw d lo hi offs x.toInt = some o ∧ ((x.toInt, o) ∈ ((List.range offs.toList.length).filterMap (fun q : Nat => (offs.toList[q]?).map (fun o => (lo + (q : Int), o)))) ∨ (bif decide (lo ≤ I.1) && decide (I.2.1 ≤ hi) then none else some d) = some o) := by
  have b1 := hI.1
  have b2 := hI.2.1
  unfold mm_tsw
  cases hc : (decide (x.toInt < lo) || decide (hi < x.toInt)) with
  | true =>
    refine ⟨d, rfl, Or.inr ?_⟩
    rw [Bool.or_eq_true, decide_eq_true_eq, decide_eq_true_eq] at hc
    have : (decide (lo ≤ I.1) && decide (I.2.1 ≤ hi)) = false := by
      rw [Bool.and_eq_false_iff, decide_eq_false_iff_not, decide_eq_false_iff_not]
      omega
    rw [this]
    rfl
  | false =>
    rw [Bool.or_eq_false_iff, decide_eq_false_iff_not, decide_eq_false_iff_not] at hc
    have hlt : (x.toInt - lo).toNat < offs.toList.length := by omega
    refine ⟨offs.toList[(x.toInt - lo).toNat], List.getElem?_eq_getElem hlt, Or.inl ?_⟩
    refine List.mem_filterMap.mpr ⟨(x.toInt - lo).toNat, List.mem_range.mpr hlt, ?_⟩
    rw [List.getElem?_eq_getElem hlt]
    have e : lo + (((x.toInt - lo).toNat : Nat) : Int) = x.toInt := by omega
    show some (lo + (((x.toInt - lo).toNat : Nat) : Int), _) = some _
    rw [e]
theorem as_lsw {d : Int} {x : Int} : ∀ {ps : List (Int × Int)}, (x, Op.lookupswitch.offset ps d x) ∈ ps ∨ d = Op.lookupswitch.offset ps d x
  | [] => Or.inr rfl
  | (a, o) :: ps => by
    rw [Op.lookupswitch.offset_cons]
    split
    · rename_i e
      have e : x = a := by first | exact e | exact e.symm | simpa using e | exact (by simpa using e : a = x).symm
      subst e
      exact Or.inl List.mem_cons_self
    · rcases as_lsw (d := d) (x := x) (ps := ps) with h | h
      · exact Or.inl (List.mem_cons_of_mem _ h)
      · exact Or.inr h
theorem as_top' {E : Nat → Option Int} {G : Nat → Int → Option Int} (z : Int32) : as_in ab_top z.toInt ∧ as_pv E G ab_top.2.2.2.2 z.toInt := ⟨as_inTop z, trivial⟩
theorem as_rem {E : Nat → Option Int} {G : Nat → Int → Option Int} {I J Q : ab_I} {x y z : Int32} (hJ : as_in J y.toInt) (h : ab_rem I J = some Q) : (!decide (y = 0)) = true ∧ as_in Q z.toInt ∧ as_pv E G Q.2.2.2.2 z.toInt := by
  unfold ab_rem at h
  have b1 := hJ.1
  have b2 := hJ.2.1
  obtain ⟨h1, rfl⟩ := mm_bif h
  refine ⟨?_, as_top' z⟩
  rw [Bool.or_eq_true, decide_eq_true_eq, decide_eq_true_eq] at h1
  simp only [Bool.not_eq_true', decide_eq_false_iff_not]
  intro e
  subst e
  rw [Int32.toInt_zero] at b1 b2
  omega
theorem as_catI {E : Nat → Option Int} {G : Nat → Int → Option Int} {a : ab_V} {v : Value} (h : as_val E G a v) (ha : a ≠ .inr none) : (v.category == 1) = true := by
  cases a with
  | inl I => cases v <;> first | rfl | exact h.elim
  | inr q =>
    cases q with
    | none => exact absurd rfl ha
    | some k => cases v <;> first | rfl | exact h.elim
theorem as_roW : ∀ (k g n : Nat) (lo hi : Int), ab_ro k = some (g, n, lo, hi) → ∃ f, mm_ro k = some (g, n, f) ∧ ∀ j, j < n → lo ≤ (f j).toInt ∧ (f j).toInt ≤ hi := by
  intro k g n lo hi h
  unfold ab_ro at h
  unfold mm_ro
  cases h1 : Nat.beq k 2000 with
  | true =>
    rw [h1] at h
    simp only [cond_true] at h ⊢
    cases h
    refine ⟨mm_abv, rfl, ?_⟩
    decide +kernel
  | false =>
    rw [h1] at h
    simp only [cond_false] at h ⊢
    cases h2 : Nat.beq k 2001 with
    | true =>
      rw [h2] at h
      simp only [cond_true] at h ⊢
      cases h
      refine ⟨mm_mrk, rfl, ?_⟩
      decide +kernel
    | false =>
      rw [h2] at h
      cases h
theorem as_ro1 {k g n : Nat} {f : Nat → Int32} (h : mm_ro k = some (g, n, f)) (hg : (Nat.beq g 1 || Nat.beq g 2) = true) : g = 1 := by
  unfold mm_ro at h
  cases h1 : Nat.beq k 2000 with
  | true => rw [h1] at h; cases h; cases hg
  | false =>
    rw [h1] at h
    simp only [cond_false] at h
    cases h2 : Nat.beq k 2001 with
    | true => rw [h2] at h; cases h; cases hg
    | false =>
      rw [h2] at h
      simp only [cond_false] at h
      obtain ⟨-, e⟩ := mm_bif h
      exact (congrArg Prod.fst e).symm
theorem as_tag12 {g : Nat} (h : (Nat.beq g 1 || Nat.beq g 2) = true) : (g == 1 || g == 2) = true := by
  rw [Bool.or_eq_true] at h
  rcases h with h | h
  · rw [Nat.eq_of_beq_eq_true h]; rfl
  · rw [Nat.eq_of_beq_eq_true h]; rfl
theorem as_sub2 {I J : ab_I} {x y : Int32} (hX : as_Ex mw) (hI : as_in I x.toInt) (hJ : as_in J y.toInt) (hp : as_pv (as_E lv mw) (as_G mw) I.2.2.2.2 x.toInt) (hq : as_pv (as_E lv mw) (as_G mw) J.2.2.2.2 y.toInt) : as_in (ab_sub2 I J) (x - y).toInt ∧ as_pv (as_E lv mw) (as_G mw) (ab_sub2 I J).2.2.2.2 (x - y).toInt := by
  unfold ab_sub2
  split
  · rename_i j q hpI hpJ
    cases hb : (Nat.beq j q && decide (0 ≤ J.1)) with
    | false => exact as_sub hI hJ
    | true =>
      rw [Bool.and_eq_true, decide_eq_true_eq] at hb
      have := Nat.eq_of_beq_eq_true hb.1
      subst this
      rw [hpI] at hp
      rw [hpJ] at hq
      obtain ⟨u, u1, u2⟩ := hp
      obtain ⟨w, w1, w2⟩ := hq
      have e : w = u := Option.some.inj (w1.symm.trans u1)
      subst e
      have hle := hX.2 w y.toInt x.toInt (by simpa using w2) u2
      have b1 := hI.2.1
      have b2 := hJ.1
      have c1 := as_lo x
      have c2 := as_hi x
      have e1 : (x - y).toInt = x.toInt - y.toInt := by
        rw [Int32.toInt_sub]
        apply Int.bmod_eq_of_le <;> omega
      simp only [cond_true]
      rw [e1]
      exact ⟨⟨by show (0 : Int) ≤ _; omega, by show _ ≤ I.2.1; omega, Int.emod_one _, Nat.one_pos⟩, trivial⟩
  · exact as_sub hI hJ
def as_LV (sh : List ab_S) (qv : Nat → Option (Nat × Nat × List ab_Q)) (mv : Nat → Option (Nat × Option Nat × mm_F)) : Prop := ∀ n m ci Qs, qv n = some (m, ci, Qs) → ∃ f, mv n = some (m, some ci, f) ∧ ∀ q ∈ Qs, as_Sum sh q f
def as_LS (sh : List ab_S) (qs : Nat → Option (Nat × List ab_Q)) (ms : Nat → Option (Nat × Option Nat × mm_F)) : Prop := ∀ n m Qs, qs n = some (m, Qs) → ∃ f, ms n = some (m, none, f) ∧ ∀ q ∈ Qs, as_Sum sh q f
theorem as_step {i : Instr} (h : as_st lv st mw t) (hH : as_HI sh mw) (hX : as_Ex mw) (hn : as_nol t) (hSb : as_Sub sh sc) (hv : as_LV sc qv mv) (hs : as_LS sc qs ms) (ha : ∀ n, ac n = true → ms n = some (5, none, mm_acp)) (hl : ab_step sh sc gf pf qv qs ac kc gs ab_ro nL i pc t = some l) : as_go sh sc lv mw l (mm_ex gf pf mv ms kc gs rf mm_ro rt nL i pc lv st mw) := by
  unfold ab_step at hl
  split at hl
  · cases hl; exact as_push h hH (as_cI _)
  · cases hl; exact as_push h hH (as_cI _)
  · cases hl; exact as_push h hH (as_cI _)
  · cases hl; exact as_push h hH trivial
  · exact as_kst h hH hl
  · exact as_kst h hH hl
  · exact as_kst h hH hl
  · exact as_kst h hH hl
  · exact as_ldv (num := true) h hH hl
  · exact as_ldv (num := true) h hH hl
  · exact as_ldv (num := false) h hH hl
  · exact as_ldv (num := false) h hH hl
  · exact as_stv (num := true) h hH hn hl
  · exact as_stv (num := true) h hH hn hl
  · exact as_stv (num := false) h hH hn hl
  · exact as_stv (num := false) h hH hn hl
  · exact as_inc h hH hn hl
  · -- dup
    split at hl
    · cases hl
    · rename_i a r hna ht
      cases hl
      obtain ⟨v, w, rfl, g1, g2⟩ := as_top1 h ht
      have hc := as_catI g1 (fun z => hna z)
      have e1 : mm_dup (pc + 1) lv (v :: w) mw = some (.inl (pc + 1, lv, v :: v :: w, mw)) := by
        unfold mm_dup
        simp only [hc, cond_true]
      show as_go sh sc lv mw _ (mm_dup (pc + 1) lv (v :: w) mw)
      rw [e1]
      exact as_pure h hH (s' := a :: a :: r) ⟨g1, g1, g2⟩ List.mem_cons_self
    · cases hl
  · -- dup2
    split at hl
    · cases hl
    · cases hl
    · rename_i a b r hna hnb ht
      cases hl
      have h2 := h.2.1
      rw [ht] at h2
      cases st with
      | nil => exact h2.elim
      | cons v st =>
        cases st with
        | nil => exact h2.2.elim
        | cons u w =>
          obtain ⟨g1, g2, g3⟩ := h2
          have hc := as_catI g1 (fun z => hna z)
          have hd := as_catI g2 (fun z => hnb z)
          have e1 : mm_dup2 (pc + 1) lv (v :: u :: w) mw = some (.inl (pc + 1, lv, v :: u :: v :: u :: w, mw)) := by
            unfold mm_dup2
            simp only [hc, hd, Bool.and_self, cond_true]
          show as_go sh sc lv mw _ (mm_dup2 (pc + 1) lv (v :: u :: w) mw)
          rw [e1]
          exact as_pure h hH (s' := a :: b :: a :: b :: r) ⟨g1, g2, g1, g2, g3⟩ List.mem_cons_self
    · cases hl
  · -- pop
    split at hl
    · cases hl
    · rename_i a r hna ht
      cases hl
      obtain ⟨v, w, rfl, g1, g2⟩ := as_top1 h ht
      have hc := as_catI g1 (fun z => hna z)
      have e1 : mm_pop 1 (pc + 1) lv (v :: w) mw = some (.inl (pc + 1, lv, w, mw)) := by
        unfold mm_pop
        simp only [hc, cond_true]
      show as_go sh sc lv mw _ (mm_pop 1 (pc + 1) lv (v :: w) mw)
      rw [e1]
      exact as_pure h hH (s' := r) g2 List.mem_cons_self
    · cases hl
  · exact as_i2 h hH (fun I J Q x y a b c d e => by cases e; exact ⟨rfl, as_add a b c d⟩) hl
  · exact as_i2 h hH (fun I J Q x y a b c d e => by cases e; exact ⟨rfl, as_sub2 hX a b c d⟩) hl
  · exact as_i2 h hH (fun I J Q x y a b c d e => by cases e; exact ⟨rfl, as_mul a b c d⟩) hl
  · exact as_i2 h hH (fun I J Q x y a b c d e => by
      obtain ⟨e1, e2, e3⟩ := as_div (E := as_E lv mw) (G := as_G mw) a b e
      exact ⟨by simpa using e1, e2, e3⟩) hl
  · exact as_i2 h hH (fun I J Q x y a b c d e => as_rem (x := x) b e) hl
  · exact as_i2 h hH (fun I J Q x y a b c d e => by cases e; exact ⟨rfl, as_and a b⟩) hl
  · exact as_i2 h hH (fun I J Q x y a b c d e => by cases e; exact ⟨rfl, as_or a b⟩) hl
  · exact as_i2 h hH (fun I J Q x y a b c d e => by cases e; exact ⟨rfl, as_top' _⟩) hl
  · exact as_i2 h hH (fun I J Q x y a b c d e => by cases e; exact ⟨rfl, as_shl a b⟩) hl
  · exact as_i2 h hH (fun I J Q x y a b c d e => by cases e; exact ⟨rfl, as_top' _⟩) hl
  · exact as_i2 h hH (fun I J Q x y a b c d e => by cases e; exact ⟨rfl, as_top' _⟩) hl
  · -- i2l
    split at hl
    · rename_i I r ht
      cases hl
      obtain ⟨x, w, rfl, g1, g2, g3⟩ := as_top1I h ht
      exact as_pure h hH (s' := .inr none :: r) (st' := .long x.toInt64 :: w) ⟨trivial, g3⟩ List.mem_cons_self
    · cases hl
  · -- l2i
    split at hl
    · rename_i r ht
      cases hl
      have h2 := h.2.1
      rw [ht] at h2
      obtain ⟨x, w, rfl, g3⟩ := as_stkL h2
      exact as_pure h hH (s' := .inl ab_top :: r) (st' := .int x.toInt32 :: w) ⟨as_top' _, g3⟩ List.mem_cons_self
    · cases hl
  · -- ladd
    split at hl
    · rename_i r ht
      cases hl
      have h2 := h.2.1
      rw [ht] at h2
      obtain ⟨x, w0, rfl, g2⟩ := as_stkL h2
      obtain ⟨y, w, rfl, g3⟩ := as_stkL g2
      exact as_pure h hH (s' := .inr none :: r) (st' := .long (y + x) :: w) ⟨trivial, g3⟩ List.mem_cons_self
    · cases hl
  · -- lmul
    split at hl
    · rename_i r ht
      cases hl
      have h2 := h.2.1
      rw [ht] at h2
      obtain ⟨x, w0, rfl, g2⟩ := as_stkL h2
      obtain ⟨y, w, rfl, g3⟩ := as_stkL g2
      exact as_pure h hH (s' := .inr none :: r) (st' := .long (y * x) :: w) ⟨trivial, g3⟩ List.mem_cons_self
    · cases hl
  · -- goto
    rename_i o
    split at hl
    · rename_i q hq
      cases hl
      show as_go sh sc lv mw _ (mm_goto (mm_jmp pc o) lv st mw)
      rw [hq]
      exact ⟨_, rfl, hH, as_Fr.rf, _, List.mem_cons_self, rfl, h, as_eff.no⟩
    · cases hl
  · -- if
    split at hl
    · rename_i I r ht
      exact as_if h hH ht hl
    · cases hl
  · -- icmp
    split at hl
    · rename_i J I r ht
      exact as_icmp h hH ht hl
    · cases hl
  · -- tableswitch
    rename_i d lo hi offs
    split at hl
    · rename_i I r ht
      cases hb : decide (hi = lo + (offs.toList.length : Int) - 1) with
      | false => rw [hb] at hl; cases hl
      | true =>
        rw [hb] at hl
        simp only [cond_true] at hl
        exact as_sw1 h hH ht (fun x hx => as_tsw (by simpa using hb) hx) hl
    · cases hl
  · -- lookupswitch
    rename_i d ps
    split at hl
    · rename_i I r ht
      cases hb : (ps.toList.zip (ps.toList.drop 1)).all (fun (a, next) => a.1 < next.1) with
      | false => rw [hb] at hl; cases hl
      | true =>
        rw [hb] at hl
        simp only [cond_true] at hl
        show as_go sh sc lv mw l (bif (ps.toList.zip (ps.toList.drop 1)).all (fun (a, next) => a.1 < next.1) then mm_sw (fun x => some (Op.lookupswitch.offset ps.toList d x.toInt)) pc lv st mw else none)
        rw [hb]
        refine as_sw1 h hH ht (fun x hx => ⟨_, rfl, ?_⟩) hl
        rcases as_lsw (d := d) (x := x.toInt) (ps := ps.toList) with e | e
        · exact Or.inl e
        · exact Or.inr (congrArg some e)
    · cases hl
  · exact as_gtf h hH hl
  · exact as_ptf h hH hl
  · -- iaload
    refine as_ald (ro' := mm_ro) h hH hX as_roW (fun i k w x f e1 e2 e3 e4 e5 => ?_) (fun i k w g n f e1 e2 e3 e4 e5 => ?_) hl
    · subst e1
      show mm_iald mm_ro (pc + 1) lv (.int i :: .ref k :: w) mw = _
      have e4 := Nat.eq_of_beq_eq_true e4
      unfold mm_iald
      simp only [e2, e3, e4, e5]
      rfl
    · subst e1
      show mm_iald mm_ro (pc + 1) lv (.int i :: .ref k :: w) mw = _
      have e4 := Nat.eq_of_beq_eq_true e4
      unfold mm_iald
      simp only [e2, e3, e4, e5]
      rfl
  · -- baload
    refine as_ald (ro' := mm_ro) h hH hX as_roW (fun i k w x f e1 e2 e3 e4 e5 => ?_) (fun i k w g n f e1 e2 e3 e4 e5 => ?_) hl
    · subst e1
      show mm_bald mm_ro (pc + 1) lv (.int i :: .ref k :: w) mw = _
      unfold mm_bald
      have e6 : (x.1 == 1 || x.1 == 2) = true := as_tag12 e4
      simp only [e2, e3, e6, e5]
      rfl
    · subst e1
      show mm_bald mm_ro (pc + 1) lv (.int i :: .ref k :: w) mw = _
      have e6 := as_ro1 e3 e4
      subst e6
      unfold mm_bald
      simp only [e2, e3, e5]
      rfl
  · exact as_aal h hH hl
  · -- iastore
    refine as_ast (nv := fun _ v => v) h hH (fun _ _ _ => rfl) (fun v i k w x f e1 e2 e3 e4 e5 => ?_) hl
    subst e1
    show mm_iast (pc + 1) lv (.int v :: .int i :: .ref k :: w) mw = _
    have e4 := Nat.eq_of_beq_eq_true e4
    unfold mm_iast
    simp only [e2, e3, e4, e5]
    rfl
  · -- bastore
    refine as_ast (nv := fun g v => vp_nar (mm_ty g) v) h hH (fun z => by cases z) (fun v i k w x f e1 e2 e3 e4 e5 => ?_) hl
    subst e1
    show mm_bast (pc + 1) lv (.int v :: .int i :: .ref k :: w) mw = _
    have e6 : (x.1 == 1 || x.1 == 2) = true := as_tag12 e4
    unfold mm_bast
    simp only [e2, e3, e6, e5]
    rfl
  · -- arraylength
    split at hl
    · rename_i k r ht
      have h2 := h.2.1
      rw [ht] at h2
      obtain ⟨w, rfl, h3⟩ := as_stkR h2
      split at hl
      · rename_i x hx
        obtain ⟨y, f, g1, g2, g3, g4, g5⟩ := as_arr hH hx
        obtain ⟨hb, e⟩ := mm_bif hl
        subst e
        have e1 : mm_alen mm_ro (pc + 1) lv (.ref k :: w) mw = some (.inl (pc + 1, lv, .int (Int32.ofNat x.2.1) :: w, mw)) := by
          unfold mm_alen
          simp only [g1, g2, g3, hb]
          rfl
        show as_go sh sc lv mw _ (mm_alen mm_ro (pc + 1) lv (.ref k :: w) mw)
        rw [e1]
        exact as_pure h hH (s' := .inl (ab_c (Int32.ofNat x.2.1).toInt) :: r) ⟨as_cI _, h3⟩ List.mem_cons_self
      · cases hl
    · cases hl
  · -- invokevirtual
    rename_i n
    split at hl
    · rename_i m ci Qs hq
      obtain ⟨f, f1, f2⟩ := hv n m ci Qs hq
      cases hb : ab_rcv sh ci (t.2.1.take m).reverse with
      | false => rw [hb] at hl; cases hl
      | true =>
        rw [hb] at hl
        simp only [cond_true] at hl
        show as_go sh sc lv mw l (mm_call (mv n) (pc + 3) lv st mw)
        rw [f1]
        refine as_callA h hH hX hSb f2 ?_ hl
        have c3 := as_stk_rev (as_stk_cut m h.2.1).1
        unfold ab_rcv at hb
        split at hb
        · rename_i k r hA
          rw [hA] at c3
          obtain ⟨w, e1, -⟩ := as_stkR c3
          rw [e1]
          split at hb
          · rename_i x hx
            obtain ⟨y, g1, g2, -⟩ := as_obj hH hx
            have := Nat.eq_of_beq_eq_true hb
            unfold mm_rc
            simp only [g1, g2, this]
            simp
          · cases hb
        · cases hb
    · cases hl
  · -- invokestatic
    rename_i n
    show as_go sh sc lv mw l (mm_call (ms n) (pc + 3) lv st mw)
    cases hb : ac n with
    | true =>
      rw [hb] at hl
      simp only [cond_true] at hl
      rw [ha n hb]
      exact as_acp h hH hl
    | false =>
      rw [hb] at hl
      simp only [cond_false] at hl
      split at hl
      · rename_i m Qs hq
        obtain ⟨f, f1, f2⟩ := hs n m Qs hq
        rw [f1]
        exact as_callA h hH hX hSb f2 rfl hl
      · cases hl
  · cases hl
end ASW
