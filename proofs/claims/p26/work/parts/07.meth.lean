/-! ===== a method's contract out of its tables ===== -/
def mm_fuel : Nat := 100000000000
def mm_ro (a : Nat) : Option (Nat × Nat × (Nat → Int32)) := bif Nat.beq a 2000 then some (0, 7, mm_abv) else bif Nat.beq a 2001 then some (0, 7, mm_mrk) else bif Nat.ble 1100 a && Nat.ble (a + 1) 1106 then some (1, mm_sl.getD (a - 1100) 0, fun j => (mm_sb.getD (a - 1100) []).getD j 0) else none
theorem mm_beqF {a b : Nat} (h : ¬ a = b) : Nat.beq a b = false := by
  cases hz : Nat.beq a b with
  | true => exact absurd (Nat.eq_of_beq_eq_true hz) h
  | false => rfl
/-- the meaning of a method: its bytecode in the small machine -/
def mm_S (gf : Nat → Option (Nat × Nat)) (pf : Nat → Option (Nat × Nat × FieldType)) (mv ms : Nat → Option (Nat × Option Nat × mm_F)) (kc : Nat → Option Value) (gs : Nat → Option Value) (rf : Nat → Nat → Option Value) (rt : Option FieldType) (nL : Nat) (ins : Nat → Option Instr) : mm_F := fun vs mw => bif Nat.ble (lg_sl vs).length nL then mm_run gf pf mv ms kc gs rf mm_ro rt nL ins mm_fuel (0, lv_args 0 vs, [], mw) else none
theorem mm_args_q (ad : Nat → Nat) : ∀ (vs : List Value) (i : Nat), lv_args i (vs.map (mm_v ad)) = (lv_args i vs).map (mm_q ad)
  | [], i => rfl
  | v :: t, i => by
    show (i, mm_v ad v) :: lv_args (if (mm_v ad v).category = 2 then i + 2 else i + 1) (t.map (mm_v ad)) = (i, mm_v ad v) :: (lv_args (if v.category = 2 then i + 2 else i + 1) t).map (mm_q ad)
    rw [mm_v_cat, mm_args_q ad t]
theorem mm_sl_len (ad : Nat → Nat) : ∀ (vs : List Value), (lg_sl (vs.map (mm_v ad))).length = (lg_sl vs).length
  | [] => rfl
  | v :: t => by
    have h := mm_sl_len ad t
    unfold lg_sl at h ⊢
    simp only [List.map_cons, List.flatMap_cons, List.length_append, h, mm_v_cat]
    split <;> rfl
/-- arraycopy of whole numbers -/
def mm_acp : mm_F := fun vs mw => match vs with
  | [.ref a0, .int sp, .ref a1, .int dp, .int n] => match mw[a0]?, mw[a1]? with
    | some (.inl x0), some (.inl x1) => match x0.2.2, x1.2.2 with
      | .inl f, .inl g => bif (x0.1 == 0 && x1.1 == 0) && (!decide (sp < 0) && (!decide (dp < 0) && (!decide (n < 0) && (Nat.ble (sp.toNatClampNeg + n.toNatClampNeg) x0.2.1 && Nat.ble (dp.toNatClampNeg + n.toNatClampNeg) x1.2.1)))) then some (none, mw.set a1 (.inl (x1.1, x1.2.1, .inl (va_cpy f g sp.toNatClampNeg dp.toNatClampNeg n.toNatClampNeg)))) else none
      | _, _ => none
    | _, _ => none
  | _ => none
def mm_LA (own : String) (d ix n : Nat) (f : mm_F) : Prop := 0 < d ∧ n = 5 ∧ f = mm_acp ∧ Cond.methodLink own ix arraycopyName ∈ mm_G ∧ Cond.native arraycopyName ∈ mm_G ∧ Cond.static arraycopyName ∈ mm_G ∧ Cond.initialized "java/lang/System" ∈ mm_G
section MME
variable {p : Program} {l : Launch} {e : Env} {R : Room} {nc ns : Nat} {s : State} {m : MethodId} {args : Array Value} {below : List Frame} {meth : Method} {c : Code} {D : va_G} {A : Nat → Prop} {ad : Nat → Nat} {cy : Nat → ClassId} {nL d : Nat} {cc : ByteArray} {own : String} {x : MethodName} {b2 : ByteArray} {n2 : Nat} {r2 : Option FieldType}
theorem mm_callA {ix n : Nat} {f : mm_F} (hL : mm_LA own d ix n f) (S : CallFix p m c cc nL s args (Cond.code x b2 n2 r2 :: mm_G) own) (hK : va_K D mm_cl (mm_tys cy) s) (hR : d ≤ R.frames ∧ 40 * d ≤ R.locals) : mm_Call p l e R s m args below meth c D mm_cl A s.heap ad cy nL cc nc ns (.invokestatic ix) n none f := by
  obtain ⟨hd, rfl, rfl, w1, w2, w3, w4⟩ := hL
  obtain ⟨hx, hb, hml, hown, hts⟩ := S
  intro vs mw mw' r hn hrc hf Q pc H locs ls rest hsz hdg hP hD hS hcat kk
  unfold mm_acp at hf
  split at hf
  · rename_i a0 sp a1 dp n
    split at hf
    · rename_i x0 x1 h0 h1
      split at hf
      · rename_i f g hf0 hg0
        obtain ⟨hc, he⟩ := mm_bif hf
        cases he
        simp only [Bool.and_eq_true, beq_iff_eq, Bool.not_eq_true', decide_eq_false_iff_not] at hc
        obtain ⟨⟨c1, c2⟩, c3, c4, c5, c6, c7⟩ := hc
        have hw0 : (mm_w ad cy 0 mw)[a0]? = some (ad a0, .inl (cy 0, x0.2.1, .inl f)) := by
          rw [mm_w_at h0]
          obtain ⟨y1, y2, y3⟩ := x0
          simp only at c1 hf0
          simp [mm_e, mm_a, hf0, c1]
        have hw1 : (mm_w ad cy 0 mw)[a1]? = some (ad a1, .inl (cy 0, x1.2.1, .inl g)) := by
          rw [mm_w_at h1]
          obtain ⟨y1, y2, y3⟩ := x1
          simp only at c2 hg0
          simp [mm_e, mm_a, hg0, c2]
        refine va_copyi hx hb (by rw [hml, hsz]) hown (hts _ (List.mem_cons_of_mem _ w1)) (hts _ (List.mem_cons_of_mem _ w2)) (hts _ (List.mem_cons_of_mem _ w3)) (hts _ (List.mem_cons_of_mem _ w4)) hK hP hD hS a0 a1 0 0 hw0 hw1 (mm_tys_at cy (by omega)) (mm_tys_at cy (by omega)) rfl c3 c4 c5 (Nat.le_of_ble_eq_true c6) (Nat.le_of_ble_eq_true c7) (fun _ _ => rfl) (by omega) ?_ hdg (fun H1 locs1 hP1 hD1 hS1 => ?_)
        · have hnw : nativeFrameWords "java/lang/System" "arraycopy" 5 = 7 := by decide +kernel
          rw [hnw]
          show (rest.map fun v => v.category).sum + (7 + 11) ≤ R.locals
          omega
        · have hs : (mm_w ad cy 0 mw).set a1 (ad a1, .inl (cy 0, x1.2.1, .inl (va_cpy f g sp.toNatClampNeg dp.toNatClampNeg n.toNatClampNeg))) = mm_w ad cy 0 (mw.set a1 (.inl (x1.1, x1.2.1, .inl (va_cpy f g sp.toNatClampNeg dp.toNatClampNeg n.toNatClampNeg)))) := by
            rw [← mm_w_put, c2]
            rfl
          rw [hs] at hP1 hD1
          exact kk H1 locs1 hP1 hD1 hS1
      · cases hf
    · cases hf
  · cases hf
end MME
def mm_KC (own : String) (kc : Nat → Option Value) : Prop := (∀ n v, kc (3 * n) = some v → (∃ i, v = .int i ∧ Cond.constant own n i ∈ mm_G) ∨ (own = "SuretyRoll$Reader" ∧ ∃ i, i < 6 ∧ n = mm_si.getD i 0 ∧ v = .ref (1000 + i))) ∧ (∀ n v, kc (3 * n + 1) = some v → ∃ i, v = .int i ∧ Cond.constant own n i ∈ mm_G) ∧ ∀ n v, kc (3 * n + 2) = some v → ∃ i, v = .long i ∧ Cond.constantLong own n i ∈ mm_G
def mm_GS (own : String) (gs : Nat → Option Value) : Prop := ∀ n v, gs n = some v → (Cond.fieldLink own n "SuretyRoll$Kinds" "ABOVE" "[I" ∈ mm_G ∧ v = .ref 2000) ∨ (Cond.fieldLink own n "SuretyRoll$Kinds" "MARK" "[I" ∈ mm_G ∧ v = .ref 2001) ∨ (Cond.fieldLink own n "java/lang/String" "COMPACT_STRINGS" "Z" ∈ mm_G ∧ v = .int 1)
def mm_RF (own : String) (rf : Nat → Nat → Option Value) : Prop := ∀ n a v, rf a n = some v → (1000 ≤ a ∧ a < 1006) ∧ ((Cond.fieldLink own n "java/lang/String" "value" "[B" ∈ mm_G ∧ v = .ref (a + 100)) ∨ (Cond.fieldLink own n "java/lang/String" "coder" "B" ∈ mm_G ∧ v = .int 0))
def mm_GS2 (own : String) (u : Bool) (gs : Nat → Option Value) : Prop := ∀ n v, gs n = some v → ((Cond.fieldLink own n "SuretyRoll$Kinds" "ABOVE" "[I" ∈ mm_G ∧ v = .ref 2000) ∨ (Cond.fieldLink own n "SuretyRoll$Kinds" "MARK" "[I" ∈ mm_G ∧ v = .ref 2001) ∨ (Cond.fieldLink own n "java/lang/String" "COMPACT_STRINGS" "Z" ∈ mm_G ∧ v = .int 1)) ∨ (Cond.fieldLink own n "jdk/internal/util/Preconditions" "SIOOBE_FORMATTER" "Ljava/util/function/BiFunction;" ∈ mm_G ∧ v = (bif u then .null else .ref 2002))
theorem mm_methG {l : Launch} {y : MethodName} {cc : ByteArray} {maxL d : Nat} {ret : Option FieldType} {gf : Nat → Option (Nat × Nat)} {pf : Nat → Option (Nat × Nat × FieldType)} {mv ms : Nat → Option (Nat × Option Nat × mm_F)} {kc : Nat → Option Value} {gs : Bool → Nat → Option Value} {rf : Nat → Nat → Option Value} {ins : Nat → Option Instr} (hy : plainFor y = true)
    (hgf : ∀ n ci k, gf n = some (ci, k) → mm_GF mm_G mm_cl y.cls n ci k) (hpf : ∀ n ci k ty, pf n = some (ci, k, ty) → mm_PF mm_G mm_cl y.cls n ci k ty)
    (hmv : ∀ ix n rc f, mv ix = some (n, rc, f) → mm_LV l y.cls d ix n rc f) (hms : ∀ ix n rc f, ms ix = some (n, rc, f) → rc = none ∧ (mm_LS l y.cls d ix n f ∨ mm_LA y.cls d ix n f))
    (hkc : mm_KC y.cls kc) (hgs : ∀ u, mm_GS2 y.cls u (gs u)) (hrf : mm_RF y.cls rf) (hins : ∀ pc i, ins pc = some i → ∃ n, decode cc pc = .ok (i, n) ∧ (mm_len i ≠ 0 → n = mm_len i)) {F : mm_F} (hF : ∀ u vs mw r, F vs mw = some r → mm_S gf pf mv ms kc (gs u) rf ret maxL ins vs mw = some r) : mm_Ct l y cc maxL ret d F := by
  intro D ad cy vs mw r sz hf
  refine va_MetF (cc := cc) (maxL := maxL) (ret := ret) hy rfl ?_
  intro p e s m args below meth c s₁ B hml hv
  obtain ⟨rfl, hsz, hP, hK, hD, hX⟩ := hv
  subst hsz
  have hx := B.exec
  have hb := B.bytes
  have hts : ∀ w ∈ (Cond.code y cc maxL ret :: mm_G), w.before (vs.map (mm_v ad)).toArray s = true := atoms_spec (ws := Cond.code y cc maxL ret :: mm_G) B.pre
  have hown : s.vm.findClass y.cls = some m.cls := findClass_of_methodNamed B.named
  have S : CallFix p m c cc maxL s (vs.map (mm_v ad)).toArray (Cond.code y cc maxL ret :: mm_G) y.cls := ⟨hx, hb, hml, hown, hts⟩
  have hg : ∀ w ∈ mm_G, w.before (vs.map (mm_v ad)).toArray s = true := fun w h => hts w (List.mem_cons_of_mem _ h)
  have hA : ∀ q, s.heap.size ≤ q → va_A (mm_w ad cy 0 mw) s.heap.size q := fun q h => Or.inr h
  obtain ⟨X1, X2, X3, X4, X5, X6, X7, X8, u, X9⟩ := id hX
  have hf := hF u vs mw r hf
  have hgs := hgs u
  unfold mm_S at hf
  cases hle : Nat.ble (lg_sl vs).length maxL with
  | false => rw [hle] at hf; cases hf
  | true =>
    rw [hle] at hf
    have hf : mm_run gf pf mv ms kc (gs u) rf mm_ro ret maxL ins mm_fuel (0, lv_args 0 vs, [], mw) = some r := hf
    have hle := Nat.le_of_ble_eq_true hle
    rw [lg_entry_eq]
    have hl := lv_entry (vs.map (mm_v ad)) (n := maxL) (by rw [mm_sl_len]; exact hle)
    rw [mm_args_q] at hl
    refine mm_runW (G := mm_G) (own := y.cls) (A := va_A (mm_w ad cy 0 mw) s.heap.size) (R := mm_rm d) hx hb B.returns B.notSynchronized hg hown hK hgf hpf (fun ix n rc f h => mm_callV (hmv ix n rc f h) S hK hX hA ⟨Nat.le_refl _, Nat.le_refl _⟩ ⟨Nat.le_refl _, Nat.le_refl _⟩) ?_ ?_ ?_ ?_ ?_ ?_ ?_ hins mm_fuel _ hf s.heap [] _ hP hD.self va_S.rf hl
    · intro ix n rc f h
      obtain ⟨rfl, h | h⟩ := hms ix n rc f h
      · exact mm_callS h S hK hX hA ⟨Nat.le_refl _, Nat.le_refl _⟩ ⟨Nat.le_refl _, Nat.le_refl _⟩
      · exact mm_callA h S hK ⟨Nat.le_refl _, Nat.le_refl _⟩
    · intro n v h Q pc H locs ls rest hdg hS k
      rcases hkc.1 n v h with ⟨i, rfl, w⟩ | ⟨ho, i, hi, rfl, rfl⟩
      · exact lv_ldc hx hb hown (hg _ w) hdg k
      · exact va_ldcS hx hb hown (by rw [ho]; exact X7 i hi) hdg k
    · intro n v h Q pc H locs ls rest hdg hS k
      obtain ⟨i, rfl, w⟩ := hkc.2.1 n v h
      exact lv_ldcw hx hb hown (hg _ w) hdg k
    · intro n v h Q pc H locs ls rest hdg hS k
      obtain ⟨i, rfl, w⟩ := hkc.2.2 n v h
      exact lv_ldc2 hx hb hown (hg _ w) hdg k
    · intro n v h Q pc H locs ls rest hdg hS k
      rcases hgs n v h with (⟨w, rfl⟩ | ⟨w, rfl⟩ | ⟨w, rfl⟩) | ⟨w, rfl⟩
      · exact va_gets hx hb X1 hS hown (hg _ w) (fun _ z => z) hdg k
      · exact va_gets hx hb X3 hS hown (hg _ w) (fun _ z => z) hdg k
      · exact va_gets hx hb X5 hS hown (hg _ w) (fun _ z => z) hdg k
      · exact va_gets hx hb X9 hS hown (hg _ w) (fun _ z => z) hdg k
    · intro n a v h Q pc H locs ls rest hdg hS k
      obtain ⟨⟨h1, h2⟩, h⟩ := hrf n a v h
      have hq := X6.1 (a - 1000) (by omega)
      have e1 : 1000 + (a - 1000) = a := by omega
      rcases h with ⟨w, rfl⟩ | ⟨w, rfl⟩
      · have hq := hq.2.2.1
        dsimp only at hq
        rw [e1, show 1100 + (a - 1000) = a + 100 by omega] at hq
        exact vk_getf hx hb hq hS hown (hg _ w) (fun _ z => z) hdg k
      · have hq := hq.2.1
        dsimp only at hq
        rw [e1] at hq
        exact vk_getf hx hb hq hS hown (hg _ w) (fun _ z => z) hdg k
    · intro a t n f h
      unfold mm_ro at h
      by_cases h1 : a = 2000
      · subst h1
        have h : some (0, 7, mm_abv) = some (t, n, f) := h
        cases h
        exact ⟨fun _ Q pc H locs ls rest i hi hdg hS k => va_ti hx hb X2 hS hi rfl hdg k, (fun z => absurd z (by decide)), fun Q pc H locs ls rest hdg hS k => va_tlen hx hb X2 hS rfl hdg k⟩
      · by_cases h2 : a = 2001
        · subst h2
          have h : some (0, 7, mm_mrk) = some (t, n, f) := h
          cases h
          exact ⟨fun _ Q pc H locs ls rest i hi hdg hS k => va_ti hx hb X4 hS hi rfl hdg k, (fun z => absurd z (by decide)), fun Q pc H locs ls rest hdg hS k => va_tlen hx hb X4 hS rfl hdg k⟩
        · rw [mm_beqF h1, mm_beqF h2] at h
          obtain ⟨h3, h4⟩ := mm_bif h
          rw [Prod.mk.injEq, Prod.mk.injEq] at h4
          obtain ⟨rfl, rfl, rfl⟩ := h4
          rw [Bool.and_eq_true] at h3
          have h5 := Nat.le_of_ble_eq_true h3.1
          have h6 := Nat.le_of_ble_eq_true h3.2
          have hq := (X6.1 (a - 1100) (by omega)).2.2.2
          dsimp only at hq
          rw [show 1100 + (a - 1100) = a by omega] at hq
          exact ⟨(fun z => absurd z (by decide)), fun _ Q pc H locs ls rest i hi hdg hS k => va_tb hx hb hq hS hi rfl hdg k, fun Q pc H locs ls rest hdg hS k => va_tlen hx hb hq hS rfl hdg k⟩
theorem mm_meth {l : Launch} {y : MethodName} {cc : ByteArray} {maxL d : Nat} {ret : Option FieldType} {gf : Nat → Option (Nat × Nat)} {pf : Nat → Option (Nat × Nat × FieldType)} {mv ms : Nat → Option (Nat × Option Nat × mm_F)} {kc : Nat → Option Value} {gs : Nat → Option Value} {rf : Nat → Nat → Option Value} {ins : Nat → Option Instr} (hy : plainFor y = true)
    (hgf : ∀ n ci k, gf n = some (ci, k) → mm_GF mm_G mm_cl y.cls n ci k) (hpf : ∀ n ci k ty, pf n = some (ci, k, ty) → mm_PF mm_G mm_cl y.cls n ci k ty)
    (hmv : ∀ ix n rc f, mv ix = some (n, rc, f) → mm_LV l y.cls d ix n rc f) (hms : ∀ ix n rc f, ms ix = some (n, rc, f) → rc = none ∧ (mm_LS l y.cls d ix n f ∨ mm_LA y.cls d ix n f))
    (hkc : mm_KC y.cls kc) (hgs : mm_GS y.cls gs) (hrf : mm_RF y.cls rf) (hins : ∀ pc i, ins pc = some i → ∃ n, decode cc pc = .ok (i, n) ∧ (mm_len i ≠ 0 → n = mm_len i)) : mm_Ct l y cc maxL ret d (mm_S gf pf mv ms kc gs rf ret maxL ins) :=
  mm_methG (gs := fun _ => gs) hy hgf hpf hmv hms hkc (fun _ n v h => Or.inl (hgs n v h)) hrf hins (fun _ _ _ _ h => h)
/-! ===== the tables as lists, checked by program ===== -/
def mm_ins (L : List (List (Nat × Instr))) (pc : Nat) : Option Instr := match L[pc / 16]? with
  | some ch => (ch.find? (fun q => Nat.beq q.1 pc)).map (·.2)
  | none => none
def mm_dok (cc : ByteArray) (q : Nat × Instr) : Bool := match decode cc q.1 with
  | .ok (i, n) => decide (i = q.2) && (Nat.beq n (mm_len i) || Nat.beq (mm_len i) 0)
  | .error _ => false
def mm_dec (cc : ByteArray) (L : List (List (Nat × Instr))) : Bool := L.all (fun ch => ch.all (mm_dok cc))
theorem mm_dec_ok {cc : ByteArray} {L : List (List (Nat × Instr))} (h : mm_dec cc L = true) : ∀ pc i, mm_ins L pc = some i → ∃ n, decode cc pc = .ok (i, n) ∧ (mm_len i ≠ 0 → n = mm_len i) := by
  intro pc i hi
  unfold mm_ins at hi
  split at hi
  · rename_i ch hch
    cases hf : ch.find? (fun q => Nat.beq q.1 pc) with
    | none => rw [hf] at hi; cases hi
    | some q =>
      rw [hf] at hi
      have e1 : q.2 = i := Option.some.inj hi
      have e2 : q.1 = pc := Nat.eq_of_beq_eq_true (by have z := List.find?_some hf; exact z)
      have h1 := List.all_eq_true.mp (List.all_eq_true.mp h ch (List.mem_of_getElem? hch)) q (List.mem_of_find?_eq_some hf)
      unfold mm_dok at h1
      rw [e2, e1] at h1
      split at h1
      · rename_i i' n hd
        rw [Bool.and_eq_true, decide_eq_true_eq, Bool.or_eq_true] at h1
        obtain ⟨rfl, h2⟩ := h1
        refine ⟨n, hd, fun hz => ?_⟩
        rcases h2 with h2 | h2
        · exact Nat.eq_of_beq_eq_true h2
        · exact absurd (Nat.eq_of_beq_eq_true h2) hz
      · cases h1
  · cases hi
def mm_gf (L : List (Nat × Nat × Nat × Nat)) (n : Nat) : Option (Nat × Nat) := (L.find? (fun q => Nat.beq q.2.1 n)).map (fun q => q.2.2)
def mm_lkb (own : String) (q : Nat × Nat × Nat × Nat) : Bool := match mm_cl[q.2.2.1]? with
  | some r => Nat.ble (q.2.2.2 + 1) r.2.2 && decide (lw_tbl[q.1]? = some (Cond.fieldLink own q.2.1 (r.2.1 q.2.2.2).1 (r.2.1 q.2.2.2).2.1 (r.2.1 q.2.2.2).2.2.1))
  | none => false
def mm_gfb (own : String) (L : List (Nat × Nat × Nat × Nat)) : Bool := L.all (mm_lkb own)
theorem mm_lkb_ok {own : String} {q : Nat × Nat × Nat × Nat} (h : mm_lkb own q = true) : mm_GF mm_G mm_cl own q.2.1 q.2.2.1 q.2.2.2 := by
  unfold mm_lkb at h
  split at h
  · rename_i r hr
    rw [Bool.and_eq_true, decide_eq_true_eq] at h
    exact ⟨r.1, r.2.1, r.2.2, hr, Nat.le_of_ble_eq_true h.1, mm_in_all _ r hr, mm_G_in h.2 rfl⟩
  · cases h
theorem mm_gf_ok {own : String} {L : List (Nat × Nat × Nat × Nat)} (h : mm_gfb own L = true) : ∀ n ci k, mm_gf L n = some (ci, k) → mm_GF mm_G mm_cl own n ci k := by
  intro n ci k hg
  unfold mm_gf at hg
  cases hf : L.find? (fun q => Nat.beq q.2.1 n) with
  | none => rw [hf] at hg; cases hg
  | some q =>
    rw [hf] at hg
    have e1 : q.2.2 = (ci, k) := Option.some.inj hg
    have e2 : q.2.1 = n := Nat.eq_of_beq_eq_true (by have z := List.find?_some hf; exact z)
    have h1 := mm_lkb_ok (List.all_eq_true.mp h q (List.mem_of_find?_eq_some hf))
    rw [e2, e1] at h1
    exact h1
def mm_tyf : List (Nat → FieldType) := [tyX0, tyX1, tyX2, tyX3, tyX4, tyX5, tyX6, tyX7, tyX8, tyX9, tyX10, tyX11, tyX12]
theorem mm_ty_all : ∀ (ci : Nat) (q : vw_C), mm_cl[ci]? = some q → (∀ k, k < q.2.2 → parseFieldDescriptor (q.2.1 k).2.2.1 = some (mm_tyf.getD ci tyX0 k)) ∧ ∀ a, a < q.2.2 → ∀ b, b < q.2.2 → a ≠ b → (q.2.1 a).2.1 ≠ (q.2.1 b).2.1 := by
  intro ci q h
  match ci, h with
  | 0, h => cases h; exact ⟨tyX0_ok, nmX0⟩
  | 1, h => cases h; exact ⟨tyX1_ok, nmX1⟩
  | 2, h => cases h; exact ⟨tyX2_ok, nmX2⟩
  | 3, h => cases h; exact ⟨tyX3_ok, nmX3⟩
  | 4, h => cases h; exact ⟨tyX4_ok, nmX4⟩
  | 5, h => cases h; exact ⟨tyX5_ok, nmX5⟩
  | 6, h => cases h; exact ⟨tyX6_ok, nmX6⟩
  | 7, h => cases h; exact ⟨tyX7_ok, nmX7⟩
  | 8, h => cases h; exact ⟨tyX8_ok, nmX8⟩
  | 9, h => cases h; exact ⟨tyX9_ok, nmX9⟩
  | 10, h => cases h; exact ⟨tyX10_ok, nmX10⟩
  | 11, h => cases h; exact ⟨tyX11_ok, nmX11⟩
  | 12, h => cases h; exact ⟨tyX12_ok, nmX12⟩
  | n + 13, h => simp [mm_cl] at h
def mm_pf (L : List (Nat × Nat × Nat × Nat)) (n : Nat) : Option (Nat × Nat × FieldType) := (L.find? (fun q => Nat.beq q.2.1 n)).map (fun q => (q.2.2.1, q.2.2.2, mm_tyf.getD q.2.2.1 tyX0 q.2.2.2))
def mm_pfb (own : String) (L : List (Nat × Nat × Nat × Nat)) : Bool := L.all (fun q => mm_lkb own q && (match mm_cl[q.2.2.1]? with
  | some r => !(r.2.1 q.2.2.2).2.2.2
  | none => false))
theorem mm_pf_ok {own : String} {L : List (Nat × Nat × Nat × Nat)} (h : mm_pfb own L = true) : ∀ n ci k ty, mm_pf L n = some (ci, k, ty) → mm_PF mm_G mm_cl own n ci k ty := by
  intro n ci k ty hg
  unfold mm_pf at hg
  cases hf : L.find? (fun q => Nat.beq q.2.1 n) with
  | none => rw [hf] at hg; cases hg
  | some q =>
    rw [hf] at hg
    have e1 : (q.2.2.1, q.2.2.2, mm_tyf.getD q.2.2.1 tyX0 q.2.2.2) = (ci, k, ty) := Option.some.inj hg
    rw [Prod.mk.injEq, Prod.mk.injEq] at e1
    obtain ⟨rfl, rfl, rfl⟩ := e1
    have e2 : q.2.1 = n := Nat.eq_of_beq_eq_true (by have z := List.find?_some hf; exact z)
    have h0 := List.all_eq_true.mp h q (List.mem_of_find?_eq_some hf)
    rw [Bool.and_eq_true] at h0
    obtain ⟨C, T, N, g1, g2, g3, g4⟩ := mm_lkb_ok h0.1
    have h2 := h0.2
    rw [g1] at h2
    have h2 : (!((T q.2.2.2).2.2.2)) = true := h2
    obtain ⟨t1, t2⟩ := mm_ty_all _ _ g1
    rw [e2] at g4
    exact ⟨C, T, N, mm_tyf.getD q.2.2.1 tyX0, g1, g2, g3, g4, t1, t2, by simpa using h2, rfl⟩
abbrev mm_L : Type := List (Nat × Nat × Option Nat × mm_F)
def mm_mv (L : mm_L) (ix : Nat) : Option (Nat × Option Nat × mm_F) := (L.find? (fun q => Nat.beq q.1 ix)).map (·.2)
theorem mm_mv_in {L : mm_L} {ix : Nat} {q : Nat × Option Nat × mm_F} (h : mm_mv L ix = some q) : (ix, q) ∈ L := by
  unfold mm_mv at h
  cases hf : L.find? (fun q => Nat.beq q.1 ix) with
  | none => rw [hf] at h; cases h
  | some r =>
    rw [hf] at h
    have e1 : r.2 = q := Option.some.inj h
    have e2 : r.1 = ix := Nat.eq_of_beq_eq_true (by have z := List.find?_some hf; exact z)
    rw [← e1, ← e2]
    exact List.mem_of_find?_eq_some hf
/-- a method's own words -/
def mm_MV (y : MethodName) (cc : ByteArray) (maxL : Nat) (ret : Option FieldType) (ci : Nat) : Prop := maxL ≤ 21 ∧ ((ci = 99 ∧ y.cls = "java/lang/String") ∨ ∃ q, mm_cl[ci]? = some q ∧ q.1 = y.cls) ∧ (y.cls ≠ "java/lang/invoke/MethodHandle" ∧ y.cls ≠ "java/lang/invoke/VarHandle") ∧ Cond.instanceMethod y ∈ mm_G ∧ Cond.selects y.cls y y ∈ mm_G ∧ Cond.initialized y.cls ∈ mm_G ∧ Cond.code y cc maxL ret ∈ mm_G
def mm_MS (y : MethodName) (cc : ByteArray) (maxL : Nat) (ret : Option FieldType) : Prop := maxL ≤ 21 ∧ (y.cls ≠ "java/lang/invoke/MethodHandle" ∧ y.cls ≠ "java/lang/invoke/VarHandle") ∧ Cond.static y ∈ mm_G ∧ Cond.initialized y.cls ∈ mm_G ∧ Cond.code y cc maxL ret ∈ mm_G
theorem mm_LV.mk {l : Launch} {own : String} {d ix n ci i d1 : Nat} {f : mm_F} {y : MethodName} {cc : ByteArray} {maxL : Nat} {ret : Option FieldType} (hM : mm_MV y cc maxL ret ci) (hC : mm_Ct l y cc maxL ret d1 f) (hd : d1 < d) (hn : (parseMethodDescriptor y.desc).map (fun d => d.parameters.length + 1) = some n) (hl : lw_tbl[i]? = some (Cond.methodLink own ix y)) : mm_LV l own d ix n (some ci) f := by
  obtain ⟨h1, h2, h3, h4, h5, h6, h7⟩ := hM
  exact ⟨y, cc, maxL, ret, d1, ci, rfl, hd, h1, h2, ⟨h3.1, h3.2, hn⟩, ⟨mm_G_in hl rfl, h4, h5, h6, h7⟩, hC⟩
theorem mm_LS.mk {l : Launch} {own : String} {d ix n i d1 : Nat} {f : mm_F} {y : MethodName} {cc : ByteArray} {maxL : Nat} {ret : Option FieldType} (hM : mm_MS y cc maxL ret) (hC : mm_Ct l y cc maxL ret d1 f) (hd : d1 < d) (hn : (parseMethodDescriptor y.desc).map (fun d => d.parameters.length) = some n) (hl : lw_tbl[i]? = some (Cond.methodLink own ix y)) : mm_LS l own d ix n f := by
  obtain ⟨h1, h3, h4, h5, h6⟩ := hM
  exact ⟨y, cc, maxL, ret, d1, hd, h1, ⟨h3.1, h3.2, hn⟩, ⟨Or.inl (mm_G_in hl rfl), h4, h5, h6⟩, hC⟩
theorem mm_LS.nest {l : Launch} {own : String} {d ix n d1 : Nat} {f : mm_F} {y : MethodName} {cc : ByteArray} {maxL : Nat} {ret : Option FieldType} (hM : mm_MS y cc maxL ret) (hC : mm_Ct l y cc maxL ret d1 f) (hd : d1 < d) (hn : (parseMethodDescriptor y.desc).map (fun d => d.parameters.length) = some n) (hy : y = mm_isIn) (hl : (own, ix) ∈ mm_nest) : mm_LS l own d ix n f := by
  obtain ⟨h1, h3, h4, h5, h6⟩ := hM
  exact ⟨y, cc, maxL, ret, d1, hd, h1, ⟨h3.1, h3.2, hn⟩, ⟨Or.inr ⟨hy, hl⟩, h4, h5, h6⟩, hC⟩
theorem mm_LA.mk {own : String} {d ix i : Nat} (hd : 0 < d) (h1 : lw_tbl[i]? = some (Cond.methodLink own ix arraycopyName)) : mm_LA own d ix 5 mm_acp := ⟨hd, rfl, rfl, mm_G_in h1 rfl, mm_G_in (i := 617) (by decide +kernel) rfl, mm_G_in (i := 616) (by decide +kernel) rfl, mm_G_in (i := 87) (by decide +kernel) rfl⟩
theorem mm_mv_ok {l : Launch} {own : String} {d : Nat} {L : mm_L} (h : ∀ q ∈ L, mm_LV l own d q.1 q.2.1 q.2.2.1 q.2.2.2) : ∀ ix n rc f, mm_mv L ix = some (n, rc, f) → mm_LV l own d ix n rc f := fun ix n rc f hq => h _ (mm_mv_in hq)
theorem mm_ms_ok {l : Launch} {own : String} {d : Nat} {L : mm_L} (h : ∀ q ∈ L, q.2.2.1 = none ∧ (mm_LS l own d q.1 q.2.1 q.2.2.2 ∨ mm_LA own d q.1 q.2.1 q.2.2.2)) : ∀ ix n rc f, mm_mv L ix = some (n, rc, f) → rc = none ∧ (mm_LS l own d ix n f ∨ mm_LA own d ix n f) := fun ix n rc f hq => h _ (mm_mv_in hq)
def mm_kc (L : List (Nat × Nat × Value)) (n : Nat) : Option Value := (L.find? (fun q => Nat.beq q.2.1 n)).map (fun q => q.2.2)
def mm_kcb (own : String) (L : List (Nat × Nat × Value)) : Bool := L.all (fun q => match q.2.2 with
  | .int i => Nat.ble (q.2.1 % 3) 1 && decide (lw_tbl[q.1]? = some (Cond.constant own (q.2.1 / 3) i))
  | .long i => Nat.beq (q.2.1 % 3) 2 && decide (lw_tbl[q.1]? = some (Cond.constantLong own (q.2.1 / 3) i))
  | .ref a => decide (own = "SuretyRoll$Reader") && (Nat.beq (q.2.1 % 3) 0 && (Nat.ble 1000 a && (Nat.ble (a + 1) 1006 && Nat.beq (q.2.1 / 3) (mm_si.getD (a - 1000) 0))))
  | _ => false)
theorem mm_kc_ok {own : String} {L : List (Nat × Nat × Value)} (h : mm_kcb own L = true) : mm_KC own (mm_kc L) := by
  have key : ∀ n v, mm_kc L n = some v → ∃ q ∈ L, q.2.1 = n ∧ q.2.2 = v := by
    intro n v hv
    unfold mm_kc at hv
    cases hf : L.find? (fun q => Nat.beq q.2.1 n) with
    | none => rw [hf] at hv; cases hv
    | some q =>
      rw [hf] at hv
      exact ⟨q, List.mem_of_find?_eq_some hf, Nat.eq_of_beq_eq_true (by have z := List.find?_some hf; exact z), Option.some.inj hv⟩
  refine ⟨fun n v hv => ?_, fun n v hv => ?_, fun n v hv => ?_⟩
  · obtain ⟨q, hq, e1, e2⟩ := key _ v hv
    have h1 := List.all_eq_true.mp h q hq
    rw [e1, e2] at h1
    split at h1
    · rw [Bool.and_eq_true, decide_eq_true_eq, Nat.mul_div_cancel_left n (by omega)] at h1
      exact Or.inl ⟨_, rfl, mm_G_in h1.2 rfl⟩
    · rw [Bool.and_eq_true] at h1
      have := Nat.eq_of_beq_eq_true h1.1
      omega
    · rename_i a
      rw [Bool.and_eq_true, Bool.and_eq_true, Bool.and_eq_true, Bool.and_eq_true, decide_eq_true_eq, Nat.mul_div_cancel_left n (by omega)] at h1
      obtain ⟨h2, h3, h4, h5, h6⟩ := h1
      have h4 := Nat.le_of_ble_eq_true h4
      have h5 := Nat.le_of_ble_eq_true h5
      exact Or.inr ⟨h2, a - 1000, (Nat.sub_lt_iff_lt_add h4).mpr h5, Nat.eq_of_beq_eq_true h6, by rw [Nat.add_sub_of_le h4]⟩
    · cases h1
  · obtain ⟨q, hq, e1, e2⟩ := key _ v hv
    have h1 := List.all_eq_true.mp h q hq
    rw [e1, e2] at h1
    split at h1
    · rw [Bool.and_eq_true, decide_eq_true_eq, show (3 * n + 1) / 3 = n by omega] at h1
      exact ⟨_, rfl, mm_G_in h1.2 rfl⟩
    · rw [Bool.and_eq_true] at h1
      have := Nat.eq_of_beq_eq_true h1.1
      omega
    · rw [Bool.and_eq_true, Bool.and_eq_true] at h1
      have := Nat.eq_of_beq_eq_true h1.2.1
      omega
    · cases h1
  · obtain ⟨q, hq, e1, e2⟩ := key _ v hv
    have h1 := List.all_eq_true.mp h q hq
    rw [e1, e2] at h1
    split at h1
    · rw [Bool.and_eq_true] at h1
      have := Nat.le_of_ble_eq_true h1.1
      omega
    · rw [Bool.and_eq_true, decide_eq_true_eq, show (3 * n + 2) / 3 = n by omega] at h1
      exact ⟨_, rfl, mm_G_in h1.2 rfl⟩
    · rw [Bool.and_eq_true, Bool.and_eq_true] at h1
      have := Nat.eq_of_beq_eq_true h1.2.1
      omega
    · cases h1
def mm_gs0 (_ : Nat) : Option Value := none
def mm_rf0 (_ _ : Nat) : Option Value := none
theorem mm_gs0_ok {own : String} : mm_GS own mm_gs0 := fun _ _ h => by cases h
theorem mm_rf0_ok {own : String} : mm_RF own mm_rf0 := fun _ _ _ h => by cases h
