/-! THE CLAIM OUT OF ONE WALK OF THE LAW'S BODY. Your part is whole_start (and what it stands on); all else here is the same for every law, but numbers. -/
def R_law : String := "SuretyRollLaw"
def lw_P (b : Addr) (xs : List Int32) (args : Array Value) (s : State) : Prop := args = #[.ref b] ∧ s.IntsAt b xs ∧ xs.length ≤ 2048 ∧ (Jvm.Cond.and given_1 narrow_1).before args s = true
def lw_Q (_ : Array Value) (s : State) (o : Outcome) (t : State) : Prop := o = .returned (some (.int 1)) ∧ Framed s o t [] 600000 7302250
def lw_Z (below : List Frame) (a : Array Value) (s : State) : State → Prop := fun t => ∃ o, t.status = .running ∧ Ended t below o ∧ lw_Q a s o t
/-- the law's own end, with 1 on the stack, nothing written that was there before, its room as the claim has it -/
theorem lw_ret {p : Program} {l : Launch} {e : Env} {s : State} {m : MethodId} {below : List Frame} {meth : Method} {c : Code} {b : Nat} (hx : p.tables.exec = Jvm.exec) (hb : c.code = code) (hr : meth.sig.returnType = ret) (hlocks : meth.locks = false) {pc : Nat} {H : Heap} {ls : Array Slot} (hdg : decode code pc = .ok (.ireturn, 1)) : W p l e room_1 s m #[Value.ref b] below meth c H [] 600000 7302250 (lw_Z below #[Value.ref b] s) (F0 m pc ls [.int 1]) := by
  intro T hT X
  obtain ⟨fs, hret, hrun, hended, hW, hframe⟩ := X.leave (v := some (.int 1)) (hlocks := hlocks) (fun h => by rw [hr] at h; cases h)
  have hmeth' : T.vm.method? m = some meth := X.method'
  refine ⟨T.setFrames fs, ?_, .returned (some (.int 1)), hrun, hended, rfl, ⟨_, rfl⟩, hW, hframe⟩
  jvm_step X.here [X.here.top, hx, hb, hdg, hmeth', hr, ret, narrow_b1]
  (try refine ⟨rfl, ?_⟩); (try refine ⟨rfl, ?_⟩)
  first | (intro acts; rw [hret _ acts rfl rfl rfl]) | rw [hret _ _ rfl rfl rfl]
  exact Steps.refl _
/-- what holds at the law's entry: the machine, the code, the tables' words (any of lw_tbl by 'hts w (by decide +kernel)'), the script of L ints xs at the cell b, what the Statement gives of the start (any of its parts by flat_of_before) -/
def lw_At (p : Program) (s : State) (m : MethodId) (meth : Method) (c : Code) (b L : Nat) (xs : Nat → Int32) : Prop :=
  p.tables.exec = Jvm.exec ∧ c.code = code ∧ meth.sig.returnType = ret ∧ c.maxLocals = 4 ∧ s.vm.findClass R_law = some m.cls ∧ (∀ w ∈ lw_tbl, w.before #[Value.ref b] s = true) ∧ va_X b L xs s s.heap ∧ b < s.heap.size ∧ meth.locks = false ∧ (Jvm.Cond.and given_1 narrow_1).before #[Value.ref b] s = true

/-! ===== the law: the start ===== -/
def lw_ro (L : Nat) (xs : Nat → Int32) (a : Nat) : Option (Nat × Nat × (Nat → Int32)) := bif Nat.beq a 3000 then some (0, L, xs) else none
section LWX
variable {args : Array Value} {s : State} {A : Nat → Prop}
abbrev lw_fl : List Cond := flatC (Jvm.Cond.and given_1 narrow_1)
def lw_tm (n : String) : Term := .static "SuretyRoll$Kinds" n "[I"
def lw_ts (i : Nat) : Term := .string "SuretyRoll$Reader" (mm_si.getD i 0)
set_option maxRecDepth 20000 in
theorem lw_in1 : (Cond.arrayOf (lw_tm "ABOVE") .int) ∈ lw_fl ∧ (Cond.eq (.length (lw_tm "ABOVE")) (.int (Int32.ofNat 7))) ∈ lw_fl ∧ ∀ j : Nat, j < 7 → (Cond.eq (.elem (lw_tm "ABOVE") (.int (Int32.ofNat j))) (.int (mm_abv j))) ∈ lw_fl := ⟨by decide +kernel, by decide +kernel, by decide +kernel⟩
set_option maxRecDepth 20000 in
theorem lw_in2 : (Cond.arrayOf (lw_tm "MARK") .int) ∈ lw_fl ∧ (Cond.eq (.length (lw_tm "MARK")) (.int (Int32.ofNat 7))) ∈ lw_fl ∧ ∀ j : Nat, j < 7 → (Cond.eq (.elem (lw_tm "MARK") (.int (Int32.ofNat j))) (.int (mm_mrk j))) ∈ lw_fl := ⟨by decide +kernel, by decide +kernel, by decide +kernel⟩
set_option maxRecDepth 20000 in
theorem lw_in3 : (Cond.eq (.static "java/lang/String" "COMPACT_STRINGS" "Z") (.int 1)) ∈ lw_fl := by decide +kernel
set_option maxRecDepth 20000 in
theorem lw_in4 : ∀ i : Nat, i < 6 → (Cond.exactly (lw_ts i) "java/lang/String") ∈ lw_fl ∧ (Cond.eq (.field (lw_ts i) "java/lang/String" "coder" "B") (.int 0)) ∈ lw_fl ∧ (Cond.arrayOf (.field (lw_ts i) "java/lang/String" "value" "[B") .byte) ∈ lw_fl ∧ (Cond.eq (.length (.field (lw_ts i) "java/lang/String" "value" "[B")) (.int (Int32.ofNat (mm_sl.getD i 0)))) ∈ lw_fl := by decide +kernel
set_option maxRecDepth 20000 in
theorem lw_in5 : ∀ i : Nat, i < 6 → ∀ j : Nat, j < mm_sl.getD i 0 → (Cond.eq (.elem (.field (lw_ts i) "java/lang/String" "value" "[B") (.int (Int32.ofNat j))) (.int ((mm_sb.getD i []).getD j 0))) ∈ lw_fl := by decide +kernel
set_option maxRecDepth 20000 in
theorem lw_in6 : ∀ i : Nat, i < 6 → ∀ j : Nat, j < 6 → i ≠ j → (Cond.not (Cond.eq (lw_ts i) (lw_ts j))) ∈ lw_fl ∨ (Cond.not (Cond.eq (lw_ts j) (lw_ts i))) ∈ lw_fl := by decide +kernel
set_option maxRecDepth 20000 in
theorem lw_in7 : ∀ i : Nat, i < 6 → (Cond.stringRef "SuretyRoll$Reader" (mm_si.getD i 0) (mm_sx.getD i "")) ∈ lw_tbl := by decide +kernel
set_option maxRecDepth 20000 in
theorem lw_in8 : ∀ q ∈ mm_nest, (Cond.methodLinkNest q.1 q.2 mm_isIn "SuretyRoll") ∈ lw_tbl := by decide +kernel
set_option maxRecDepth 20000 in
theorem lw_in9 : ∀ q ∈ mc_nest, (Cond.methodLinkNest q.1 q.2.1 q.2.2 "SuretyRoll") ∈ lw_tbl := by decide +kernel
set_option maxRecDepth 20000 in
theorem lw_in10 : (Cond.laysStatic "SuretyRoll$Kinds" "ABOVE" "[I") ∈ lw_tbl ∧ (Cond.laysStatic "SuretyRoll$Kinds" "MARK" "[I") ∈ lw_tbl ∧ (Cond.laysStatic "java/lang/String" "COMPACT_STRINGS" "Z") ∈ lw_tbl ∧ (Cond.initialized "SuretyRoll$Kinds") ∈ lw_tbl ∧ (Cond.initialized "java/lang/String") ∈ lw_tbl ∧ (Cond.arrayOver (.object "SuretyRoll$Ledger")) ∈ lw_tbl := ⟨by decide +kernel, by decide +kernel, by decide +kernel, by decide +kernel, by decide +kernel, by decide +kernel⟩
set_option maxRecDepth 20000 in
theorem lw_in11 : (Cond.isRef (.static "jdk/internal/util/Preconditions" "SIOOBE_FORMATTER" "Ljava/util/function/BiFunction;")) ∈ lw_fl ∧ (Cond.laysStatic "jdk/internal/util/Preconditions" "SIOOBE_FORMATTER" "Ljava/util/function/BiFunction;") ∈ lw_tbl ∧ (Cond.initialized "jdk/internal/util/Preconditions") ∈ lw_tbl := ⟨by decide +kernel, by decide +kernel, by decide +kernel⟩
/-- the outside of the world, at the law's start -/
theorem lw_Xt {b bs : Nat} (hts : ∀ w ∈ lw_tbl, w.before args s = true) (hgv : (Jvm.Cond.and given_1 narrow_1).before args s = true) (hA : ∀ a : Nat, a < s.heap.size → ¬ A a) : ∃ ad : Nat → Nat, mc_ad bs ad ∧ ad 3000 = b ∧ mm_Xt ad A s := by
  have hs := flat_of_before _ hgv
  obtain ⟨i1, i2, i3⟩ := lw_in1
  obtain ⟨j1, j2, j3⟩ := lw_in2
  obtain ⟨k1, k2, k3, k4, k5, k6⟩ := lw_in10
  obtain ⟨ta, hta, hTa⟩ := va_Tof (tm := lw_tm "ABOVE") (N := 7) (f := fun j => .int (mm_abv j)) (A := A) (by decide) (hs _ i1) (va_eqt (hs _ i2)) (fun j hj => va_eqt (hs _ (i3 j hj))) hA
  obtain ⟨tb, htb, hTb⟩ := va_Tof (tm := lw_tm "MARK") (N := 7) (f := fun j => .int (mm_mrk j)) (A := A) (by decide) (hs _ j1) (va_eqt (hs _ j2)) (fun j hj => va_eqt (hs _ (j3 j hj))) hA
  have hZa := va_Zref (A := A) (hts _ k1) (hts _ k4) hta hA
  have hZb := va_Zref (A := A) (hts _ k2) (hts _ k4) htb hA
  have hZc := va_Zof (A := A) (hts _ k3) (hts _ k5) (va_eqt (hs _ lw_in3)) hA
  obtain ⟨adK, adV, hStr, hev⟩ := vk_Sof (args := args) (N := 6) (tm := lw_ts) (len := mm_sl) (byt := mm_sb) (A := A) (by decide +kernel) (fun i hi => hs _ (lw_in4 i hi).1) (fun i hi => hs _ (lw_in4 i hi).2.1) (fun i hi => hs _ (lw_in4 i hi).2.2.1) (fun i hi => hs _ (lw_in4 i hi).2.2.2) (fun i hi j hj => hs _ (lw_in5 i hi j hj)) (fun i j hi hj hij => (lw_in6 i hi j hj hij).elim (fun z => Or.inl (hs _ z)) (fun z => Or.inr (hs _ z))) hA
  obtain ⟨v9, hv9, hr9⟩ := Cond.isRef_spec (hs _ lw_in11.1)
  obtain ⟨u, tc, hu⟩ : ∃ (u : Bool) (tc : Nat), v9 = (bif u then .null else .ref tc) := by
    cases v9 with
    | ref t => exact ⟨false, t, rfl⟩
    | null => exact ⟨true, 0, rfl⟩
    | _ => cases hr9
  have hZ9 := va_Zof (A := A) (hts _ lw_in11.2.1) (hts _ lw_in11.2.2) hv9 hA
  refine ⟨fun k => if k < 1000 then bs + k else if k < 1100 then adK (k - 1000) else if k < 2000 then adV (k - 1100) else if k = 2000 then ta else if k = 2001 then tb else if k = 2002 then tc else b, fun k hk => by simp [hk], by simp, ?_⟩
  have e1 : ∀ i : Nat, i < 6 → (fun k : Nat => if k < 1000 then bs + k else if k < 1100 then adK (k - 1000) else if k < 2000 then adV (k - 1100) else if k = 2000 then ta else if k = 2001 then tb else if k = 2002 then tc else b) (1000 + i) = adK i := by
    intro i hi
    have a1 : ¬ (1000 + i < 1000) := by omega
    have a2 : 1000 + i < 1100 := by omega
    simp [a1, a2]
  have e2 : ∀ i : Nat, i < 6 → (fun k : Nat => if k < 1000 then bs + k else if k < 1100 then adK (k - 1000) else if k < 2000 then adV (k - 1100) else if k = 2000 then ta else if k = 2001 then tb else if k = 2002 then tc else b) (1100 + i) = adV i := by
    intro i hi
    have a1 : ¬ (1100 + i < 1000) := by omega
    have a2 : ¬ (1100 + i < 1100) := by omega
    have a3 : 1100 + i < 2000 := by omega
    simp [a1, a2, a3]
  refine ⟨by simpa using hZa, by simpa using hTa, by simpa using hZb, by simpa using hTb, hZc, ⟨fun i hi => ?_, fun i j hi hj he => ?_⟩, fun i hi => ?_, fun q hq => va_Nw.of rfl (hts _ (lw_in8 q hq)), u, ?_⟩
  · obtain ⟨h1, h2, h3, h4⟩ := hStr.1 i hi
    simp only [e1 i hi, e2 i hi]
    exact ⟨h1, h2, h3, h4⟩
  · simp only [e1 i hi, e1 j hj] at he
    exact hStr.2 i j hi hj he
  · rw [e1 i hi]
    exact vk_R.of (hts _ (lw_in7 i hi)) (hev i hi)
  · rw [hu] at hZ9
    cases u with
    | true => exact hZ9
    | false => simpa [mm_v] using hZ9
/-- the classes and the array classes, at the law's start -/
theorem lw_K (hts : ∀ w ∈ lw_tbl, w.before args s = true) : ∃ (D : va_G) (cy : Nat → ClassId), va_K D mm_cl (mm_tys cy) s := by
  have hg : ∀ w ∈ mm_G, w.before args s = true := fun w h => hts w (List.mem_filter.mp h).1
  obtain ⟨c0, i0, h0⟩ := u_known (C := RX0) (T := TX0) (N := 3) (n := 3) hg mm_inX0 (hts (.instantiable RX0 3) (List.mem_of_getElem? (i := 140) (by decide +kernel)))
  obtain ⟨c1, i1, h1⟩ := u_known (C := RX1) (T := TX1) (N := 3) (n := 3) hg mm_inX1 (hts (.instantiable RX1 3) (List.mem_of_getElem? (i := 373) (by decide +kernel)))
  obtain ⟨c2, i2, h2⟩ := u_known (C := RX2) (T := TX2) (N := 1) (n := 1) hg mm_inX2 (hts (.instantiable RX2 1) (List.mem_of_getElem? (i := 316) (by decide +kernel)))
  obtain ⟨c3, i3, h3⟩ := u_known (C := RX3) (T := TX3) (N := 2) (n := 2) hg mm_inX3 (hts (.instantiable RX3 2) (List.mem_of_getElem? (i := 326) (by decide +kernel)))
  obtain ⟨c4, i4, h4⟩ := u_known (C := RX4) (T := TX4) (N := 2) (n := 2) hg mm_inX4 (hts (.instantiable RX4 2) (List.mem_of_getElem? (i := 406) (by decide +kernel)))
  obtain ⟨c5, i5, h5⟩ := u_known (C := RX5) (T := TX5) (N := 7) (n := 7) hg mm_inX5 (hts (.instantiable RX5 7) (List.mem_of_getElem? (i := 245) (by decide +kernel)))
  obtain ⟨c6, i6, h6⟩ := u_known (C := RX6) (T := TX6) (N := 3) (n := 3) hg mm_inX6 (hts (.instantiable RX6 3) (List.mem_of_getElem? (i := 390) (by decide +kernel)))
  obtain ⟨c7, i7, h7⟩ := u_known (C := RX7) (T := TX7) (N := 6) (n := 6) hg mm_inX7 (hts (.instantiable RX7 6) (List.mem_of_getElem? (i := 115) (by decide +kernel)))
  obtain ⟨c8, i8, h8⟩ := u_known (C := RX8) (T := TX8) (N := 11) (n := 11) hg mm_inX8 (hts (.instantiable RX8 11) (List.mem_of_getElem? (i := 146) (by decide +kernel)))
  obtain ⟨c9, i9, h9⟩ := u_known (C := RX9) (T := TX9) (N := 8) (n := 8) hg mm_inX9 (hts (.instantiable RX9 8) (List.mem_of_getElem? (i := 340) (by decide +kernel)))
  obtain ⟨c10, i10, h10⟩ := u_known (C := RX10) (T := TX10) (N := 2) (n := 2) hg mm_inX10 (hts (.instantiable RX10 2) (List.mem_of_getElem? (i := 98) (by decide +kernel)))
  obtain ⟨c11, i11, h11⟩ := u_known (C := RX11) (T := TX11) (N := 11) (n := 11) hg mm_inX11 (hts (.instantiable RX11 11) (List.mem_of_getElem? (i := 90) (by decide +kernel)))
  obtain ⟨c12, i12, h12⟩ := u_known (C := RX12) (T := TX12) (N := 24) (n := 24) hg mm_inX12 (hts (.instantiable RX12 24) (List.mem_of_getElem? (i := 1005) (by decide +kernel)))
  obtain ⟨a0, ka0, co0, f0, g0, t0⟩ := Cond.arrayClass_spec (hg _ (mc_wa 0 (by omega)))
  obtain ⟨a1, ka1, co1, f1, g1, t1⟩ := Cond.arrayClass_spec (hg _ (mc_wa 1 (by omega)))
  obtain ⟨a2, ka2, co2, f2, g2, t2⟩ := Cond.arrayClass_spec (hg _ (mc_wa 2 (by omega)))
  obtain ⟨co3, a3, ka3, f3, -, g3, t3, f3'⟩ := Cond.arrayOver_spec (hts _ lw_in10.2.2.2.2.2)
  refine ⟨(fun k => if k = 0 then c0 else if k = 1 then c1 else if k = 2 then c2 else if k = 3 then c3 else if k = 4 then c4 else if k = 5 then c5 else if k = 6 then c6 else if k = 7 then c7 else if k = 8 then c8 else if k = 9 then c9 else if k = 10 then c10 else if k = 11 then c11 else c12, fun k => if k = 0 then i0 else if k = 1 then i1 else if k = 2 then i2 else if k = 3 then i3 else if k = 4 then i4 else if k = 5 then i5 else if k = 6 then i6 else if k = 7 then i7 else if k = 8 then i8 else if k = 9 then i9 else if k = 10 then i10 else if k = 11 then i11 else i12), fun k => if k = 0 then a0 else if k = 1 then a1 else if k = 2 then a2 else a3, fun k q hq => ?_, fun k q hq => ?_⟩
  · match k, hq with
    | 0, hq => cases hq; exact h0
    | 1, hq => cases hq; exact h1
    | 2, hq => cases hq; exact h2
    | 3, hq => cases hq; exact h3
    | 4, hq => cases hq; exact h4
    | 5, hq => cases hq; exact h5
    | 6, hq => cases hq; exact h6
    | 7, hq => cases hq; exact h7
    | 8, hq => cases hq; exact h8
    | 9, hq => cases hq; exact h9
    | 10, hq => cases hq; exact h10
    | 11, hq => cases hq; exact h11
    | 12, hq => cases hq; exact h12
    | k + 13, hq => simp [mm_cl] at hq
  · match k, hq with
    | 0, hq => cases hq; exact ⟨fun N z => ⟨(fun k h => by cases h), ka0, g0, co0, t0⟩, f0⟩
    | 1, hq => cases hq; exact ⟨fun N z => ⟨(fun k h => by cases h), ka1, g1, co1, t1⟩, f1⟩
    | 2, hq => cases hq; exact ⟨fun N z => ⟨(fun k h => by cases h), ka2, g2, co2, t2⟩, f2⟩
    | 3, hq => cases hq; exact ⟨fun N z => ⟨(fun k h => by cases h), ka3, g3, co3, t3⟩, ka3, co3, g3, t3, f3, f3'⟩
    | k + 4, hq => simp [mm_tys] at hq
end LWX
def mc_go (gf : Nat → Option (Nat × Nat)) (pf pF : Nat → Option (Nat × Nat × FieldType)) (nw : Nat → Option Nat) (nq : Nat → Bool) (sp : Nat → Option (Nat × Option (Nat × Nat × mc_F))) (nL mcL msL : Nat) (ins : Nat → Option Instr) : Nat → mc_C → Option mc_C
  | 0, x => some x
  | n + 1, (nc, ns, pc, lv, st, mw) => match ins pc with
    | none => none
    | some i => match mc_ex gf pf pF nw nq sp nL mcL msL i nc ns pc lv st mw with
      | none => none
      | some y => mc_go gf pf pF nw nq sp nL mcL msL ins n y
/-- the law's first instructions: both objects are made -/
def lw_go : Option mc_C := mc_go (fun _ => none) (fun _ => none) (fun _ => none) (mc_nw nL_law) (fun _ => false) (mc_sp sL_law) 4 67 13125 (mm_ins iL_law) 10 (0, 0, 0, [(0, .ref 3000)], [], [])
/-- the law's loop in the small machine, over a script of L ints xs -/
def lw_run (vL : mm_L) (L : Nat) (xs : Nat → Int32) (n : Nat) (x : mm_C) : Option mm_R := mm_run (fun _ => none) (fun _ => none) (mm_mv vL) (fun _ => none) (mm_kc kL_law) mm_gs0 mm_rf0 (lw_ro L xs) (some .boolean) 4 (mm_ins iL_law) n x
theorem lw_start {p : Program} {e : Env} {s : State} {m : MethodId} {below : List Frame} {meth : Method} {c : Code} {l : Launch} {b L : Nat} {xs : Nat → Int32} (C0 : lw_At p s m meth c b L xs) {vL : mm_L} (hvL : ∀ q ∈ vL, mm_LV l "SuretyRollLaw" 12 q.1 q.2.1 q.2.2.1 q.2.2.2) {y0 : mm_C} (hgo : lw_go = some (67, 13125, y0)) (hy0 : y0.2.2.2.length = 67) {n : Nat} {mw' : List va_E} (hrun : lw_run vL L xs n y0 = some (some (.int 1), mw')) : W p l e room_1 s m #[Value.ref b] below meth c s.heap [] 0 0 (lw_Z below #[Value.ref b] s) (entryFrame m ([Value.ref b] : List Value).toArray 4) := by
  obtain ⟨hx, hb, hr, hml, hown, hts, hX, hbl, hlocks, hgv⟩ := id C0
  have hA0 : ∀ a : Nat, a < s.heap.size → ¬ (fun q : Nat => s.heap.size ≤ q) a := fun a h => Nat.not_le.mpr h
  obtain ⟨ad, had, had3, hXt⟩ := lw_Xt (bs := s.heap.size) (b := b) (A := fun q : Nat => s.heap.size ≤ q) hts hgv hA0
  obtain ⟨D, cy, hK⟩ := lw_K hts
  have hA : ∀ q : Nat, s.heap.size ≤ q → (fun q : Nat => s.heap.size ≤ q) q := fun _ h => h
  have hAb : ∀ q : Nat, (fun q : Nat => s.heap.size ≤ q) q → s.heap.size ≤ q := fun _ h => h
  have hg : ∀ w ∈ mm_G, w.before #[Value.ref b] s = true := fun w h => hts w (List.mem_filter.mp h).1
  have S : CallFix p m c code 4 s #[Value.ref b] (Cond.code yX11_init cX11_init 2 none :: mm_G) "SuretyRollLaw" := ⟨hx, hb, hml, hown, fun w h => (List.mem_cons.mp h).elim (fun z => by rw [z]; exact hg _ wX11_init.2.2.2.2.2) (hg w)⟩
  have hXc : mc_X s := ⟨va_AO.of (hts _ lw_in10.2.2.2.2.2), fun q hq => va_Nw.of rfl (hts _ (lw_in9 q hq))⟩
  have hins := mm_dec_ok iL_law_ok
  -- the loop
  have loop : mm_Sim p l e room_1 s m #[Value.ref b] below meth c D mm_cl (fun q : Nat => s.heap.size ≤ q) s.heap ad cy 4 67 13125 (lw_Z below #[Value.ref b] s) y0 := by
    refine mm_runQ (G := mm_G) (own := "SuretyRollLaw") hx hb hg hown hK (fun _ _ _ z => by cases z) (fun _ _ _ _ z => by cases z) (fun ix n rc f h => mm_callV (hvL _ (mm_mv_in h)) S hK hXt hA ⟨by decide, by decide⟩ ⟨by decide, by decide⟩) (fun _ _ _ _ z => by cases z) ?_ ?_ ?_ (fun _ _ z => by cases z) (fun _ _ _ z => by cases z) ?_ hins ?_ n y0 hrun
    · intro n v h Q pc H locs ls rest hdg hS k
      rcases (mm_kc_ok kL_law_ok).1 n v h with ⟨i, rfl, w⟩ | ⟨ho, -⟩
      · exact lv_ldc hx hb hown (hg _ w) hdg k
      · exact absurd ho (by decide +kernel)
    · intro n v h Q pc H locs ls rest hdg hS k
      obtain ⟨i, rfl, w⟩ := (mm_kc_ok kL_law_ok).2.1 n v h
      exact lv_ldcw hx hb hown (hg _ w) hdg k
    · intro n v h Q pc H locs ls rest hdg hS k
      obtain ⟨i, rfl, w⟩ := (mm_kc_ok kL_law_ok).2.2 n v h
      exact lv_ldc2 hx hb hown (hg _ w) hdg k
    · intro a t n f h
      unfold lw_ro at h
      obtain ⟨h1, h2⟩ := mm_bif h
      have h1 := Nat.eq_of_beq_eq_true h1
      subst h1
      rw [Prod.mk.injEq, Prod.mk.injEq] at h2
      obtain ⟨rfl, rfl, rfl⟩ := h2
      have hbA : ¬ (fun q : Nat => s.heap.size ≤ q) b := Nat.not_le.mpr hbl
      refine ⟨fun _ Q pc H locs ls rest i hi hdg hS k => ?_, (fun z => absurd z (by decide)), fun Q pc H locs ls rest hdg hS k => ?_⟩
      · rw [had3]
        exact va_sld hx hb hX hbl hbA hS hi hdg k
      · rw [had3]
        exact va_slen hx hb hX hbl hbA hS hdg k
    · intro pc lv st mw i hi hret h H locs ls hP hD hS hl
      obtain ⟨n1, hd, hn⟩ := hins pc i hi
      cases i with
      | ireturn =>
        obtain rfl := hn (by simp [mm_len])
        have h : mm_ret (some .boolean) 0 st mw = some (.inr (some (.int 1), mw')) := h
        unfold mm_ret at h
        split at h
        · obtain ⟨h1, h2⟩ := mm_bif h
          cases h2
          refine va_forget (fun q hq => hS.2.2 q hq) ?_
          refine W.widen (k := 600000) (n := 7302250) (by decide) (by decide) ?_
          exact lw_ret hx hb hr hlocks hd
        · omega
        · omega
        · cases h
      | lreturn =>
        have h : mm_ret (some .boolean) 1 st mw = some (.inr (some (.int 1), mw')) := h
        unfold mm_ret at h
        split at h
        · omega
        · rename_i hz
          cases hz
        · omega
        · cases h
      | return_ =>
        have h : mm_ret (some .boolean) 2 st mw = some (.inr (some (.int 1), mw')) := h
        unfold mm_ret at h
        split at h
        · omega
        · omega
        · rename_i hz
          cases hz
        · cases h
      | _ => cases hret
  -- the start
  have start : ∀ (n : Nat) (x : mc_C), mc_go (fun _ => none) (fun _ => none) (fun _ => none) (mc_nw nL_law) (fun _ => false) (mc_sp sL_law) 4 67 13125 (mm_ins iL_law) n x = some (67, 13125, y0) → x.1 ≤ 67 → x.2.2.2.2.2.length = 0 + x.1 → mm_Sim p l e room_1 s m #[Value.ref b] below meth c D mm_cl (fun q : Nat => s.heap.size ≤ q) s.heap ad cy 4 x.1 x.2.1 (lw_Z below #[Value.ref b] s) x.2.2 := by
    intro n
    induction n with
    | zero =>
      intro x h hle hlen
      cases h
      exact loop
    | succ n ih =>
      rintro ⟨nc, ns, pc, lv, st, mw⟩ h hle hlen
      unfold mc_go at h
      cases h1 : mm_ins iL_law pc with
      | none => rw [h1] at h; cases h
      | some i =>
        rw [h1] at h
        simp only at h
        cases h2 : mc_ex (fun _ => none) (fun _ => none) (fun _ => none) (mc_nw nL_law) (fun _ => false) (mc_sp sL_law) 4 67 13125 i nc ns pc lv st mw with
        | none => rw [h2] at h; cases h
        | some y =>
          rw [h2] at h
          refine mc_step (d := 4) (bs := s.heap.size) (n0 := 0) S hK hXc (Or.inr (fun _ => rfl)) (fun _ _ _ z => by cases z) (fun _ _ _ _ z => by cases z) (fun _ _ _ _ z => by cases z) (mc_nw_ok nL_law_ok) (fun _ z => by cases z) (mc_sp0 (sL_law_ok l)) (mc_sp1 (sL_law_ok l)) mc_wa (by decide) ⟨by decide, by decide⟩ ⟨by decide, by decide⟩ (by omega) had hAb hA hlen (by have : mw.length = 0 + nc := hlen; have : nc ≤ 67 := hle; show mw.length ≤ 1000; omega) (mc_hins hins pc i h1) h2 (fun hy => ih y h (mc_mono h2 hle) hy)
  have hl := lv_entry ([Value.ref b]) (n := 4) (Nat.le_of_ble_eq_true rfl)
  rw [lg_entry_eq]
  have hP : va_P D mm_cl (mm_w ad cy 0 []) s.heap := fun k q h => by simp [mm_w] at h
  have hD : va_D (fun q : Nat => s.heap.size ≤ q) (mm_w ad cy 0 []) := ⟨fun i j p q h => by simp [mm_w] at h, fun k q h => by simp [mm_w] at h⟩
  refine start 10 (0, 0, 0, [(0, .ref 3000)], [], []) hgo (by decide) rfl s.heap [] _ hP hD va_S.rf ?_
  have e1 : ([(0, Value.ref 3000)] : List (Nat × Value)).map (mm_q ad) = [(0, Value.ref b)] := by
    show [(0, Value.ref (ad 3000))] = _
    rw [had3]
  rw [e1]
  exact hl
