/-! ===== what stands outside the world and stays: two static tables, six texts, nest mates' links ===== -/
def mm_abv (j : Nat) : Int32 := ([-1, 0, 0, 0, 3, 0, 5] : List Int32).getD j 0
def mm_mrk (j : Nat) : Int32 := ([1, 10, 100, 1000, 10000, 100000, 1000000] : List Int32).getD j 0
def mm_sl : List Nat := [4, 5, 4, 5, 4, 6]
def mm_sb : List (List Int32) := [[100, 101, 98, 116], [115, 116, 97, 110, 100], [111, 118, 101, 114], [119, 104, 111, 108, 101], [112, 97, 114, 116], [98, 101, 104, 105, 110, 100]]
def mm_sx : List String := ["debt", "stand", "over", "whole", "part", "behind"]
def mm_si : List Nat := [126, 132, 134, 136, 138, 140]
def mm_isIn : MethodName := ⟨"SuretyRoll", "isIn", "(II)Z"⟩
def mm_nest : List (String × Nat) := [("SuretyRoll$Book", 42), ("SuretyRoll$Dealing", 97), ("SuretyRoll$Falling", 48), ("SuretyRoll$Chances", 73), ("SuretyRoll$Netting", 53)]
def mm_Xt (ad : Nat → Nat) (A : Nat → Prop) (U : State) : Prop :=
  va_Z "SuretyRoll$Kinds" "ABOVE" "[I" (.ref (ad 2000)) A U U.heap ∧ va_T .int (ad 2000) 7 (fun j => .int (mm_abv j)) A U U.heap ∧ va_Z "SuretyRoll$Kinds" "MARK" "[I" (.ref (ad 2001)) A U U.heap ∧ va_T .int (ad 2001) 7 (fun j => .int (mm_mrk j)) A U U.heap ∧ va_Z "java/lang/String" "COMPACT_STRINGS" "Z" (.int 1) A U U.heap ∧
  vk_S 6 mm_sl mm_sb (fun i => ad (1000 + i)) (fun i => ad (1100 + i)) A U U.heap ∧ (∀ i : Nat, i < 6 → vk_R "SuretyRoll$Reader" (mm_si.getD i 0) (mm_sx.getD i "") (ad (1000 + i)) U) ∧ (∀ q ∈ mm_nest, va_Nw (.methodLinkNest q.1 q.2 mm_isIn "SuretyRoll") U) ∧ ∃ u : Bool, va_Z "jdk/internal/util/Preconditions" "SIOOBE_FORMATTER" "Ljava/util/function/BiFunction;" (mm_v ad (bif u then .null else .ref 2002)) A U U.heap
theorem mm_Xt.to {ad : Nat → Nat} {A B : Nat → Prop} {s U : State} {H : Heap} {locs : List Loc} (h : mm_Xt ad A s) (hS : va_S A s.heap H locs) (hU : U.heap = H) (hW : s.WarmedH U.vm) (hAB : ∀ q, B q → A q) : mm_Xt ad B U := by
  obtain ⟨h1, h2, h3, h4, h5, h6, h7, h8, u, h9⟩ := h
  have hv := hW.alike
  refine ⟨?_, ?_, ?_, ?_, ?_, ?_, fun i hi => (h7 i hi).warm hW, fun q hq => va_Nw.warmM hW (h8 q hq), u, by rw [hU]; exact ((h9.kept hS.2.1).narrow hAB).moved hv⟩
  · rw [hU]; exact ((h1.kept hS.2.1).narrow hAB).moved hv
  · rw [hU]; exact ((h2.kept hS.2.1).narrow hAB).moved hv
  · rw [hU]; exact ((h3.kept hS.2.1).narrow hAB).moved hv
  · rw [hU]; exact ((h4.kept hS.2.1).narrow hAB).moved hv
  · rw [hU]; exact ((h5.kept hS.2.1).narrow hAB).moved hv
  · rw [hU]; exact ((h6.kept hS.2.1).narrow hAB).moved hv
theorem mm_Xt.same {ad : Nat → Nat} {A : Nat → Prop} {s U : State} (h : mm_Xt ad A s) (hU : U.heap = s.heap) (hW : U.vm = s.vm) : mm_Xt ad A U := by
  obtain ⟨h1, h2, h3, h4, h5, h6, h7, h8, u, h9⟩ := h
  have hv : s.vm.Alike U.vm := by rw [hW]; exact Vm.Alike.refl _
  refine ⟨?_, ?_, ?_, ?_, ?_, ?_, fun i hi => (h7 i hi).same hW, fun q hq => (h8 q hq).same rfl hW.symm, u, by rw [hU]; exact h9.moved hv⟩
  · rw [hU]; exact h1.moved hv
  · rw [hU]; exact h2.moved hv
  · rw [hU]; exact h3.moved hv
  · rw [hU]; exact h4.moved hv
  · rw [hU]; exact h5.moved hv
  · rw [hU]; exact h6.moved hv
/-! ===== the contract of a method with a meaning f ===== -/
def mm_rm (d : Nat) : Room := { frames := d, cells := 0, slots := 0, locals := 40 * d }
def mm_Pre (D : va_G) (ad : Nat → Nat) (cy : Nat → ClassId) (mw : List va_E) (sz : Nat) (U : State) : Prop := U.heap.size = sz ∧ va_P D mm_cl (mm_w ad cy 0 mw) U.heap ∧ va_K D mm_cl (mm_tys cy) U ∧ va_D (fun _ => True) (mm_w ad cy 0 mw) ∧ mm_Xt ad (va_A (mm_w ad cy 0 mw) sz) U
def mm_Ct (l : Launch) (y : MethodName) (cc : ByteArray) (maxL : Nat) (ret : Option FieldType) (d : Nat) (f : mm_F) : Prop := ∀ (D : va_G) (ad : Nat → Nat) (cy : Nat → ClassId) (vs : List Value) (mw : List va_E) (r : mm_R) (sz : Nat), f vs mw = some r →
  Met l y (Cond.code y cc maxL ret :: mm_G) (mm_rm d) (va_Pc (vs.map (mm_v ad)) (mm_Pre D ad cy mw sz)) (mm_Qc D mm_cl ad cy (va_A (mm_w ad cy 0 mw) sz) r) 0 0 (va_A (mm_w ad cy 0 mw) sz)
/-- a weaker meaning -/
theorem mm_Ct.mono {l : Launch} {y : MethodName} {cc : ByteArray} {maxL : Nat} {ret : Option FieldType} {d : Nat} {f g : mm_F} (h : mm_Ct l y cc maxL ret d f) (hg : ∀ vs mw r, g vs mw = some r → f vs mw = some r) : mm_Ct l y cc maxL ret d g := fun D ad cy vs mw r sz z => h D ad cy vs mw r sz (hg vs mw r z)
theorem mm_blind {D : va_G} {ad : Nat → Nat} {cy : Nat → ClassId} {mw : List va_E} {sz : Nat} {vs : List Value} : FrameBlind (va_Pc vs (mm_Pre D ad cy mw sz)) := by
  intro a U g mk q
  obtain ⟨q0, q1, qP, qK, qD, qX⟩ := q
  exact ⟨q0, q1, qP, va_K.moved (u := U) (U := U.calling g mk a) (Vm.Alike.refl U.vm) qK, qD, qX.same rfl rfl⟩
section MMC
variable {p : Program} {l : Launch} {e : Env} {R : Room} {s : State} {m : MethodId} {args : Array Value} {below : List Frame} {meth : Method} {c : Code} {D : va_G} {A : Nat → Prop} {ad : Nat → Nat} {cy : Nat → ClassId} {nL : Nat} {cc : ByteArray} {Q : State → Prop} {own : String} {nc ns : Nat}
/-- behind a call -/
theorem mm_goes {H : Heap} {locs : List Loc} {pc : Nat} {ls : Array Slot} {st0 rest : List Value} {a : Array Value} {r : mm_R} {mw : List va_E} (hr : va_Run p l e R s m args below meth c H locs nc ns 0 0 (F0 m pc ls st0) rest (mm_Qc D mm_cl ad cy (va_A (mm_w ad cy 0 mw) H.size) r a) (va_A (mm_w ad cy 0 mw) H.size)) (hD : va_D A (mm_w ad cy 0 mw)) (hS : va_S A s.heap H locs) (hA : ∀ q, s.heap.size ≤ q → A q)
    (kk : ∀ (H1 : Heap) (locs1 : List Loc), va_P D mm_cl (mm_w ad cy 0 r.2) H1 → va_D A (mm_w ad cy 0 r.2) → va_S A s.heap H1 locs1 → W p l e R s m args below meth c H1 locs1 nc ns Q (F0 m (pc + 3) ls (r.1.toList.map (mm_v ad) ++ rest))) : W p l e R s m args below meth c H locs nc ns Q (F0 m pc ls st0) := by
  have hf : ∀ q, va_A (mm_w ad cy 0 mw) H.size q → A q := by
    intro q hq
    rcases hq with ⟨k, x, hk⟩ | hq
    · exact hD.2 k _ hk
    · exact hA q (Nat.le_trans hS.1 hq)
  intro T hT X
  obtain ⟨v, st₀, t, T', L, h0, X', hL, e1, e2, ⟨hv, hp, hd, hz, hk⟩, st⟩ := hr T hT X
  have hv : v = r.1.map (mm_v ad) := by
    injection hv
  subst hv
  rw [h0] at hz hk
  have e3 : (r.1.map (mm_v ad)).toList = r.1.toList.map (mm_v ad) := by cases r.1 <;> rfl
  rw [e3] at st
  obtain ⟨t2, a1, b1⟩ := kk T'.heap (locs ++ L) (by rw [e1]; exact hp) (hd.weaken (fun _ q _ h => hf q.1 h))
    ⟨Nat.le_trans hS.1 (by rw [e1]; exact hz), fun q h1 h2 => by rw [e1, hk q (Nat.lt_of_lt_of_le h1 hS.1) (fun z => h2 (hf q z))]; exact hS.2.1 q h1 h2, fun q hq => by
      rcases List.mem_append.mp hq with h | h
      · exact hS.2.2 q h
      · exact hf _ (hL q h)⟩ T' rfl X'
  exact ⟨t2, st t2 a1, b1⟩
theorem mm_good {y x : MethodName} {b1 b2 : ByteArray} {n1 n2 : Nat} {r1 r2 : Option FieldType} (h : Cond.code y b1 n1 r1 ∈ mm_G) : GoodIn (Cond.code x b2 n2 r2 :: mm_G) (Cond.code y b1 n1 r1 :: mm_G) := by
  intro w hw
  have h1 : w ∈ mm_G := by
    rcases List.mem_cons.mp hw with rfl | h2
    · exact h
    · exact h2
  exact ⟨List.mem_cons_of_mem _ h1, good_of_word (mm_G_good w h1)⟩
theorem mm_good1 {x : MethodName} {b2 : ByteArray} {n2 : Nat} {r2 : Option FieldType} {w : Cond} (h : w ∈ mm_G) : w ∈ Cond.code x b2 n2 r2 :: mm_G ∧ ((w.onTables && w.keeps) = true ∨ ∃ ty, w = .arrayClass ty) := ⟨List.mem_cons_of_mem _ h, good_of_word (mm_G_good w h)⟩
end MMC
/-- a virtual call's link -/
def mm_LV (l : Launch) (own : String) (d ix n : Nat) (rc : Option Nat) (f : mm_F) : Prop := ∃ (y : MethodName) (cc : ByteArray) (maxL : Nat) (ret : Option FieldType) (d1 ci : Nat), rc = some ci ∧ d1 < d ∧ maxL ≤ 21 ∧ ((ci = 99 ∧ y.cls = "java/lang/String") ∨ ∃ q, mm_cl[ci]? = some q ∧ q.1 = y.cls) ∧
  (y.cls ≠ "java/lang/invoke/MethodHandle" ∧ y.cls ≠ "java/lang/invoke/VarHandle" ∧ (parseMethodDescriptor y.desc).map (fun d => d.parameters.length + 1) = some n) ∧ (Cond.methodLink own ix y ∈ mm_G ∧ Cond.instanceMethod y ∈ mm_G ∧ Cond.selects y.cls y y ∈ mm_G ∧ Cond.initialized y.cls ∈ mm_G ∧ Cond.code y cc maxL ret ∈ mm_G) ∧ mm_Ct l y cc maxL ret d1 f
/-- a static call's link: of any class, or of a nest mate's private method -/
def mm_LS (l : Launch) (own : String) (d ix n : Nat) (f : mm_F) : Prop := ∃ (y : MethodName) (cc : ByteArray) (maxL : Nat) (ret : Option FieldType) (d1 : Nat), d1 < d ∧ maxL ≤ 21 ∧
  (y.cls ≠ "java/lang/invoke/MethodHandle" ∧ y.cls ≠ "java/lang/invoke/VarHandle" ∧ (parseMethodDescriptor y.desc).map (fun d => d.parameters.length) = some n) ∧ ((Cond.methodLink own ix y ∈ mm_G ∨ (y = mm_isIn ∧ (own, ix) ∈ mm_nest)) ∧ Cond.static y ∈ mm_G ∧ Cond.initialized y.cls ∈ mm_G ∧ Cond.code y cc maxL ret ∈ mm_G) ∧ mm_Ct l y cc maxL ret d1 f
section MMD
variable {p : Program} {l : Launch} {e : Env} {R : Room} {nc ns : Nat} {s : State} {m : MethodId} {args : Array Value} {below : List Frame} {meth : Method} {c : Code} {D : va_G} {A : Nat → Prop} {ad : Nat → Nat} {cy : Nat → ClassId} {nL d : Nat} {cc : ByteArray} {own : String} {x : MethodName} {b2 : ByteArray} {n2 : Nat} {r2 : Option FieldType}
theorem mm_callV {ix n : Nat} {rc : Option Nat} {f : mm_F} (hL : mm_LV l own d ix n rc f) (S : CallFix p m c cc nL s args (Cond.code x b2 n2 r2 :: mm_G) own) (hK : va_K D mm_cl (mm_tys cy) s) (hX : mm_Xt ad A s) (hA : ∀ q, s.heap.size ≤ q → A q) (hR : d ≤ R.frames ∧ 40 * d ≤ R.locals) (hc : nc ≤ R.cells ∧ ns ≤ R.slots) : mm_Call p l e R s m args below meth c D mm_cl A s.heap ad cy nL cc nc ns (.invokevirtual ix) n rc f := by
  obtain ⟨y, cy', maxL, ret, d1, ci, rfl, hd1, hmx, hcl, ⟨hy1, hy2, hy3⟩, ⟨w1, w2, w3, w4, w5⟩, hC⟩ := hL
  intro vs mw mw' r hn hrc hf Q pc H locs ls rest hsz hdg hP hD hS hcat kk
  have hM := hC D ad cy vs mw (r, mw') H.size hf
  unfold mm_rc at hrc
  split at hrc
  · rename_i hz
    cases hz
  · rename_i ci' hci
    cases hci
    split at hrc
    · rename_i k vt
      have hfree : ∀ q, va_A (mm_w ad cy 0 mw) H.size q → A q := by
        intro q hq
        rcases hq with ⟨k, x, hk⟩ | hq
        · exact hD.2 k _ hk
        · exact hA q (Nat.le_trans hS.1 hq)
      have hrecv : ∃ cellB : Cell, H[ad k]? = some cellB ∧ cellB.vm.isStatics = false ∧ s.vm.findClass y.cls = some cellB.cls := by
        split at hrc
        · rename_i o ho
          have e1 : o.1 = ci := by simpa using hrc
          rcases hcl with ⟨h99, -⟩ | ⟨q, hq, hqc⟩
          · subst h99
            exfalso
            obtain ⟨r0, h1, -⟩ := hP k _ (mm_w_at ho)
            rw [e1] at h1
            simp [mm_cl] at h1
          · have hw : (mm_w ad cy 0 mw)[k]? = some (ad k, .inr (ci, o.2.map (mm_v ad))) := by rw [mm_w_at ho, ← e1]; rfl
            have := va_recv hK hP hq hw
            rw [hqc] at this
            exact this
        · cases hrc
        · simp only [Bool.and_eq_true, beq_iff_eq] at hrc
          obtain ⟨e1, e2, e3⟩ := hrc
          have e2 := Nat.le_of_ble_eq_true e2
          have e3 := Nat.le_of_ble_eq_true e3
          rcases hcl with ⟨-, hs⟩ | ⟨q, hq, -⟩
          · obtain ⟨-, -, -, -, -, h6, -⟩ := hX
            have := vk_recv h6 (i := k - 1000) (by omega) hS
            rw [Nat.add_sub_of_le e2, ← hs] at this
            exact this
          · rw [e1] at hq
            simp [mm_cl] at hq
      have hcw : CallW R s args own y.cls ix y cy' maxL ret (Cond.code y cy' maxL ret :: mm_G) (mm_rm d1) 0 0 (vt.map (mm_v ad)).length := by
        refine cwV _ S.2.2.2.2 ?_ rfl rfl rfl ⟨rfl, hy1, hy2, ?_⟩ ⟨by show d1 + 1 ≤ R.frames; omega, by show 8 + (maxL + 11) + 40 * d1 ≤ R.locals; omega⟩
        · intro w hw
          rcases List.mem_append.mp hw with h | h
          · rcases List.mem_cons.mp h with rfl | h
            · exact mm_good1 w1
            · rcases List.mem_cons.mp h with rfl | h
              · exact mm_good1 w2
              · rcases List.mem_cons.mp h with rfl | h
                · exact mm_good1 w3
                · rcases List.mem_cons.mp h with rfl | h
                  · exact mm_good1 w4
                  · cases h
          · exact mm_good w5 w h
        · cases hp : parseMethodDescriptor y.desc with
          | none => rw [hp] at hy3; cases hy3
          | some sg =>
            rw [hp] at hy3
            have hy3 : sg.parameters.length + 1 = n := Option.some.inj hy3
            have hn : vt.length + 1 = n := hn
            show some sg.parameters.length = some (vt.map (mm_v ad)).length
            rw [List.length_map]
            congr 1
            omega
      have e1 : ((Value.ref k :: vt).map (mm_v ad)).reverse ++ rest = (vt.map (mm_v ad)).reverse ++ (Value.ref (ad k) :: rest) := by simp [mm_v]
      rw [e1]
      refine mm_goes (r := (r, mw')) (va_runV S hM hcw ⟨mm_blind, hrecv, fun U hU hW => ⟨rfl, by rw [hU], by rw [hU]; exact hP, va_K.moved hW.alike hK, hD.weaken (fun _ _ _ _ => trivial), hX.to hS hU hW hfree⟩⟩ rfl rfl hsz rfl (lv_room hcat) hdg hc) hD hS hA kk
    · cases hrc
theorem mm_callS {ix n : Nat} {f : mm_F} (hL : mm_LS l own d ix n f) (S : CallFix p m c cc nL s args (Cond.code x b2 n2 r2 :: mm_G) own) (hK : va_K D mm_cl (mm_tys cy) s) (hX : mm_Xt ad A s) (hA : ∀ q, s.heap.size ≤ q → A q) (hR : d ≤ R.frames ∧ 40 * d ≤ R.locals) (hc : nc ≤ R.cells ∧ ns ≤ R.slots) : mm_Call p l e R s m args below meth c D mm_cl A s.heap ad cy nL cc nc ns (.invokestatic ix) n none f := by
  obtain ⟨y, cy', maxL, ret, d1, hd1, hmx, ⟨hy1, hy2, hy3⟩, ⟨w1, w2, w3, w4⟩, hC⟩ := hL
  intro vs mw mw' r hn hrc hf Q pc H locs ls rest hsz hdg hP hD hS hcat kk
  have hM := hC D ad cy vs mw (r, mw') H.size hf
  have hfree : ∀ q, va_A (mm_w ad cy 0 mw) H.size q → A q := by
    intro q hq
    rcases hq with ⟨k, x, hk⟩ | hq
    · exact hD.2 k _ hk
    · exact hA q (Nat.le_trans hS.1 hq)
  have hps : PreS s H (va_Pc (vs.map (mm_v ad)) (mm_Pre D ad cy mw H.size)) (vs.map (mm_v ad)) := ⟨mm_blind, fun U hU hW => ⟨rfl, by rw [hU], by rw [hU]; exact hP, va_K.moved hW.alike hK, hD.weaken (fun _ _ _ _ => trivial), hX.to hS hU hW hfree⟩⟩
  have hln : (parseMethodDescriptor y.desc).map (fun d => d.parameters.length) = some (vs.map (mm_v ad)).length := by rw [hy3, List.length_map, hn]
  have hR : (mm_rm d1).frames + 1 ≤ R.frames ∧ 8 + (maxL + 11) + (mm_rm d1).locals ≤ R.locals := ⟨by show d1 + 1 ≤ R.frames; omega, by show 8 + (maxL + 11) + 40 * d1 ≤ R.locals; omega⟩
  have hts := S.2.2.2.2
  rcases w1 with w1 | ⟨rfl, w1⟩
  · have hcw := va_cwS (R := R) (s := s) (args := args) (own := own) (index := ix) (y := y) (bytes := cy') (maxL := maxL) (ret := ret) (ws := Cond.code y cy' maxL ret :: mm_G) (rm := mm_rm d1) (mc := 0) (ms := 0) (vs.map (mm_v ad)).length hts (by
      intro w hw
      rcases List.mem_append.mp hw with h | h
      · rcases List.mem_cons.mp h with rfl | h
        · exact mm_good1 w1
        · rcases List.mem_cons.mp h with rfl | h
          · exact mm_good1 w2
          · rcases List.mem_cons.mp h with rfl | h
            · exact mm_good1 w3
            · cases h
      · exact mm_good w4 w h) rfl rfl rfl ⟨hy1, hy2, hln⟩ hR
    exact mm_goes (r := (r, mw')) (va_runS S hM hcw hps rfl rfl hsz rfl (lv_room hcat) hdg hc) hD hS hA kk
  · have hnw : va_Nw (.methodLinkNest own ix mm_isIn "SuretyRoll") s := hX.2.2.2.2.2.2.2.1 (own, ix) w1
    have hcw := va_cnB (R := R) (s := s) (args := args) (own := own) (host := "SuretyRoll") (index := ix) (y := mm_isIn) (bytes := cy') (maxL := maxL) (ret := ret) (ws := Cond.code mm_isIn cy' maxL ret :: mm_G) (rm := mm_rm d1) (mc := 0) (ms := 0) (vs.map (mm_v ad)).length hts (mm_good w4) rfl rfl rfl hnw (hts _ (List.mem_cons_of_mem _ w3)) ⟨hy1, hy2, hln⟩ hR
    exact mm_goes (r := (r, mw')) (va_runSN S hM ⟨hcw, hts _ (List.mem_cons_of_mem _ w2), trivial⟩ hps rfl rfl hsz rfl (lv_room hcat) hdg hc) hD hS hA kk
end MMD
