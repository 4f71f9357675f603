/-! ===== constructors: all steps, a run, a constructor's contract ===== -/
def mc_spc (i : Instr) : Bool := match i with
  | .new _ | .newarray _ | .anewarray _ | .aastore | .invokespecial _ | .putfield _ => true
  | _ => false
theorem mc_ex_old {gf : Nat → Option (Nat × Nat)} {pf pF : Nat → Option (Nat × Nat × FieldType)} {nw : Nat → Option Nat} {nq : Nat → Bool} {sp : Nat → Option (Nat × Option (Nat × Nat × mc_F))} {nL mcL msL : Nat} {i : Instr} {nc ns pc : Nat} {lv : List (Nat × Value)} {st : List Value} {mw : List va_E} (h : mc_spc i = false) : mc_ex gf pf pF nw nq sp nL mcL msL i nc ns pc lv st mw = mc_old nc ns mw (mm_ex gf pf (fun _ => none) (fun _ => none) (fun _ => none) (fun _ => none) (fun _ _ => none) (fun _ => none) none nL i pc lv st mw) := by
  cases i <;> first | rfl | (exact absurd h (by simp [mc_spc]))
theorem mc_mono {gf : Nat → Option (Nat × Nat)} {pf pF : Nat → Option (Nat × Nat × FieldType)} {nw : Nat → Option Nat} {nq : Nat → Bool} {sp : Nat → Option (Nat × Option (Nat × Nat × mc_F))} {nL mcL msL : Nat} {i : Instr} {nc ns pc : Nat} {lv : List (Nat × Value)} {st : List Value} {mw : List va_E} {x : mc_C} (h : mc_ex gf pf pF nw nq sp nL mcL msL i nc ns pc lv st mw = some x) (hle : nc ≤ mcL) : x.1 ≤ mcL := by
  have hold : ∀ q, mc_old nc ns mw q = some x → x.1 ≤ mcL := by
    intro q h
    unfold mc_old at h
    split at h
    · obtain ⟨-, h2⟩ := mm_bif h
      subst h2
      exact hle
    · cases h
  cases hs : mc_spc i with
  | false => exact hold _ (by rw [← mc_ex_old hs]; exact h)
  | true =>
  cases i with
  | new n =>
    have h : mc_new mcL msL (nw n) nc ns pc lv st mw = some x := h
    unfold mc_new at h
    split at h
    · obtain ⟨h1, h2⟩ := mm_bif h
      subst h2
      simp only [Bool.and_eq_true] at h1
      exact Nat.le_of_ble_eq_true h1.2.1
    · cases h
  | newarray t =>
    have h : mc_newa mcL msL t nc ns pc lv st mw = some x := h
    unfold mc_newa at h
    split at h
    · obtain ⟨h1, h2⟩ := mm_bif h
      subst h2
      simp only [Bool.and_eq_true] at h1
      exact Nat.le_of_ble_eq_true h1.2.2.1
    · cases h
  | anewarray n =>
    have h : mc_newq mcL msL (nq n) nc ns pc lv st mw = some x := h
    unfold mc_newq at h
    split at h
    · obtain ⟨h1, h2⟩ := mm_bif h
      subst h2
      simp only [Bool.and_eq_true] at h1
      exact Nat.le_of_ble_eq_true h1.2.2.2.1
    · cases h
  | aastore =>
    have h : mc_aast nc ns pc lv st mw = some x := h
    unfold mc_aast at h
    split at h
    · split at h
      · split at h
        · obtain ⟨-, h2⟩ := mm_bif h
          subst h2
          exact hle
        · cases h
      · cases h
    · cases h
  | invokespecial n =>
    have h : mc_spec mcL msL (sp n) nc ns pc lv st mw = some x := h
    unfold mc_spec at h
    split at h
    · split at h
      · obtain ⟨-, h2⟩ := mm_bif h
        subst h2
        exact hle
      · cases h
    · rename_i a mc ms f hq
      split at h
      · rename_i kk vt hvs
        cases hc : (Nat.ble a st.length && (Nat.ble ((st.drop a).map fun v => v.category).sum 8 && (Nat.ble (nc + mc) mcL && Nat.ble (ns + ms) msL))) with
        | false => rw [hc] at h; cases h
        | true =>
          rw [hc] at h
          have h : (match f (.ref kk :: vt) mw with | some mw' => bif Nat.beq mw'.length (mw.length + mc) then some (nc + mc, ns + ms, pc + 3, lv, st.drop a, mw') else none | none => none) = some x := h
          simp only [Bool.and_eq_true] at hc
          cases hf : f (.ref kk :: vt) mw with
          | none => rw [hf] at h; cases h
          | some mw' =>
            rw [hf] at h
            obtain ⟨-, h2⟩ := mm_bif h
            subst h2
            exact Nat.le_of_ble_eq_true hc.2.2.1
      · cases h
    · cases h
  | putfield n => exact hold _ h
  | _ => cases hs
section MCU
variable {p : Program} {l : Launch} {e : Env} {R : Room} {s : State} {m : MethodId} {args : Array Value} {below : List Frame} {meth : Method} {c : Code} {D : va_G} {A : Nat → Prop} {ad : Nat → Nat} {cy : Nat → ClassId} {nL : Nat} {cc : ByteArray} {Q : State → Prop} {own : String} {bs n0 mcL msL d : Nat} {x0 : MethodName} {b2 : ByteArray} {n2 : Nat} {r2 : Option FieldType}
variable {gf : Nat → Option (Nat × Nat)} {pf pF : Nat → Option (Nat × Nat × FieldType)} {nw : Nat → Option Nat} {nq : Nat → Bool} {sp : Nat → Option (Nat × Option (Nat × Nat × mc_F))}
theorem mc_told {nc ns : Nat} {pc : Nat} {lv : List (Nat × Value)} {st : List Value} {mw : List va_E} {x : mc_C} {q : Option (mm_C ⊕ mm_R)} (h : mc_old nc ns mw q = some x) (hlen : mw.length = n0 + nc) (k : x.2.2.2.2.2.length = n0 + x.1 → mm_Sim p l e R s m args below meth c D mm_cl A s.heap ad cy nL x.1 x.2.1 Q x.2.2)
    (row : ∀ y : mm_C, q = some (.inl y) → mm_Sim p l e R s m args below meth c D mm_cl A s.heap ad cy nL nc ns Q y → mm_Sim p l e R s m args below meth c D mm_cl A s.heap ad cy nL nc ns Q (pc, lv, st, mw)) : mm_Sim p l e R s m args below meth c D mm_cl A s.heap ad cy nL nc ns Q (pc, lv, st, mw) := by
  unfold mc_old at h
  split at h
  · rename_i y
    obtain ⟨h1, h2⟩ := mm_bif h
    subst h2
    exact row y rfl (k (by rw [Nat.eq_of_beq_eq_true h1]; exact hlen))
  · cases h
set_option maxHeartbeats 2000000 in
theorem mc_step {i : Instr} {nc ns pc : Nat} {lv : List (Nat × Value)} {st : List Value} {mw : List va_E} {x : mc_C} (S : CallFix p m c cc nL s args (Cond.code x0 b2 n2 r2 :: mm_G) own) (hK : va_K D mm_cl (mm_tys cy) s) (hX : mc_X s) (hnm : meth.name = "<init>" ∨ ∀ n, pF n = none)
    (hgf : ∀ n ci k, gf n = some (ci, k) → mm_GF mm_G mm_cl own n ci k) (hpf : ∀ n ci k ty, pf n = some (ci, k, ty) → mm_PF mm_G mm_cl own n ci k ty) (hpF : ∀ n ci k ty, pF n = some (ci, k, ty) → mc_PF own n ci k ty) (hnw : ∀ n ci, nw n = some ci → mc_NW own n ci) (hnq : ∀ n, nq n = true → Cond.classLink own n "SuretyRoll$Ledger" ∈ mm_G)
    (hsp0 : ∀ ix n, sp ix = some (n, none) → mc_LO own ix) (hsp1 : ∀ ix n mc ms f, sp ix = some (n, some (mc, ms, f)) → mc_LI l own d ix n mc ms f) (hwa : ∀ i, i < 3 → Cond.arrayClass (mm_ty i) ∈ mm_G) (hd1 : 1 ≤ d) (hRd : d ≤ R.frames ∧ 40 * d ≤ R.locals) (hR : mcL ≤ R.cells ∧ msL ≤ R.slots) (hbs : s.heap.size = bs + n0) (had : mc_ad bs ad) (hAb : ∀ q, A q → bs ≤ q) (hA : ∀ q, s.heap.size ≤ q → A q) (hlen : mw.length = n0 + nc) (hlt : mw.length ≤ 1000)
    (hd : ∃ n, decode cc pc = .ok (i, n) ∧ (mm_len i ≠ 0 → n = mm_len i) ∧ (∀ k, i = .new k → n = 3) ∧ (∀ t, i = .newarray t → n = 2) ∧ (∀ k, i = .anewarray k → n = 3) ∧ (∀ k, i = .invokespecial k → n = 3)) (h : mc_ex gf pf pF nw nq sp nL mcL msL i nc ns pc lv st mw = some x)
    (k : x.2.2.2.2.2.length = n0 + x.1 → mm_Sim p l e R s m args below meth c D mm_cl A s.heap ad cy nL x.1 x.2.1 Q x.2.2) : mm_Sim p l e R s m args below meth c D mm_cl A s.heap ad cy nL nc ns Q (pc, lv, st, mw) := by
  obtain ⟨hx, hb, hml, hown, hts0⟩ := id S
  have hts : ∀ w ∈ mm_G, w.before args s = true := fun w h => hts0 w (List.mem_cons_of_mem _ h)
  obtain ⟨n1, hd, hn, q1, q2, q3, q4⟩ := hd
  have hold : ∀ j : Instr, j = i → mc_old nc ns mw (mm_ex gf pf (fun _ => none) (fun _ => none) (fun _ => none) (fun _ => none) (fun _ _ => none) (fun _ => none) none nL j pc lv st mw) = some x → mm_Sim p l e R s m args below meth c D mm_cl A s.heap ad cy nL nc ns Q (pc, lv, st, mw) := by
    intro j hj h9
    subst hj
    exact mc_told h9 hlen k (fun y hy ky => mm_step (G := mm_G) hx hb hts hown hK hgf hpf (fun _ _ _ _ z => by cases z) (fun _ _ _ _ z => by cases z) (fun _ _ z => by cases z) (fun _ _ z => by cases z) (fun _ _ z => by cases z) (fun _ _ z => by cases z) (fun _ _ _ z => by cases z) (fun _ _ _ _ z => by cases z) ⟨n1, hd, hn⟩ hy ky)
  cases hs : mc_spc i with
  | false => exact hold _ rfl (by rw [← mc_ex_old hs]; exact h)
  | true =>
  cases i with
  | new n =>
    obtain rfl := q1 n rfl
    exact mc_tnew h hx hb hts hown hK hd (hnw n) hR hbs had hAb hA hlen k
  | newarray t =>
    obtain rfl := q2 t rfl
    exact mc_tnewa h hx hb hts hK hd hwa hR hbs had hAb hA hlen k
  | anewarray n =>
    obtain rfl := q3 n rfl
    exact mc_tnewq h hx hb hts hown hK hX hd (hnq n) hR hbs had hAb hA hlen k
  | aastore =>
    obtain rfl := hn (by simp [mm_len])
    exact mc_taast h hx hb hK hd hlen k
  | invokespecial n =>
    obtain rfl := q4 n rfl
    exact mc_tspec h S hK hX hd (hsp0 n) (hsp1 n) hd1 hRd hR hbs had hAb hA hlen hlt k
  | putfield n =>
    obtain rfl := hn (by simp [mm_len])
    have h : mc_old nc ns mw (match pF n with | some q => mm_putf (some q) (pc + 3) lv st mw | none => mm_putf (pf n) (pc + 3) lv st mw) = some x := h
    cases hp : pF n with
    | none =>
      rw [hp] at h
      exact mc_told h hlen k (fun y hy ky => mt_putf hy hx hb hts hown hK hd (hpf n) ky)
    | some q =>
      rw [hp] at h
      have hnm : meth.name = "<init>" := by
        rcases hnm with z | z
        · exact z
        · rw [z n] at hp; cases hp
      exact mc_told h hlen k (fun y hy ky => mc_tputF hy hx hb hts hown hK hd hnm (hpF n q.1 q.2.1 q.2.2 hp) ky)
  | _ => cases hs
theorem mc_runQ {ins : Nat → Option Instr} {mw' : List va_E} (S : CallFix p m c cc nL s args (Cond.code x0 b2 n2 r2 :: mm_G) own) (hK : va_K D mm_cl (mm_tys cy) s) (hX : mc_X s) (hnm : meth.name = "<init>" ∨ ∀ n, pF n = none)
    (hgf : ∀ n ci k, gf n = some (ci, k) → mm_GF mm_G mm_cl own n ci k) (hpf : ∀ n ci k ty, pf n = some (ci, k, ty) → mm_PF mm_G mm_cl own n ci k ty) (hpF : ∀ n ci k ty, pF n = some (ci, k, ty) → mc_PF own n ci k ty) (hnw : ∀ n ci, nw n = some ci → mc_NW own n ci) (hnq : ∀ n, nq n = true → Cond.classLink own n "SuretyRoll$Ledger" ∈ mm_G)
    (hsp0 : ∀ ix n, sp ix = some (n, none) → mc_LO own ix) (hsp1 : ∀ ix n mc ms f, sp ix = some (n, some (mc, ms, f)) → mc_LI l own d ix n mc ms f) (hwa : ∀ i, i < 3 → Cond.arrayClass (mm_ty i) ∈ mm_G) (hd1 : 1 ≤ d) (hRd : d ≤ R.frames ∧ 40 * d ≤ R.locals) (hR : mcL ≤ R.cells ∧ msL ≤ R.slots) (hbs : s.heap.size = bs + n0) (hn0 : n0 + mcL ≤ 1000) (had : mc_ad bs ad) (hAb : ∀ q, A q → bs ≤ q) (hA : ∀ q, s.heap.size ≤ q → A q)
    (hins : ∀ pc i, ins pc = some i → ∃ n, decode cc pc = .ok (i, n) ∧ (mm_len i ≠ 0 → n = mm_len i) ∧ (∀ k, i = .new k → n = 3) ∧ (∀ t, i = .newarray t → n = 2) ∧ (∀ k, i = .anewarray k → n = 3) ∧ (∀ k, i = .invokespecial k → n = 3))
    (hend : ∀ pc lv, ins pc = some .return_ → mm_Sim p l e R s m args below meth c D mm_cl A s.heap ad cy nL mcL msL Q (pc, lv, [], mw')) :
    ∀ (n : Nat) (x : mc_C), mc_run gf pf pF nw nq sp nL mcL msL ins n x = some mw' → x.1 ≤ mcL → x.2.2.2.2.2.length = n0 + x.1 → mm_Sim p l e R s m args below meth c D mm_cl A s.heap ad cy nL x.1 x.2.1 Q x.2.2 := by
  intro n
  induction n with
  | zero => intro x h; cases h
  | succ n ih =>
    rintro ⟨nc, ns, pc, lv, st, mw⟩ h hle hlen
    unfold mc_run at h
    cases h1 : ins pc with
    | none => rw [h1] at h; cases h
    | some i =>
      rw [h1] at h
      simp only at h
      by_cases hi : i = .return_
      · subst hi
        have h : (bif st.isEmpty && (Nat.beq nc mcL && Nat.beq ns msL) then some mw else none) = some mw' := h
        obtain ⟨h2, h3⟩ := mm_bif h
        simp only [Bool.and_eq_true] at h2
        obtain ⟨g1, g2, g3⟩ := h2
        subst h3
        have g2 := Nat.eq_of_beq_eq_true g2
        have g3 := Nat.eq_of_beq_eq_true g3
        subst g2; subst g3
        have g1 : st = [] := by simpa using g1
        subst g1
        exact hend pc lv h1
      · have hdf : decide (i = Instr.return_) = false := by simpa using hi
        rw [hdf] at h
        have h : (match mc_ex gf pf pF nw nq sp nL mcL msL i nc ns pc lv st mw with | none => none | some x => mc_run gf pf pF nw nq sp nL mcL msL ins n x) = some mw' := h
        cases h2 : mc_ex gf pf pF nw nq sp nL mcL msL i nc ns pc lv st mw with
        | none => rw [h2] at h; cases h
        | some y =>
          rw [h2] at h
          have h : mc_run gf pf pF nw nq sp nL mcL msL ins n y = some mw' := h
          refine mc_step S hK hX hnm hgf hpf hpF hnw hnq hsp0 hsp1 hwa hd1 hRd hR hbs had hAb hA hlen (by show mw.length ≤ 1000; have : mw.length = n0 + nc := hlen; have : nc ≤ mcL := hle; omega) (hins pc i h1) h2 (fun hy => ih y h ?_ hy)
          exact mc_mono h2 hle
end MCU
/-- the meaning of a constructor -/
def mc_S (gf : Nat → Option (Nat × Nat)) (pf pF : Nat → Option (Nat × Nat × FieldType)) (nw : Nat → Option Nat) (nq : Nat → Bool) (sp : Nat → Option (Nat × Option (Nat × Nat × mc_F))) (nL mcL msL : Nat) (ins : Nat → Option Instr) : mc_F := fun vs mw => bif Nat.ble (lg_sl vs).length nL && Nat.ble (mw.length + mcL) 1000 then mc_run gf pf pF nw nq sp nL mcL msL ins mm_fuel (0, 0, 0, lv_args 0 vs, [], mw) else none
theorem mc_meth {l : Launch} {y : MethodName} {cc : ByteArray} {maxL d mcL msL : Nat} {gf : Nat → Option (Nat × Nat)} {pf pF : Nat → Option (Nat × Nat × FieldType)} {nw : Nat → Option Nat} {nq : Nat → Bool} {sp : Nat → Option (Nat × Option (Nat × Nat × mc_F))} {ins : Nat → Option Instr} (hy : plainFor y = true) (hyn : y.name = "<init>")
    (hgf : ∀ n ci k, gf n = some (ci, k) → mm_GF mm_G mm_cl y.cls n ci k) (hpf : ∀ n ci k ty, pf n = some (ci, k, ty) → mm_PF mm_G mm_cl y.cls n ci k ty) (hpF : ∀ n ci k ty, pF n = some (ci, k, ty) → mc_PF y.cls n ci k ty) (hnw : ∀ n ci, nw n = some ci → mc_NW y.cls n ci) (hnq : ∀ n, nq n = true → Cond.classLink y.cls n "SuretyRoll$Ledger" ∈ mm_G)
    (hsp0 : ∀ ix n, sp ix = some (n, none) → mc_LO y.cls ix) (hsp1 : ∀ ix n mc ms f, sp ix = some (n, some (mc, ms, f)) → mc_LI l y.cls d ix n mc ms f) (hwa : ∀ i, i < 3 → Cond.arrayClass (mm_ty i) ∈ mm_G) (hd1 : 1 ≤ d)
    (hins : ∀ pc i, ins pc = some i → ∃ n, decode cc pc = .ok (i, n) ∧ (mm_len i ≠ 0 → n = mm_len i) ∧ (∀ k, i = .new k → n = 3) ∧ (∀ t, i = .newarray t → n = 2) ∧ (∀ k, i = .anewarray k → n = 3) ∧ (∀ k, i = .invokespecial k → n = 3)) : mc_Ct l y cc maxL d mcL msL (mc_S gf pf pF nw nq sp maxL mcL msL ins) := by
  intro D ad cy bs vs mw mw' had hl1000 hf
  refine va_MetF (cc := cc) (maxL := maxL) (ret := none) hy rfl ?_
  intro p e s m args below meth c s₁ B hml hv
  obtain ⟨rfl, hsz, hP, hK, hD, hX⟩ := hv
  have hx := B.exec
  have hb := B.bytes
  have hts : ∀ w ∈ (Cond.code y cc maxL none :: mm_G), w.before (vs.map (mm_v ad)).toArray s = true := atoms_spec (ws := Cond.code y cc maxL none :: mm_G) B.pre
  have hown : s.vm.findClass y.cls = some m.cls := findClass_of_methodNamed B.named
  have S : CallFix p m c cc maxL s (vs.map (mm_v ad)).toArray (Cond.code y cc maxL none :: mm_G) y.cls := ⟨hx, hb, hml, hown, hts⟩
  have hnm : meth.name = "<init>" := by
    rw [← hyn]
    exact (name_of_methodNamed B.named B.method).1
  unfold mc_S at hf
  cases hle : (Nat.ble (lg_sl vs).length maxL && Nat.ble (mw.length + mcL) 1000) with
  | false => rw [hle] at hf; cases hf
  | true =>
    rw [hle] at hf
    have hf : mc_run gf pf pF nw nq sp maxL mcL msL ins mm_fuel (0, 0, 0, lv_args 0 vs, [], mw) = some mw' := hf
    rw [Bool.and_eq_true] at hle
    have hle1 := Nat.le_of_ble_eq_true hle.1
    have hle2 := Nat.le_of_ble_eq_true hle.2
    rw [lg_entry_eq]
    have hl := lv_entry (vs.map (mm_v ad)) (n := maxL) (by rw [mm_sl_len]; exact hle1)
    rw [mm_args_q] at hl
    have hA : ∀ q, s.heap.size ≤ q → va_A (mm_w ad cy 0 mw) (bs + mw.length) q := fun q h => Or.inr (by rw [← hsz]; exact h)
    have hAb : ∀ q, va_A (mm_w ad cy 0 mw) (bs + mw.length) q → bs ≤ q := by
      intro q h
      rcases h with ⟨k, z, hk⟩ | h
      · have hk' := (List.getElem?_eq_some_iff.mp hk).1
        rw [mm_w_len] at hk'
        rw [mm_w_get, Nat.zero_add] at hk
        cases hz : mw[k]? with
        | none => rw [hz] at hk; cases hk
        | some w =>
          rw [hz] at hk
          have e1 : (ad k, mm_e ad cy w) = (q, z) := Option.some.inj hk
          have e2 : ad k = q := congrArg Prod.fst e1
          rw [had k (by omega)] at e2
          omega
      · omega
    refine mc_runQ (A := va_A (mm_w ad cy 0 mw) (bs + mw.length)) (R := mc_rm d mcL msL) (n0 := mw.length) (mw' := mw') S hK hX (Or.inl hnm) hgf hpf hpF hnw hnq hsp0 hsp1 hwa hd1 ⟨Nat.le_refl _, Nat.le_refl _⟩ ⟨Nat.le_refl _, Nat.le_refl _⟩ hsz hle2 had hAb hA hins ?_ mm_fuel _ hf (Nat.zero_le _) rfl s.heap [] _ hP hD.self va_S.rf hl
    intro pc lv hpc H locs ls hP1 hD1 hS1 hl1
    obtain ⟨n1, hd, hn, -⟩ := hins pc _ hpc
    obtain rfl := hn (by simp [mm_len])
    exact W.vret hx hb B.returns (fun t ht _ => ⟨rfl, by rw [ht]; exact hP1, hD1, hS1.F ht⟩) (fun q hq => hS1.2.2 q hq) hd B.notSynchronized
/-! ===== a constructor's tables as lists ===== -/
theorem mc_hins {cc : ByteArray} {ins : Nat → Option Instr} (h : ∀ pc i, ins pc = some i → ∃ n, decode cc pc = .ok (i, n) ∧ (mm_len i ≠ 0 → n = mm_len i)) : ∀ pc i, ins pc = some i → ∃ n, decode cc pc = .ok (i, n) ∧ (mm_len i ≠ 0 → n = mm_len i) ∧ (∀ k, i = .new k → n = 3) ∧ (∀ t, i = .newarray t → n = 2) ∧ (∀ k, i = .anewarray k → n = 3) ∧ (∀ k, i = .invokespecial k → n = 3) := by
  intro pc i hi
  obtain ⟨n, h1, h2⟩ := h pc i hi
  refine ⟨n, h1, h2, ?_, ?_, ?_, ?_⟩
  · rintro k rfl; exact h2 (by simp [mm_len])
  · rintro k rfl; exact h2 (by simp [mm_len])
  · rintro k rfl; exact h2 (by simp [mm_len])
  · rintro k rfl; exact h2 (by simp [mm_len])
def mc_pFb (own : String) (L : List (Nat × Nat × Nat × Nat)) : Bool := L.all (fun q => mm_lkb own q && (match mm_cl[q.2.2.1]? with
  | some r => (r.2.1 q.2.2.2).2.2.2 && decide ((r.2.1 q.2.2.2).1 = own)
  | none => false))
theorem mc_pF_ok {own : String} {L : List (Nat × Nat × Nat × Nat)} (h : mc_pFb own L = true) : ∀ n ci k ty, mm_pf L n = some (ci, k, ty) → mc_PF own n ci k ty := by
  intro n ci k ty hg
  unfold mm_pf at hg
  cases hf : L.find? (fun q => Nat.beq q.2.1 n) with
  | none => rw [hf] at hg; cases hg
  | some q =>
    rw [hf] at hg
    have e1 : (q.2.2.1, q.2.2.2, mm_tyf.getD q.2.2.1 tyX0 q.2.2.2) = (ci, k, ty) := Option.some.inj hg
    rw [Prod.mk.injEq, Prod.mk.injEq] at e1
    obtain ⟨rfl, rfl, rfl⟩ := e1
    have e2 : q.2.1 = n := Nat.eq_of_beq_eq_true (by have z := List.find?_some hf; exact z)
    have h0 := List.all_eq_true.mp h q (List.mem_of_find?_eq_some hf)
    rw [Bool.and_eq_true] at h0
    obtain ⟨C, T, N, g1, g2, g3, g4⟩ := mm_lkb_ok h0.1
    have h2 := h0.2
    rw [g1] at h2
    have h2 : ((T q.2.2.2).2.2.2 && decide ((T q.2.2.2).1 = own)) = true := h2
    rw [Bool.and_eq_true, decide_eq_true_eq] at h2
    obtain ⟨t1, t2⟩ := mm_ty_all _ _ g1
    rw [e2] at g4
    exact ⟨C, T, N, mm_tyf.getD q.2.2.1 tyX0, g1, g2, g3, g4, t1, t2, h2.1, h2.2, rfl⟩
/-- new: place of the class's link, index, class, places of 'instantiable' and 'initialized' -/
def mc_nw (L : List (Nat × Nat × Nat × Nat × Nat)) (n : Nat) : Option Nat := (L.find? (fun q => Nat.beq q.2.1 n)).map (fun q => q.2.2.1)
def mc_nwb (own : String) (L : List (Nat × Nat × Nat × Nat × Nat)) : Bool := L.all (fun q => match mm_cl[q.2.2.1]? with
  | some r => decide (lw_tbl[q.1]? = some (Cond.classLink own q.2.1 r.1)) && (decide (lw_tbl[q.2.2.2.1]? = some (Cond.instantiable r.1 r.2.2)) && decide (lw_tbl[q.2.2.2.2]? = some (Cond.initialized r.1)))
  | none => false)
theorem mc_nw_ok {own : String} {L : List (Nat × Nat × Nat × Nat × Nat)} (h : mc_nwb own L = true) : ∀ n ci, mc_nw L n = some ci → mc_NW own n ci := by
  intro n ci hg
  unfold mc_nw at hg
  cases hf : L.find? (fun q => Nat.beq q.2.1 n) with
  | none => rw [hf] at hg; cases hg
  | some q =>
    rw [hf] at hg
    have e1 : q.2.2.1 = ci := Option.some.inj hg
    have e2 : q.2.1 = n := Nat.eq_of_beq_eq_true (by have z := List.find?_some hf; exact z)
    have h0 := List.all_eq_true.mp h q (List.mem_of_find?_eq_some hf)
    split at h0
    · rename_i r hr
      simp only [Bool.and_eq_true, decide_eq_true_eq] at h0
      rw [e1] at hr
      rw [e2] at h0
      exact ⟨r.1, r.2.1, r.2.2, hr, mm_G_in h0.1 rfl, mm_G_in h0.2.1 rfl, mm_G_in h0.2.2 rfl⟩
    · cases h0
abbrev mc_L : Type := List (Nat × Nat × Option (Nat × Nat × mc_F))
def mc_sp (L : mc_L) (ix : Nat) : Option (Nat × Option (Nat × Nat × mc_F)) := (L.find? (fun q => Nat.beq q.1 ix)).map (·.2)
theorem mc_sp_in {L : mc_L} {ix : Nat} {q : Nat × Option (Nat × Nat × mc_F)} (h : mc_sp L ix = some q) : (ix, q) ∈ L := by
  unfold mc_sp at h
  cases hf : L.find? (fun q => Nat.beq q.1 ix) with
  | none => rw [hf] at h; cases h
  | some r =>
    rw [hf] at h
    have e1 : r.2 = q := Option.some.inj h
    have e2 : r.1 = ix := Nat.eq_of_beq_eq_true (by have z := List.find?_some hf; exact z)
    rw [← e1, ← e2]
    exact List.mem_of_find?_eq_some hf
def mc_spo (l : Launch) (own : String) (d : Nat) (q : Nat × Nat × Option (Nat × Nat × mc_F)) : Prop := match q.2.2 with
  | none => mc_LO own q.1
  | some r => mc_LI l own d q.1 q.2.1 r.1 r.2.1 r.2.2
theorem mc_sp0 {l : Launch} {own : String} {d : Nat} {L : mc_L} (h : ∀ q ∈ L, mc_spo l own d q) : ∀ ix n, mc_sp L ix = some (n, none) → mc_LO own ix := fun ix n hq => h _ (mc_sp_in hq)
theorem mc_sp1 {l : Launch} {own : String} {d : Nat} {L : mc_L} (h : ∀ q ∈ L, mc_spo l own d q) : ∀ ix n mc ms f, mc_sp L ix = some (n, some (mc, ms, f)) → mc_LI l own d ix n mc ms f := fun ix n mc ms f hq => h _ (mc_sp_in hq)
theorem mc_LO.mk {own : String} {ix i : Nat} (h : lw_tbl[i]? = some (Cond.methodLink own ix objectInit)) : mc_LO own ix := ⟨mm_G_in h rfl, mm_G_in (i := 95) (by decide +kernel) rfl, mm_G_in (i := 96) (by decide +kernel) rfl⟩
def mc_MI (y : MethodName) (cc : ByteArray) (maxL : Nat) : Prop := maxL ≤ 21 ∧ y.name = "<init>" ∧ (y.cls ≠ "java/lang/invoke/MethodHandle" ∧ y.cls ≠ "java/lang/invoke/VarHandle") ∧ Cond.instanceMethod y ∈ mm_G ∧ Cond.initialized y.cls ∈ mm_G ∧ Cond.code y cc maxL none ∈ mm_G
theorem mc_LI.mk {l : Launch} {own : String} {d ix n mc ms i d1 : Nat} {f : mc_F} {y : MethodName} {cc : ByteArray} {maxL : Nat} (hM : mc_MI y cc maxL) (hC : mc_Ct l y cc maxL d1 mc ms f) (hd : d1 < d) (hn : (parseMethodDescriptor y.desc).map (fun d => d.parameters.length + 1) = some n) (hl : lw_tbl[i]? = some (Cond.methodLink own ix y)) : mc_LI l own d ix n mc ms f := by
  obtain ⟨h1, h2, h3, h4, h5, h6⟩ := hM
  exact ⟨y, cc, maxL, d1, hd, h1, h2, ⟨h3.1, h3.2, hn⟩, ⟨Or.inl (mm_G_in hl rfl), h4, h5, h6⟩, hC⟩
theorem mc_LI.nest {l : Launch} {own : String} {d ix n mc ms d1 : Nat} {f : mc_F} {y : MethodName} {cc : ByteArray} {maxL : Nat} (hM : mc_MI y cc maxL) (hC : mc_Ct l y cc maxL d1 mc ms f) (hd : d1 < d) (hn : (parseMethodDescriptor y.desc).map (fun d => d.parameters.length + 1) = some n) (hl : (own, ix, y) ∈ mc_nest) : mc_LI l own d ix n mc ms f := by
  obtain ⟨h1, h2, h3, h4, h5, h6⟩ := hM
  exact ⟨y, cc, maxL, d1, hd, h1, h2, ⟨h3.1, h3.2, hn⟩, ⟨Or.inr hl, h4, h5, h6⟩, hC⟩
theorem mc_wa : ∀ i, i < 3 → Cond.arrayClass (mm_ty i) ∈ mm_G := by
  intro i hi
  rcases (show i = 0 ∨ i = 1 ∨ i = 2 by omega) with rfl | rfl | rfl
  · exact mm_G_in (i := 243) (by decide +kernel) rfl
  · exact mm_G_in (i := 113) (by decide +kernel) rfl
  · exact mm_G_in (i := 1083) (by decide +kernel) rfl
