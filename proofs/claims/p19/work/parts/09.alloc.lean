/-! ===== constructors: the small machine with new cells ===== -/
abbrev mc_C : Type := Nat × Nat × mm_C
abbrev mc_F : Type := List Value → List va_E → Option (List va_E)
def mc_dfl (ci : Nat) : List Value := match mm_cl[ci]? with
  | some q => (List.range q.2.2).map (fun k => defaultValue (mm_tyf.getD ci tyX0 k))
  | none => []
def mc_tag (t : ArrayType) : Option Nat := match t with
  | .int => some 0
  | .byte => some 1
  | .boolean => some 2
  | _ => none
section MCX
variable (gf : Nat → Option (Nat × Nat)) (pf pF : Nat → Option (Nat × Nat × FieldType)) (nw : Nat → Option Nat) (nq : Nat → Bool) (sp : Nat → Option (Nat × Option (Nat × Nat × mc_F))) (nL mcL msL : Nat)
def mc_old (nc ns : Nat) (mw : List va_E) (q : Option (mm_C ⊕ mm_R)) : Option mc_C := match q with
  | some (.inl x) => bif Nat.beq x.2.2.2.length mw.length then some (nc, ns, x) else none
  | _ => none
def mc_new (q : Option Nat) (nc ns pc : Nat) (lv : List (Nat × Value)) (st : List Value) (mw : List va_E) : Option mc_C := match q with
  | some ci => bif Nat.ble (mw.length + 1) 1000 && (Nat.ble (nc + 1) mcL && Nat.ble (ns + (mc_dfl ci).length) msL) then some (nc + 1, ns + (mc_dfl ci).length, pc + 3, lv, .ref mw.length :: st, mw ++ [.inr (ci, mc_dfl ci)]) else none
  | none => none
def mc_newa (t : ArrayType) (nc ns pc : Nat) (lv : List (Nat × Value)) (st : List Value) (mw : List va_E) : Option mc_C := match st, mc_tag t with
  | .int n :: r, some g => bif (!decide (n < 0) && Nat.ble (n.toNatClampNeg * 4) 536870912) && (Nat.ble (mw.length + 1) 1000 && (Nat.ble (nc + 1) mcL && Nat.ble (ns + n.toNatClampNeg) msL)) then some (nc + 1, ns + n.toNatClampNeg, pc + 2, lv, .ref mw.length :: r, mw ++ [.inl (g, n.toNatClampNeg, .inl (fun _ => 0))]) else none
  | _, _ => none
def mc_newq (q : Bool) (nc ns pc : Nat) (lv : List (Nat × Value)) (st : List Value) (mw : List va_E) : Option mc_C := match st with
  | .int n :: r => bif q && ((!decide (n < 0) && Nat.ble (n.toNatClampNeg * 4) 536870912) && (Nat.ble (mw.length + 1) 1000 && (Nat.ble (nc + 1) mcL && Nat.ble (ns + n.toNatClampNeg) msL))) then some (nc + 1, ns + n.toNatClampNeg, pc + 3, lv, .ref mw.length :: r, mw ++ [.inl (3, n.toNatClampNeg, .inr (.inr (.inr (.inr (fun _ => none)))))]) else none
  | _ => none
def mc_aast (nc ns pc : Nat) (lv : List (Nat × Value)) (st : List Value) (mw : List va_E) : Option mc_C := match st with
  | .ref v :: .int i :: .ref a :: r => match mw[a]?, mw[v]? with
    | some (.inl x), some (.inr y) => match x.2.2 with
      | .inr (.inr (.inr (.inr f))) => bif x.1 == 3 && (y.1 == 5 && mm_inB i x.2.1) then some (nc, ns, pc + 1, lv, r, mw.set a (.inl (x.1, x.2.1, .inr (.inr (.inr (.inr (va_up f i.toNatClampNeg (some v)))))))) else none
      | _ => none
    | _, _ => none
  | _ => none
def mc_spec (q : Option (Nat × Option (Nat × Nat × mc_F))) (nc ns pc : Nat) (lv : List (Nat × Value)) (st : List Value) (mw : List va_E) : Option mc_C := match q with
  | some (_, none) => (match st with
    | .ref _ :: r => bif Nat.ble (r.map fun v => v.category).sum 8 then some (nc, ns, pc + 3, lv, r, mw) else none
    | _ => none)
  | some (n, some (mc, ms, f)) => (match (st.take n).reverse with
    | .ref k :: vt => bif Nat.ble n st.length && (Nat.ble ((st.drop n).map fun v => v.category).sum 8 && (Nat.ble (nc + mc) mcL && Nat.ble (ns + ms) msL)) then
        (match f (.ref k :: vt) mw with
        | some mw' => bif Nat.beq mw'.length (mw.length + mc) then some (nc + mc, ns + ms, pc + 3, lv, st.drop n, mw') else none
        | none => none) else none
    | _ => none)
  | none => none
def mc_ex (i : Instr) (nc ns pc : Nat) (lv : List (Nat × Value)) (st : List Value) (mw : List va_E) : Option mc_C := match i with
  | .new n => mc_new mcL msL (nw n) nc ns pc lv st mw
  | .newarray t => mc_newa mcL msL t nc ns pc lv st mw
  | .anewarray n => mc_newq mcL msL (nq n) nc ns pc lv st mw
  | .aastore => mc_aast nc ns pc lv st mw
  | .invokespecial n => mc_spec mcL msL (sp n) nc ns pc lv st mw
  | .putfield n => mc_old nc ns mw (match pF n with
    | some q => mm_putf (some q) (pc + 3) lv st mw
    | none => mm_putf (pf n) (pc + 3) lv st mw)
  | i => mc_old nc ns mw (mm_ex gf pf (fun _ => none) (fun _ => none) (fun _ => none) (fun _ => none) (fun _ _ => none) (fun _ => none) none nL i pc lv st mw)
variable (ins : Nat → Option Instr)
def mc_run : Nat → mc_C → Option (List va_E)
  | 0, _ => none
  | n + 1, (nc, ns, pc, lv, st, mw) => match ins pc with
    | none => none
    | some i => bif decide (i = .return_) then (bif st.isEmpty && (Nat.beq nc mcL && Nat.beq ns msL) then some mw else none) else match mc_ex gf pf pF nw nq sp nL mcL msL i nc ns pc lv st mw with
      | none => none
      | some x => mc_run n x
end MCX
theorem mm_w_app (ad : Nat → Nat) (cy : Nat → ClassId) (e : va_E) : ∀ (mw : List va_E) (j : Nat), mm_w ad cy j (mw ++ [e]) = mm_w ad cy j mw ++ [(ad (j + mw.length), mm_e ad cy e)]
  | [], j => by simp [mm_w]
  | x :: t, j => by
    show (ad j, mm_e ad cy x) :: mm_w ad cy (j + 1) (t ++ [e]) = (ad j, mm_e ad cy x) :: (mm_w ad cy (j + 1) t ++ [(ad (j + (t.length + 1)), mm_e ad cy e)])
    rw [mm_w_app ad cy e t (j + 1), show j + 1 + t.length = j + (t.length + 1) by omega]
theorem mm_w_len (ad : Nat → Nat) (cy : Nat → ClassId) : ∀ (mw : List va_E) (j : Nat), (mm_w ad cy j mw).length = mw.length
  | [], j => rfl
  | x :: t, j => by
    show (mm_w ad cy (j + 1) t).length + 1 = t.length + 1
    rw [mm_w_len ad cy t (j + 1)]
def mc_ad (bs : Nat) (ad : Nat → Nat) : Prop := ∀ k, k < 1000 → ad k = bs + k
def mc_nest : List (String × Nat × MethodName) := [("SuretyRoll", 9, ⟨"SuretyRoll$Text", "<init>", "()V"⟩), ("SuretyRoll", 27, ⟨"SuretyRoll$Book", "<init>", "()V"⟩), ("SuretyRoll$Book", 11, ⟨"SuretyRoll$Roll", "<init>", "()V"⟩), ("SuretyRoll$Book", 23, ⟨"SuretyRoll$Ledger", "<init>", "()V"⟩), ("SuretyRoll", 82, ⟨"SuretyRoll$Ledger", "<init>", "()V"⟩)]
def mc_X (U : State) : Prop := va_AO "SuretyRoll$Ledger" U ∧ ∀ q ∈ mc_nest, va_Nw (.methodLinkNest q.1 q.2.1 q.2.2 "SuretyRoll") U
def mc_rm (d mc ms : Nat) : Room := { frames := d, cells := mc, slots := ms, locals := 40 * d }
def mc_Pre (D : va_G) (ad : Nat → Nat) (cy : Nat → ClassId) (mw : List va_E) (sz : Nat) (U : State) : Prop := U.heap.size = sz ∧ va_P D mm_cl (mm_w ad cy 0 mw) U.heap ∧ va_K D mm_cl (mm_tys cy) U ∧ va_D (fun _ => True) (mm_w ad cy 0 mw) ∧ mc_X U
def mc_Ct (l : Launch) (y : MethodName) (cc : ByteArray) (maxL d mc ms : Nat) (f : mc_F) : Prop := ∀ (D : va_G) (ad : Nat → Nat) (cy : Nat → ClassId) (bs : Nat) (vs : List Value) (mw mw' : List va_E), mc_ad bs ad → mw.length ≤ 1000 → f vs mw = some mw' →
  Met l y (Cond.code y cc maxL none :: mm_G) (mc_rm d mc ms) (va_Pc (vs.map (mm_v ad)) (mc_Pre D ad cy mw (bs + mw.length))) (mm_Qc D mm_cl ad cy (va_A (mm_w ad cy 0 mw) (bs + mw.length)) (none, mw')) mc ms (va_A (mm_w ad cy 0 mw) (bs + mw.length))
section MCS
variable {p : Program} {l : Launch} {e : Env} {R : Room} {s : State} {m : MethodId} {args : Array Value} {below : List Frame} {meth : Method} {c : Code} {D : va_G} {A : Nat → Prop} {ad : Nat → Nat} {cy : Nat → ClassId} {nL : Nat} {cc : ByteArray} {Q : State → Prop} {own : String} {nc ns bs n0 : Nat}
/-- where a new cell lies -/
theorem mc_addr {T : State} {locs : List Loc} {q : Nat} {x : va_E} {mw : List va_E} (X : Stand p l e R s m args below meth c T locs (nc + 1) ns) (hbs : s.heap.size = bs + n0) (hlen : mw.length = n0 + nc) (had : mc_ad bs ad) (h1 : mw.length < 1000) (hP : va_P D mm_cl (mm_w ad cy 0 mw ++ [(q, x)]) T.heap) (hD : va_D A (mm_w ad cy 0 mw ++ [(q, x)])) (hA : ∀ q, A q → bs ≤ q) : q = ad mw.length := by
  have hat : (mm_w ad cy 0 mw ++ [(q, x)])[mw.length]? = some (q, x) := by
    rw [List.getElem?_append_right (by rw [mm_w_len]; exact Nat.le_refl _), mm_w_len, Nat.sub_self]
    rfl
  have hlt : q < T.heap.size := (hP _ _ hat).lt
  have hsz : T.heap.size ≤ s.heap.size + (nc + 1) := X.same.2.2.1
  have hge : bs ≤ q := hA q (hD.2 _ _ hat)
  rw [had _ h1]
  by_cases hq : q = bs + mw.length
  · exact hq
  · exfalso
    have hj : q - bs < mw.length := by omega
    have hjw : (mm_w ad cy 0 mw ++ [(q, x)])[q - bs]? = some (ad (q - bs), mm_e ad cy mw[q - bs]) := by
      rw [List.getElem?_append_left (by rw [mm_w_len]; exact hj)]
      exact mm_w_at (List.getElem?_eq_getElem hj)
    have := hD.1 _ _ _ _ hjw hat (by rw [had _ (by omega)]; show bs + (q - bs) = q; omega)
    omega
end MCS
