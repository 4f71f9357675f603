/-! ===== the JVM does what the small machine does: a step ===== -/
section MMS
variable (p : Program) (l : Launch) (e : Env) (R : Room) (s : State) (m : MethodId) (args : Array Value) (below : List Frame) (meth : Method) (c : Code) (D : va_G) (cl : List vw_C) (A : Nat → Prop) (H0 : Heap) (ad : Nat → Nat) (cy : Nat → ClassId) (nL : Nat) (cc : ByteArray) (nc ns : Nat)
/-- wherever the heap holds the picture of the small state, the machine comes to Q -/
def mm_Sim (Q : State → Prop) (x : mm_C) : Prop := ∀ (H : Heap) (locs : List Loc) (ls : Array Slot), va_P D cl (mm_w ad cy 0 x.2.2.2) H → va_D A (mm_w ad cy 0 x.2.2.2) → va_S A H0 H locs → lv_has ls nL (x.2.1.map (mm_q ad)) → W p l e R s m args below meth c H locs nc ns Q (F0 m x.1 ls (x.2.2.1.map (mm_v ad)))
/-- a call's rule -/
def mm_Call (ix : Instr) (n : Nat) (rc : Option Nat) (f : mm_F) : Prop := ∀ (vs : List Value) (mw mw' : List va_E) (r : Option Value), vs.length = n → mm_rc rc vs mw = true → f vs mw = some (r, mw') → ∀ (Q : State → Prop) (pc : Nat) (H : Heap) (locs : List Loc) (ls : Array Slot) (rest : List Value), ls.size = nL → decode cc pc = .ok (ix, 3) → va_P D cl (mm_w ad cy 0 mw) H → va_D A (mm_w ad cy 0 mw) → va_S A H0 H locs → (rest.map fun v => v.category).sum ≤ 8 →
  (∀ (H1 : Heap) (locs1 : List Loc), va_P D cl (mm_w ad cy 0 mw') H1 → va_D A (mm_w ad cy 0 mw') → va_S A H0 H1 locs1 → W p l e R s m args below meth c H1 locs1 nc ns Q (F0 m (pc + 3) ls (r.toList.map (mm_v ad) ++ rest))) → W p l e R s m args below meth c H locs nc ns Q (F0 m pc ls ((vs.map (mm_v ad)).reverse ++ rest))
/-- a constant's rule -/
def mm_Kst (ix : Instr) (n : Nat) (v : Value) : Prop := ∀ (Q : State → Prop) (pc : Nat) (H : Heap) (locs : List Loc) (ls : Array Slot) (rest : List Value), decode cc pc = .ok (ix, n) → va_S A H0 H locs → W p l e R s m args below meth c H locs nc ns Q (F0 m (pc + n) ls (mm_v ad v :: rest)) → W p l e R s m args below meth c H locs nc ns Q (F0 m pc ls rest)
/-- the rules of an array that stands outside the world -/
def mm_Ro (k t n : Nat) (f : Nat → Int32) : Prop := (t = 0 → ∀ (Q : State → Prop) (pc : Nat) (H : Heap) (locs : List Loc) (ls : Array Slot) (rest : List Value) (i : Int32), vp_in i n → decode cc pc = .ok (.iaload, 1) → va_S A H0 H locs → W p l e R s m args below meth c H locs nc ns Q (F0 m (pc + 1) ls (.int (f i.toNatClampNeg) :: rest)) → W p l e R s m args below meth c H locs nc ns Q (F0 m pc ls (.int i :: .ref (ad k) :: rest))) ∧
  (t = 1 → ∀ (Q : State → Prop) (pc : Nat) (H : Heap) (locs : List Loc) (ls : Array Slot) (rest : List Value) (i : Int32), vp_in i n → decode cc pc = .ok (.baload, 1) → va_S A H0 H locs → W p l e R s m args below meth c H locs nc ns Q (F0 m (pc + 1) ls (.int (f i.toNatClampNeg) :: rest)) → W p l e R s m args below meth c H locs nc ns Q (F0 m pc ls (.int i :: .ref (ad k) :: rest))) ∧
  ∀ (Q : State → Prop) (pc : Nat) (H : Heap) (locs : List Loc) (ls : Array Slot) (rest : List Value), decode cc pc = .ok (.arraylength, 1) → va_S A H0 H locs → W p l e R s m args below meth c H locs nc ns Q (F0 m (pc + 1) ls (.int (Int32.ofNat n) :: rest)) → W p l e R s m args below meth c H locs nc ns Q (F0 m pc ls (.ref (ad k) :: rest))
/-- the rule of a field of an object that stands outside the world -/
def mm_Rf (k n : Nat) (v : Value) : Prop := ∀ (Q : State → Prop) (pc : Nat) (H : Heap) (locs : List Loc) (ls : Array Slot) (rest : List Value), decode cc pc = .ok (.getfield n, 3) → va_S A H0 H locs → W p l e R s m args below meth c H locs nc ns Q (F0 m (pc + 3) ls (mm_v ad v :: rest)) → W p l e R s m args below meth c H locs nc ns Q (F0 m pc ls (.ref (ad k) :: rest))
end MMS
def mm_GF (G : List Cond) (cl : List vw_C) (own : String) (n ci k : Nat) : Prop := ∃ (C : String) (T : u_T) (N : Nat), cl[ci]? = some (C, T, N) ∧ k < N ∧ (∀ w ∈ u_ws C T N, w ∈ G) ∧ Cond.fieldLink own n (T k).1 (T k).2.1 (T k).2.2.1 ∈ G
def mm_PF (G : List Cond) (cl : List vw_C) (own : String) (n ci k : Nat) (ty : FieldType) : Prop := ∃ (C : String) (T : u_T) (N : Nat) (ty0 : Nat → FieldType), cl[ci]? = some (C, T, N) ∧ k < N ∧ (∀ w ∈ u_ws C T N, w ∈ G) ∧ Cond.fieldLink own n (T k).1 (T k).2.1 (T k).2.2.1 ∈ G ∧ (∀ k, k < N → parseFieldDescriptor (T k).2.2.1 = some (ty0 k)) ∧ (∀ a, a < N → ∀ b, b < N → a ≠ b → (T a).2.1 ≠ (T b).2.1) ∧ (T k).2.2.2 = false ∧ ty0 k = ty
section MMT
variable {p : Program} {l : Launch} {e : Env} {R : Room} {s : State} {m : MethodId} {args : Array Value} {below : List Frame} {meth : Method} {c : Code} {D : va_G} {cl : List vw_C} {A : Nat → Prop} {H0 : Heap} {ad : Nat → Nat} {cy : Nat → ClassId} {nL : Nat} {cc : ByteArray} {Q : State → Prop} {nc ns : Nat}
variable {pc pn : Nat} {lv : List (Nat × Value)} {st : List Value} {mw : List va_E} {x : mm_C}
theorem mt_push {v : Value} (h : mm_push pn lv v st mw = some (.inl x)) (row : ∀ (H : Heap) (locs : List Loc) (ls : Array Slot) (rest : List Value), W p l e R s m args below meth c H locs nc ns Q (F0 m pn ls (mm_v ad v :: rest)) → W p l e R s m args below meth c H locs nc ns Q (F0 m pc ls rest)) (k : mm_Sim p l e R s m args below meth c D cl A H0 ad cy nL nc ns Q x) : mm_Sim p l e R s m args below meth c D cl A H0 ad cy nL nc ns Q (pc, lv, st, mw) := by
  unfold mm_push at h
  cases h
  intro H locs ls hP hD hS hl
  exact row H locs ls _ (k H locs ls hP hD hS hl)
theorem mt_const {ix : Instr} {n : Nat} {q : Option Value} (h : mm_const q (pc + n) lv st mw = some (.inl x)) (hd : decode cc pc = .ok (ix, n)) (row : ∀ v, q = some v → mm_Kst p l e R s m args below meth c A H0 ad cc nc ns ix n v) (k : mm_Sim p l e R s m args below meth c D cl A H0 ad cy nL nc ns Q x) : mm_Sim p l e R s m args below meth c D cl A H0 ad cy nL nc ns Q (pc, lv, st, mw) := by
  unfold mm_const at h
  split at h
  · rename_i v
    cases h
    intro H locs ls hP hD hS hl
    exact row v rfl Q pc H locs ls _ hd hS (k H locs ls hP hD hS hl)
  · cases h
theorem mt_i1 {f : Int32 → Value} (h : mm_i1 f pn lv st mw = some (.inl x)) (row : ∀ (H : Heap) (locs : List Loc) (ls : Array Slot) (rest : List Value) (a : Int32), W p l e R s m args below meth c H locs nc ns Q (F0 m pn ls (mm_v ad (f a) :: rest)) → W p l e R s m args below meth c H locs nc ns Q (F0 m pc ls (.int a :: rest))) (k : mm_Sim p l e R s m args below meth c D cl A H0 ad cy nL nc ns Q x) : mm_Sim p l e R s m args below meth c D cl A H0 ad cy nL nc ns Q (pc, lv, st, mw) := by
  unfold mm_i1 at h
  split at h
  · cases h
    intro H locs ls hP hD hS hl
    exact row H locs ls _ _ (k H locs ls hP hD hS hl)
  · cases h
theorem mt_l1 {f : Int64 → Value} (h : mm_l1 f pn lv st mw = some (.inl x)) (row : ∀ (H : Heap) (locs : List Loc) (ls : Array Slot) (rest : List Value) (a : Int64), W p l e R s m args below meth c H locs nc ns Q (F0 m pn ls (mm_v ad (f a) :: rest)) → W p l e R s m args below meth c H locs nc ns Q (F0 m pc ls (.long a :: rest))) (k : mm_Sim p l e R s m args below meth c D cl A H0 ad cy nL nc ns Q x) : mm_Sim p l e R s m args below meth c D cl A H0 ad cy nL nc ns Q (pc, lv, st, mw) := by
  unfold mm_l1 at h
  split at h
  · cases h
    intro H locs ls hP hD hS hl
    exact row H locs ls _ _ (k H locs ls hP hD hS hl)
  · cases h
theorem mt_i2 {ok : Int32 → Bool} {f : Int32 → Int32 → Int32} (h : mm_i2 ok f pn lv st mw = some (.inl x)) (row : ∀ (H : Heap) (locs : List Loc) (ls : Array Slot) (rest : List Value) (a b : Int32), ok b = true → W p l e R s m args below meth c H locs nc ns Q (F0 m pn ls (.int (f a b) :: rest)) → W p l e R s m args below meth c H locs nc ns Q (F0 m pc ls (.int b :: .int a :: rest))) (k : mm_Sim p l e R s m args below meth c D cl A H0 ad cy nL nc ns Q x) : mm_Sim p l e R s m args below meth c D cl A H0 ad cy nL nc ns Q (pc, lv, st, mw) := by
  unfold mm_i2 at h
  split at h
  · obtain ⟨h1, h2⟩ := mm_bif h
    cases h2
    intro H locs ls hP hD hS hl
    exact row H locs ls _ _ _ h1 (k H locs ls hP hD hS hl)
  · cases h
theorem mt_l2 {ok : Int64 → Bool} {f : Int64 → Int64 → Value} (h : mm_l2 ok f pn lv st mw = some (.inl x)) (row : ∀ (H : Heap) (locs : List Loc) (ls : Array Slot) (rest : List Value) (a b : Int64), ok b = true → W p l e R s m args below meth c H locs nc ns Q (F0 m pn ls (mm_v ad (f a b) :: rest)) → W p l e R s m args below meth c H locs nc ns Q (F0 m pc ls (.long b :: .long a :: rest))) (k : mm_Sim p l e R s m args below meth c D cl A H0 ad cy nL nc ns Q x) : mm_Sim p l e R s m args below meth c D cl A H0 ad cy nL nc ns Q (pc, lv, st, mw) := by
  unfold mm_l2 at h
  split at h
  · obtain ⟨h1, h2⟩ := mm_bif h
    cases h2
    intro H locs ls hP hD hS hl
    exact row H locs ls _ _ _ h1 (k H locs ls hP hD hS hl)
  · cases h
theorem mt_ls {f : Int64 → Int32 → Int64} (h : mm_ls f pn lv st mw = some (.inl x)) (row : ∀ (H : Heap) (locs : List Loc) (ls : Array Slot) (rest : List Value) (a : Int64) (b : Int32), W p l e R s m args below meth c H locs nc ns Q (F0 m pn ls (.long (f a b) :: rest)) → W p l e R s m args below meth c H locs nc ns Q (F0 m pc ls (.int b :: .long a :: rest))) (k : mm_Sim p l e R s m args below meth c D cl A H0 ad cy nL nc ns Q x) : mm_Sim p l e R s m args below meth c D cl A H0 ad cy nL nc ns Q (pc, lv, st, mw) := by
  unfold mm_ls at h
  split at h
  · cases h
    intro H locs ls hP hD hS hl
    exact row H locs ls _ _ _ (k H locs ls hP hD hS hl)
  · cases h
theorem mt_load {kd i : Nat} (h : mm_load kd i pn lv st mw = some (.inl x)) (row0 : kd = 0 → ∀ (H : Heap) (locs : List Loc) (ls : Array Slot) (rest : List Value) (a : Int32), ls[i]? = some (.val (.int a)) → W p l e R s m args below meth c H locs nc ns Q (F0 m pn ls (.int a :: rest)) → W p l e R s m args below meth c H locs nc ns Q (F0 m pc ls rest)) (row1 : kd = 1 → ∀ (H : Heap) (locs : List Loc) (ls : Array Slot) (rest : List Value) (a : Int64), ls[i]? = some (.val (.long a)) → W p l e R s m args below meth c H locs nc ns Q (F0 m pn ls (.long a :: rest)) → W p l e R s m args below meth c H locs nc ns Q (F0 m pc ls rest)) (row2 : kd = 2 → ∀ (H : Heap) (locs : List Loc) (ls : Array Slot) (rest : List Value) (a : Nat), ls[i]? = some (.val (.ref a)) → W p l e R s m args below meth c H locs nc ns Q (F0 m pn ls (.ref a :: rest)) → W p l e R s m args below meth c H locs nc ns Q (F0 m pc ls rest)) (k : mm_Sim p l e R s m args below meth c D cl A H0 ad cy nL nc ns Q x) : mm_Sim p l e R s m args below meth c D cl A H0 ad cy nL nc ns Q (pc, lv, st, mw) := by
  unfold mm_load at h
  split at h
  · rename_i a hg
    cases h
    intro H locs ls hP hD hS hl
    exact row0 rfl H locs ls _ _ (mm_get_ls hl hg) (k H locs ls hP hD hS hl)
  · rename_i a hg
    cases h
    intro H locs ls hP hD hS hl
    exact row1 rfl H locs ls _ _ (mm_get_ls hl hg) (k H locs ls hP hD hS hl)
  · rename_i a hg
    cases h
    intro H locs ls hP hD hS hl
    exact row2 rfl H locs ls _ _ (mm_get_ls hl hg) (k H locs ls hP hD hS hl)
  · cases h
theorem mt_store {kd i : Nat} (h : mm_store nL kd i pn lv st mw = some (.inl x)) (row0 : kd = 0 → ∀ (H : Heap) (locs : List Loc) (ls : Array Slot) (rest : List Value) (a : Int32) (lw : List (Nat × Value)), lv_has ls nL lw → i < nL → (∀ ls' : Array Slot, lv_has ls' nL ((i, Value.int a) :: lw.filter (fun q => !(q.1 == i) && !(q.1 + 1 == i && q.2.category == 2))) → W p l e R s m args below meth c H locs nc ns Q (F0 m pn ls' rest)) → W p l e R s m args below meth c H locs nc ns Q (F0 m pc ls (.int a :: rest)))
    (row1 : kd = 1 → ∀ (H : Heap) (locs : List Loc) (ls : Array Slot) (rest : List Value) (a : Int64) (lw : List (Nat × Value)), lv_has ls nL lw → i + 1 < nL → (∀ ls' : Array Slot, lv_has ls' nL ((i, Value.long a) :: lw.filter (fun q => !(q.1 == i) && (!(q.1 == i + 1) && !(q.1 + 1 == i && q.2.category == 2)))) → W p l e R s m args below meth c H locs nc ns Q (F0 m pn ls' rest)) → W p l e R s m args below meth c H locs nc ns Q (F0 m pc ls (.long a :: rest)))
    (row2 : kd = 2 → ∀ (H : Heap) (locs : List Loc) (ls : Array Slot) (rest : List Value) (a : Nat) (lw : List (Nat × Value)), lv_has ls nL lw → i < nL → (∀ ls' : Array Slot, lv_has ls' nL ((i, Value.ref a) :: lw.filter (fun q => !(q.1 == i) && !(q.1 + 1 == i && q.2.category == 2))) → W p l e R s m args below meth c H locs nc ns Q (F0 m pn ls' rest)) → W p l e R s m args below meth c H locs nc ns Q (F0 m pc ls (.ref a :: rest)))
    (k : mm_Sim p l e R s m args below meth c D cl A H0 ad cy nL nc ns Q x) : mm_Sim p l e R s m args below meth c D cl A H0 ad cy nL nc ns Q (pc, lv, st, mw) := by
  unfold mm_store at h
  split at h
  · obtain ⟨h1, h2⟩ := mm_bif h
    cases h2
    intro H locs ls hP hD hS hl
    refine row0 rfl H locs ls _ _ _ hl (Nat.le_of_ble_eq_true h1) (fun ls' hl' => ?_)
    exact k H locs ls' hP hD hS (by rw [mm_set1_q]; exact hl')
  · obtain ⟨h1, h2⟩ := mm_bif h
    cases h2
    intro H locs ls hP hD hS hl
    refine row1 rfl H locs ls _ _ _ hl (Nat.le_of_ble_eq_true h1) (fun ls' hl' => ?_)
    exact k H locs ls' hP hD hS (by rw [mm_set2_q]; exact hl')
  · obtain ⟨h1, h2⟩ := mm_bif h
    cases h2
    intro H locs ls hP hD hS hl
    refine row2 rfl H locs ls _ _ _ hl (Nat.le_of_ble_eq_true h1) (fun ls' hl' => ?_)
    exact k H locs ls' hP hD hS (by rw [mm_set1_q]; exact hl')
  · cases h
theorem mt_iinc {i : Nat} {n : Int} (h : mm_iinc nL i n (pc + 3) lv st mw = some (.inl x)) (hx : p.tables.exec = Jvm.exec) (hb : c.code = cc) (hd : decode cc pc = .ok (.iinc i n, 3)) (k : mm_Sim p l e R s m args below meth c D cl A H0 ad cy nL nc ns Q x) : mm_Sim p l e R s m args below meth c D cl A H0 ad cy nL nc ns Q (pc, lv, st, mw) := by
  unfold mm_iinc at h
  split at h
  · rename_i a hg
    obtain ⟨h1, h2⟩ := mm_bif h
    cases h2
    intro H locs ls hP hD hS hl
    obtain ⟨j, hj⟩ := List.getElem?_of_mem (List.mem_map.mpr ⟨(i, .int a), mm_get_at hg, rfl⟩ : mm_q ad (i, .int a) ∈ lv.map (mm_q ad))
    refine lv_iinc hx hb hd hl (k := j) (x := a) hj rfl (Nat.le_of_ble_eq_true h1) rfl (fun ls' hl' => ?_)
    exact k H locs ls' hP hD hS (by rw [mm_set1_q]; exact hl')
  · cases h
theorem mt_dup (h : mm_dup (pc + 1) lv st mw = some (.inl x)) (hx : p.tables.exec = Jvm.exec) (hb : c.code = cc) (hd : decode cc pc = .ok (.dup, 1)) (k : mm_Sim p l e R s m args below meth c D cl A H0 ad cy nL nc ns Q x) : mm_Sim p l e R s m args below meth c D cl A H0 ad cy nL nc ns Q (pc, lv, st, mw) := by
  unfold mm_dup at h
  split at h
  · obtain ⟨h1, h2⟩ := mm_bif h
    cases h2
    intro H locs ls hP hD hS hl
    exact lv_dup hx hb hd (by rw [mm_v_cat]; simpa using h1) (k H locs ls hP hD hS hl)
  · cases h
theorem mt_dup2 (h : mm_dup2 (pc + 1) lv st mw = some (.inl x)) (hx : p.tables.exec = Jvm.exec) (hb : c.code = cc) (hd : decode cc pc = .ok (.dup2, 1)) (k : mm_Sim p l e R s m args below meth c D cl A H0 ad cy nL nc ns Q x) : mm_Sim p l e R s m args below meth c D cl A H0 ad cy nL nc ns Q (pc, lv, st, mw) := by
  unfold mm_dup2 at h
  split at h
  · obtain ⟨h1, h2⟩ := mm_bif h
    cases h2
    rw [Bool.and_eq_true] at h1
    intro H locs ls hP hD hS hl
    exact lv_dup2_11 hx hb hd (by rw [mm_v_cat]; simpa using h1.1) (by rw [mm_v_cat]; simpa using h1.2) (k H locs ls hP hD hS hl)
  · cases h
theorem mt_pop {n : Nat} (h : mm_pop n pn lv st mw = some (.inl x)) (row : ∀ (H : Heap) (locs : List Loc) (ls : Array Slot) (rest : List Value) (v : Value), v.category = n → W p l e R s m args below meth c H locs nc ns Q (F0 m pn ls rest) → W p l e R s m args below meth c H locs nc ns Q (F0 m pc ls (v :: rest))) (k : mm_Sim p l e R s m args below meth c D cl A H0 ad cy nL nc ns Q x) : mm_Sim p l e R s m args below meth c D cl A H0 ad cy nL nc ns Q (pc, lv, st, mw) := by
  unfold mm_pop at h
  split at h
  · obtain ⟨h1, h2⟩ := mm_bif h
    cases h2
    intro H locs ls hP hD hS hl
    exact row H locs ls _ _ (by rw [mm_v_cat]; simpa using h1) (k H locs ls hP hD hS hl)
  · cases h
theorem mt_goto {o : Int} (h : mm_goto (mm_jmp pc o) lv st mw = some (.inl x)) (hx : p.tables.exec = Jvm.exec) (hb : c.code = cc) (hd : decode cc pc = .ok (.goto o, 3)) (k : mm_Sim p l e R s m args below meth c D cl A H0 ad cy nL nc ns Q x) : mm_Sim p l e R s m args below meth c D cl A H0 ad cy nL nc ns Q (pc, lv, st, mw) := by
  unfold mm_goto at h
  split at h
  · rename_i q hq
    cases h
    intro H locs ls hP hD hS hl
    exact lv_goto hx hb hd (mm_jmp_to hq) (k H locs ls hP hD hS hl)
  · cases h
theorem mt_cnd {cd : ClassFile.Cond} {a b : Int32} {q n : Nat} {rest : List Value} (h : x = (bif mm_cnd cd a b then q else n, lv, rest, mw)) (k : mm_Sim p l e R s m args below meth c D cl A H0 ad cy nL nc ns Q x) : (mm_cnd cd a b = true → mm_Sim p l e R s m args below meth c D cl A H0 ad cy nL nc ns Q (q, lv, rest, mw)) ∧ (¬ mm_cnd cd a b = true → mm_Sim p l e R s m args below meth c D cl A H0 ad cy nL nc ns Q (n, lv, rest, mw)) := by
  subst h
  constructor
  · intro h
    rw [h] at k
    exact k
  · intro h
    rw [show mm_cnd cd a b = false by simpa using h] at k
    exact k
theorem mt_if {cd : ClassFile.Cond} {o : Int} (h : mm_if cd o pc lv st mw = some (.inl x)) (hx : p.tables.exec = Jvm.exec) (hb : c.code = cc) (hd : decode cc pc = .ok (.ifCond cd o, 3)) (k : mm_Sim p l e R s m args below meth c D cl A H0 ad cy nL nc ns Q x) : mm_Sim p l e R s m args below meth c D cl A H0 ad cy nL nc ns Q (pc, lv, st, mw) := by
  unfold mm_if at h
  split at h
  · split at h
    · rename_i a r q hq
      obtain ⟨kt, kf⟩ := mt_cnd (Sum.inl.inj (Option.some.inj h)).symm k
      have ht := mm_jmp_to hq
      intro H locs ls hP hD hS hl
      cases cd
      · exact lv_if_eq hx hb hd ht (fun g => kt (by simpa [mm_cnd] using g) H locs ls hP hD hS hl) (fun g => kf (by simpa [mm_cnd] using g) H locs ls hP hD hS hl)
      · exact lv_if_ne hx hb hd ht (fun g => kt (by simpa [mm_cnd] using g) H locs ls hP hD hS hl) (fun g => kf (by simpa [mm_cnd] using g) H locs ls hP hD hS hl)
      · exact lv_if_lt hx hb hd ht (fun g => kt (by simpa [mm_cnd] using g) H locs ls hP hD hS hl) (fun g => kf (by simpa [mm_cnd] using g) H locs ls hP hD hS hl)
      · exact lv_if_ge hx hb hd ht (fun g => kt (by simpa [mm_cnd] using g) H locs ls hP hD hS hl) (fun g => kf (by simpa [mm_cnd] using g) H locs ls hP hD hS hl)
      · exact lv_if_gt hx hb hd ht (fun g => kt (by simpa [mm_cnd] using g) H locs ls hP hD hS hl) (fun g => kf (by simpa [mm_cnd] using g) H locs ls hP hD hS hl)
      · exact lv_if_le hx hb hd ht (fun g => kt (by simpa [mm_cnd] using g) H locs ls hP hD hS hl) (fun g => kf (by simpa [mm_cnd] using g) H locs ls hP hD hS hl)
    · cases h
  · cases h
theorem mt_icmp {cd : ClassFile.Cond} {o : Int} (h : mm_icmp cd o pc lv st mw = some (.inl x)) (hx : p.tables.exec = Jvm.exec) (hb : c.code = cc) (hd : decode cc pc = .ok (.if_icmp cd o, 3)) (k : mm_Sim p l e R s m args below meth c D cl A H0 ad cy nL nc ns Q x) : mm_Sim p l e R s m args below meth c D cl A H0 ad cy nL nc ns Q (pc, lv, st, mw) := by
  unfold mm_icmp at h
  split at h
  · split at h
    · rename_i b a r q hq
      obtain ⟨kt, kf⟩ := mt_cnd (Sum.inl.inj (Option.some.inj h)).symm k
      have ht := mm_jmp_to hq
      intro H locs ls hP hD hS hl
      cases cd
      · exact lv_icmp_eq hx hb hd ht (fun g => kt (by simpa [mm_cnd] using g) H locs ls hP hD hS hl) (fun g => kf (by simpa [mm_cnd] using g) H locs ls hP hD hS hl)
      · exact lv_icmp_ne hx hb hd ht (fun g => kt (by simpa [mm_cnd] using g) H locs ls hP hD hS hl) (fun g => kf (by simpa [mm_cnd] using g) H locs ls hP hD hS hl)
      · exact lv_icmp_lt hx hb hd ht (fun g => kt (by simpa [mm_cnd] using g) H locs ls hP hD hS hl) (fun g => kf (by simpa [mm_cnd] using g) H locs ls hP hD hS hl)
      · exact lv_icmp_ge hx hb hd ht (fun g => kt (by simpa [mm_cnd] using g) H locs ls hP hD hS hl) (fun g => kf (by simpa [mm_cnd] using g) H locs ls hP hD hS hl)
      · exact lv_icmp_gt hx hb hd ht (fun g => kt (by simpa [mm_cnd] using g) H locs ls hP hD hS hl) (fun g => kf (by simpa [mm_cnd] using g) H locs ls hP hD hS hl)
      · exact lv_icmp_le hx hb hd ht (fun g => kt (by simpa [mm_cnd] using g) H locs ls hP hD hS hl) (fun g => kf (by simpa [mm_cnd] using g) H locs ls hP hD hS hl)
    · cases h
  · cases h
theorem mt_table {d lo hi : Int} {offs : Array Int} {len : Nat} (h : mm_sw (fun x => mm_tsw d lo hi offs x.toInt) pc lv st mw = some (.inl x)) (hx : p.tables.exec = Jvm.exec) (hb : c.code = cc) (hd : decode cc pc = .ok (.tableswitch d lo hi offs, len)) (k : mm_Sim p l e R s m args below meth c D cl A H0 ad cy nL nc ns Q x) : mm_Sim p l e R s m args below meth c D cl A H0 ad cy nL nc ns Q (pc, lv, st, mw) := by
  unfold mm_sw at h
  split at h
  · split at h
    · rename_i a r _ o ho
      unfold mm_goto at h
      split at h
      · rename_i q hq
        cases h
        intro H locs ls hP hD hS hl
        have k' := k H locs ls hP hD hS hl
        have ho : (bif decide (a.toInt < lo) || decide (hi < a.toInt) then some d else offs.toList[(a.toInt - lo).toNat]?) = some o := ho
        by_cases g : a.toInt < lo ∨ hi < a.toInt
        · have e1 : (decide (a.toInt < lo) || decide (hi < a.toInt)) = true := by simpa using g
          rw [e1] at ho
          cases ho
          exact lv_tableOut hx hb hd g (mm_jmp_to hq) k'
        · have e1 : (decide (a.toInt < lo) || decide (hi < a.toInt)) = false := by simpa using g
          rw [e1] at ho
          have g1 : ¬ a.toInt < lo := fun z => g (Or.inl z)
          have g2 : ¬ hi < a.toInt := fun z => g (Or.inr z)
          exact lv_tableIn hx hb hd g1 g2 (by rw [← Array.getElem?_toList]; exact ho) (mm_jmp_to hq) k'
      · cases h
    · cases h
  · cases h
theorem mt_lookup {d : Int} {ps : Array (Int × Int)} {len : Nat} (h : (bif (ps.toList.zip (ps.toList.drop 1)).all (fun (a, next) => a.1 < next.1) then mm_sw (fun x => some (Op.lookupswitch.offset ps.toList d x.toInt)) pc lv st mw else none) = some (.inl x)) (hx : p.tables.exec = Jvm.exec) (hb : c.code = cc) (hd : decode cc pc = .ok (.lookupswitch d ps, len)) (k : mm_Sim p l e R s m args below meth c D cl A H0 ad cy nL nc ns Q x) : mm_Sim p l e R s m args below meth c D cl A H0 ad cy nL nc ns Q (pc, lv, st, mw) := by
  cases hz : (ps.toList.zip (ps.toList.drop 1)).all (fun (a, next) => a.1 < next.1) with
  | false => rw [hz] at h; cases h
  | true =>
    rw [hz] at h
    have h : mm_sw (fun x => some (Op.lookupswitch.offset ps.toList d x.toInt)) pc lv st mw = some (.inl x) := h
    unfold mm_sw at h
    split at h
    · rename_i a r _
      have h : mm_goto (mm_jmp pc (Op.lookupswitch.offset ps.toList d a.toInt)) lv r mw = some (.inl x) := h
      unfold mm_goto at h
      split at h
      · rename_i q hq
        cases h
        intro H locs ls hP hD hS hl
        exact lv_lookup hx hb hd hz rfl (mm_jmp_to hq) (k H locs ls hP hD hS hl)
      · cases h
    · cases h
end MMT
