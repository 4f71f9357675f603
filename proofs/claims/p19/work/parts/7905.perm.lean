/-! ===== the order of locals doesn't matter ===== -/
/-- all rows of the one stand in the other, too -/
def LE (a b : List (Nat × Value)) : Prop := (∀ q, q ∈ a → q ∈ b) ∧ (a.map (fun q => q.1)).Nodup ∧ (b.map (fun q => q.1)).Nodup
theorem get_mem : ∀ {lv : List (Nat × Value)} {j : Nat} {v : Value}, (lv.map (fun q => q.1)).Nodup → (j, v) ∈ lv → mm_get lv j = some v
  | [], _, _, _, h => by cases h
  | q :: t, j, v, hn, h => by
    rw [List.map_cons, List.nodup_cons] at hn
    unfold mm_get
    rw [List.find?_cons]
    rcases List.mem_cons.mp h with e | e
    · rw [← e]
      simp
    · have hne : ¬ q.1 = j := fun z => hn.1 (by rw [z]; exact List.mem_map.mpr ⟨(j, v), e, rfl⟩)
      have : (q.1 == j) = false := by simp [hne]
      rw [this]
      exact get_mem hn.2 e
theorem LE.get {a b : List (Nat × Value)} (h : LE a b) {j : Nat} {v : Value} (ha : mm_get a j = some v) : mm_get b j = some v := get_mem h.2.2 (h.1 _ (mm_get_at ha))
theorem LE.cons {a b : List (Nat × Value)} (h : LE a b) {i : Nat} {v : Value} {p : Nat × Value → Bool} (hp : ∀ q : Nat × Value, q.1 = i → p q = false) : LE ((i, v) :: a.filter p) ((i, v) :: b.filter p) := by
  refine ⟨fun q => ?_, ?_, ?_⟩
  · rw [List.mem_cons, List.mem_cons, List.mem_filter, List.mem_filter]
    rintro (e | ⟨e1, e2⟩)
    · exact Or.inl e
    · exact Or.inr ⟨h.1 q e1, e2⟩
  · rw [List.map_cons, List.nodup_cons]
    refine ⟨fun z => ?_, List.Nodup.sublist (List.Sublist.map _ (List.filter_sublist)) h.2.1⟩
    obtain ⟨q, q1, q2⟩ := List.mem_map.mp z
    have := (List.mem_filter.mp q1).2
    rw [hp q q2] at this
    cases this
  · rw [List.map_cons, List.nodup_cons]
    refine ⟨fun z => ?_, List.Nodup.sublist (List.Sublist.map _ (List.filter_sublist)) h.2.2⟩
    obtain ⟨q, q1, q2⟩ := List.mem_map.mp z
    have := (List.mem_filter.mp q1).2
    rw [hp q q2] at this
    cases this
theorem LE.set1 {a b : List (Nat × Value)} (h : LE a b) {i : Nat} {v : Value} : LE (mm_set1 a i v) (mm_set1 b i v) := h.cons (fun q e => by simp [e])
theorem LE.set2 {a b : List (Nat × Value)} (h : LE a b) {i : Nat} {v : Value} : LE (mm_set2 a i v) (mm_set2 b i v) := h.cons (fun q e => by simp [e])
def TH (_ _ : List (Nat × Value)) (x y : Option (mm_C ⊕ mm_R)) : Prop := x = none ∨ (∃ q a' b' st mw, x = some (.inl (q, a', st, mw)) ∧ y = some (.inl (q, b', st, mw)) ∧ LE a' b') ∨ ∃ r, x = some (.inr r) ∧ y = some (.inr r)
section THS
variable {a b : List (Nat × Value)} {st : List Value} {mw : List va_E} {pc : Nat}
theorem th0 {y : Option (mm_C ⊕ mm_R)} : TH a b none y := Or.inl rfl
theorem th1 (h : LE a b) {q : Nat} {s : List Value} {w : List va_E} : TH a b (some (.inl (q, a, s, w))) (some (.inl (q, b, s, w))) := Or.inr (Or.inl ⟨q, a, b, s, w, rfl, rfl, h⟩)
theorem thb {c : Bool} {x y : Option (mm_C ⊕ mm_R)} (h : TH a b x y) : TH a b (bif c then x else none) (bif c then y else none) := by cases c with | true => exact h | false => exact th0
theorem th_i1 (h : LE a b) {f : Int32 → Value} : TH a b (mm_i1 f pc a st mw) (mm_i1 f pc b st mw) := by
  rcases st with _ | ⟨x, r⟩
  · exact th0
  · cases x <;> first | exact th1 h | exact th0
theorem th_l1 (h : LE a b) {f : Int64 → Value} : TH a b (mm_l1 f pc a st mw) (mm_l1 f pc b st mw) := by
  rcases st with _ | ⟨x, r⟩
  · exact th0
  · cases x <;> first | exact th1 h | exact th0
theorem th_i2 (h : LE a b) {ok : Int32 → Bool} {f : Int32 → Int32 → Int32} : TH a b (mm_i2 ok f pc a st mw) (mm_i2 ok f pc b st mw) := by
  rcases st with _ | ⟨x, _ | ⟨y, r⟩⟩
  · exact th0
  · cases x <;> exact th0
  · cases x <;> first | (cases y <;> first | exact thb (th1 h) | exact th0) | exact th0
theorem th_l2 (h : LE a b) {ok : Int64 → Bool} {f : Int64 → Int64 → Value} : TH a b (mm_l2 ok f pc a st mw) (mm_l2 ok f pc b st mw) := by
  rcases st with _ | ⟨x, _ | ⟨y, r⟩⟩
  · exact th0
  · cases x <;> exact th0
  · cases x <;> first | (cases y <;> first | exact thb (th1 h) | exact th0) | exact th0
theorem th_ls (h : LE a b) {f : Int64 → Int32 → Int64} : TH a b (mm_ls f pc a st mw) (mm_ls f pc b st mw) := by
  rcases st with _ | ⟨x, _ | ⟨y, r⟩⟩
  · exact th0
  · cases x <;> exact th0
  · cases x <;> first | (cases y <;> first | exact th1 h | exact th0) | exact th0
theorem th_load (h : LE a b) {k i : Nat} : TH a b (mm_load k i pc a st mw) (mm_load k i pc b st mw) := by
  unfold mm_load
  cases ha : mm_get a i with
  | none =>
    match k with
    | 0 => exact th0
    | 1 => exact th0
    | 2 => exact th0
    | k + 3 => exact th0
  | some v =>
    rw [h.get ha]
    match k with
    | 0 => cases v <;> first | exact th1 h | exact th0
    | 1 => cases v <;> first | exact th1 h | exact th0
    | 2 => cases v <;> first | exact th1 h | exact th0
    | k + 3 => exact th0
theorem th_s1 (h : LE a b) {i q : Nat} {v : Value} {s : List Value} {w : List va_E} : TH a b (some (.inl (q, mm_set1 a i v, s, w))) (some (.inl (q, mm_set1 b i v, s, w))) := Or.inr (Or.inl ⟨q, _, _, s, w, rfl, rfl, h.set1⟩)
theorem th_s2 (h : LE a b) {i q : Nat} {v : Value} {s : List Value} {w : List va_E} : TH a b (some (.inl (q, mm_set2 a i v, s, w))) (some (.inl (q, mm_set2 b i v, s, w))) := Or.inr (Or.inl ⟨q, _, _, s, w, rfl, rfl, h.set2⟩)
theorem th_store (h : LE a b) {nL k i : Nat} : TH a b (mm_store nL k i pc a st mw) (mm_store nL k i pc b st mw) := by
  rcases st with _ | ⟨x, r⟩
  · match k with
    | 0 => exact th0
    | 1 => exact th0
    | 2 => exact th0
    | k + 3 => exact th0
  · match k with
    | 0 => cases x <;> first | exact thb (th_s1 h) | exact th0
    | 1 => cases x <;> first | exact thb (th_s2 h) | exact th0
    | 2 => cases x <;> first | exact thb (th_s1 h) | exact th0
    | k + 3 => exact th0
theorem th_iinc (h : LE a b) {nL i : Nat} {n : Int} : TH a b (mm_iinc nL i n pc a st mw) (mm_iinc nL i n pc b st mw) := by
  unfold mm_iinc
  cases ha : mm_get a i with
  | none => exact th0
  | some v =>
    rw [h.get ha]
    cases v <;> first | exact thb (th_s1 h) | exact th0
theorem th_dup (h : LE a b) : TH a b (mm_dup pc a st mw) (mm_dup pc b st mw) := by
  rcases st with _ | ⟨x, r⟩
  · exact th0
  · exact thb (th1 h)
theorem th_dup2 (h : LE a b) : TH a b (mm_dup2 pc a st mw) (mm_dup2 pc b st mw) := by
  rcases st with _ | ⟨x, _ | ⟨y, r⟩⟩
  · exact th0
  · exact th0
  · exact thb (th1 h)
theorem th_pop (h : LE a b) {k : Nat} : TH a b (mm_pop k pc a st mw) (mm_pop k pc b st mw) := by
  rcases st with _ | ⟨x, r⟩
  · exact th0
  · exact thb (th1 h)
theorem th_goto (h : LE a b) {t : Option Nat} : TH a b (mm_goto t a st mw) (mm_goto t b st mw) := by
  cases t with
  | none => exact th0
  | some q => exact th1 h
theorem th_if (h : LE a b) {c : ClassFile.Cond} {off : Int} : TH a b (mm_if c off pc a st mw) (mm_if c off pc b st mw) := by
  rcases st with _ | ⟨x, r⟩
  · exact th0
  · cases x with
    | int z =>
      show TH a b (match mm_jmp pc off with | some q => _ | none => none) (match mm_jmp pc off with | some q => _ | none => none)
      cases mm_jmp pc off with
      | none => exact th0
      | some q => exact th1 h
    | _ => exact th0
theorem th_icmp (h : LE a b) {c : ClassFile.Cond} {off : Int} : TH a b (mm_icmp c off pc a st mw) (mm_icmp c off pc b st mw) := by
  rcases st with _ | ⟨x, _ | ⟨y, r⟩⟩
  · exact th0
  · cases x <;> exact th0
  · cases x with
    | int z =>
      cases y with
      | int w =>
        show TH a b (match mm_jmp pc off with | some q => _ | none => none) (match mm_jmp pc off with | some q => _ | none => none)
        cases mm_jmp pc off with
        | none => exact th0
        | some q => exact th1 h
      | _ => exact th0
    | _ => cases y <;> exact th0
theorem th_sw (h : LE a b) {off : Int32 → Option Int} : TH a b (mm_sw off pc a st mw) (mm_sw off pc b st mw) := by
  rcases st with _ | ⟨x, r⟩
  · exact th0
  · cases x with
    | int z =>
      show TH a b (match off z with | some o => _ | none => none) (match off z with | some o => _ | none => none)
      cases off z with
      | none => exact th0
      | some q => exact th_goto h
    | _ => exact th0
theorem th_const (h : LE a b) {q : Option Value} : TH a b (mm_const q pc a st mw) (mm_const q pc b st mw) := by
  cases q with
  | none => exact th0
  | some v => exact th1 h
theorem th_getf (h : LE a b) {q : Option (Nat × Nat)} {rf : Nat → Option Value} : TH a b (mm_getf q rf pc a st mw) (mm_getf q rf pc b st mw) := by
  rcases st with _ | ⟨x, r⟩
  · exact th0
  · cases x with
    | ref k =>
      unfold mm_getf
      cases hk : mw[k]? with
      | none =>
        simp only [hk]
        cases rf k with
        | none => exact th0
        | some v => exact th1 h
      | some e =>
        simp only [hk]
        cases e with
        | inl x => exact th0
        | inr x =>
          cases q with
          | none => exact th0
          | some q =>
            refine thb ?_
            cases x.2[q.2]? with
            | none => exact th0
            | some v => exact th1 h
    | _ => exact th0
theorem th_putf (h : LE a b) {q : Option (Nat × Nat × FieldType)} : TH a b (mm_putf q pc a st mw) (mm_putf q pc b st mw) := by
  rcases q with _ | ⟨ci, k, ty⟩
  · rcases st with _ | ⟨x, _ | ⟨y, r⟩⟩
    · exact th0
    · exact th0
    · cases y <;> exact th0
  · rcases st with _ | ⟨x, _ | ⟨y, r⟩⟩
    · exact th0
    · exact th0
    · cases y with
      | ref j =>
        unfold mm_putf
        cases hk : mw[j]? with
        | none => simp only [hk]; exact th0
        | some e =>
          simp only [hk]
          cases e with
          | inl x => exact th0
          | inr x => exact thb (th1 h)
      | _ => exact th0
theorem th_iald (h : LE a b) {ro : Nat → Option (Nat × Nat × (Nat → Int32))} : TH a b (mm_iald ro pc a st mw) (mm_iald ro pc b st mw) := by
  rcases st with _ | ⟨x, _ | ⟨y, r⟩⟩
  · exact th0
  · cases x <;> exact th0
  · cases x with
    | int i =>
      cases y with
      | ref j =>
        unfold mm_iald
        cases hk : mw[j]? with
        | none =>
          simp only [hk]
          rcases ro j with _ | ⟨t, n, f⟩
          · exact th0
          · exact thb (th1 h)
        | some e =>
          simp only [hk]
          cases e with
          | inr x => exact th0
          | inl x =>
            obtain ⟨x1, x2, x3⟩ := x
            cases x3 with
            | inl f => exact thb (th1 h)
            | inr f => exact th0
      | _ => exact th0
    | _ => cases y <;> exact th0
theorem th_bald (h : LE a b) {ro : Nat → Option (Nat × Nat × (Nat → Int32))} : TH a b (mm_bald ro pc a st mw) (mm_bald ro pc b st mw) := by
  rcases st with _ | ⟨x, _ | ⟨y, r⟩⟩
  · exact th0
  · cases x <;> exact th0
  · cases x with
    | int i =>
      cases y with
      | ref j =>
        unfold mm_bald
        cases hk : mw[j]? with
        | none =>
          simp only [hk]
          rcases ro j with _ | ⟨t, n, f⟩
          · exact th0
          · exact thb (th1 h)
        | some e =>
          simp only [hk]
          cases e with
          | inr x => exact th0
          | inl x =>
            obtain ⟨x1, x2, x3⟩ := x
            cases x3 with
            | inl f => exact thb (th1 h)
            | inr f => exact th0
      | _ => exact th0
    | _ => cases y <;> exact th0
theorem th_aald (h : LE a b) : TH a b (mm_aald pc a st mw) (mm_aald pc b st mw) := by
  rcases st with _ | ⟨x, _ | ⟨y, r⟩⟩
  · exact th0
  · cases x <;> exact th0
  · cases x with
    | int i =>
      cases y with
      | ref j =>
        unfold mm_aald
        cases hk : mw[j]? with
        | none => simp only [hk]; exact th0
        | some e =>
          simp only [hk]
          cases e with
          | inr x => exact th0
          | inl x =>
            obtain ⟨x1, x2, x3⟩ := x
            rcases x3 with f | f | f | f | f
            · exact th0
            · exact th0
            · exact th0
            · exact th0
            · exact thb (th1 h)
      | _ => exact th0
    | _ => cases y <;> exact th0
theorem th_iast (h : LE a b) : TH a b (mm_iast pc a st mw) (mm_iast pc b st mw) := by
  rcases st with _ | ⟨x, _ | ⟨y, _ | ⟨z, r⟩⟩⟩
  · exact th0
  · cases x <;> exact th0
  · cases x <;> first | (cases y <;> exact th0) | exact th0
  · cases x with
    | int v =>
      cases y with
      | int i =>
        cases z with
        | ref j =>
          unfold mm_iast
          cases hk : mw[j]? with
          | none => simp only [hk]; exact th0
          | some e =>
            simp only [hk]
            cases e with
            | inr x => exact th0
            | inl x =>
              obtain ⟨x1, x2, x3⟩ := x
              cases x3 with
              | inl f => exact thb (th1 h)
              | inr f => exact th0
        | _ => exact th0
      | _ => cases z <;> exact th0
    | _ => cases y <;> first | (cases z <;> exact th0) | exact th0
theorem th_bast (h : LE a b) : TH a b (mm_bast pc a st mw) (mm_bast pc b st mw) := by
  rcases st with _ | ⟨x, _ | ⟨y, _ | ⟨z, r⟩⟩⟩
  · exact th0
  · cases x <;> exact th0
  · cases x <;> first | (cases y <;> exact th0) | exact th0
  · cases x with
    | int v =>
      cases y with
      | int i =>
        cases z with
        | ref j =>
          unfold mm_bast
          cases hk : mw[j]? with
          | none => simp only [hk]; exact th0
          | some e =>
            simp only [hk]
            cases e with
            | inr x => exact th0
            | inl x =>
              obtain ⟨x1, x2, x3⟩ := x
              cases x3 with
              | inl f => exact thb (th1 h)
              | inr f => exact th0
        | _ => exact th0
      | _ => cases z <;> exact th0
    | _ => cases y <;> first | (cases z <;> exact th0) | exact th0
theorem th_alen (h : LE a b) {ro : Nat → Option (Nat × Nat × (Nat → Int32))} : TH a b (mm_alen ro pc a st mw) (mm_alen ro pc b st mw) := by
  rcases st with _ | ⟨x, r⟩
  · exact th0
  · cases x with
    | ref j =>
      unfold mm_alen
      cases hk : mw[j]? with
      | none =>
        simp only [hk]
        rcases ro j with _ | ⟨t, n, f⟩
        · exact th0
        · exact th1 h
      | some e =>
        simp only [hk]
        cases e with
        | inr x => exact th0
        | inl x => exact thb (th1 h)
    | _ => exact th0
theorem th_call (h : LE a b) {q : Option (Nat × Option Nat × mm_F)} : TH a b (mm_call q pc a st mw) (mm_call q pc b st mw) := by
  rcases q with _ | ⟨n, rc, f⟩
  · exact th0
  · unfold mm_call
    refine thb ?_
    rcases f (st.take n).reverse mw with _ | ⟨r, w⟩
    · exact th0
    · exact th1 h
theorem thr {x : Option (mm_C ⊕ mm_R)} (h : LE a b) (hx : ∀ y, x = some (.inl y) → False) : TH a b x x := by
  rcases x with _ | (y | r)
  · exact th0
  · exact (hx y rfl).elim
  · exact Or.inr (Or.inr ⟨r, rfl, rfl⟩)
theorem ret_n {rt : Option FieldType} {k : Nat} {y : mm_C} : mm_ret rt k st mw = some (.inl y) → False := by
  intro h
  unfold mm_ret at h
  split at h
  · obtain ⟨-, h2⟩ := mm_bif h
    cases h2
  · cases h
  · cases h
  · cases h
end THS
section THX
variable {gf : Nat → Option (Nat × Nat)} {pf : Nat → Option (Nat × Nat × FieldType)} {mv ms : Nat → Option (Nat × Option Nat × mm_F)} {kc : Nat → Option Value} {gs : Nat → Option Value} {rf : Nat → Nat → Option Value} {ro : Nat → Option (Nat × Nat × (Nat → Int32))} {rt : Option FieldType} {nL : Nat} {ins : Nat → Option Instr}
theorem th_ex {a b : List (Nat × Value)} (h : LE a b) (i : Instr) (pc : Nat) (st : List Value) (mw : List va_E) : TH a b (mm_ex gf pf mv ms kc gs rf ro rt nL i pc a st mw) (mm_ex gf pf mv ms kc gs rf ro rt nL i pc b st mw) := by
  cases i <;> first
    | exact th0
    | exact th1 h
    | exact th_const h
    | exact th_load h
    | exact th_store h
    | exact th_iinc h
    | exact th_dup h
    | exact th_dup2 h
    | exact th_pop h
    | exact th_i2 h
    | exact th_i1 h
    | exact th_l1 h
    | exact th_l2 h
    | exact th_ls h
    | exact th_goto h
    | exact th_if h
    | exact th_icmp h
    | exact th_sw h
    | exact thb (th_sw h)
    | exact th_getf h
    | exact th_putf h
    | exact th_iald h
    | exact th_bald h
    | exact th_aald h
    | exact th_iast h
    | exact th_bast h
    | exact th_alen h
    | exact th_call h
    | exact thr h (fun y => ret_n)
theorem run_LE : ∀ {n pc : Nat} {a b : List (Nat × Value)} {st : List Value} {mw : List va_E} {r : mm_R}, LE a b → mm_run gf pf mv ms kc gs rf ro rt nL ins n (pc, a, st, mw) = some r → mm_run gf pf mv ms kc gs rf ro rt nL ins n (pc, b, st, mw) = some r
  | 0, _, _, _, _, _, _, _, hr => by cases hr
  | n + 1, pc, a, b, st, mw, r, h, hr => by
    rw [mm_run] at hr ⊢
    cases hi : ins pc with
    | none => rw [hi] at hr; cases hr
    | some i =>
      rw [hi] at hr
      simp only at hr ⊢
      rcases th_ex (gf := gf) (pf := pf) (mv := mv) (ms := ms) (kc := kc) (gs := gs) (rf := rf) (ro := ro) (rt := rt) (nL := nL) h i pc st mw with e1 | ⟨q, a', b', st', mw', e1, e2, e3⟩ | ⟨r', e1, e2⟩
      · rw [e1] at hr; cases hr
      · rw [e1] at hr
        rw [e2]
        exact run_LE e3 hr
      · rw [e1] at hr
        rw [e2]
        exact hr
theorem rn_LE {N pc : Nat} {a b : List (Nat × Value)} {st : List Value} {mw : List va_E} {Q : mm_R → Prop} (h : LE a b) (k : rn gf pf mv ms kc gs rf ro rt nL ins N (pc, a, st, mw) Q) : rn gf pf mv ms kc gs rf ro rt nL ins N (pc, b, st, mw) Q := by
  obtain ⟨r, h1, h2⟩ := k
  exact ⟨r, run_LE h h1, h2⟩
end THX
