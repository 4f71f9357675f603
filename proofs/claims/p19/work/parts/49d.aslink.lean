/-! ===== shapes that differ in what stays alone; the links of certificates ===== -/
def ab_subR (r q : ab_R) : Bool := Nat.beq r.1 q.1 && (Nat.beq r.2.1 q.2.1 && ((!r.2.2.1 || q.2.2.1) && r.2.2.2 == q.2.2.2))
def ab_subRs : List ab_R → List ab_R → Bool
  | [], [] => true
  | r :: a, q :: b => ab_subR r q && ab_subRs a b
  | _, _ => false
def ab_subF (F G : ab_F) : Bool := match F, G with
  | .inl x, .inl y => (!x.1 || y.1) && (decide (x.2.1 = y.2.1) && decide (x.2.2 = y.2.2))
  | .inr x, .inr y => x == y
  | _, _ => false
def ab_subFs : List ab_F → List ab_F → Bool
  | [], [] => true
  | r :: a, q :: b => ab_subF r q && ab_subFs a b
  | _, _ => false
def ab_subC (s c : ab_S) : Bool := match s, c with
  | .inl a, .inl b => Nat.beq a.1 b.1 && (Nat.beq a.2.1 b.2.1 && ab_subRs a.2.2 b.2.2)
  | .inr (.inl o), .inr (.inl p) => Nat.beq o.1 p.1 && ab_subFs o.2 p.2
  | .inr (.inr x), .inr (.inr y) => x == y
  | _, _ => false
def ab_sub0 : List ab_S → List ab_S → Bool
  | [], [] => true
  | r :: a, q :: b => ab_subC r q && ab_sub0 a b
  | _, _ => false
theorem as_all2 {α : Type} {p : α → α → Bool} {f : List α → List α → Bool} (h0 : ∀ b, f [] b = true → b = []) (h1 : ∀ a as b, f (a :: as) b = true → ∃ c cs, b = c :: cs ∧ p a c = true ∧ f as cs = true) : ∀ {a b : List α}, f a b = true → a.length = b.length ∧ (∀ (k : Nat) (x : α), a[k]? = some x → ∃ y, b[k]? = some y ∧ p x y = true) ∧ ∀ (k : Nat) (y : α), b[k]? = some y → ∃ x, a[k]? = some x ∧ p x y = true
  | [], b, h => by
    rw [h0 b h]
    exact ⟨rfl, fun k x hx => by simp at hx, fun k x hx => by simp at hx⟩
  | a :: as, b, h => by
    obtain ⟨c, cs, rfl, g1, g2⟩ := h1 a as b h
    obtain ⟨e1, e2, e3⟩ := as_all2 h0 h1 g2
    refine ⟨by rw [List.length_cons, List.length_cons, e1], fun k x hx => ?_, fun k y hy => ?_⟩
    · cases k with
      | zero => exact ⟨c, rfl, by have : a = x := by simpa using hx
                                  subst this; exact g1⟩
      | succ k =>
        obtain ⟨y, y1, y2⟩ := e2 k x (by simpa using hx)
        exact ⟨y, by simpa using y1, y2⟩
    · cases k with
      | zero => exact ⟨a, rfl, by have : c = y := by simpa using hy
                                  subst this; exact g1⟩
      | succ k =>
        obtain ⟨x, x1, x2⟩ := e3 k y (by simpa using hy)
        exact ⟨x, by simpa using x1, x2⟩
theorem as_subRs {a b : List ab_R} (h : ab_subRs a b = true) : (∀ r ∈ a, ∃ q ∈ b, ab_subR r q = true) ∧ ∀ q ∈ b, ∃ r ∈ a, ab_subR r q = true := by
  obtain ⟨-, e2, e3⟩ := as_all2 (p := ab_subR) (f := ab_subRs) (fun b hb => by cases b with | nil => rfl | cons => cases hb) (fun a as b hb => by
    cases b with
    | nil => cases hb
    | cons c cs =>
      have hb : (ab_subR a c && ab_subRs as cs) = true := hb
      rw [Bool.and_eq_true] at hb
      exact ⟨c, cs, rfl, hb⟩) h
  refine ⟨fun r hr => ?_, fun q hq => ?_⟩
  · obtain ⟨k, hk, e⟩ := List.mem_iff_getElem.mp hr
    obtain ⟨q, q1, q2⟩ := e2 k r (by rw [List.getElem?_eq_getElem hk, e])
    exact ⟨q, List.mem_of_getElem? q1, q2⟩
  · obtain ⟨k, hk, e⟩ := List.mem_iff_getElem.mp hq
    obtain ⟨r, r1, r2⟩ := e3 k q (by rw [List.getElem?_eq_getElem hk, e])
    exact ⟨r, List.mem_of_getElem? r1, r2⟩
theorem as_subR {r q : ab_R} (h : ab_subR r q = true) : r.1 = q.1 ∧ r.2.1 = q.2.1 ∧ (r.2.2.1 = true → q.2.2.1 = true) ∧ r.2.2.2 = q.2.2.2 := by
  unfold ab_subR at h
  simp only [Bool.and_eq_true, Bool.or_eq_true, Bool.not_eq_true', beq_iff_eq] at h
  obtain ⟨h1, h2, h3, h4⟩ := h
  refine ⟨Nat.eq_of_beq_eq_true h1, Nat.eq_of_beq_eq_true h2, fun z => ?_, h4⟩
  rcases h3 with h3 | h3
  · rw [z] at h3; cases h3
  · exact h3
theorem as_subFs {a b : List ab_F} (h : ab_subFs a b = true) : a.length = b.length ∧ (∀ (k : Nat) (x : ab_F), a[k]? = some x → ∃ y, b[k]? = some y ∧ ab_subF x y = true) ∧ ∀ (k : Nat) (y : ab_F), b[k]? = some y → ∃ x, a[k]? = some x ∧ ab_subF x y = true :=
  as_all2 (p := ab_subF) (f := ab_subFs) (fun b hb => by cases b with | nil => rfl | cons => cases hb) (fun a as b hb => by
    cases b with
    | nil => cases hb
    | cons c cs =>
      have hb : (ab_subF a c && ab_subFs as cs) = true := hb
      rw [Bool.and_eq_true] at hb
      exact ⟨c, cs, rfl, hb⟩) h
theorem as_subF {F G : ab_F} (h : ab_subF F G = true) : (∀ v, as_fok F v ↔ as_fok G v) ∧ (ab_roF F = true → ab_roF G = true) := by
  unfold ab_subF at h
  split at h
  · rename_i x y
    simp only [Bool.and_eq_true, Bool.or_eq_true, Bool.not_eq_true', decide_eq_true_eq] at h
    obtain ⟨h1, h2, h3⟩ := h
    refine ⟨fun v => ?_, fun z => ?_⟩
    · cases v with
      | int z =>
        show (x.2.1 ≤ z.toInt ∧ z.toInt ≤ x.2.2) ↔ (y.2.1 ≤ z.toInt ∧ z.toInt ≤ y.2.2)
        rw [h2, h3]
      | _ => exact Iff.rfl
    · have z : x.1 = true := z
      rcases h1 with h1 | h1
      · rw [z] at h1; cases h1
      · exact h1
  · rename_i x y
    have h : x = y := beq_iff_eq.mp h
    subst h
    exact ⟨fun _ => Iff.rfl, fun z => z⟩
  · cases h
theorem as_subC {s c : ab_S} {e : va_E} (h : ab_subC s c = true) : as_cell s e ↔ as_cell c e := by
  unfold ab_subC at h
  split at h
  · rename_i a b
    simp only [Bool.and_eq_true] at h
    obtain ⟨h1, h2, h3⟩ := h
    have h1 := Nat.eq_of_beq_eq_true h1
    have h2 := Nat.eq_of_beq_eq_true h2
    obtain ⟨k1, k2⟩ := as_subRs h3
    cases e with
    | inr x => exact Iff.rfl
    | inl x =>
      show (x.1 = a.1 ∧ x.2.1 = a.2.1 ∧ ∃ f, x.2.2 = .inl f ∧ ∀ j, j < a.2.1 → ∃ r ∈ a.2.2, as_row f j r) ↔ (x.1 = b.1 ∧ x.2.1 = b.2.1 ∧ ∃ f, x.2.2 = .inl f ∧ ∀ j, j < b.2.1 → ∃ r ∈ b.2.2, as_row f j r)
      rw [h1, h2]
      constructor
      · rintro ⟨g1, g2, f, g3, g4⟩
        refine ⟨g1, g2, f, g3, fun j hj => ?_⟩
        obtain ⟨r, r1, r2⟩ := g4 j hj
        obtain ⟨q, q1, q2⟩ := k1 r r1
        obtain ⟨w1, w2, w3, w4⟩ := as_subR q2
        refine ⟨q, q1, ?_⟩
        unfold as_row at r2 ⊢
        rw [← w1, ← w2, ← w4]
        exact r2
      · rintro ⟨g1, g2, f, g3, g4⟩
        refine ⟨g1, g2, f, g3, fun j hj => ?_⟩
        obtain ⟨r, r1, r2⟩ := g4 j hj
        obtain ⟨q, q1, q2⟩ := k2 r r1
        obtain ⟨w1, w2, w3, w4⟩ := as_subR q2
        refine ⟨q, q1, ?_⟩
        unfold as_row at r2 ⊢
        rw [w1, w2, w4]
        exact r2
  · rename_i o p
    rw [Bool.and_eq_true] at h
    have h1 := Nat.eq_of_beq_eq_true h.1
    obtain ⟨h2, h3, h4⟩ := as_subFs h.2
    cases e with
    | inl x => exact Iff.rfl
    | inr x =>
      show (x.1 = o.1 ∧ x.2.length = o.2.length ∧ ∀ (j : Nat) (F : ab_F), o.2[j]? = some F → ∃ v, x.2[j]? = some v ∧ as_fok F v) ↔ (x.1 = p.1 ∧ x.2.length = p.2.length ∧ ∀ (j : Nat) (F : ab_F), p.2[j]? = some F → ∃ v, x.2[j]? = some v ∧ as_fok F v)
      rw [h1, h2]
      constructor
      · rintro ⟨g1, g2, g3⟩
        refine ⟨g1, g2, fun j F hF => ?_⟩
        obtain ⟨G, G1, G2⟩ := h4 j F hF
        obtain ⟨v, v1, v2⟩ := g3 j G G1
        exact ⟨v, v1, ((as_subF G2).1 v).mp v2⟩
      · rintro ⟨g1, g2, g3⟩
        refine ⟨g1, g2, fun j F hF => ?_⟩
        obtain ⟨G, G1, G2⟩ := h3 j F hF
        obtain ⟨v, v1, v2⟩ := g3 j G G1
        exact ⟨v, v1, ((as_subF G2).1 v).mpr v2⟩
  · rename_i x y
    have h : x = y := beq_iff_eq.mp h
    subst h
    exact Iff.rfl
  · cases h
theorem as_Sub.mk {sh sc : List ab_S} (h : ab_sub0 sh sc = true) : as_Sub sh sc := by
  obtain ⟨h1, h2, h3⟩ := as_all2 (p := ab_subC) (f := ab_sub0) (fun b hb => by cases b with | nil => rfl | cons => cases hb) (fun a as b hb => by
    cases b with
    | nil => cases hb
    | cons c cs =>
      have hb : (ab_subC a c && ab_sub0 as cs) = true := hb
      rw [Bool.and_eq_true] at hb
      exact ⟨c, cs, rfl, hb⟩) h
  refine ⟨fun mw hm => ⟨hm.1.trans h1, fun k s hs => ?_⟩, fun mw hm => ⟨hm.1.trans h1.symm, fun k s hs => ?_⟩, fun m1 m2 hf => ⟨fun k a ha r hr hb j j1 j2 => ?_, fun k j F hF hb => ?_⟩⟩
  · obtain ⟨c, c1, c2⟩ := h3 k s hs
    obtain ⟨e, e1, e2⟩ := hm.2 k c c1
    exact ⟨e, e1, (as_subC c2).mp e2⟩
  · obtain ⟨c, c1, c2⟩ := h2 k s hs
    obtain ⟨e, e1, e2⟩ := hm.2 k c c1
    exact ⟨e, e1, (as_subC c2).mpr e2⟩
  · unfold ab_arr at ha
    split at ha
    · rename_i z hz
      have ha := Option.some.inj ha
      subst ha
      obtain ⟨c, c1, c2⟩ := h2 k _ hz
      cases c with
      | inr c => cases c2
      | inl b =>
        have c2 : (Nat.beq z.1 b.1 && (Nat.beq z.2.1 b.2.1 && ab_subRs z.2.2 b.2.2)) = true := c2
        rw [Bool.and_eq_true, Bool.and_eq_true] at c2
        obtain ⟨q, q1, q2⟩ := (as_subRs c2.2.2).1 r hr
        obtain ⟨w1, w2, w3, w4⟩ := as_subR q2
        exact hf.1 k b (by unfold ab_arr; rw [c1]) q q1 (w3 hb) j (by rw [← w1]; exact j1) (by rw [← w2]; exact j2)
    · cases ha
  · unfold ab_fs at hF
    split at hF
    · rename_i z hz
      obtain ⟨c, c1, c2⟩ := h2 k _ hz
      cases c with
      | inl b => cases c2
      | inr c =>
        cases c with
        | inr b => cases c2
        | inl b =>
          have c2 : (Nat.beq z.1 b.1 && ab_subFs z.2 b.2) = true := c2
          rw [Bool.and_eq_true] at c2
          obtain ⟨-, h4, -⟩ := as_subFs c2.2
          obtain ⟨G, G1, G2⟩ := h4 j F hF
          exact hf.2 k j G (by unfold ab_fs; rw [c1]; exact G1) ((as_subF G2).2 hb)
    · cases hF
theorem as_Sum.up {sh sc : List ab_S} {q : ab_Q} {f : mm_F} (hs : as_Sub sh sc) (h : as_Sum sc q f) : as_Sum sh q f := by
  intro vs mw hH hX hA hF
  obtain ⟨r, mw', r1, r2, r3, r4⟩ := h vs mw (hs.1 mw hH) hX hA hF
  exact ⟨r, mw', r1, hs.2.1 _ r2, hs.2.2 _ _ r3, r4⟩
theorem as_LV.mk {sh : List ab_S} {mv : Nat → Option (Nat × Option Nat × mm_F)} {L : List (Nat × Nat × Nat × List ab_Q)} (h : ∀ x ∈ L, ∃ f, mv x.1 = some (x.2.1, some x.2.2.1, f) ∧ ∀ q ∈ x.2.2.2, as_Sum sh q f) : as_LV sh (ab_qv L) mv := by
  intro n m ci Qs hq
  unfold ab_qv at hq
  cases hf : L.find? (fun q => Nat.beq q.1 n) with
  | none => rw [hf] at hq; cases hq
  | some x =>
    rw [hf] at hq
    have e1 : x.2 = (m, ci, Qs) := Option.some.inj hq
    have e2 : x.1 = n := Nat.eq_of_beq_eq_true (by have z := List.find?_some hf; exact z)
    have := h x (List.mem_of_find?_eq_some hf)
    rw [e1, e2] at this
    exact this
theorem as_LS.mk {sh : List ab_S} {ms : Nat → Option (Nat × Option Nat × mm_F)} {L : List (Nat × Nat × List ab_Q)} (h : ∀ x ∈ L, ∃ f, ms x.1 = some (x.2.1, none, f) ∧ ∀ q ∈ x.2.2, as_Sum sh q f) : as_LS sh (ab_qs L) ms := by
  intro n m Qs hq
  unfold ab_qs at hq
  cases hf : L.find? (fun q => Nat.beq q.1 n) with
  | none => rw [hf] at hq; cases hq
  | some x =>
    rw [hf] at hq
    have e1 : x.2 = (m, Qs) := Option.some.inj hq
    have e2 : x.1 = n := Nat.eq_of_beq_eq_true (by have z := List.find?_some hf; exact z)
    have := h x (List.mem_of_find?_eq_some hf)
    rw [e1, e2] at this
    exact this
theorem as_ac0 {ms : Nat → Option (Nat × Option Nat × mm_F)} : ∀ n, (fun _ : Nat => false) n = true → ms n = some (5, none, mm_acp) := fun n h => by cases h
theorem as_ac1 {ms : Nat → Option (Nat × Option Nat × mm_F)} {k : Nat} (h : ms k = some (5, none, mm_acp)) : ∀ n, (fun n => Nat.beq n k) n = true → ms n = some (5, none, mm_acp) := fun n hn => by rw [Nat.eq_of_beq_eq_true (hn : Nat.beq n k = true)]; exact h
