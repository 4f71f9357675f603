/-! ===== the world, whole, all cells by name ===== -/
def dW (rt : Int) (la : Int) (rs : Int) (rg : Int) (pd : Nat → Int32) (du : Nat → Int32) (ds : Nat → Int32) (me : Nat → Int32) (tt : Nat → Int32) (gr : Nat → Int32) (su : Nat → Int32) (gp : Nat → Int32) (mk : Int64) (rf : Nat → Option Nat) (m1 : Nat → Int32) (m2 : Nat → Int32) (m3 : Nat → Int32) (m4 : Nat → Int32) (m5 : Nat → Int32) (mr : Int) (mf : Int) (n1 : Nat → Int32) (n2 : Nat → Int32) (n3 : Nat → Int32) (n4 : Nat → Int32) (n5 : Nat → Int32) (nr : Int) (nf : Int) (E : List va_E) : List va_E := .inr (2, [.ref 4]) :: .inr (3, [.ref 4, iv rt]) :: .inr (9, [.ref 4, .ref 32, .ref 33, .ref 34, .ref 35, iv la, iv rs, iv rg]) :: .inl (0, 5226, .inl pd) :: .inl (0, 26, .inl du) :: .inl (0, 8, .inl ds) :: .inl (0, 8, .inl me) :: .inr (1, [.ref 4, .ref 37, .ref 38]) :: .inl (0, 8, .inl tt) :: .inl (0, 8, .inl gr) :: .inr (6, [.ref 4, .ref 40, .ref 41]) :: .inl (0, 256, .inl su) :: .inl (0, 256, .inl gp) :: .inr (4, [.ref 4, .long mk]) :: .inl (3, 2, .inr (.inr (.inr (.inr rf)))) :: .inr (5, [.ref 45, .ref 46, .ref 47, .ref 48, .ref 49, iv mr, iv mf]) :: .inl (0, 10, .inl m1) :: .inl (0, 16, .inl m2) :: .inl (0, 16, .inl m3) :: .inl (0, 64, .inl m4) :: .inl (0, 8, .inl m5) :: .inr (5, [.ref 51, .ref 52, .ref 53, .ref 54, .ref 55, iv nr, iv nf]) :: .inl (0, 10, .inl n1) :: .inl (0, 16, .inl n2) :: .inl (0, 16, .inl n3) :: .inl (0, 64, .inl n4) :: .inl (0, 8, .inl n5) :: E
def GW (ki : Int) (ln : Int) (bt : Nat → Int32) (rl : Value) (cp : Int) (cs : Int) (ct : Int) (cv : Int) (rr : Nat) (dr : Nat) (ja : Int) (ea : Int) (ma : Int) (a1 : Nat → Int32) (a2 : Nat → Int32) (a3 : Nat → Int32) (a4 : Nat → Int32) (a5 : Nat → Int32) (a6 : Nat → Int32) (a7 : Nat → Int32) (a8 : Nat → Int32) (jb : Int) (eb : Int) (mb : Int) (b1 : Nat → Int32) (b2 : Nat → Int32) (b3 : Nat → Int32) (b4 : Nat → Int32) (b5 : Nat → Int32) (b6 : Nat → Int32) (b7 : Nat → Int32) (b8 : Nat → Int32) (re : Int) (fl : Int) (g1 : Nat → Int32) (g2 : Nat → Int32) (g3 : Nat → Int32) (g4 : Nat → Int32) (g5 : Nat → Int32) (rt : Int) (la : Int) (rs : Int) (rg : Int) (pd : Nat → Int32) (du : Nat → Int32) (ds : Nat → Int32) (me : Nat → Int32) (tt : Nat → Int32) (gr : Nat → Int32) (su : Nat → Int32) (gp : Nat → Int32) (mk : Int64) (rf : Nat → Option Nat) (m1 : Nat → Int32) (m2 : Nat → Int32) (m3 : Nat → Int32) (m4 : Nat → Int32) (m5 : Nat → Int32) (mr : Int) (mf : Int) (n1 : Nat → Int32) (n2 : Nat → Int32) (n3 : Nat → Int32) (n4 : Nat → Int32) (n5 : Nat → Int32) (nr : Int) (nf : Int) (th : Int) (tr : Int64) (db : Int) (sn : Int) (dm : Int) (sm : Int) (ty : Int) (nx : Int) (tk : Int) (pl : Int) (va : Int) (fa : Int) (lr : Int) (ri : Int) (s : Nat → Int32) (kp : Nat → Int32) (ik : Nat → Int32) (tn : Nat → Int32) (de : Nat → Int32) (sd : Nat → Int32) (dd : Nat → Int32) (sr : Nat → Int32) (tx : Nat → Int32) (pa : Nat → Int32) : List va_E := (cW ki ln bt rl cp cs ct cv rr dr ja ea ma a1 a2 a3 a4 a5 a6 a7 a8 jb eb mb b1 b2 b3 b4 b5 b6 b7 b8 re fl g1 g2 g3 g4 g5 (dW rt la rs rg pd du ds me tt gr su gp mk rf m1 m2 m3 m4 m5 mr mf n1 n2 n3 n4 n5 nr nf (rL (ro_ th tr db sn dm sm ty nx tk pl va fa lr ri) s kp ik tn de sd dd sr tx pa)))
def shf (v : Bool) : List ab_S := bif v then sh1 else sh0
theorem lst_eq {α : Type} {F E : List α} (h : F.length = E.length) (hk : ∀ j, j < E.length → F[j]? = E[j]?) : F = E := by
  apply List.ext_getElem?
  intro j
  rcases Nat.lt_or_ge j E.length with q | q
  · exact hk j q
  · rw [List.getElem?_eq_none q, List.getElem?_eq_none (by omega)]
theorem hi_app {A B : List ab_S} {X Y : List va_E} (h1 : as_HI A X) (h2 : as_HI B Y) : as_HI (A ++ B) (X ++ Y) := by
  refine ⟨by rw [List.length_append, List.length_append, h1.1, h2.1], fun k s hs => ?_⟩
  rcases Nat.lt_or_ge k A.length with q | q
  · rw [List.getElem?_append_left q] at hs
    rw [List.getElem?_append_left (by rw [h1.1]; exact q)]
    exact h1.2 k s hs
  · rw [List.getElem?_append_right q] at hs
    rw [List.getElem?_append_right (by rw [h1.1]; exact q), h1.1]
    exact h2.2 _ s hs
theorem hi_nil : as_HI [] [] := ⟨rfl, fun k s h => by simp at h⟩
theorem hi_cons {c : ab_S} {A : List ab_S} {e : va_E} {X : List va_E} (h : as_cell c e) (h2 : as_HI A X) : as_HI (c :: A) (e :: X) := hi_app (A := [c]) (X := [e]) ⟨rfl, fun k s hs => by
  cases k with
  | zero => exact ⟨e, rfl, by have : c = s := by simpa using hs
                              subst this; exact h⟩
  | succ k => simp at hs⟩ h2
/-- one row -/
theorem row1 {f : Nat → Int32} {n a b : Nat} {c : Bool} {lo hi : Int} (h : ∀ j, j < n → ∃ r ∈ [((a, b, c, [(lo, hi)]) : ab_R)], as_row f j r) : ∀ j, j < n → i7 (f j) lo hi := by
  intro j hj
  obtain ⟨r, hr, h1, h2, sp, h3, h4⟩ := h j hj
  obtain rfl := List.mem_singleton.mp hr
  have e : j % ([(lo, hi)] : List (Int × Int)).length = 0 := Nat.mod_one j
  have h3 : ([(lo, hi)] : List (Int × Int))[j % ([(lo, hi)] : List (Int × Int)).length]? = some sp := h3
  rw [e] at h3
  have h3 : (lo, hi) = sp := Option.some.inj h3
  subst h3
  exact h4
theorem row1' {f : Nat → Int32} {n b : Nat} {c : Bool} {lo hi : Int} (hb : n ≤ b + 1) (h : ∀ j, j < n → i7 (f j) lo hi) : ∀ j, j < n → ∃ r ∈ [((0, b, c, [(lo, hi)]) : ab_R)], as_row f j r := by
  intro j hj
  refine ⟨_, List.mem_singleton.mpr rfl, Nat.zero_le _, by show j ≤ b; omega, (lo, hi), ?_, h j hj⟩
  show ([(lo, hi)] : List (Int × Int))[j % ([(lo, hi)] : List (Int × Int)).length]? = _
  rw [show j % ([(lo, hi)] : List (Int × Int)).length = 0 from Nat.mod_one j]
  rfl
theorem i7_top (x : Int32) : i7 x (-2147483648) 2147483647 := ⟨as_lo x, as_hi x⟩
/-- a row of residues -/
theorem rowN {f : Nat → Int32} {n a b : Nat} {c : Bool} {L : List (Int × Int)} (h : ∀ j, j < n → ∃ r ∈ [((a, b, c, L) : ab_R)], as_row f j r) (i q : Nat) (hq : q < L.length) (hi : L.length * i + q < n) : i7 (f (L.length * i + q)) (L[q]).1 (L[q]).2 := by
  obtain ⟨r, hr, h1, h2, sp, h3, h4⟩ := h _ hi
  obtain rfl := List.mem_singleton.mp hr
  have h3 : L[(L.length * i + q) % L.length]? = some sp := h3
  rw [Nat.mul_add_mod, Nat.mod_eq_of_lt hq, List.getElem?_eq_getElem hq] at h3
  have h3 := Option.some.inj h3
  rw [h3]
  exact h4
theorem rowN' {f : Nat → Int32} {n b : Nat} {c : Bool} {L : List (Int × Int)} (hb : n ≤ b + 1) (hL : 0 < L.length) (h : ∀ (i q : Nat) (hq : q < L.length), L.length * i + q < n → i7 (f (L.length * i + q)) (L[q]).1 (L[q]).2) : ∀ j, j < n → ∃ r ∈ [((0, b, c, L) : ab_R)], as_row f j r := by
  intro j hj
  have hq : j % L.length < L.length := Nat.mod_lt _ hL
  have e : L.length * (j / L.length) + j % L.length = j := Nat.div_add_mod j L.length
  have := h (j / L.length) (j % L.length) hq (by omega)
  rw [e] at this
  exact ⟨_, List.mem_singleton.mpr rfl, Nat.zero_le _, by show j ≤ b; omega, L[j % L.length], List.getElem?_eq_getElem hq, this⟩
/-- the state's rows -/
def RS (s : Nat → Int32) : Prop := (∀ j, j < 10 → i7 (s j) 0 999) ∧ ∀ j, 122 ≤ j → j ≤ 129 → i7 (s j) 0 9999
abbrev row57 : List ab_R := [(0, 9, true, [(0, 999)]), (10, 121, true, [((-2147483648), 2147483647)]), (122, 129, true, [(0, 9999)]), (130, 130, true, [((-2147483648), 2147483647)])]
theorem as_row1 {f : Nat → Int32} {j a b : Nat} {c : Bool} {lo hi : Int} (h1 : a ≤ j) (h2 : j ≤ b) (h : i7 (f j) lo hi) : as_row f j (a, b, c, [(lo, hi)]) := by
  refine ⟨h1, h2, (lo, hi), ?_, h⟩
  show ([(lo, hi)] : List (Int × Int))[j % ([(lo, hi)] : List (Int × Int)).length]? = _
  rw [show j % ([(lo, hi)] : List (Int × Int)).length = 0 from Nat.mod_one j]
  rfl
theorem as_row1' {f : Nat → Int32} {j a b : Nat} {c : Bool} {lo hi : Int} (h : as_row f j (a, b, c, [(lo, hi)])) : a ≤ j ∧ j ≤ b ∧ i7 (f j) lo hi := by
  obtain ⟨h1, h2, sp, h3, h4⟩ := h
  have h3 : ([(lo, hi)] : List (Int × Int))[j % ([(lo, hi)] : List (Int × Int)).length]? = some sp := h3
  rw [show j % ([(lo, hi)] : List (Int × Int)).length = 0 from Nat.mod_one j] at h3
  have h3 : (lo, hi) = sp := Option.some.inj h3
  subst h3
  exact ⟨h1, h2, h4⟩
theorem RS_of {s : Nat → Int32} (h : ∀ j, j < 131 → ∃ r ∈ row57, as_row s j r) : RS s := by
  refine ⟨fun j hj => ?_, fun j h1 h2 => ?_⟩
  · obtain ⟨r, hr, hx⟩ := h j (by omega)
    simp only [row57, List.mem_cons, List.not_mem_nil, or_false] at hr
    rcases hr with rfl | rfl | rfl | rfl
    · exact (as_row1' hx).2.2
    · have := as_row1' hx; omega
    · have := as_row1' hx; omega
    · have := as_row1' hx; omega
  · obtain ⟨r, hr, hx⟩ := h j (by omega)
    simp only [row57, List.mem_cons, List.not_mem_nil, or_false] at hr
    rcases hr with rfl | rfl | rfl | rfl
    · have := as_row1' hx; omega
    · have := as_row1' hx; omega
    · exact (as_row1' hx).2.2
    · have := as_row1' hx; omega
theorem RS_to {s : Nat → Int32} (h : RS s) : ∀ j, j < 131 → ∃ r ∈ row57, as_row s j r := by
  intro j hj
  by_cases h1 : j < 10
  · exact ⟨_, List.mem_cons_self, as_row1 (Nat.zero_le _) (by omega) (h.1 j h1)⟩
  · by_cases h2 : j < 122
    · exact ⟨_, List.mem_cons_of_mem _ List.mem_cons_self, as_row1 (by omega) (by omega) (i7_top _)⟩
    · by_cases h3 : j < 130
      · exact ⟨_, List.mem_cons_of_mem _ (List.mem_cons_of_mem _ List.mem_cons_self), as_row1 (by omega) (by omega) (h.2 j (by omega) (by omega))⟩
      · exact ⟨_, List.mem_cons_of_mem _ (List.mem_cons_of_mem _ (List.mem_cons_of_mem _ List.mem_cons_self)), as_row1 (by omega) (by omega) (i7_top _)⟩
def SDr (sd : Nat → Int32) : Prop := ∀ i : Nat, i < 16 → i7 (sd (5 * i)) 0 7 ∧ i7 (sd (5 * i + 1)) 0 9 ∧ i7 (sd (5 * i + 2)) 0 3 ∧ i7 (sd (5 * i + 3)) (-9) 15
def DEr (de : Nat → Int32) : Prop := ∀ i : Nat, i < 10 → i7 (de (3 * i)) 0 7 ∧ i7 (de (3 * i + 1)) 0 7 ∧ i7 (de (3 * i + 2)) 0 999
abbrev row61 : List ab_R := [(0, 29, true, [(0, 7), (0, 7), (0, 999)])]
abbrev row62 : List ab_R := [(0, 79, true, [(0, 7), (0, 9), (0, 3), ((-9), 15), ((-2147483648), 2147483647)])]
theorem DE_of {f : Nat → Int32} (h : ∀ j, j < 30 → ∃ r ∈ row61, as_row f j r) : DEr f := fun i hi => ⟨rowN (L := [(0, 7), (0, 7), (0, 999)]) h i 0 (by decide) (by show 3 * i + 0 < 30; omega), rowN (L := [(0, 7), (0, 7), (0, 999)]) h i 1 (by decide) (by show 3 * i + 1 < 30; omega), rowN (L := [(0, 7), (0, 7), (0, 999)]) h i 2 (by decide) (by show 3 * i + 2 < 30; omega)⟩
theorem SD_of {f : Nat → Int32} (h : ∀ j, j < 80 → ∃ r ∈ row62, as_row f j r) : SDr f := fun i hi => ⟨rowN (L := [(0, 7), (0, 9), (0, 3), ((-9), 15), ((-2147483648), 2147483647)]) h i 0 (by decide) (by show 5 * i + 0 < 80; omega), rowN (L := [(0, 7), (0, 9), (0, 3), ((-9), 15), ((-2147483648), 2147483647)]) h i 1 (by decide) (by show 5 * i + 1 < 80; omega), rowN (L := [(0, 7), (0, 9), (0, 3), ((-9), 15), ((-2147483648), 2147483647)]) h i 2 (by decide) (by show 5 * i + 2 < 80; omega), rowN (L := [(0, 7), (0, 9), (0, 3), ((-9), 15), ((-2147483648), 2147483647)]) h i 3 (by decide) (by show 5 * i + 3 < 80; omega)⟩
theorem DE_to {f : Nat → Int32} (h : DEr f) : ∀ j, j < 30 → ∃ r ∈ row61, as_row f j r := rowN' (L := [(0, 7), (0, 7), (0, 999)]) (by decide) (by decide) (fun i q hq hn => by
  have hn : 3 * i + q < 30 := hn
  have hq : q < 3 := hq
  obtain ⟨h0, h1, h2⟩ := h i (by omega)
  match q, hq with
  | 0, _ => exact h0
  | 1, _ => exact h1
  | 2, _ => exact h2)
theorem SD_to {f : Nat → Int32} (h : SDr f) : ∀ j, j < 80 → ∃ r ∈ row62, as_row f j r := rowN' (L := [(0, 7), (0, 9), (0, 3), ((-9), 15), ((-2147483648), 2147483647)]) (by decide) (by decide) (fun i q hq hn => by
  have hn : 5 * i + q < 80 := hn
  have hq : q < 5 := hq
  obtain ⟨h0, h1, h2, h3⟩ := h i (by omega)
  match q, hq with
  | 0, _ => exact h0
  | 1, _ => exact h1
  | 2, _ => exact h2
  | 3, _ => exact h3
  | 4, _ => exact i7_top _)
theorem ca_obj {ci : Nat} {S : List ab_F} {F : List Value} (hl : F.length = S.length) (h : ∀ (j : Nat) (G : ab_F), S[j]? = some G → ∃ v, F[j]? = some v ∧ as_fok G v) : as_cell (.inr (.inl (ci, S))) (.inr (ci, F)) := ⟨rfl, hl, h⟩
theorem ca_arr {t n : Nat} {rs : List ab_R} {f : Nat → Int32} (h : ∀ j, j < n → ∃ r ∈ rs, as_row f j r) : as_cell (.inl (t, n, rs)) (.inl (t, n, .inl f)) := ⟨rfl, rfl, f, rfl, h⟩
theorem ca_nil : ∀ (j : Nat) (G : ab_F), ([] : List ab_F)[j]? = some G → ∃ v, ([] : List Value)[j]? = some v ∧ as_fok G v := fun j G h => by simp at h
theorem ca_cons {G : ab_F} {S : List ab_F} {v : Value} {F : List Value} (h : as_fok G v) (h2 : ∀ (j : Nat) (G : ab_F), S[j]? = some G → ∃ v, F[j]? = some v ∧ as_fok G v) : ∀ (j : Nat) (G' : ab_F), (G :: S)[j]? = some G' → ∃ w, (v :: F)[j]? = some w ∧ as_fok G' w := fun j G' hj => by
  cases j with
  | zero => exact ⟨v, rfl, by have : G = G' := by simpa using hj
                              subst this; exact h⟩
  | succ j => exact h2 j G' (by simpa using hj)
theorem fo_i {b : Bool} {lo hi z : Int} (h : lo ≤ z ∧ z ≤ hi) (h0 : -2147483648 ≤ lo) (h1 : hi ≤ 2147483647) : as_fok (.inl (b, lo, hi)) (iv z) := by
  have e : (Int32.ofInt z).toInt = z := iv_to ⟨by omega, by omega⟩
  show lo ≤ (Int32.ofInt z).toInt ∧ (Int32.ofInt z).toInt ≤ hi
  rw [e]
  exact h
theorem fo_r {k : Nat} : as_fok (.inr (some (some k))) (.ref k) := rfl
theorem fo_t {b : Bool} {z : Int} : as_fok (.inl (b, (-2147483648), 2147483647)) (iv z) := ⟨as_lo _, as_hi _⟩
def CLx (ln : Int) (bt : Nat → Int32) (ea ma eb mb : Int) (a1 a2 a3 a4 a5 a6 a7 b1 b2 b3 b4 b5 b6 b7 : Nat → Int32) : Prop := (0 ≤ ln ∧ ln ≤ 400) ∧ (∀ j, j < 400 → i7 (bt j) (-128) 127) ∧ (0 ≤ ea ∧ ea ≤ 10) ∧ (0 ≤ ma ∧ ma ≤ 16) ∧ (0 ≤ eb ∧ eb ≤ 10) ∧ (0 ≤ mb ∧ mb ≤ 16) ∧ ARd a1 a2 a3 ∧ ARs a4 a5 a6 a7 ∧ ARd b1 b2 b3 ∧ ARs b4 b5 b6 b7
def RFx (db sn ty va lr : Int) (s ik de sd pa : Nat → Int32) : Prop := (0 ≤ db ∧ db ≤ 10) ∧ (0 ≤ sn ∧ sn ≤ 16) ∧ (0 ≤ ty ∧ ty ≤ 400) ∧ (-2147483648 ≤ va ∧ va ≤ 2147483647) ∧ (0 ≤ lr ∧ lr ≤ 200) ∧ RS s ∧ (∀ j, j < 2 → i7 (ik j) 0 1) ∧ DEr de ∧ SDr sd ∧ ∀ j, j < 5226 → i7 (pa j) 0 999
def FH (v : Bool) (rr dr : Nat) (la : Int) (rf : Nat → Option Nat) (ln : Int) (bt : Nat → Int32) (ea : Int) (ma : Int) (eb : Int) (mb : Int) (a1 : Nat → Int32) (a2 : Nat → Int32) (a3 : Nat → Int32) (a4 : Nat → Int32) (a5 : Nat → Int32) (a6 : Nat → Int32) (a7 : Nat → Int32) (b1 : Nat → Int32) (b2 : Nat → Int32) (b3 : Nat → Int32) (b4 : Nat → Int32) (b5 : Nat → Int32) (b6 : Nat → Int32) (b7 : Nat → Int32) (db : Int) (sn : Int) (ty : Int) (va : Int) (lr : Int) (s : Nat → Int32) (ik : Nat → Int32) (de : Nat → Int32) (sd : Nat → Int32) (pa : Nat → Int32) : Prop := ((0 ≤ la ∧ la ≤ 200) ∧ rf 0 = some 44 ∧ rf 1 = some 50) ∧ (rr = (bif v then 14 else 5) ∧ dr = (bif v then 5 else 14)) ∧ CLx ln bt ea ma eb mb a1 a2 a3 a4 a5 a6 a7 b1 b2 b3 b4 b5 b6 b7 ∧ RFx db sn ty va lr s ik de sd pa
section GWS
variable {ki : Int} {ln : Int} {bt : Nat → Int32} {rl : Value} {cp : Int} {cs : Int} {ct : Int} {cv : Int} {rr : Nat} {dr : Nat} {ja : Int} {ea : Int} {ma : Int} {a1 : Nat → Int32} {a2 : Nat → Int32} {a3 : Nat → Int32} {a4 : Nat → Int32} {a5 : Nat → Int32} {a6 : Nat → Int32} {a7 : Nat → Int32} {a8 : Nat → Int32} {jb : Int} {eb : Int} {mb : Int} {b1 : Nat → Int32} {b2 : Nat → Int32} {b3 : Nat → Int32} {b4 : Nat → Int32} {b5 : Nat → Int32} {b6 : Nat → Int32} {b7 : Nat → Int32} {b8 : Nat → Int32} {re : Int} {fl : Int} {g1 : Nat → Int32} {g2 : Nat → Int32} {g3 : Nat → Int32} {g4 : Nat → Int32} {g5 : Nat → Int32} {rt : Int} {la : Int} {rs : Int} {rg : Int} {pd : Nat → Int32} {du : Nat → Int32} {ds : Nat → Int32} {me : Nat → Int32} {tt : Nat → Int32} {gr : Nat → Int32} {su : Nat → Int32} {gp : Nat → Int32} {mk : Int64} {rf : Nat → Option Nat} {m1 : Nat → Int32} {m2 : Nat → Int32} {m3 : Nat → Int32} {m4 : Nat → Int32} {m5 : Nat → Int32} {mr : Int} {mf : Int} {n1 : Nat → Int32} {n2 : Nat → Int32} {n3 : Nat → Int32} {n4 : Nat → Int32} {n5 : Nat → Int32} {nr : Int} {nf : Int} {th : Int} {tr : Int64} {db : Int} {sn : Int} {dm : Int} {sm : Int} {ty : Int} {nx : Int} {tk : Int} {pl : Int} {va : Int} {fa : Int} {lr : Int} {ri : Int} {s : Nat → Int32} {kp : Nat → Int32} {ik : Nat → Int32} {tn : Nat → Int32} {de : Nat → Int32} {sd : Nat → Int32} {dd : Nat → Int32} {sr : Nat → Int32} {tx : Nat → Int32} {pa : Nat → Int32}
theorem GW_R : (GW ki ln bt rl cp cs ct cv rr dr ja ea ma a1 a2 a3 a4 a5 a6 a7 a8 jb eb mb b1 b2 b3 b4 b5 b6 b7 b8 re fl g1 g2 g3 g4 g5 rt la rs rg pd du ds me tt gr su gp mk rf m1 m2 m3 m4 m5 mr mf n1 n2 n3 n4 n5 nr nf th tr db sn dm sm ty nx tk pl va fa lr ri s kp ik tn de sd dd sr tx pa) = (cW ki ln bt rl cp cs ct cv rr dr ja ea ma a1 a2 a3 a4 a5 a6 a7 a8 jb eb mb b1 b2 b3 b4 b5 b6 b7 b8 re fl g1 g2 g3 g4 g5 (dW rt la rs rg pd du ds me tt gr su gp mk rf m1 m2 m3 m4 m5 mr mf n1 n2 n3 n4 n5 nr nf [])) ++ (rL (ro_ th tr db sn dm sm ty nx tk pl va fa lr ri) s kp ik tn de sd dd sr tx pa) := rfl
theorem GW_len : (cW ki ln bt rl cp cs ct cv rr dr ja ea ma a1 a2 a3 a4 a5 a6 a7 a8 jb eb mb b1 b2 b3 b4 b5 b6 b7 b8 re fl g1 g2 g3 g4 g5 (dW rt la rs rg pd du ds me tt gr su gp mk rf m1 m2 m3 m4 m5 mr mf n1 n2 n3 n4 n5 nr nf [])).length = 56 := rfl
theorem ca_rf {rf : Nat → Option Nat} (h : rf 0 = some 44 ∧ rf 1 = some 50) : as_cell (.inr (.inr [44, 50])) (.inl (3, 2, .inr (.inr (.inr (.inr rf))))) := ⟨rfl, rfl, rf, rfl, fun j k hk => by
  match j, hk with
  | 0, hk => cases hk; exact h.1
  | 1, hk => cases hk; exact h.2
  | j + 2, hk => simp at hk⟩
def hd0_ : List ab_S := [.inr (.inl (11, [.inr (some (some 1)), .inr (some (some 3)), .inr (some (some 4)), .inr (some (some 29)), .inr (some (some 30)), .inr (some (some 31)), .inr (some (some 36)), .inr (some (some 39)), .inr (some (some 42)), .inr (some (some 43)), .inl (true, (-2147483648), 2147483647)])),
  .inr (.inl (10, [.inr (some (some 2)), .inl (true, 0, 400)])),
  .inl (1, 400, [(0, 399, true, [((-128), 127)])]),
  .inr (.inl (7, [.inr (some (some 1)), .inr none, .inl (true, (-2147483648), 2147483647), .inl (true, (-2147483648), 2147483647), .inl (true, (-2147483648), 2147483647), .inl (true, (-2147483648), 2147483647)])),
  .inr (.inl (0, [.inr (some (some 5)), .inr (some (some 14)), .inr (some (some 23))])),
  .inr (.inl (8, [.inl (true, (-2147483648), 2147483647), .inl (true, 0, 10), .inl (true, 0, 16), .inr (some (some 6)), .inr (some (some 7)), .inr (some (some 8)), .inr (some (some 9)), .inr (some (some 10)), .inr (some (some 11)), .inr (some (some 12)), .inr (some (some 13))])),
  .inl (0, 10, [(0, 9, true, [(0, 7)])]),
  .inl (0, 10, [(0, 9, true, [(0, 7)])]),
  .inl (0, 10, [(0, 9, true, [(0, 999)])]),
  .inl (0, 16, [(0, 15, true, [(0, 7)])]),
  .inl (0, 16, [(0, 15, true, [(0, 9)])]),
  .inl (0, 16, [(0, 15, true, [(0, 3)])]),
  .inl (0, 16, [(0, 15, true, [((-9), 15)])]),
  .inl (0, 16, [(0, 15, true, [((-2147483648), 2147483647)])]),
  .inr (.inl (8, [.inl (true, (-2147483648), 2147483647), .inl (true, 0, 10), .inl (true, 0, 16), .inr (some (some 15)), .inr (some (some 16)), .inr (some (some 17)), .inr (some (some 18)), .inr (some (some 19)), .inr (some (some 20)), .inr (some (some 21)), .inr (some (some 22))])),
  .inl (0, 10, [(0, 9, true, [(0, 7)])]),
  .inl (0, 10, [(0, 9, true, [(0, 7)])]),
  .inl (0, 10, [(0, 9, true, [(0, 999)])]),
  .inl (0, 16, [(0, 15, true, [(0, 7)])]),
  .inl (0, 16, [(0, 15, true, [(0, 9)])]),
  .inl (0, 16, [(0, 15, true, [(0, 3)])]),
  .inl (0, 16, [(0, 15, true, [((-9), 15)])]),
  .inl (0, 16, [(0, 15, true, [((-2147483648), 2147483647)])]),
  .inr (.inl (5, [.inr (some (some 24)), .inr (some (some 25)), .inr (some (some 26)), .inr (some (some 27)), .inr (some (some 28)), .inl (true, (-2147483648), 2147483647), .inl (true, (-2147483648), 2147483647)])),
  .inl (0, 10, [(0, 9, true, [((-2147483648), 2147483647)])]),
  .inl (0, 16, [(0, 15, true, [((-2147483648), 2147483647)])]),
  .inl (0, 16, [(0, 15, true, [((-2147483648), 2147483647)])]),
  .inl (0, 64, [(0, 63, true, [((-2147483648), 2147483647)])]),
  .inl (0, 8, [(0, 7, true, [((-2147483648), 2147483647)])])]
def hd1_ : List ab_S := [.inr (.inl (11, [.inr (some (some 1)), .inr (some (some 3)), .inr (some (some 4)), .inr (some (some 29)), .inr (some (some 30)), .inr (some (some 31)), .inr (some (some 36)), .inr (some (some 39)), .inr (some (some 42)), .inr (some (some 43)), .inl (true, (-2147483648), 2147483647)])),
  .inr (.inl (10, [.inr (some (some 2)), .inl (true, 0, 400)])),
  .inl (1, 400, [(0, 399, true, [((-128), 127)])]),
  .inr (.inl (7, [.inr (some (some 1)), .inr none, .inl (true, (-2147483648), 2147483647), .inl (true, (-2147483648), 2147483647), .inl (true, (-2147483648), 2147483647), .inl (true, (-2147483648), 2147483647)])),
  .inr (.inl (0, [.inr (some (some 14)), .inr (some (some 5)), .inr (some (some 23))])),
  .inr (.inl (8, [.inl (true, (-2147483648), 2147483647), .inl (true, 0, 10), .inl (true, 0, 16), .inr (some (some 6)), .inr (some (some 7)), .inr (some (some 8)), .inr (some (some 9)), .inr (some (some 10)), .inr (some (some 11)), .inr (some (some 12)), .inr (some (some 13))])),
  .inl (0, 10, [(0, 9, true, [(0, 7)])]),
  .inl (0, 10, [(0, 9, true, [(0, 7)])]),
  .inl (0, 10, [(0, 9, true, [(0, 999)])]),
  .inl (0, 16, [(0, 15, true, [(0, 7)])]),
  .inl (0, 16, [(0, 15, true, [(0, 9)])]),
  .inl (0, 16, [(0, 15, true, [(0, 3)])]),
  .inl (0, 16, [(0, 15, true, [((-9), 15)])]),
  .inl (0, 16, [(0, 15, true, [((-2147483648), 2147483647)])]),
  .inr (.inl (8, [.inl (true, (-2147483648), 2147483647), .inl (true, 0, 10), .inl (true, 0, 16), .inr (some (some 15)), .inr (some (some 16)), .inr (some (some 17)), .inr (some (some 18)), .inr (some (some 19)), .inr (some (some 20)), .inr (some (some 21)), .inr (some (some 22))])),
  .inl (0, 10, [(0, 9, true, [(0, 7)])]),
  .inl (0, 10, [(0, 9, true, [(0, 7)])]),
  .inl (0, 10, [(0, 9, true, [(0, 999)])]),
  .inl (0, 16, [(0, 15, true, [(0, 7)])]),
  .inl (0, 16, [(0, 15, true, [(0, 9)])]),
  .inl (0, 16, [(0, 15, true, [(0, 3)])]),
  .inl (0, 16, [(0, 15, true, [((-9), 15)])]),
  .inl (0, 16, [(0, 15, true, [((-2147483648), 2147483647)])]),
  .inr (.inl (5, [.inr (some (some 24)), .inr (some (some 25)), .inr (some (some 26)), .inr (some (some 27)), .inr (some (some 28)), .inl (true, (-2147483648), 2147483647), .inl (true, (-2147483648), 2147483647)])),
  .inl (0, 10, [(0, 9, true, [((-2147483648), 2147483647)])]),
  .inl (0, 16, [(0, 15, true, [((-2147483648), 2147483647)])]),
  .inl (0, 16, [(0, 15, true, [((-2147483648), 2147483647)])]),
  .inl (0, 64, [(0, 63, true, [((-2147483648), 2147483647)])]),
  .inl (0, 8, [(0, 7, true, [((-2147483648), 2147483647)])])]
def md_ : List ab_S := [.inr (.inl (2, [.inr (some (some 4))])),
  .inr (.inl (3, [.inr (some (some 4)), .inl (false, (-2147483648), 2147483647)])),
  .inr (.inl (9, [.inr (some (some 4)), .inr (some (some 32)), .inr (some (some 33)), .inr (some (some 34)), .inr (some (some 35)), .inl (false, 0, 200), .inl (false, (-2147483648), 2147483647), .inl (false, (-2147483648), 2147483647)])),
  .inl (0, 5226, [(0, 5225, false, [((-2147483648), 2147483647)])]),
  .inl (0, 26, [(0, 25, false, [((-2147483648), 2147483647)])]),
  .inl (0, 8, [(0, 7, false, [((-2147483648), 2147483647)])]),
  .inl (0, 8, [(0, 7, false, [((-2147483648), 2147483647)])]),
  .inr (.inl (1, [.inr (some (some 4)), .inr (some (some 37)), .inr (some (some 38))])),
  .inl (0, 8, [(0, 7, true, [((-2147483648), 2147483647)])]),
  .inl (0, 8, [(0, 7, false, [((-2147483648), 2147483647)])]),
  .inr (.inl (6, [.inr (some (some 4)), .inr (some (some 40)), .inr (some (some 41))])),
  .inl (0, 256, [(0, 255, false, [((-2147483648), 2147483647)])]),
  .inl (0, 256, [(0, 255, false, [((-2147483648), 2147483647)])]),
  .inr (.inl (4, [.inr (some (some 4)), .inr none])),
  .inr (.inr [44, 50]),
  .inr (.inl (5, [.inr (some (some 45)), .inr (some (some 46)), .inr (some (some 47)), .inr (some (some 48)), .inr (some (some 49)), .inl (true, (-2147483648), 2147483647), .inl (true, (-2147483648), 2147483647)])),
  .inl (0, 10, [(0, 9, true, [((-2147483648), 2147483647)])]),
  .inl (0, 16, [(0, 15, true, [((-2147483648), 2147483647)])]),
  .inl (0, 16, [(0, 15, true, [((-2147483648), 2147483647)])]),
  .inl (0, 64, [(0, 63, true, [((-2147483648), 2147483647)])]),
  .inl (0, 8, [(0, 7, true, [((-2147483648), 2147483647)])]),
  .inr (.inl (5, [.inr (some (some 51)), .inr (some (some 52)), .inr (some (some 53)), .inr (some (some 54)), .inr (some (some 55)), .inl (true, (-2147483648), 2147483647), .inl (true, (-2147483648), 2147483647)])),
  .inl (0, 10, [(0, 9, true, [((-2147483648), 2147483647)])]),
  .inl (0, 16, [(0, 15, true, [((-2147483648), 2147483647)])]),
  .inl (0, 16, [(0, 15, true, [((-2147483648), 2147483647)])]),
  .inl (0, 64, [(0, 63, true, [((-2147483648), 2147483647)])]),
  .inl (0, 8, [(0, 7, true, [((-2147483648), 2147483647)])])]
def tl_ : List ab_S := [.inr (.inl (12, [.inl (false, (-2147483648), 2147483647), .inr none, .inr (some (some 57)), .inr (some (some 58)), .inr (some (some 59)), .inr (some (some 60)), .inl (true, 0, 10), .inl (true, 0, 16), .inr (some (some 61)), .inr (some (some 62)), .inr (some (some 63)), .inr (some (some 64)), .inl (true, (-2147483648), 2147483647), .inl (true, (-2147483648), 2147483647), .inr (some (some 65)), .inl (true, 0, 400), .inl (true, (-2147483648), 2147483647), .inl (true, (-2147483648), 2147483647), .inl (true, (-2147483648), 2147483647), .inl (true, (-2147483648), 2147483647), .inl (true, (-2147483648), 2147483647), .inr (some (some 66)), .inl (false, 0, 200), .inl (false, (-2147483648), 2147483647)])),
  .inl (0, 131, [(0, 9, true, [(0, 999)]), (10, 121, true, [((-2147483648), 2147483647)]), (122, 129, true, [(0, 9999)]), (130, 130, true, [((-2147483648), 2147483647)])]),
  .inl (0, 262, [(0, 261, true, [((-2147483648), 2147483647)])]),
  .inl (2, 2, [(0, 1, true, [(0, 1)])]),
  .inl (0, 8, [(0, 7, true, [((-2147483648), 2147483647)])]),
  .inl (0, 30, [(0, 29, true, [(0, 7), (0, 7), (0, 999)])]),
  .inl (0, 80, [(0, 79, true, [(0, 7), (0, 9), (0, 3), ((-9), 15), ((-2147483648), 2147483647)])]),
  .inl (0, 33, [(0, 32, true, [((-2147483648), 2147483647)])]),
  .inl (0, 85, [(0, 84, true, [((-2147483648), 2147483647)])]),
  .inl (0, 400, [(0, 399, true, [((-2147483648), 2147483647)])]),
  .inl (0, 5226, [(0, 5225, false, [(0, 999)])])]
theorem FH_back {v : Bool} (h : (FH v rr dr la rf ln bt ea ma eb mb a1 a2 a3 a4 a5 a6 a7 b1 b2 b3 b4 b5 b6 b7 db sn ty va lr s ik de sd pa)) : as_HI (shf v) (GW ki ln bt rl cp cs ct cv rr dr ja ea ma a1 a2 a3 a4 a5 a6 a7 a8 jb eb mb b1 b2 b3 b4 b5 b6 b7 b8 re fl g1 g2 g3 g4 g5 rt la rs rg pd du ds me tt gr su gp mk rf m1 m2 m3 m4 m5 mr mf n1 n2 n3 n4 n5 nr nf th tr db sn dm sm ty nx tk pl va fa lr ri s kp ik tn de sd dd sr tx pa) := by
  obtain ⟨⟨hla, hrf⟩, ⟨e1, e2⟩, ⟨q1, q2, q3, q4, q5, q6, q7, q8, q9, q10⟩, r1, r2, r3, r4, r5, r6, r7, r8, r9, r10⟩ := h
  subst e1
  subst e2
  have hT : as_HI tl_ (rL (ro_ th tr db sn dm sm ty nx tk pl va fa lr ri) s kp ik tn de sd dd sr tx pa) := (hi_cons (ca_obj rfl (ca_cons fo_t (ca_cons trivial (ca_cons fo_r (ca_cons fo_r (ca_cons fo_r (ca_cons fo_r (ca_cons (fo_i r1 (by decide) (by decide)) (ca_cons (fo_i r2 (by decide) (by decide)) (ca_cons fo_r (ca_cons fo_r (ca_cons fo_r (ca_cons fo_r (ca_cons fo_t (ca_cons fo_t (ca_cons fo_r (ca_cons (fo_i r3 (by decide) (by decide)) (ca_cons fo_t (ca_cons fo_t (ca_cons fo_t (ca_cons fo_t (ca_cons fo_t (ca_cons fo_r (ca_cons (fo_i r5 (by decide) (by decide)) (ca_cons fo_t ca_nil))))))))))))))))))))))))) (hi_cons (ca_arr (RS_to r6)) (hi_cons (ca_arr (row1' (by decide) (fun j hj => i7_top _))) (hi_cons (ca_arr (row1' (by decide) r7)) (hi_cons (ca_arr (row1' (by decide) (fun j hj => i7_top _))) (hi_cons (ca_arr (DE_to r8)) (hi_cons (ca_arr (SD_to r9)) (hi_cons (ca_arr (row1' (by decide) (fun j hj => i7_top _))) (hi_cons (ca_arr (row1' (by decide) (fun j hj => i7_top _))) (hi_cons (ca_arr (row1' (by decide) (fun j hj => i7_top _))) (hi_cons (ca_arr (row1' (by decide) r10)) hi_nil)))))))))))
  have hM : as_HI md_ [.inr (2, [.ref 4]), .inr (3, [.ref 4, iv rt]), .inr (9, [.ref 4, .ref 32, .ref 33, .ref 34, .ref 35, iv la, iv rs, iv rg]), .inl (0, 5226, .inl pd), .inl (0, 26, .inl du), .inl (0, 8, .inl ds), .inl (0, 8, .inl me), .inr (1, [.ref 4, .ref 37, .ref 38]), .inl (0, 8, .inl tt), .inl (0, 8, .inl gr), .inr (6, [.ref 4, .ref 40, .ref 41]), .inl (0, 256, .inl su), .inl (0, 256, .inl gp), .inr (4, [.ref 4, .long mk]), .inl (3, 2, .inr (.inr (.inr (.inr rf)))), .inr (5, [.ref 45, .ref 46, .ref 47, .ref 48, .ref 49, iv mr, iv mf]), .inl (0, 10, .inl m1), .inl (0, 16, .inl m2), .inl (0, 16, .inl m3), .inl (0, 64, .inl m4), .inl (0, 8, .inl m5), .inr (5, [.ref 51, .ref 52, .ref 53, .ref 54, .ref 55, iv nr, iv nf]), .inl (0, 10, .inl n1), .inl (0, 16, .inl n2), .inl (0, 16, .inl n3), .inl (0, 64, .inl n4), .inl (0, 8, .inl n5)] := (hi_cons (ca_obj rfl (ca_cons fo_r ca_nil)) (hi_cons (ca_obj rfl (ca_cons fo_r (ca_cons fo_t ca_nil))) (hi_cons (ca_obj rfl (ca_cons fo_r (ca_cons fo_r (ca_cons fo_r (ca_cons fo_r (ca_cons fo_r (ca_cons (fo_i hla (by decide) (by decide)) (ca_cons fo_t (ca_cons fo_t ca_nil))))))))) (hi_cons (ca_arr (row1' (by decide) (fun j hj => i7_top _))) (hi_cons (ca_arr (row1' (by decide) (fun j hj => i7_top _))) (hi_cons (ca_arr (row1' (by decide) (fun j hj => i7_top _))) (hi_cons (ca_arr (row1' (by decide) (fun j hj => i7_top _))) (hi_cons (ca_obj rfl (ca_cons fo_r (ca_cons fo_r (ca_cons fo_r ca_nil)))) (hi_cons (ca_arr (row1' (by decide) (fun j hj => i7_top _))) (hi_cons (ca_arr (row1' (by decide) (fun j hj => i7_top _))) (hi_cons (ca_obj rfl (ca_cons fo_r (ca_cons fo_r (ca_cons fo_r ca_nil)))) (hi_cons (ca_arr (row1' (by decide) (fun j hj => i7_top _))) (hi_cons (ca_arr (row1' (by decide) (fun j hj => i7_top _))) (hi_cons (ca_obj rfl (ca_cons fo_r (ca_cons trivial ca_nil))) (hi_cons (ca_rf hrf) (hi_cons (ca_obj rfl (ca_cons fo_r (ca_cons fo_r (ca_cons fo_r (ca_cons fo_r (ca_cons fo_r (ca_cons fo_t (ca_cons fo_t ca_nil)))))))) (hi_cons (ca_arr (row1' (by decide) (fun j hj => i7_top _))) (hi_cons (ca_arr (row1' (by decide) (fun j hj => i7_top _))) (hi_cons (ca_arr (row1' (by decide) (fun j hj => i7_top _))) (hi_cons (ca_arr (row1' (by decide) (fun j hj => i7_top _))) (hi_cons (ca_arr (row1' (by decide) (fun j hj => i7_top _))) (hi_cons (ca_obj rfl (ca_cons fo_r (ca_cons fo_r (ca_cons fo_r (ca_cons fo_r (ca_cons fo_r (ca_cons fo_t (ca_cons fo_t ca_nil)))))))) (hi_cons (ca_arr (row1' (by decide) (fun j hj => i7_top _))) (hi_cons (ca_arr (row1' (by decide) (fun j hj => i7_top _))) (hi_cons (ca_arr (row1' (by decide) (fun j hj => i7_top _))) (hi_cons (ca_arr (row1' (by decide) (fun j hj => i7_top _))) (hi_cons (ca_arr (row1' (by decide) (fun j hj => i7_top _))) hi_nil)))))))))))))))))))))))))))
  cases v with
  | false => exact hi_app (A := hd0_) (X := [.inr (11, [.ref 1, .ref 3, .ref 4, .ref 29, .ref 30, .ref 31, .ref 36, .ref 39, .ref 42, .ref 43, iv ki]), .inr (10, [.ref 2, iv ln]), .inl (1, 400, .inl bt), .inr (7, [.ref 1, rl, iv cp, iv cs, iv ct, iv cv]), .inr (0, [.ref 5, .ref 14, .ref 23]), .inr (8, [iv ja, iv ea, iv ma, .ref 6, .ref 7, .ref 8, .ref 9, .ref 10, .ref 11, .ref 12, .ref 13]), .inl (0, 10, .inl a1), .inl (0, 10, .inl a2), .inl (0, 10, .inl a3), .inl (0, 16, .inl a4), .inl (0, 16, .inl a5), .inl (0, 16, .inl a6), .inl (0, 16, .inl a7), .inl (0, 16, .inl a8), .inr (8, [iv jb, iv eb, iv mb, .ref 15, .ref 16, .ref 17, .ref 18, .ref 19, .ref 20, .ref 21, .ref 22]), .inl (0, 10, .inl b1), .inl (0, 10, .inl b2), .inl (0, 10, .inl b3), .inl (0, 16, .inl b4), .inl (0, 16, .inl b5), .inl (0, 16, .inl b6), .inl (0, 16, .inl b7), .inl (0, 16, .inl b8), .inr (5, [.ref 24, .ref 25, .ref 26, .ref 27, .ref 28, iv re, iv fl]), .inl (0, 10, .inl g1), .inl (0, 16, .inl g2), .inl (0, 16, .inl g3), .inl (0, 64, .inl g4), .inl (0, 8, .inl g5)]) (hi_cons (ca_obj rfl (ca_cons fo_r (ca_cons fo_r (ca_cons fo_r (ca_cons fo_r (ca_cons fo_r (ca_cons fo_r (ca_cons fo_r (ca_cons fo_r (ca_cons fo_r (ca_cons fo_r (ca_cons fo_t ca_nil)))))))))))) (hi_cons (ca_obj rfl (ca_cons fo_r (ca_cons (fo_i q1 (by decide) (by decide)) ca_nil))) (hi_cons (ca_arr (row1' (by decide) q2)) (hi_cons (ca_obj rfl (ca_cons fo_r (ca_cons trivial (ca_cons fo_t (ca_cons fo_t (ca_cons fo_t (ca_cons fo_t ca_nil))))))) (hi_cons (ca_obj rfl (ca_cons fo_r (ca_cons fo_r (ca_cons fo_r ca_nil)))) (hi_cons (ca_obj rfl (ca_cons fo_t (ca_cons (fo_i q3 (by decide) (by decide)) (ca_cons (fo_i q4 (by decide) (by decide)) (ca_cons fo_r (ca_cons fo_r (ca_cons fo_r (ca_cons fo_r (ca_cons fo_r (ca_cons fo_r (ca_cons fo_r (ca_cons fo_r ca_nil)))))))))))) (hi_cons (ca_arr (row1' (by decide) (fun j hj => (q7 j hj).1))) (hi_cons (ca_arr (row1' (by decide) (fun j hj => (q7 j hj).2.1))) (hi_cons (ca_arr (row1' (by decide) (fun j hj => (q7 j hj).2.2))) (hi_cons (ca_arr (row1' (by decide) (fun j hj => (q8 j hj).1))) (hi_cons (ca_arr (row1' (by decide) (fun j hj => (q8 j hj).2.1))) (hi_cons (ca_arr (row1' (by decide) (fun j hj => (q8 j hj).2.2.1))) (hi_cons (ca_arr (row1' (by decide) (fun j hj => (q8 j hj).2.2.2))) (hi_cons (ca_arr (row1' (by decide) (fun j hj => i7_top _))) (hi_cons (ca_obj rfl (ca_cons fo_t (ca_cons (fo_i q5 (by decide) (by decide)) (ca_cons (fo_i q6 (by decide) (by decide)) (ca_cons fo_r (ca_cons fo_r (ca_cons fo_r (ca_cons fo_r (ca_cons fo_r (ca_cons fo_r (ca_cons fo_r (ca_cons fo_r ca_nil)))))))))))) (hi_cons (ca_arr (row1' (by decide) (fun j hj => (q9 j hj).1))) (hi_cons (ca_arr (row1' (by decide) (fun j hj => (q9 j hj).2.1))) (hi_cons (ca_arr (row1' (by decide) (fun j hj => (q9 j hj).2.2))) (hi_cons (ca_arr (row1' (by decide) (fun j hj => (q10 j hj).1))) (hi_cons (ca_arr (row1' (by decide) (fun j hj => (q10 j hj).2.1))) (hi_cons (ca_arr (row1' (by decide) (fun j hj => (q10 j hj).2.2.1))) (hi_cons (ca_arr (row1' (by decide) (fun j hj => (q10 j hj).2.2.2))) (hi_cons (ca_arr (row1' (by decide) (fun j hj => i7_top _))) (hi_cons (ca_obj rfl (ca_cons fo_r (ca_cons fo_r (ca_cons fo_r (ca_cons fo_r (ca_cons fo_r (ca_cons fo_t (ca_cons fo_t ca_nil)))))))) (hi_cons (ca_arr (row1' (by decide) (fun j hj => i7_top _))) (hi_cons (ca_arr (row1' (by decide) (fun j hj => i7_top _))) (hi_cons (ca_arr (row1' (by decide) (fun j hj => i7_top _))) (hi_cons (ca_arr (row1' (by decide) (fun j hj => i7_top _))) (hi_cons (ca_arr (row1' (by decide) (fun j hj => i7_top _))) hi_nil))))))))))))))))))))))))))))) (hi_app hM hT)
  | true => exact hi_app (A := hd1_) (X := [.inr (11, [.ref 1, .ref 3, .ref 4, .ref 29, .ref 30, .ref 31, .ref 36, .ref 39, .ref 42, .ref 43, iv ki]), .inr (10, [.ref 2, iv ln]), .inl (1, 400, .inl bt), .inr (7, [.ref 1, rl, iv cp, iv cs, iv ct, iv cv]), .inr (0, [.ref 14, .ref 5, .ref 23]), .inr (8, [iv ja, iv ea, iv ma, .ref 6, .ref 7, .ref 8, .ref 9, .ref 10, .ref 11, .ref 12, .ref 13]), .inl (0, 10, .inl a1), .inl (0, 10, .inl a2), .inl (0, 10, .inl a3), .inl (0, 16, .inl a4), .inl (0, 16, .inl a5), .inl (0, 16, .inl a6), .inl (0, 16, .inl a7), .inl (0, 16, .inl a8), .inr (8, [iv jb, iv eb, iv mb, .ref 15, .ref 16, .ref 17, .ref 18, .ref 19, .ref 20, .ref 21, .ref 22]), .inl (0, 10, .inl b1), .inl (0, 10, .inl b2), .inl (0, 10, .inl b3), .inl (0, 16, .inl b4), .inl (0, 16, .inl b5), .inl (0, 16, .inl b6), .inl (0, 16, .inl b7), .inl (0, 16, .inl b8), .inr (5, [.ref 24, .ref 25, .ref 26, .ref 27, .ref 28, iv re, iv fl]), .inl (0, 10, .inl g1), .inl (0, 16, .inl g2), .inl (0, 16, .inl g3), .inl (0, 64, .inl g4), .inl (0, 8, .inl g5)]) (hi_cons (ca_obj rfl (ca_cons fo_r (ca_cons fo_r (ca_cons fo_r (ca_cons fo_r (ca_cons fo_r (ca_cons fo_r (ca_cons fo_r (ca_cons fo_r (ca_cons fo_r (ca_cons fo_r (ca_cons fo_t ca_nil)))))))))))) (hi_cons (ca_obj rfl (ca_cons fo_r (ca_cons (fo_i q1 (by decide) (by decide)) ca_nil))) (hi_cons (ca_arr (row1' (by decide) q2)) (hi_cons (ca_obj rfl (ca_cons fo_r (ca_cons trivial (ca_cons fo_t (ca_cons fo_t (ca_cons fo_t (ca_cons fo_t ca_nil))))))) (hi_cons (ca_obj rfl (ca_cons fo_r (ca_cons fo_r (ca_cons fo_r ca_nil)))) (hi_cons (ca_obj rfl (ca_cons fo_t (ca_cons (fo_i q3 (by decide) (by decide)) (ca_cons (fo_i q4 (by decide) (by decide)) (ca_cons fo_r (ca_cons fo_r (ca_cons fo_r (ca_cons fo_r (ca_cons fo_r (ca_cons fo_r (ca_cons fo_r (ca_cons fo_r ca_nil)))))))))))) (hi_cons (ca_arr (row1' (by decide) (fun j hj => (q7 j hj).1))) (hi_cons (ca_arr (row1' (by decide) (fun j hj => (q7 j hj).2.1))) (hi_cons (ca_arr (row1' (by decide) (fun j hj => (q7 j hj).2.2))) (hi_cons (ca_arr (row1' (by decide) (fun j hj => (q8 j hj).1))) (hi_cons (ca_arr (row1' (by decide) (fun j hj => (q8 j hj).2.1))) (hi_cons (ca_arr (row1' (by decide) (fun j hj => (q8 j hj).2.2.1))) (hi_cons (ca_arr (row1' (by decide) (fun j hj => (q8 j hj).2.2.2))) (hi_cons (ca_arr (row1' (by decide) (fun j hj => i7_top _))) (hi_cons (ca_obj rfl (ca_cons fo_t (ca_cons (fo_i q5 (by decide) (by decide)) (ca_cons (fo_i q6 (by decide) (by decide)) (ca_cons fo_r (ca_cons fo_r (ca_cons fo_r (ca_cons fo_r (ca_cons fo_r (ca_cons fo_r (ca_cons fo_r (ca_cons fo_r ca_nil)))))))))))) (hi_cons (ca_arr (row1' (by decide) (fun j hj => (q9 j hj).1))) (hi_cons (ca_arr (row1' (by decide) (fun j hj => (q9 j hj).2.1))) (hi_cons (ca_arr (row1' (by decide) (fun j hj => (q9 j hj).2.2))) (hi_cons (ca_arr (row1' (by decide) (fun j hj => (q10 j hj).1))) (hi_cons (ca_arr (row1' (by decide) (fun j hj => (q10 j hj).2.1))) (hi_cons (ca_arr (row1' (by decide) (fun j hj => (q10 j hj).2.2.1))) (hi_cons (ca_arr (row1' (by decide) (fun j hj => (q10 j hj).2.2.2))) (hi_cons (ca_arr (row1' (by decide) (fun j hj => i7_top _))) (hi_cons (ca_obj rfl (ca_cons fo_r (ca_cons fo_r (ca_cons fo_r (ca_cons fo_r (ca_cons fo_r (ca_cons fo_t (ca_cons fo_t ca_nil)))))))) (hi_cons (ca_arr (row1' (by decide) (fun j hj => i7_top _))) (hi_cons (ca_arr (row1' (by decide) (fun j hj => i7_top _))) (hi_cons (ca_arr (row1' (by decide) (fun j hj => i7_top _))) (hi_cons (ca_arr (row1' (by decide) (fun j hj => i7_top _))) (hi_cons (ca_arr (row1' (by decide) (fun j hj => i7_top _))) hi_nil))))))))))))))))))))))))))))) (hi_app hM hT)
end GWS
theorem FH_elim0 {P : Prop} {mw : List va_E} {mk tr : Int64} (h : as_HI sh0 mw) (hmk : as_fld mw 42 1 = some (.long mk)) (htr : as_fld mw 56 1 = some (.long tr)) (kk : ∀ (ki : Int) (ln : Int) (bt : Nat → Int32) (rl : Value) (cp : Int) (cs : Int) (ct : Int) (cv : Int) (rr : Nat) (dr : Nat) (ja : Int) (ea : Int) (ma : Int) (a1 : Nat → Int32) (a2 : Nat → Int32) (a3 : Nat → Int32) (a4 : Nat → Int32) (a5 : Nat → Int32) (a6 : Nat → Int32) (a7 : Nat → Int32) (a8 : Nat → Int32) (jb : Int) (eb : Int) (mb : Int) (b1 : Nat → Int32) (b2 : Nat → Int32) (b3 : Nat → Int32) (b4 : Nat → Int32) (b5 : Nat → Int32) (b6 : Nat → Int32) (b7 : Nat → Int32) (b8 : Nat → Int32) (re : Int) (fl : Int) (g1 : Nat → Int32) (g2 : Nat → Int32) (g3 : Nat → Int32) (g4 : Nat → Int32) (g5 : Nat → Int32) (rt : Int) (la : Int) (rs : Int) (rg : Int) (pd : Nat → Int32) (du : Nat → Int32) (ds : Nat → Int32) (me : Nat → Int32) (tt : Nat → Int32) (gr : Nat → Int32) (su : Nat → Int32) (gp : Nat → Int32) (rf : Nat → Option Nat) (m1 : Nat → Int32) (m2 : Nat → Int32) (m3 : Nat → Int32) (m4 : Nat → Int32) (m5 : Nat → Int32) (mr : Int) (mf : Int) (n1 : Nat → Int32) (n2 : Nat → Int32) (n3 : Nat → Int32) (n4 : Nat → Int32) (n5 : Nat → Int32) (nr : Int) (nf : Int) (th : Int) (db : Int) (sn : Int) (dm : Int) (sm : Int) (ty : Int) (nx : Int) (tk : Int) (pl : Int) (va : Int) (fa : Int) (lr : Int) (ri : Int) (s : Nat → Int32) (kp : Nat → Int32) (ik : Nat → Int32) (tn : Nat → Int32) (de : Nat → Int32) (sd : Nat → Int32) (dd : Nat → Int32) (sr : Nat → Int32) (tx : Nat → Int32) (pa : Nat → Int32), mw = (GW ki ln bt rl cp cs ct cv rr dr ja ea ma a1 a2 a3 a4 a5 a6 a7 a8 jb eb mb b1 b2 b3 b4 b5 b6 b7 b8 re fl g1 g2 g3 g4 g5 rt la rs rg pd du ds me tt gr su gp mk rf m1 m2 m3 m4 m5 mr mf n1 n2 n3 n4 n5 nr nf th tr db sn dm sm ty nx tk pl va fa lr ri s kp ik tn de sd dd sr tx pa) → (FH false rr dr la rf ln bt ea ma eb mb a1 a2 a3 a4 a5 a6 a7 b1 b2 b3 b4 b5 b6 b7 db sn ty va lr s ik de sd pa) → P) : P := by
  obtain ⟨F0, hF0, hl0, hg0⟩ := hi_obj (k := 0) h rfl
  obtain ⟨v0_0, hv0_0, hw0_0⟩ := hg0 0 _ rfl
  obtain rfl := fok_ref hw0_0
  obtain ⟨v0_1, hv0_1, hw0_1⟩ := hg0 1 _ rfl
  obtain rfl := fok_ref hw0_1
  obtain ⟨v0_2, hv0_2, hw0_2⟩ := hg0 2 _ rfl
  obtain rfl := fok_ref hw0_2
  obtain ⟨v0_3, hv0_3, hw0_3⟩ := hg0 3 _ rfl
  obtain rfl := fok_ref hw0_3
  obtain ⟨v0_4, hv0_4, hw0_4⟩ := hg0 4 _ rfl
  obtain rfl := fok_ref hw0_4
  obtain ⟨v0_5, hv0_5, hw0_5⟩ := hg0 5 _ rfl
  obtain rfl := fok_ref hw0_5
  obtain ⟨v0_6, hv0_6, hw0_6⟩ := hg0 6 _ rfl
  obtain rfl := fok_ref hw0_6
  obtain ⟨v0_7, hv0_7, hw0_7⟩ := hg0 7 _ rfl
  obtain rfl := fok_ref hw0_7
  obtain ⟨v0_8, hv0_8, hw0_8⟩ := hg0 8 _ rfl
  obtain rfl := fok_ref hw0_8
  obtain ⟨v0_9, hv0_9, hw0_9⟩ := hg0 9 _ rfl
  obtain rfl := fok_ref hw0_9
  obtain ⟨v0_10, hv0_10, hw0_10⟩ := hg0 10 _ rfl
  obtain ⟨ki, rfl, zki1, zki2, zki3, zki4⟩ := fok_int hw0_10
  have eF0 : F0 = [.ref 1, .ref 3, .ref 4, .ref 29, .ref 30, .ref 31, .ref 36, .ref 39, .ref 42, .ref 43, iv ki] := lst_eq hl0 (fun j hj => by
    match j, hj with
    | 0, _ => exact hv0_0
    | 1, _ => exact hv0_1
    | 2, _ => exact hv0_2
    | 3, _ => exact hv0_3
    | 4, _ => exact hv0_4
    | 5, _ => exact hv0_5
    | 6, _ => exact hv0_6
    | 7, _ => exact hv0_7
    | 8, _ => exact hv0_8
    | 9, _ => exact hv0_9
    | 10, _ => exact hv0_10
    | j + 11, hj => exact absurd hj (by simp))
  subst eF0
  obtain ⟨F1, hF1, hl1, hg1⟩ := hi_obj (k := 1) h rfl
  obtain ⟨v1_0, hv1_0, hw1_0⟩ := hg1 0 _ rfl
  obtain rfl := fok_ref hw1_0
  obtain ⟨v1_1, hv1_1, hw1_1⟩ := hg1 1 _ rfl
  obtain ⟨ln, rfl, zln1, zln2, zln3, zln4⟩ := fok_int hw1_1
  have eF1 : F1 = [.ref 2, iv ln] := lst_eq hl1 (fun j hj => by
    match j, hj with
    | 0, _ => exact hv1_0
    | 1, _ => exact hv1_1
    | j + 2, hj => exact absurd hj (by simp))
  subst eF1
  obtain ⟨bt, hF2, ha2⟩ := hi_arr (k := 2) h rfl
  obtain ⟨F3, hF3, hl3, hg3⟩ := hi_obj (k := 3) h rfl
  obtain ⟨v3_0, hv3_0, hw3_0⟩ := hg3 0 _ rfl
  obtain rfl := fok_ref hw3_0
  obtain ⟨v3_1, hv3_1, hw3_1⟩ := hg3 1 _ rfl
  obtain ⟨v3_2, hv3_2, hw3_2⟩ := hg3 2 _ rfl
  obtain ⟨cp, rfl, zcp1, zcp2, zcp3, zcp4⟩ := fok_int hw3_2
  obtain ⟨v3_3, hv3_3, hw3_3⟩ := hg3 3 _ rfl
  obtain ⟨cs, rfl, zcs1, zcs2, zcs3, zcs4⟩ := fok_int hw3_3
  obtain ⟨v3_4, hv3_4, hw3_4⟩ := hg3 4 _ rfl
  obtain ⟨ct, rfl, zct1, zct2, zct3, zct4⟩ := fok_int hw3_4
  obtain ⟨v3_5, hv3_5, hw3_5⟩ := hg3 5 _ rfl
  obtain ⟨cv, rfl, zcv1, zcv2, zcv3, zcv4⟩ := fok_int hw3_5
  have eF3 : F3 = [.ref 1, v3_1, iv cp, iv cs, iv ct, iv cv] := lst_eq hl3 (fun j hj => by
    match j, hj with
    | 0, _ => exact hv3_0
    | 1, _ => exact hv3_1
    | 2, _ => exact hv3_2
    | 3, _ => exact hv3_3
    | 4, _ => exact hv3_4
    | 5, _ => exact hv3_5
    | j + 6, hj => exact absurd hj (by simp))
  subst eF3
  obtain ⟨F4, hF4, hl4, hg4⟩ := hi_obj (k := 4) h rfl
  obtain ⟨v4_0, hv4_0, hw4_0⟩ := hg4 0 _ rfl
  obtain rfl := fok_ref hw4_0
  obtain ⟨v4_1, hv4_1, hw4_1⟩ := hg4 1 _ rfl
  obtain rfl := fok_ref hw4_1
  obtain ⟨v4_2, hv4_2, hw4_2⟩ := hg4 2 _ rfl
  obtain rfl := fok_ref hw4_2
  have eF4 : F4 = [.ref 5, .ref 14, .ref 23] := lst_eq hl4 (fun j hj => by
    match j, hj with
    | 0, _ => exact hv4_0
    | 1, _ => exact hv4_1
    | 2, _ => exact hv4_2
    | j + 3, hj => exact absurd hj (by simp))
  subst eF4
  obtain ⟨F5, hF5, hl5, hg5⟩ := hi_obj (k := 5) h rfl
  obtain ⟨v5_0, hv5_0, hw5_0⟩ := hg5 0 _ rfl
  obtain ⟨ja, rfl, zja1, zja2, zja3, zja4⟩ := fok_int hw5_0
  obtain ⟨v5_1, hv5_1, hw5_1⟩ := hg5 1 _ rfl
  obtain ⟨ea, rfl, zea1, zea2, zea3, zea4⟩ := fok_int hw5_1
  obtain ⟨v5_2, hv5_2, hw5_2⟩ := hg5 2 _ rfl
  obtain ⟨ma, rfl, zma1, zma2, zma3, zma4⟩ := fok_int hw5_2
  obtain ⟨v5_3, hv5_3, hw5_3⟩ := hg5 3 _ rfl
  obtain rfl := fok_ref hw5_3
  obtain ⟨v5_4, hv5_4, hw5_4⟩ := hg5 4 _ rfl
  obtain rfl := fok_ref hw5_4
  obtain ⟨v5_5, hv5_5, hw5_5⟩ := hg5 5 _ rfl
  obtain rfl := fok_ref hw5_5
  obtain ⟨v5_6, hv5_6, hw5_6⟩ := hg5 6 _ rfl
  obtain rfl := fok_ref hw5_6
  obtain ⟨v5_7, hv5_7, hw5_7⟩ := hg5 7 _ rfl
  obtain rfl := fok_ref hw5_7
  obtain ⟨v5_8, hv5_8, hw5_8⟩ := hg5 8 _ rfl
  obtain rfl := fok_ref hw5_8
  obtain ⟨v5_9, hv5_9, hw5_9⟩ := hg5 9 _ rfl
  obtain rfl := fok_ref hw5_9
  obtain ⟨v5_10, hv5_10, hw5_10⟩ := hg5 10 _ rfl
  obtain rfl := fok_ref hw5_10
  have eF5 : F5 = [iv ja, iv ea, iv ma, .ref 6, .ref 7, .ref 8, .ref 9, .ref 10, .ref 11, .ref 12, .ref 13] := lst_eq hl5 (fun j hj => by
    match j, hj with
    | 0, _ => exact hv5_0
    | 1, _ => exact hv5_1
    | 2, _ => exact hv5_2
    | 3, _ => exact hv5_3
    | 4, _ => exact hv5_4
    | 5, _ => exact hv5_5
    | 6, _ => exact hv5_6
    | 7, _ => exact hv5_7
    | 8, _ => exact hv5_8
    | 9, _ => exact hv5_9
    | 10, _ => exact hv5_10
    | j + 11, hj => exact absurd hj (by simp))
  subst eF5
  obtain ⟨a1, hF6, ha6⟩ := hi_arr (k := 6) h rfl
  obtain ⟨a2, hF7, ha7⟩ := hi_arr (k := 7) h rfl
  obtain ⟨a3, hF8, ha8⟩ := hi_arr (k := 8) h rfl
  obtain ⟨a4, hF9, ha9⟩ := hi_arr (k := 9) h rfl
  obtain ⟨a5, hF10, ha10⟩ := hi_arr (k := 10) h rfl
  obtain ⟨a6, hF11, ha11⟩ := hi_arr (k := 11) h rfl
  obtain ⟨a7, hF12, ha12⟩ := hi_arr (k := 12) h rfl
  obtain ⟨a8, hF13, ha13⟩ := hi_arr (k := 13) h rfl
  obtain ⟨F14, hF14, hl14, hg14⟩ := hi_obj (k := 14) h rfl
  obtain ⟨v14_0, hv14_0, hw14_0⟩ := hg14 0 _ rfl
  obtain ⟨jb, rfl, zjb1, zjb2, zjb3, zjb4⟩ := fok_int hw14_0
  obtain ⟨v14_1, hv14_1, hw14_1⟩ := hg14 1 _ rfl
  obtain ⟨eb, rfl, zeb1, zeb2, zeb3, zeb4⟩ := fok_int hw14_1
  obtain ⟨v14_2, hv14_2, hw14_2⟩ := hg14 2 _ rfl
  obtain ⟨mb, rfl, zmb1, zmb2, zmb3, zmb4⟩ := fok_int hw14_2
  obtain ⟨v14_3, hv14_3, hw14_3⟩ := hg14 3 _ rfl
  obtain rfl := fok_ref hw14_3
  obtain ⟨v14_4, hv14_4, hw14_4⟩ := hg14 4 _ rfl
  obtain rfl := fok_ref hw14_4
  obtain ⟨v14_5, hv14_5, hw14_5⟩ := hg14 5 _ rfl
  obtain rfl := fok_ref hw14_5
  obtain ⟨v14_6, hv14_6, hw14_6⟩ := hg14 6 _ rfl
  obtain rfl := fok_ref hw14_6
  obtain ⟨v14_7, hv14_7, hw14_7⟩ := hg14 7 _ rfl
  obtain rfl := fok_ref hw14_7
  obtain ⟨v14_8, hv14_8, hw14_8⟩ := hg14 8 _ rfl
  obtain rfl := fok_ref hw14_8
  obtain ⟨v14_9, hv14_9, hw14_9⟩ := hg14 9 _ rfl
  obtain rfl := fok_ref hw14_9
  obtain ⟨v14_10, hv14_10, hw14_10⟩ := hg14 10 _ rfl
  obtain rfl := fok_ref hw14_10
  have eF14 : F14 = [iv jb, iv eb, iv mb, .ref 15, .ref 16, .ref 17, .ref 18, .ref 19, .ref 20, .ref 21, .ref 22] := lst_eq hl14 (fun j hj => by
    match j, hj with
    | 0, _ => exact hv14_0
    | 1, _ => exact hv14_1
    | 2, _ => exact hv14_2
    | 3, _ => exact hv14_3
    | 4, _ => exact hv14_4
    | 5, _ => exact hv14_5
    | 6, _ => exact hv14_6
    | 7, _ => exact hv14_7
    | 8, _ => exact hv14_8
    | 9, _ => exact hv14_9
    | 10, _ => exact hv14_10
    | j + 11, hj => exact absurd hj (by simp))
  subst eF14
  obtain ⟨b1, hF15, ha15⟩ := hi_arr (k := 15) h rfl
  obtain ⟨b2, hF16, ha16⟩ := hi_arr (k := 16) h rfl
  obtain ⟨b3, hF17, ha17⟩ := hi_arr (k := 17) h rfl
  obtain ⟨b4, hF18, ha18⟩ := hi_arr (k := 18) h rfl
  obtain ⟨b5, hF19, ha19⟩ := hi_arr (k := 19) h rfl
  obtain ⟨b6, hF20, ha20⟩ := hi_arr (k := 20) h rfl
  obtain ⟨b7, hF21, ha21⟩ := hi_arr (k := 21) h rfl
  obtain ⟨b8, hF22, ha22⟩ := hi_arr (k := 22) h rfl
  obtain ⟨F23, hF23, hl23, hg23⟩ := hi_obj (k := 23) h rfl
  obtain ⟨v23_0, hv23_0, hw23_0⟩ := hg23 0 _ rfl
  obtain rfl := fok_ref hw23_0
  obtain ⟨v23_1, hv23_1, hw23_1⟩ := hg23 1 _ rfl
  obtain rfl := fok_ref hw23_1
  obtain ⟨v23_2, hv23_2, hw23_2⟩ := hg23 2 _ rfl
  obtain rfl := fok_ref hw23_2
  obtain ⟨v23_3, hv23_3, hw23_3⟩ := hg23 3 _ rfl
  obtain rfl := fok_ref hw23_3
  obtain ⟨v23_4, hv23_4, hw23_4⟩ := hg23 4 _ rfl
  obtain rfl := fok_ref hw23_4
  obtain ⟨v23_5, hv23_5, hw23_5⟩ := hg23 5 _ rfl
  obtain ⟨re, rfl, zre1, zre2, zre3, zre4⟩ := fok_int hw23_5
  obtain ⟨v23_6, hv23_6, hw23_6⟩ := hg23 6 _ rfl
  obtain ⟨fl, rfl, zfl1, zfl2, zfl3, zfl4⟩ := fok_int hw23_6
  have eF23 : F23 = [.ref 24, .ref 25, .ref 26, .ref 27, .ref 28, iv re, iv fl] := lst_eq hl23 (fun j hj => by
    match j, hj with
    | 0, _ => exact hv23_0
    | 1, _ => exact hv23_1
    | 2, _ => exact hv23_2
    | 3, _ => exact hv23_3
    | 4, _ => exact hv23_4
    | 5, _ => exact hv23_5
    | 6, _ => exact hv23_6
    | j + 7, hj => exact absurd hj (by simp))
  subst eF23
  obtain ⟨g1, hF24, ha24⟩ := hi_arr (k := 24) h rfl
  obtain ⟨g2, hF25, ha25⟩ := hi_arr (k := 25) h rfl
  obtain ⟨g3, hF26, ha26⟩ := hi_arr (k := 26) h rfl
  obtain ⟨g4, hF27, ha27⟩ := hi_arr (k := 27) h rfl
  obtain ⟨g5, hF28, ha28⟩ := hi_arr (k := 28) h rfl
  obtain ⟨F29, hF29, hl29, hg29⟩ := hi_obj (k := 29) h rfl
  obtain ⟨v29_0, hv29_0, hw29_0⟩ := hg29 0 _ rfl
  obtain rfl := fok_ref hw29_0
  have eF29 : F29 = [.ref 4] := lst_eq hl29 (fun j hj => by
    match j, hj with
    | 0, _ => exact hv29_0
    | j + 1, hj => exact absurd hj (by simp))
  subst eF29
  obtain ⟨F30, hF30, hl30, hg30⟩ := hi_obj (k := 30) h rfl
  obtain ⟨v30_0, hv30_0, hw30_0⟩ := hg30 0 _ rfl
  obtain rfl := fok_ref hw30_0
  obtain ⟨v30_1, hv30_1, hw30_1⟩ := hg30 1 _ rfl
  obtain ⟨rt, rfl, zrt1, zrt2, zrt3, zrt4⟩ := fok_int hw30_1
  have eF30 : F30 = [.ref 4, iv rt] := lst_eq hl30 (fun j hj => by
    match j, hj with
    | 0, _ => exact hv30_0
    | 1, _ => exact hv30_1
    | j + 2, hj => exact absurd hj (by simp))
  subst eF30
  obtain ⟨F31, hF31, hl31, hg31⟩ := hi_obj (k := 31) h rfl
  obtain ⟨v31_0, hv31_0, hw31_0⟩ := hg31 0 _ rfl
  obtain rfl := fok_ref hw31_0
  obtain ⟨v31_1, hv31_1, hw31_1⟩ := hg31 1 _ rfl
  obtain rfl := fok_ref hw31_1
  obtain ⟨v31_2, hv31_2, hw31_2⟩ := hg31 2 _ rfl
  obtain rfl := fok_ref hw31_2
  obtain ⟨v31_3, hv31_3, hw31_3⟩ := hg31 3 _ rfl
  obtain rfl := fok_ref hw31_3
  obtain ⟨v31_4, hv31_4, hw31_4⟩ := hg31 4 _ rfl
  obtain rfl := fok_ref hw31_4
  obtain ⟨v31_5, hv31_5, hw31_5⟩ := hg31 5 _ rfl
  obtain ⟨la, rfl, zla1, zla2, zla3, zla4⟩ := fok_int hw31_5
  obtain ⟨v31_6, hv31_6, hw31_6⟩ := hg31 6 _ rfl
  obtain ⟨rs, rfl, zrs1, zrs2, zrs3, zrs4⟩ := fok_int hw31_6
  obtain ⟨v31_7, hv31_7, hw31_7⟩ := hg31 7 _ rfl
  obtain ⟨rg, rfl, zrg1, zrg2, zrg3, zrg4⟩ := fok_int hw31_7
  have eF31 : F31 = [.ref 4, .ref 32, .ref 33, .ref 34, .ref 35, iv la, iv rs, iv rg] := lst_eq hl31 (fun j hj => by
    match j, hj with
    | 0, _ => exact hv31_0
    | 1, _ => exact hv31_1
    | 2, _ => exact hv31_2
    | 3, _ => exact hv31_3
    | 4, _ => exact hv31_4
    | 5, _ => exact hv31_5
    | 6, _ => exact hv31_6
    | 7, _ => exact hv31_7
    | j + 8, hj => exact absurd hj (by simp))
  subst eF31
  obtain ⟨pd, hF32, ha32⟩ := hi_arr (k := 32) h rfl
  obtain ⟨du, hF33, ha33⟩ := hi_arr (k := 33) h rfl
  obtain ⟨ds, hF34, ha34⟩ := hi_arr (k := 34) h rfl
  obtain ⟨me, hF35, ha35⟩ := hi_arr (k := 35) h rfl
  obtain ⟨F36, hF36, hl36, hg36⟩ := hi_obj (k := 36) h rfl
  obtain ⟨v36_0, hv36_0, hw36_0⟩ := hg36 0 _ rfl
  obtain rfl := fok_ref hw36_0
  obtain ⟨v36_1, hv36_1, hw36_1⟩ := hg36 1 _ rfl
  obtain rfl := fok_ref hw36_1
  obtain ⟨v36_2, hv36_2, hw36_2⟩ := hg36 2 _ rfl
  obtain rfl := fok_ref hw36_2
  have eF36 : F36 = [.ref 4, .ref 37, .ref 38] := lst_eq hl36 (fun j hj => by
    match j, hj with
    | 0, _ => exact hv36_0
    | 1, _ => exact hv36_1
    | 2, _ => exact hv36_2
    | j + 3, hj => exact absurd hj (by simp))
  subst eF36
  obtain ⟨tt, hF37, ha37⟩ := hi_arr (k := 37) h rfl
  obtain ⟨gr, hF38, ha38⟩ := hi_arr (k := 38) h rfl
  obtain ⟨F39, hF39, hl39, hg39⟩ := hi_obj (k := 39) h rfl
  obtain ⟨v39_0, hv39_0, hw39_0⟩ := hg39 0 _ rfl
  obtain rfl := fok_ref hw39_0
  obtain ⟨v39_1, hv39_1, hw39_1⟩ := hg39 1 _ rfl
  obtain rfl := fok_ref hw39_1
  obtain ⟨v39_2, hv39_2, hw39_2⟩ := hg39 2 _ rfl
  obtain rfl := fok_ref hw39_2
  have eF39 : F39 = [.ref 4, .ref 40, .ref 41] := lst_eq hl39 (fun j hj => by
    match j, hj with
    | 0, _ => exact hv39_0
    | 1, _ => exact hv39_1
    | 2, _ => exact hv39_2
    | j + 3, hj => exact absurd hj (by simp))
  subst eF39
  obtain ⟨su, hF40, ha40⟩ := hi_arr (k := 40) h rfl
  obtain ⟨gp, hF41, ha41⟩ := hi_arr (k := 41) h rfl
  obtain ⟨F42, hF42, hl42, hg42⟩ := hi_obj (k := 42) h rfl
  obtain ⟨v42_0, hv42_0, hw42_0⟩ := hg42 0 _ rfl
  obtain rfl := fok_ref hw42_0
  obtain ⟨v42_1, hv42_1, hw42_1⟩ := hg42 1 _ rfl
  obtain rfl : v42_1 = .long mk := Option.some.inj (hv42_1.symm.trans (show F42[1]? = some (.long mk) by have q := hmk; unfold as_fld at q; rw [hF42] at q; exact q))
  have eF42 : F42 = [.ref 4, .long mk] := lst_eq hl42 (fun j hj => by
    match j, hj with
    | 0, _ => exact hv42_0
    | 1, _ => exact hv42_1
    | j + 2, hj => exact absurd hj (by simp))
  subst eF42
  obtain ⟨e43, hF43, hc43⟩ := h.2 43 (.inr (.inr [44, 50])) rfl
  obtain ⟨rf, e43e, hrf0, hrf1⟩ : ∃ rf : Nat → Option Nat, e43 = .inl (3, 2, .inr (.inr (.inr (.inr rf)))) ∧ rf 0 = some 44 ∧ rf 1 = some 50 := by
    cases e43 with
    | inr x => exact hc43.elim
    | inl x =>
      obtain ⟨x1, x2, x3⟩ := x
      obtain ⟨y1, y2, f, y3, y4⟩ := hc43
      have y1 : x1 = 3 := y1
      have y2 : x2 = 2 := y2
      have y3 : x3 = .inr (.inr (.inr (.inr f))) := y3
      exact ⟨f, by rw [y1, y2, y3], y4 0 44 rfl, y4 1 50 rfl⟩
  subst e43e
  obtain ⟨F44, hF44, hl44, hg44⟩ := hi_obj (k := 44) h rfl
  obtain ⟨v44_0, hv44_0, hw44_0⟩ := hg44 0 _ rfl
  obtain rfl := fok_ref hw44_0
  obtain ⟨v44_1, hv44_1, hw44_1⟩ := hg44 1 _ rfl
  obtain rfl := fok_ref hw44_1
  obtain ⟨v44_2, hv44_2, hw44_2⟩ := hg44 2 _ rfl
  obtain rfl := fok_ref hw44_2
  obtain ⟨v44_3, hv44_3, hw44_3⟩ := hg44 3 _ rfl
  obtain rfl := fok_ref hw44_3
  obtain ⟨v44_4, hv44_4, hw44_4⟩ := hg44 4 _ rfl
  obtain rfl := fok_ref hw44_4
  obtain ⟨v44_5, hv44_5, hw44_5⟩ := hg44 5 _ rfl
  obtain ⟨mr, rfl, zmr1, zmr2, zmr3, zmr4⟩ := fok_int hw44_5
  obtain ⟨v44_6, hv44_6, hw44_6⟩ := hg44 6 _ rfl
  obtain ⟨mf, rfl, zmf1, zmf2, zmf3, zmf4⟩ := fok_int hw44_6
  have eF44 : F44 = [.ref 45, .ref 46, .ref 47, .ref 48, .ref 49, iv mr, iv mf] := lst_eq hl44 (fun j hj => by
    match j, hj with
    | 0, _ => exact hv44_0
    | 1, _ => exact hv44_1
    | 2, _ => exact hv44_2
    | 3, _ => exact hv44_3
    | 4, _ => exact hv44_4
    | 5, _ => exact hv44_5
    | 6, _ => exact hv44_6
    | j + 7, hj => exact absurd hj (by simp))
  subst eF44
  obtain ⟨m1, hF45, ha45⟩ := hi_arr (k := 45) h rfl
  obtain ⟨m2, hF46, ha46⟩ := hi_arr (k := 46) h rfl
  obtain ⟨m3, hF47, ha47⟩ := hi_arr (k := 47) h rfl
  obtain ⟨m4, hF48, ha48⟩ := hi_arr (k := 48) h rfl
  obtain ⟨m5, hF49, ha49⟩ := hi_arr (k := 49) h rfl
  obtain ⟨F50, hF50, hl50, hg50⟩ := hi_obj (k := 50) h rfl
  obtain ⟨v50_0, hv50_0, hw50_0⟩ := hg50 0 _ rfl
  obtain rfl := fok_ref hw50_0
  obtain ⟨v50_1, hv50_1, hw50_1⟩ := hg50 1 _ rfl
  obtain rfl := fok_ref hw50_1
  obtain ⟨v50_2, hv50_2, hw50_2⟩ := hg50 2 _ rfl
  obtain rfl := fok_ref hw50_2
  obtain ⟨v50_3, hv50_3, hw50_3⟩ := hg50 3 _ rfl
  obtain rfl := fok_ref hw50_3
  obtain ⟨v50_4, hv50_4, hw50_4⟩ := hg50 4 _ rfl
  obtain rfl := fok_ref hw50_4
  obtain ⟨v50_5, hv50_5, hw50_5⟩ := hg50 5 _ rfl
  obtain ⟨nr, rfl, znr1, znr2, znr3, znr4⟩ := fok_int hw50_5
  obtain ⟨v50_6, hv50_6, hw50_6⟩ := hg50 6 _ rfl
  obtain ⟨nf, rfl, znf1, znf2, znf3, znf4⟩ := fok_int hw50_6
  have eF50 : F50 = [.ref 51, .ref 52, .ref 53, .ref 54, .ref 55, iv nr, iv nf] := lst_eq hl50 (fun j hj => by
    match j, hj with
    | 0, _ => exact hv50_0
    | 1, _ => exact hv50_1
    | 2, _ => exact hv50_2
    | 3, _ => exact hv50_3
    | 4, _ => exact hv50_4
    | 5, _ => exact hv50_5
    | 6, _ => exact hv50_6
    | j + 7, hj => exact absurd hj (by simp))
  subst eF50
  obtain ⟨n1, hF51, ha51⟩ := hi_arr (k := 51) h rfl
  obtain ⟨n2, hF52, ha52⟩ := hi_arr (k := 52) h rfl
  obtain ⟨n3, hF53, ha53⟩ := hi_arr (k := 53) h rfl
  obtain ⟨n4, hF54, ha54⟩ := hi_arr (k := 54) h rfl
  obtain ⟨n5, hF55, ha55⟩ := hi_arr (k := 55) h rfl
  obtain ⟨F56, hF56, hl56, hg56⟩ := hi_obj (k := 56) h rfl
  obtain ⟨v56_0, hv56_0, hw56_0⟩ := hg56 0 _ rfl
  obtain ⟨th, rfl, zth1, zth2, zth3, zth4⟩ := fok_int hw56_0
  obtain ⟨v56_1, hv56_1, hw56_1⟩ := hg56 1 _ rfl
  obtain rfl : v56_1 = .long tr := Option.some.inj (hv56_1.symm.trans (show F56[1]? = some (.long tr) by have q := htr; unfold as_fld at q; rw [hF56] at q; exact q))
  obtain ⟨v56_2, hv56_2, hw56_2⟩ := hg56 2 _ rfl
  obtain rfl := fok_ref hw56_2
  obtain ⟨v56_3, hv56_3, hw56_3⟩ := hg56 3 _ rfl
  obtain rfl := fok_ref hw56_3
  obtain ⟨v56_4, hv56_4, hw56_4⟩ := hg56 4 _ rfl
  obtain rfl := fok_ref hw56_4
  obtain ⟨v56_5, hv56_5, hw56_5⟩ := hg56 5 _ rfl
  obtain rfl := fok_ref hw56_5
  obtain ⟨v56_6, hv56_6, hw56_6⟩ := hg56 6 _ rfl
  obtain ⟨db, rfl, zdb1, zdb2, zdb3, zdb4⟩ := fok_int hw56_6
  obtain ⟨v56_7, hv56_7, hw56_7⟩ := hg56 7 _ rfl
  obtain ⟨sn, rfl, zsn1, zsn2, zsn3, zsn4⟩ := fok_int hw56_7
  obtain ⟨v56_8, hv56_8, hw56_8⟩ := hg56 8 _ rfl
  obtain rfl := fok_ref hw56_8
  obtain ⟨v56_9, hv56_9, hw56_9⟩ := hg56 9 _ rfl
  obtain rfl := fok_ref hw56_9
  obtain ⟨v56_10, hv56_10, hw56_10⟩ := hg56 10 _ rfl
  obtain rfl := fok_ref hw56_10
  obtain ⟨v56_11, hv56_11, hw56_11⟩ := hg56 11 _ rfl
  obtain rfl := fok_ref hw56_11
  obtain ⟨v56_12, hv56_12, hw56_12⟩ := hg56 12 _ rfl
  obtain ⟨dm, rfl, zdm1, zdm2, zdm3, zdm4⟩ := fok_int hw56_12
  obtain ⟨v56_13, hv56_13, hw56_13⟩ := hg56 13 _ rfl
  obtain ⟨sm, rfl, zsm1, zsm2, zsm3, zsm4⟩ := fok_int hw56_13
  obtain ⟨v56_14, hv56_14, hw56_14⟩ := hg56 14 _ rfl
  obtain rfl := fok_ref hw56_14
  obtain ⟨v56_15, hv56_15, hw56_15⟩ := hg56 15 _ rfl
  obtain ⟨ty, rfl, zty1, zty2, zty3, zty4⟩ := fok_int hw56_15
  obtain ⟨v56_16, hv56_16, hw56_16⟩ := hg56 16 _ rfl
  obtain ⟨nx, rfl, znx1, znx2, znx3, znx4⟩ := fok_int hw56_16
  obtain ⟨v56_17, hv56_17, hw56_17⟩ := hg56 17 _ rfl
  obtain ⟨tk, rfl, ztk1, ztk2, ztk3, ztk4⟩ := fok_int hw56_17
  obtain ⟨v56_18, hv56_18, hw56_18⟩ := hg56 18 _ rfl
  obtain ⟨pl, rfl, zpl1, zpl2, zpl3, zpl4⟩ := fok_int hw56_18
  obtain ⟨v56_19, hv56_19, hw56_19⟩ := hg56 19 _ rfl
  obtain ⟨va, rfl, zva1, zva2, zva3, zva4⟩ := fok_int hw56_19
  obtain ⟨v56_20, hv56_20, hw56_20⟩ := hg56 20 _ rfl
  obtain ⟨fa, rfl, zfa1, zfa2, zfa3, zfa4⟩ := fok_int hw56_20
  obtain ⟨v56_21, hv56_21, hw56_21⟩ := hg56 21 _ rfl
  obtain rfl := fok_ref hw56_21
  obtain ⟨v56_22, hv56_22, hw56_22⟩ := hg56 22 _ rfl
  obtain ⟨lr, rfl, zlr1, zlr2, zlr3, zlr4⟩ := fok_int hw56_22
  obtain ⟨v56_23, hv56_23, hw56_23⟩ := hg56 23 _ rfl
  obtain ⟨ri, rfl, zri1, zri2, zri3, zri4⟩ := fok_int hw56_23
  have eF56 : F56 = [iv th, .long tr, .ref 57, .ref 58, .ref 59, .ref 60, iv db, iv sn, .ref 61, .ref 62, .ref 63, .ref 64, iv dm, iv sm, .ref 65, iv ty, iv nx, iv tk, iv pl, iv va, iv fa, .ref 66, iv lr, iv ri] := lst_eq hl56 (fun j hj => by
    match j, hj with
    | 0, _ => exact hv56_0
    | 1, _ => exact hv56_1
    | 2, _ => exact hv56_2
    | 3, _ => exact hv56_3
    | 4, _ => exact hv56_4
    | 5, _ => exact hv56_5
    | 6, _ => exact hv56_6
    | 7, _ => exact hv56_7
    | 8, _ => exact hv56_8
    | 9, _ => exact hv56_9
    | 10, _ => exact hv56_10
    | 11, _ => exact hv56_11
    | 12, _ => exact hv56_12
    | 13, _ => exact hv56_13
    | 14, _ => exact hv56_14
    | 15, _ => exact hv56_15
    | 16, _ => exact hv56_16
    | 17, _ => exact hv56_17
    | 18, _ => exact hv56_18
    | 19, _ => exact hv56_19
    | 20, _ => exact hv56_20
    | 21, _ => exact hv56_21
    | 22, _ => exact hv56_22
    | 23, _ => exact hv56_23
    | j + 24, hj => exact absurd hj (by simp))
  subst eF56
  obtain ⟨s, hF57, ha57⟩ := hi_arr (k := 57) h rfl
  obtain ⟨kp, hF58, ha58⟩ := hi_arr (k := 58) h rfl
  obtain ⟨ik, hF59, ha59⟩ := hi_arr (k := 59) h rfl
  obtain ⟨tn, hF60, ha60⟩ := hi_arr (k := 60) h rfl
  obtain ⟨de, hF61, ha61⟩ := hi_arr (k := 61) h rfl
  obtain ⟨sd, hF62, ha62⟩ := hi_arr (k := 62) h rfl
  obtain ⟨dd, hF63, ha63⟩ := hi_arr (k := 63) h rfl
  obtain ⟨sr, hF64, ha64⟩ := hi_arr (k := 64) h rfl
  obtain ⟨tx, hF65, ha65⟩ := hi_arr (k := 65) h rfl
  obtain ⟨pa, hF66, ha66⟩ := hi_arr (k := 66) h rfl
  have hlen : mw.length = 67 := h.1
  refine kk ki ln bt v3_1 cp cs ct cv 5 14 ja ea ma a1 a2 a3 a4 a5 a6 a7 a8 jb eb mb b1 b2 b3 b4 b5 b6 b7 b8 re fl g1 g2 g3 g4 g5 rt la rs rg pd du ds me tt gr su gp rf m1 m2 m3 m4 m5 mr mf n1 n2 n3 n4 n5 nr nf th db sn dm sm ty nx tk pl va fa lr ri s kp ik tn de sd dd sr tx pa ?_ ⟨⟨⟨zla1, zla2⟩, hrf0, hrf1⟩, ⟨rfl, rfl⟩, ⟨⟨zln1, zln2⟩, row1 ha2, ⟨zea1, zea2⟩, ⟨zma1, zma2⟩, ⟨zeb1, zeb2⟩, ⟨zmb1, zmb2⟩, (fun j hj => ⟨row1 ha6 j hj, row1 ha7 j hj, row1 ha8 j hj⟩), (fun j hj => ⟨row1 ha9 j hj, row1 ha10 j hj, row1 ha11 j hj, row1 ha12 j hj⟩), (fun j hj => ⟨row1 ha15 j hj, row1 ha16 j hj, row1 ha17 j hj⟩), (fun j hj => ⟨row1 ha18 j hj, row1 ha19 j hj, row1 ha20 j hj, row1 ha21 j hj⟩)⟩, ⟨zdb1, zdb2⟩, ⟨zsn1, zsn2⟩, ⟨zty1, zty2⟩, ⟨zva3, zva4⟩, ⟨zlr1, zlr2⟩, RS_of ha57, row1 ha59, DE_of ha61, SD_of ha62, row1 ha66⟩
  refine lst_eq (hlen.trans rfl) (fun j hj => ?_)
  have hj : j < 67 := hj
  match j, hj with
  | 0, _ => exact hF0
  | 1, _ => exact hF1
  | 2, _ => exact hF2
  | 3, _ => exact hF3
  | 4, _ => exact hF4
  | 5, _ => exact hF5
  | 6, _ => exact hF6
  | 7, _ => exact hF7
  | 8, _ => exact hF8
  | 9, _ => exact hF9
  | 10, _ => exact hF10
  | 11, _ => exact hF11
  | 12, _ => exact hF12
  | 13, _ => exact hF13
  | 14, _ => exact hF14
  | 15, _ => exact hF15
  | 16, _ => exact hF16
  | 17, _ => exact hF17
  | 18, _ => exact hF18
  | 19, _ => exact hF19
  | 20, _ => exact hF20
  | 21, _ => exact hF21
  | 22, _ => exact hF22
  | 23, _ => exact hF23
  | 24, _ => exact hF24
  | 25, _ => exact hF25
  | 26, _ => exact hF26
  | 27, _ => exact hF27
  | 28, _ => exact hF28
  | 29, _ => exact hF29
  | 30, _ => exact hF30
  | 31, _ => exact hF31
  | 32, _ => exact hF32
  | 33, _ => exact hF33
  | 34, _ => exact hF34
  | 35, _ => exact hF35
  | 36, _ => exact hF36
  | 37, _ => exact hF37
  | 38, _ => exact hF38
  | 39, _ => exact hF39
  | 40, _ => exact hF40
  | 41, _ => exact hF41
  | 42, _ => exact hF42
  | 43, _ => exact hF43
  | 44, _ => exact hF44
  | 45, _ => exact hF45
  | 46, _ => exact hF46
  | 47, _ => exact hF47
  | 48, _ => exact hF48
  | 49, _ => exact hF49
  | 50, _ => exact hF50
  | 51, _ => exact hF51
  | 52, _ => exact hF52
  | 53, _ => exact hF53
  | 54, _ => exact hF54
  | 55, _ => exact hF55
  | 56, _ => exact hF56
  | 57, _ => exact hF57
  | 58, _ => exact hF58
  | 59, _ => exact hF59
  | 60, _ => exact hF60
  | 61, _ => exact hF61
  | 62, _ => exact hF62
  | 63, _ => exact hF63
  | 64, _ => exact hF64
  | 65, _ => exact hF65
  | 66, _ => exact hF66
  | j + 67, hj => exact absurd hj (by omega)
theorem FH_elim1 {P : Prop} {mw : List va_E} {mk tr : Int64} (h : as_HI sh1 mw) (hmk : as_fld mw 42 1 = some (.long mk)) (htr : as_fld mw 56 1 = some (.long tr)) (kk : ∀ (ki : Int) (ln : Int) (bt : Nat → Int32) (rl : Value) (cp : Int) (cs : Int) (ct : Int) (cv : Int) (rr : Nat) (dr : Nat) (ja : Int) (ea : Int) (ma : Int) (a1 : Nat → Int32) (a2 : Nat → Int32) (a3 : Nat → Int32) (a4 : Nat → Int32) (a5 : Nat → Int32) (a6 : Nat → Int32) (a7 : Nat → Int32) (a8 : Nat → Int32) (jb : Int) (eb : Int) (mb : Int) (b1 : Nat → Int32) (b2 : Nat → Int32) (b3 : Nat → Int32) (b4 : Nat → Int32) (b5 : Nat → Int32) (b6 : Nat → Int32) (b7 : Nat → Int32) (b8 : Nat → Int32) (re : Int) (fl : Int) (g1 : Nat → Int32) (g2 : Nat → Int32) (g3 : Nat → Int32) (g4 : Nat → Int32) (g5 : Nat → Int32) (rt : Int) (la : Int) (rs : Int) (rg : Int) (pd : Nat → Int32) (du : Nat → Int32) (ds : Nat → Int32) (me : Nat → Int32) (tt : Nat → Int32) (gr : Nat → Int32) (su : Nat → Int32) (gp : Nat → Int32) (rf : Nat → Option Nat) (m1 : Nat → Int32) (m2 : Nat → Int32) (m3 : Nat → Int32) (m4 : Nat → Int32) (m5 : Nat → Int32) (mr : Int) (mf : Int) (n1 : Nat → Int32) (n2 : Nat → Int32) (n3 : Nat → Int32) (n4 : Nat → Int32) (n5 : Nat → Int32) (nr : Int) (nf : Int) (th : Int) (db : Int) (sn : Int) (dm : Int) (sm : Int) (ty : Int) (nx : Int) (tk : Int) (pl : Int) (va : Int) (fa : Int) (lr : Int) (ri : Int) (s : Nat → Int32) (kp : Nat → Int32) (ik : Nat → Int32) (tn : Nat → Int32) (de : Nat → Int32) (sd : Nat → Int32) (dd : Nat → Int32) (sr : Nat → Int32) (tx : Nat → Int32) (pa : Nat → Int32), mw = (GW ki ln bt rl cp cs ct cv rr dr ja ea ma a1 a2 a3 a4 a5 a6 a7 a8 jb eb mb b1 b2 b3 b4 b5 b6 b7 b8 re fl g1 g2 g3 g4 g5 rt la rs rg pd du ds me tt gr su gp mk rf m1 m2 m3 m4 m5 mr mf n1 n2 n3 n4 n5 nr nf th tr db sn dm sm ty nx tk pl va fa lr ri s kp ik tn de sd dd sr tx pa) → (FH true rr dr la rf ln bt ea ma eb mb a1 a2 a3 a4 a5 a6 a7 b1 b2 b3 b4 b5 b6 b7 db sn ty va lr s ik de sd pa) → P) : P := by
  obtain ⟨F0, hF0, hl0, hg0⟩ := hi_obj (k := 0) h rfl
  obtain ⟨v0_0, hv0_0, hw0_0⟩ := hg0 0 _ rfl
  obtain rfl := fok_ref hw0_0
  obtain ⟨v0_1, hv0_1, hw0_1⟩ := hg0 1 _ rfl
  obtain rfl := fok_ref hw0_1
  obtain ⟨v0_2, hv0_2, hw0_2⟩ := hg0 2 _ rfl
  obtain rfl := fok_ref hw0_2
  obtain ⟨v0_3, hv0_3, hw0_3⟩ := hg0 3 _ rfl
  obtain rfl := fok_ref hw0_3
  obtain ⟨v0_4, hv0_4, hw0_4⟩ := hg0 4 _ rfl
  obtain rfl := fok_ref hw0_4
  obtain ⟨v0_5, hv0_5, hw0_5⟩ := hg0 5 _ rfl
  obtain rfl := fok_ref hw0_5
  obtain ⟨v0_6, hv0_6, hw0_6⟩ := hg0 6 _ rfl
  obtain rfl := fok_ref hw0_6
  obtain ⟨v0_7, hv0_7, hw0_7⟩ := hg0 7 _ rfl
  obtain rfl := fok_ref hw0_7
  obtain ⟨v0_8, hv0_8, hw0_8⟩ := hg0 8 _ rfl
  obtain rfl := fok_ref hw0_8
  obtain ⟨v0_9, hv0_9, hw0_9⟩ := hg0 9 _ rfl
  obtain rfl := fok_ref hw0_9
  obtain ⟨v0_10, hv0_10, hw0_10⟩ := hg0 10 _ rfl
  obtain ⟨ki, rfl, zki1, zki2, zki3, zki4⟩ := fok_int hw0_10
  have eF0 : F0 = [.ref 1, .ref 3, .ref 4, .ref 29, .ref 30, .ref 31, .ref 36, .ref 39, .ref 42, .ref 43, iv ki] := lst_eq hl0 (fun j hj => by
    match j, hj with
    | 0, _ => exact hv0_0
    | 1, _ => exact hv0_1
    | 2, _ => exact hv0_2
    | 3, _ => exact hv0_3
    | 4, _ => exact hv0_4
    | 5, _ => exact hv0_5
    | 6, _ => exact hv0_6
    | 7, _ => exact hv0_7
    | 8, _ => exact hv0_8
    | 9, _ => exact hv0_9
    | 10, _ => exact hv0_10
    | j + 11, hj => exact absurd hj (by simp))
  subst eF0
  obtain ⟨F1, hF1, hl1, hg1⟩ := hi_obj (k := 1) h rfl
  obtain ⟨v1_0, hv1_0, hw1_0⟩ := hg1 0 _ rfl
  obtain rfl := fok_ref hw1_0
  obtain ⟨v1_1, hv1_1, hw1_1⟩ := hg1 1 _ rfl
  obtain ⟨ln, rfl, zln1, zln2, zln3, zln4⟩ := fok_int hw1_1
  have eF1 : F1 = [.ref 2, iv ln] := lst_eq hl1 (fun j hj => by
    match j, hj with
    | 0, _ => exact hv1_0
    | 1, _ => exact hv1_1
    | j + 2, hj => exact absurd hj (by simp))
  subst eF1
  obtain ⟨bt, hF2, ha2⟩ := hi_arr (k := 2) h rfl
  obtain ⟨F3, hF3, hl3, hg3⟩ := hi_obj (k := 3) h rfl
  obtain ⟨v3_0, hv3_0, hw3_0⟩ := hg3 0 _ rfl
  obtain rfl := fok_ref hw3_0
  obtain ⟨v3_1, hv3_1, hw3_1⟩ := hg3 1 _ rfl
  obtain ⟨v3_2, hv3_2, hw3_2⟩ := hg3 2 _ rfl
  obtain ⟨cp, rfl, zcp1, zcp2, zcp3, zcp4⟩ := fok_int hw3_2
  obtain ⟨v3_3, hv3_3, hw3_3⟩ := hg3 3 _ rfl
  obtain ⟨cs, rfl, zcs1, zcs2, zcs3, zcs4⟩ := fok_int hw3_3
  obtain ⟨v3_4, hv3_4, hw3_4⟩ := hg3 4 _ rfl
  obtain ⟨ct, rfl, zct1, zct2, zct3, zct4⟩ := fok_int hw3_4
  obtain ⟨v3_5, hv3_5, hw3_5⟩ := hg3 5 _ rfl
  obtain ⟨cv, rfl, zcv1, zcv2, zcv3, zcv4⟩ := fok_int hw3_5
  have eF3 : F3 = [.ref 1, v3_1, iv cp, iv cs, iv ct, iv cv] := lst_eq hl3 (fun j hj => by
    match j, hj with
    | 0, _ => exact hv3_0
    | 1, _ => exact hv3_1
    | 2, _ => exact hv3_2
    | 3, _ => exact hv3_3
    | 4, _ => exact hv3_4
    | 5, _ => exact hv3_5
    | j + 6, hj => exact absurd hj (by simp))
  subst eF3
  obtain ⟨F4, hF4, hl4, hg4⟩ := hi_obj (k := 4) h rfl
  obtain ⟨v4_0, hv4_0, hw4_0⟩ := hg4 0 _ rfl
  obtain rfl := fok_ref hw4_0
  obtain ⟨v4_1, hv4_1, hw4_1⟩ := hg4 1 _ rfl
  obtain rfl := fok_ref hw4_1
  obtain ⟨v4_2, hv4_2, hw4_2⟩ := hg4 2 _ rfl
  obtain rfl := fok_ref hw4_2
  have eF4 : F4 = [.ref 14, .ref 5, .ref 23] := lst_eq hl4 (fun j hj => by
    match j, hj with
    | 0, _ => exact hv4_0
    | 1, _ => exact hv4_1
    | 2, _ => exact hv4_2
    | j + 3, hj => exact absurd hj (by simp))
  subst eF4
  obtain ⟨F5, hF5, hl5, hg5⟩ := hi_obj (k := 5) h rfl
  obtain ⟨v5_0, hv5_0, hw5_0⟩ := hg5 0 _ rfl
  obtain ⟨ja, rfl, zja1, zja2, zja3, zja4⟩ := fok_int hw5_0
  obtain ⟨v5_1, hv5_1, hw5_1⟩ := hg5 1 _ rfl
  obtain ⟨ea, rfl, zea1, zea2, zea3, zea4⟩ := fok_int hw5_1
  obtain ⟨v5_2, hv5_2, hw5_2⟩ := hg5 2 _ rfl
  obtain ⟨ma, rfl, zma1, zma2, zma3, zma4⟩ := fok_int hw5_2
  obtain ⟨v5_3, hv5_3, hw5_3⟩ := hg5 3 _ rfl
  obtain rfl := fok_ref hw5_3
  obtain ⟨v5_4, hv5_4, hw5_4⟩ := hg5 4 _ rfl
  obtain rfl := fok_ref hw5_4
  obtain ⟨v5_5, hv5_5, hw5_5⟩ := hg5 5 _ rfl
  obtain rfl := fok_ref hw5_5
  obtain ⟨v5_6, hv5_6, hw5_6⟩ := hg5 6 _ rfl
  obtain rfl := fok_ref hw5_6
  obtain ⟨v5_7, hv5_7, hw5_7⟩ := hg5 7 _ rfl
  obtain rfl := fok_ref hw5_7
  obtain ⟨v5_8, hv5_8, hw5_8⟩ := hg5 8 _ rfl
  obtain rfl := fok_ref hw5_8
  obtain ⟨v5_9, hv5_9, hw5_9⟩ := hg5 9 _ rfl
  obtain rfl := fok_ref hw5_9
  obtain ⟨v5_10, hv5_10, hw5_10⟩ := hg5 10 _ rfl
  obtain rfl := fok_ref hw5_10
  have eF5 : F5 = [iv ja, iv ea, iv ma, .ref 6, .ref 7, .ref 8, .ref 9, .ref 10, .ref 11, .ref 12, .ref 13] := lst_eq hl5 (fun j hj => by
    match j, hj with
    | 0, _ => exact hv5_0
    | 1, _ => exact hv5_1
    | 2, _ => exact hv5_2
    | 3, _ => exact hv5_3
    | 4, _ => exact hv5_4
    | 5, _ => exact hv5_5
    | 6, _ => exact hv5_6
    | 7, _ => exact hv5_7
    | 8, _ => exact hv5_8
    | 9, _ => exact hv5_9
    | 10, _ => exact hv5_10
    | j + 11, hj => exact absurd hj (by simp))
  subst eF5
  obtain ⟨a1, hF6, ha6⟩ := hi_arr (k := 6) h rfl
  obtain ⟨a2, hF7, ha7⟩ := hi_arr (k := 7) h rfl
  obtain ⟨a3, hF8, ha8⟩ := hi_arr (k := 8) h rfl
  obtain ⟨a4, hF9, ha9⟩ := hi_arr (k := 9) h rfl
  obtain ⟨a5, hF10, ha10⟩ := hi_arr (k := 10) h rfl
  obtain ⟨a6, hF11, ha11⟩ := hi_arr (k := 11) h rfl
  obtain ⟨a7, hF12, ha12⟩ := hi_arr (k := 12) h rfl
  obtain ⟨a8, hF13, ha13⟩ := hi_arr (k := 13) h rfl
  obtain ⟨F14, hF14, hl14, hg14⟩ := hi_obj (k := 14) h rfl
  obtain ⟨v14_0, hv14_0, hw14_0⟩ := hg14 0 _ rfl
  obtain ⟨jb, rfl, zjb1, zjb2, zjb3, zjb4⟩ := fok_int hw14_0
  obtain ⟨v14_1, hv14_1, hw14_1⟩ := hg14 1 _ rfl
  obtain ⟨eb, rfl, zeb1, zeb2, zeb3, zeb4⟩ := fok_int hw14_1
  obtain ⟨v14_2, hv14_2, hw14_2⟩ := hg14 2 _ rfl
  obtain ⟨mb, rfl, zmb1, zmb2, zmb3, zmb4⟩ := fok_int hw14_2
  obtain ⟨v14_3, hv14_3, hw14_3⟩ := hg14 3 _ rfl
  obtain rfl := fok_ref hw14_3
  obtain ⟨v14_4, hv14_4, hw14_4⟩ := hg14 4 _ rfl
  obtain rfl := fok_ref hw14_4
  obtain ⟨v14_5, hv14_5, hw14_5⟩ := hg14 5 _ rfl
  obtain rfl := fok_ref hw14_5
  obtain ⟨v14_6, hv14_6, hw14_6⟩ := hg14 6 _ rfl
  obtain rfl := fok_ref hw14_6
  obtain ⟨v14_7, hv14_7, hw14_7⟩ := hg14 7 _ rfl
  obtain rfl := fok_ref hw14_7
  obtain ⟨v14_8, hv14_8, hw14_8⟩ := hg14 8 _ rfl
  obtain rfl := fok_ref hw14_8
  obtain ⟨v14_9, hv14_9, hw14_9⟩ := hg14 9 _ rfl
  obtain rfl := fok_ref hw14_9
  obtain ⟨v14_10, hv14_10, hw14_10⟩ := hg14 10 _ rfl
  obtain rfl := fok_ref hw14_10
  have eF14 : F14 = [iv jb, iv eb, iv mb, .ref 15, .ref 16, .ref 17, .ref 18, .ref 19, .ref 20, .ref 21, .ref 22] := lst_eq hl14 (fun j hj => by
    match j, hj with
    | 0, _ => exact hv14_0
    | 1, _ => exact hv14_1
    | 2, _ => exact hv14_2
    | 3, _ => exact hv14_3
    | 4, _ => exact hv14_4
    | 5, _ => exact hv14_5
    | 6, _ => exact hv14_6
    | 7, _ => exact hv14_7
    | 8, _ => exact hv14_8
    | 9, _ => exact hv14_9
    | 10, _ => exact hv14_10
    | j + 11, hj => exact absurd hj (by simp))
  subst eF14
  obtain ⟨b1, hF15, ha15⟩ := hi_arr (k := 15) h rfl
  obtain ⟨b2, hF16, ha16⟩ := hi_arr (k := 16) h rfl
  obtain ⟨b3, hF17, ha17⟩ := hi_arr (k := 17) h rfl
  obtain ⟨b4, hF18, ha18⟩ := hi_arr (k := 18) h rfl
  obtain ⟨b5, hF19, ha19⟩ := hi_arr (k := 19) h rfl
  obtain ⟨b6, hF20, ha20⟩ := hi_arr (k := 20) h rfl
  obtain ⟨b7, hF21, ha21⟩ := hi_arr (k := 21) h rfl
  obtain ⟨b8, hF22, ha22⟩ := hi_arr (k := 22) h rfl
  obtain ⟨F23, hF23, hl23, hg23⟩ := hi_obj (k := 23) h rfl
  obtain ⟨v23_0, hv23_0, hw23_0⟩ := hg23 0 _ rfl
  obtain rfl := fok_ref hw23_0
  obtain ⟨v23_1, hv23_1, hw23_1⟩ := hg23 1 _ rfl
  obtain rfl := fok_ref hw23_1
  obtain ⟨v23_2, hv23_2, hw23_2⟩ := hg23 2 _ rfl
  obtain rfl := fok_ref hw23_2
  obtain ⟨v23_3, hv23_3, hw23_3⟩ := hg23 3 _ rfl
  obtain rfl := fok_ref hw23_3
  obtain ⟨v23_4, hv23_4, hw23_4⟩ := hg23 4 _ rfl
  obtain rfl := fok_ref hw23_4
  obtain ⟨v23_5, hv23_5, hw23_5⟩ := hg23 5 _ rfl
  obtain ⟨re, rfl, zre1, zre2, zre3, zre4⟩ := fok_int hw23_5
  obtain ⟨v23_6, hv23_6, hw23_6⟩ := hg23 6 _ rfl
  obtain ⟨fl, rfl, zfl1, zfl2, zfl3, zfl4⟩ := fok_int hw23_6
  have eF23 : F23 = [.ref 24, .ref 25, .ref 26, .ref 27, .ref 28, iv re, iv fl] := lst_eq hl23 (fun j hj => by
    match j, hj with
    | 0, _ => exact hv23_0
    | 1, _ => exact hv23_1
    | 2, _ => exact hv23_2
    | 3, _ => exact hv23_3
    | 4, _ => exact hv23_4
    | 5, _ => exact hv23_5
    | 6, _ => exact hv23_6
    | j + 7, hj => exact absurd hj (by simp))
  subst eF23
  obtain ⟨g1, hF24, ha24⟩ := hi_arr (k := 24) h rfl
  obtain ⟨g2, hF25, ha25⟩ := hi_arr (k := 25) h rfl
  obtain ⟨g3, hF26, ha26⟩ := hi_arr (k := 26) h rfl
  obtain ⟨g4, hF27, ha27⟩ := hi_arr (k := 27) h rfl
  obtain ⟨g5, hF28, ha28⟩ := hi_arr (k := 28) h rfl
  obtain ⟨F29, hF29, hl29, hg29⟩ := hi_obj (k := 29) h rfl
  obtain ⟨v29_0, hv29_0, hw29_0⟩ := hg29 0 _ rfl
  obtain rfl := fok_ref hw29_0
  have eF29 : F29 = [.ref 4] := lst_eq hl29 (fun j hj => by
    match j, hj with
    | 0, _ => exact hv29_0
    | j + 1, hj => exact absurd hj (by simp))
  subst eF29
  obtain ⟨F30, hF30, hl30, hg30⟩ := hi_obj (k := 30) h rfl
  obtain ⟨v30_0, hv30_0, hw30_0⟩ := hg30 0 _ rfl
  obtain rfl := fok_ref hw30_0
  obtain ⟨v30_1, hv30_1, hw30_1⟩ := hg30 1 _ rfl
  obtain ⟨rt, rfl, zrt1, zrt2, zrt3, zrt4⟩ := fok_int hw30_1
  have eF30 : F30 = [.ref 4, iv rt] := lst_eq hl30 (fun j hj => by
    match j, hj with
    | 0, _ => exact hv30_0
    | 1, _ => exact hv30_1
    | j + 2, hj => exact absurd hj (by simp))
  subst eF30
  obtain ⟨F31, hF31, hl31, hg31⟩ := hi_obj (k := 31) h rfl
  obtain ⟨v31_0, hv31_0, hw31_0⟩ := hg31 0 _ rfl
  obtain rfl := fok_ref hw31_0
  obtain ⟨v31_1, hv31_1, hw31_1⟩ := hg31 1 _ rfl
  obtain rfl := fok_ref hw31_1
  obtain ⟨v31_2, hv31_2, hw31_2⟩ := hg31 2 _ rfl
  obtain rfl := fok_ref hw31_2
  obtain ⟨v31_3, hv31_3, hw31_3⟩ := hg31 3 _ rfl
  obtain rfl := fok_ref hw31_3
  obtain ⟨v31_4, hv31_4, hw31_4⟩ := hg31 4 _ rfl
  obtain rfl := fok_ref hw31_4
  obtain ⟨v31_5, hv31_5, hw31_5⟩ := hg31 5 _ rfl
  obtain ⟨la, rfl, zla1, zla2, zla3, zla4⟩ := fok_int hw31_5
  obtain ⟨v31_6, hv31_6, hw31_6⟩ := hg31 6 _ rfl
  obtain ⟨rs, rfl, zrs1, zrs2, zrs3, zrs4⟩ := fok_int hw31_6
  obtain ⟨v31_7, hv31_7, hw31_7⟩ := hg31 7 _ rfl
  obtain ⟨rg, rfl, zrg1, zrg2, zrg3, zrg4⟩ := fok_int hw31_7
  have eF31 : F31 = [.ref 4, .ref 32, .ref 33, .ref 34, .ref 35, iv la, iv rs, iv rg] := lst_eq hl31 (fun j hj => by
    match j, hj with
    | 0, _ => exact hv31_0
    | 1, _ => exact hv31_1
    | 2, _ => exact hv31_2
    | 3, _ => exact hv31_3
    | 4, _ => exact hv31_4
    | 5, _ => exact hv31_5
    | 6, _ => exact hv31_6
    | 7, _ => exact hv31_7
    | j + 8, hj => exact absurd hj (by simp))
  subst eF31
  obtain ⟨pd, hF32, ha32⟩ := hi_arr (k := 32) h rfl
  obtain ⟨du, hF33, ha33⟩ := hi_arr (k := 33) h rfl
  obtain ⟨ds, hF34, ha34⟩ := hi_arr (k := 34) h rfl
  obtain ⟨me, hF35, ha35⟩ := hi_arr (k := 35) h rfl
  obtain ⟨F36, hF36, hl36, hg36⟩ := hi_obj (k := 36) h rfl
  obtain ⟨v36_0, hv36_0, hw36_0⟩ := hg36 0 _ rfl
  obtain rfl := fok_ref hw36_0
  obtain ⟨v36_1, hv36_1, hw36_1⟩ := hg36 1 _ rfl
  obtain rfl := fok_ref hw36_1
  obtain ⟨v36_2, hv36_2, hw36_2⟩ := hg36 2 _ rfl
  obtain rfl := fok_ref hw36_2
  have eF36 : F36 = [.ref 4, .ref 37, .ref 38] := lst_eq hl36 (fun j hj => by
    match j, hj with
    | 0, _ => exact hv36_0
    | 1, _ => exact hv36_1
    | 2, _ => exact hv36_2
    | j + 3, hj => exact absurd hj (by simp))
  subst eF36
  obtain ⟨tt, hF37, ha37⟩ := hi_arr (k := 37) h rfl
  obtain ⟨gr, hF38, ha38⟩ := hi_arr (k := 38) h rfl
  obtain ⟨F39, hF39, hl39, hg39⟩ := hi_obj (k := 39) h rfl
  obtain ⟨v39_0, hv39_0, hw39_0⟩ := hg39 0 _ rfl
  obtain rfl := fok_ref hw39_0
  obtain ⟨v39_1, hv39_1, hw39_1⟩ := hg39 1 _ rfl
  obtain rfl := fok_ref hw39_1
  obtain ⟨v39_2, hv39_2, hw39_2⟩ := hg39 2 _ rfl
  obtain rfl := fok_ref hw39_2
  have eF39 : F39 = [.ref 4, .ref 40, .ref 41] := lst_eq hl39 (fun j hj => by
    match j, hj with
    | 0, _ => exact hv39_0
    | 1, _ => exact hv39_1
    | 2, _ => exact hv39_2
    | j + 3, hj => exact absurd hj (by simp))
  subst eF39
  obtain ⟨su, hF40, ha40⟩ := hi_arr (k := 40) h rfl
  obtain ⟨gp, hF41, ha41⟩ := hi_arr (k := 41) h rfl
  obtain ⟨F42, hF42, hl42, hg42⟩ := hi_obj (k := 42) h rfl
  obtain ⟨v42_0, hv42_0, hw42_0⟩ := hg42 0 _ rfl
  obtain rfl := fok_ref hw42_0
  obtain ⟨v42_1, hv42_1, hw42_1⟩ := hg42 1 _ rfl
  obtain rfl : v42_1 = .long mk := Option.some.inj (hv42_1.symm.trans (show F42[1]? = some (.long mk) by have q := hmk; unfold as_fld at q; rw [hF42] at q; exact q))
  have eF42 : F42 = [.ref 4, .long mk] := lst_eq hl42 (fun j hj => by
    match j, hj with
    | 0, _ => exact hv42_0
    | 1, _ => exact hv42_1
    | j + 2, hj => exact absurd hj (by simp))
  subst eF42
  obtain ⟨e43, hF43, hc43⟩ := h.2 43 (.inr (.inr [44, 50])) rfl
  obtain ⟨rf, e43e, hrf0, hrf1⟩ : ∃ rf : Nat → Option Nat, e43 = .inl (3, 2, .inr (.inr (.inr (.inr rf)))) ∧ rf 0 = some 44 ∧ rf 1 = some 50 := by
    cases e43 with
    | inr x => exact hc43.elim
    | inl x =>
      obtain ⟨x1, x2, x3⟩ := x
      obtain ⟨y1, y2, f, y3, y4⟩ := hc43
      have y1 : x1 = 3 := y1
      have y2 : x2 = 2 := y2
      have y3 : x3 = .inr (.inr (.inr (.inr f))) := y3
      exact ⟨f, by rw [y1, y2, y3], y4 0 44 rfl, y4 1 50 rfl⟩
  subst e43e
  obtain ⟨F44, hF44, hl44, hg44⟩ := hi_obj (k := 44) h rfl
  obtain ⟨v44_0, hv44_0, hw44_0⟩ := hg44 0 _ rfl
  obtain rfl := fok_ref hw44_0
  obtain ⟨v44_1, hv44_1, hw44_1⟩ := hg44 1 _ rfl
  obtain rfl := fok_ref hw44_1
  obtain ⟨v44_2, hv44_2, hw44_2⟩ := hg44 2 _ rfl
  obtain rfl := fok_ref hw44_2
  obtain ⟨v44_3, hv44_3, hw44_3⟩ := hg44 3 _ rfl
  obtain rfl := fok_ref hw44_3
  obtain ⟨v44_4, hv44_4, hw44_4⟩ := hg44 4 _ rfl
  obtain rfl := fok_ref hw44_4
  obtain ⟨v44_5, hv44_5, hw44_5⟩ := hg44 5 _ rfl
  obtain ⟨mr, rfl, zmr1, zmr2, zmr3, zmr4⟩ := fok_int hw44_5
  obtain ⟨v44_6, hv44_6, hw44_6⟩ := hg44 6 _ rfl
  obtain ⟨mf, rfl, zmf1, zmf2, zmf3, zmf4⟩ := fok_int hw44_6
  have eF44 : F44 = [.ref 45, .ref 46, .ref 47, .ref 48, .ref 49, iv mr, iv mf] := lst_eq hl44 (fun j hj => by
    match j, hj with
    | 0, _ => exact hv44_0
    | 1, _ => exact hv44_1
    | 2, _ => exact hv44_2
    | 3, _ => exact hv44_3
    | 4, _ => exact hv44_4
    | 5, _ => exact hv44_5
    | 6, _ => exact hv44_6
    | j + 7, hj => exact absurd hj (by simp))
  subst eF44
  obtain ⟨m1, hF45, ha45⟩ := hi_arr (k := 45) h rfl
  obtain ⟨m2, hF46, ha46⟩ := hi_arr (k := 46) h rfl
  obtain ⟨m3, hF47, ha47⟩ := hi_arr (k := 47) h rfl
  obtain ⟨m4, hF48, ha48⟩ := hi_arr (k := 48) h rfl
  obtain ⟨m5, hF49, ha49⟩ := hi_arr (k := 49) h rfl
  obtain ⟨F50, hF50, hl50, hg50⟩ := hi_obj (k := 50) h rfl
  obtain ⟨v50_0, hv50_0, hw50_0⟩ := hg50 0 _ rfl
  obtain rfl := fok_ref hw50_0
  obtain ⟨v50_1, hv50_1, hw50_1⟩ := hg50 1 _ rfl
  obtain rfl := fok_ref hw50_1
  obtain ⟨v50_2, hv50_2, hw50_2⟩ := hg50 2 _ rfl
  obtain rfl := fok_ref hw50_2
  obtain ⟨v50_3, hv50_3, hw50_3⟩ := hg50 3 _ rfl
  obtain rfl := fok_ref hw50_3
  obtain ⟨v50_4, hv50_4, hw50_4⟩ := hg50 4 _ rfl
  obtain rfl := fok_ref hw50_4
  obtain ⟨v50_5, hv50_5, hw50_5⟩ := hg50 5 _ rfl
  obtain ⟨nr, rfl, znr1, znr2, znr3, znr4⟩ := fok_int hw50_5
  obtain ⟨v50_6, hv50_6, hw50_6⟩ := hg50 6 _ rfl
  obtain ⟨nf, rfl, znf1, znf2, znf3, znf4⟩ := fok_int hw50_6
  have eF50 : F50 = [.ref 51, .ref 52, .ref 53, .ref 54, .ref 55, iv nr, iv nf] := lst_eq hl50 (fun j hj => by
    match j, hj with
    | 0, _ => exact hv50_0
    | 1, _ => exact hv50_1
    | 2, _ => exact hv50_2
    | 3, _ => exact hv50_3
    | 4, _ => exact hv50_4
    | 5, _ => exact hv50_5
    | 6, _ => exact hv50_6
    | j + 7, hj => exact absurd hj (by simp))
  subst eF50
  obtain ⟨n1, hF51, ha51⟩ := hi_arr (k := 51) h rfl
  obtain ⟨n2, hF52, ha52⟩ := hi_arr (k := 52) h rfl
  obtain ⟨n3, hF53, ha53⟩ := hi_arr (k := 53) h rfl
  obtain ⟨n4, hF54, ha54⟩ := hi_arr (k := 54) h rfl
  obtain ⟨n5, hF55, ha55⟩ := hi_arr (k := 55) h rfl
  obtain ⟨F56, hF56, hl56, hg56⟩ := hi_obj (k := 56) h rfl
  obtain ⟨v56_0, hv56_0, hw56_0⟩ := hg56 0 _ rfl
  obtain ⟨th, rfl, zth1, zth2, zth3, zth4⟩ := fok_int hw56_0
  obtain ⟨v56_1, hv56_1, hw56_1⟩ := hg56 1 _ rfl
  obtain rfl : v56_1 = .long tr := Option.some.inj (hv56_1.symm.trans (show F56[1]? = some (.long tr) by have q := htr; unfold as_fld at q; rw [hF56] at q; exact q))
  obtain ⟨v56_2, hv56_2, hw56_2⟩ := hg56 2 _ rfl
  obtain rfl := fok_ref hw56_2
  obtain ⟨v56_3, hv56_3, hw56_3⟩ := hg56 3 _ rfl
  obtain rfl := fok_ref hw56_3
  obtain ⟨v56_4, hv56_4, hw56_4⟩ := hg56 4 _ rfl
  obtain rfl := fok_ref hw56_4
  obtain ⟨v56_5, hv56_5, hw56_5⟩ := hg56 5 _ rfl
  obtain rfl := fok_ref hw56_5
  obtain ⟨v56_6, hv56_6, hw56_6⟩ := hg56 6 _ rfl
  obtain ⟨db, rfl, zdb1, zdb2, zdb3, zdb4⟩ := fok_int hw56_6
  obtain ⟨v56_7, hv56_7, hw56_7⟩ := hg56 7 _ rfl
  obtain ⟨sn, rfl, zsn1, zsn2, zsn3, zsn4⟩ := fok_int hw56_7
  obtain ⟨v56_8, hv56_8, hw56_8⟩ := hg56 8 _ rfl
  obtain rfl := fok_ref hw56_8
  obtain ⟨v56_9, hv56_9, hw56_9⟩ := hg56 9 _ rfl
  obtain rfl := fok_ref hw56_9
  obtain ⟨v56_10, hv56_10, hw56_10⟩ := hg56 10 _ rfl
  obtain rfl := fok_ref hw56_10
  obtain ⟨v56_11, hv56_11, hw56_11⟩ := hg56 11 _ rfl
  obtain rfl := fok_ref hw56_11
  obtain ⟨v56_12, hv56_12, hw56_12⟩ := hg56 12 _ rfl
  obtain ⟨dm, rfl, zdm1, zdm2, zdm3, zdm4⟩ := fok_int hw56_12
  obtain ⟨v56_13, hv56_13, hw56_13⟩ := hg56 13 _ rfl
  obtain ⟨sm, rfl, zsm1, zsm2, zsm3, zsm4⟩ := fok_int hw56_13
  obtain ⟨v56_14, hv56_14, hw56_14⟩ := hg56 14 _ rfl
  obtain rfl := fok_ref hw56_14
  obtain ⟨v56_15, hv56_15, hw56_15⟩ := hg56 15 _ rfl
  obtain ⟨ty, rfl, zty1, zty2, zty3, zty4⟩ := fok_int hw56_15
  obtain ⟨v56_16, hv56_16, hw56_16⟩ := hg56 16 _ rfl
  obtain ⟨nx, rfl, znx1, znx2, znx3, znx4⟩ := fok_int hw56_16
  obtain ⟨v56_17, hv56_17, hw56_17⟩ := hg56 17 _ rfl
  obtain ⟨tk, rfl, ztk1, ztk2, ztk3, ztk4⟩ := fok_int hw56_17
  obtain ⟨v56_18, hv56_18, hw56_18⟩ := hg56 18 _ rfl
  obtain ⟨pl, rfl, zpl1, zpl2, zpl3, zpl4⟩ := fok_int hw56_18
  obtain ⟨v56_19, hv56_19, hw56_19⟩ := hg56 19 _ rfl
  obtain ⟨va, rfl, zva1, zva2, zva3, zva4⟩ := fok_int hw56_19
  obtain ⟨v56_20, hv56_20, hw56_20⟩ := hg56 20 _ rfl
  obtain ⟨fa, rfl, zfa1, zfa2, zfa3, zfa4⟩ := fok_int hw56_20
  obtain ⟨v56_21, hv56_21, hw56_21⟩ := hg56 21 _ rfl
  obtain rfl := fok_ref hw56_21
  obtain ⟨v56_22, hv56_22, hw56_22⟩ := hg56 22 _ rfl
  obtain ⟨lr, rfl, zlr1, zlr2, zlr3, zlr4⟩ := fok_int hw56_22
  obtain ⟨v56_23, hv56_23, hw56_23⟩ := hg56 23 _ rfl
  obtain ⟨ri, rfl, zri1, zri2, zri3, zri4⟩ := fok_int hw56_23
  have eF56 : F56 = [iv th, .long tr, .ref 57, .ref 58, .ref 59, .ref 60, iv db, iv sn, .ref 61, .ref 62, .ref 63, .ref 64, iv dm, iv sm, .ref 65, iv ty, iv nx, iv tk, iv pl, iv va, iv fa, .ref 66, iv lr, iv ri] := lst_eq hl56 (fun j hj => by
    match j, hj with
    | 0, _ => exact hv56_0
    | 1, _ => exact hv56_1
    | 2, _ => exact hv56_2
    | 3, _ => exact hv56_3
    | 4, _ => exact hv56_4
    | 5, _ => exact hv56_5
    | 6, _ => exact hv56_6
    | 7, _ => exact hv56_7
    | 8, _ => exact hv56_8
    | 9, _ => exact hv56_9
    | 10, _ => exact hv56_10
    | 11, _ => exact hv56_11
    | 12, _ => exact hv56_12
    | 13, _ => exact hv56_13
    | 14, _ => exact hv56_14
    | 15, _ => exact hv56_15
    | 16, _ => exact hv56_16
    | 17, _ => exact hv56_17
    | 18, _ => exact hv56_18
    | 19, _ => exact hv56_19
    | 20, _ => exact hv56_20
    | 21, _ => exact hv56_21
    | 22, _ => exact hv56_22
    | 23, _ => exact hv56_23
    | j + 24, hj => exact absurd hj (by simp))
  subst eF56
  obtain ⟨s, hF57, ha57⟩ := hi_arr (k := 57) h rfl
  obtain ⟨kp, hF58, ha58⟩ := hi_arr (k := 58) h rfl
  obtain ⟨ik, hF59, ha59⟩ := hi_arr (k := 59) h rfl
  obtain ⟨tn, hF60, ha60⟩ := hi_arr (k := 60) h rfl
  obtain ⟨de, hF61, ha61⟩ := hi_arr (k := 61) h rfl
  obtain ⟨sd, hF62, ha62⟩ := hi_arr (k := 62) h rfl
  obtain ⟨dd, hF63, ha63⟩ := hi_arr (k := 63) h rfl
  obtain ⟨sr, hF64, ha64⟩ := hi_arr (k := 64) h rfl
  obtain ⟨tx, hF65, ha65⟩ := hi_arr (k := 65) h rfl
  obtain ⟨pa, hF66, ha66⟩ := hi_arr (k := 66) h rfl
  have hlen : mw.length = 67 := h.1
  refine kk ki ln bt v3_1 cp cs ct cv 14 5 ja ea ma a1 a2 a3 a4 a5 a6 a7 a8 jb eb mb b1 b2 b3 b4 b5 b6 b7 b8 re fl g1 g2 g3 g4 g5 rt la rs rg pd du ds me tt gr su gp rf m1 m2 m3 m4 m5 mr mf n1 n2 n3 n4 n5 nr nf th db sn dm sm ty nx tk pl va fa lr ri s kp ik tn de sd dd sr tx pa ?_ ⟨⟨⟨zla1, zla2⟩, hrf0, hrf1⟩, ⟨rfl, rfl⟩, ⟨⟨zln1, zln2⟩, row1 ha2, ⟨zea1, zea2⟩, ⟨zma1, zma2⟩, ⟨zeb1, zeb2⟩, ⟨zmb1, zmb2⟩, (fun j hj => ⟨row1 ha6 j hj, row1 ha7 j hj, row1 ha8 j hj⟩), (fun j hj => ⟨row1 ha9 j hj, row1 ha10 j hj, row1 ha11 j hj, row1 ha12 j hj⟩), (fun j hj => ⟨row1 ha15 j hj, row1 ha16 j hj, row1 ha17 j hj⟩), (fun j hj => ⟨row1 ha18 j hj, row1 ha19 j hj, row1 ha20 j hj, row1 ha21 j hj⟩)⟩, ⟨zdb1, zdb2⟩, ⟨zsn1, zsn2⟩, ⟨zty1, zty2⟩, ⟨zva3, zva4⟩, ⟨zlr1, zlr2⟩, RS_of ha57, row1 ha59, DE_of ha61, SD_of ha62, row1 ha66⟩
  refine lst_eq (hlen.trans rfl) (fun j hj => ?_)
  have hj : j < 67 := hj
  match j, hj with
  | 0, _ => exact hF0
  | 1, _ => exact hF1
  | 2, _ => exact hF2
  | 3, _ => exact hF3
  | 4, _ => exact hF4
  | 5, _ => exact hF5
  | 6, _ => exact hF6
  | 7, _ => exact hF7
  | 8, _ => exact hF8
  | 9, _ => exact hF9
  | 10, _ => exact hF10
  | 11, _ => exact hF11
  | 12, _ => exact hF12
  | 13, _ => exact hF13
  | 14, _ => exact hF14
  | 15, _ => exact hF15
  | 16, _ => exact hF16
  | 17, _ => exact hF17
  | 18, _ => exact hF18
  | 19, _ => exact hF19
  | 20, _ => exact hF20
  | 21, _ => exact hF21
  | 22, _ => exact hF22
  | 23, _ => exact hF23
  | 24, _ => exact hF24
  | 25, _ => exact hF25
  | 26, _ => exact hF26
  | 27, _ => exact hF27
  | 28, _ => exact hF28
  | 29, _ => exact hF29
  | 30, _ => exact hF30
  | 31, _ => exact hF31
  | 32, _ => exact hF32
  | 33, _ => exact hF33
  | 34, _ => exact hF34
  | 35, _ => exact hF35
  | 36, _ => exact hF36
  | 37, _ => exact hF37
  | 38, _ => exact hF38
  | 39, _ => exact hF39
  | 40, _ => exact hF40
  | 41, _ => exact hF41
  | 42, _ => exact hF42
  | 43, _ => exact hF43
  | 44, _ => exact hF44
  | 45, _ => exact hF45
  | 46, _ => exact hF46
  | 47, _ => exact hF47
  | 48, _ => exact hF48
  | 49, _ => exact hF49
  | 50, _ => exact hF50
  | 51, _ => exact hF51
  | 52, _ => exact hF52
  | 53, _ => exact hF53
  | 54, _ => exact hF54
  | 55, _ => exact hF55
  | 56, _ => exact hF56
  | 57, _ => exact hF57
  | 58, _ => exact hF58
  | 59, _ => exact hF59
  | 60, _ => exact hF60
  | 61, _ => exact hF61
  | 62, _ => exact hF62
  | 63, _ => exact hF63
  | 64, _ => exact hF64
  | 65, _ => exact hF65
  | 66, _ => exact hF66
  | j + 67, hj => exact absurd hj (by omega)
theorem FH_elim {P : Prop} {v : Bool} {mw : List va_E} {mk tr : Int64} (h : as_HI (shf v) mw) (hmk : as_fld mw 42 1 = some (.long mk)) (htr : as_fld mw 56 1 = some (.long tr)) (kk : ∀ (ki : Int) (ln : Int) (bt : Nat → Int32) (rl : Value) (cp : Int) (cs : Int) (ct : Int) (cv : Int) (rr : Nat) (dr : Nat) (ja : Int) (ea : Int) (ma : Int) (a1 : Nat → Int32) (a2 : Nat → Int32) (a3 : Nat → Int32) (a4 : Nat → Int32) (a5 : Nat → Int32) (a6 : Nat → Int32) (a7 : Nat → Int32) (a8 : Nat → Int32) (jb : Int) (eb : Int) (mb : Int) (b1 : Nat → Int32) (b2 : Nat → Int32) (b3 : Nat → Int32) (b4 : Nat → Int32) (b5 : Nat → Int32) (b6 : Nat → Int32) (b7 : Nat → Int32) (b8 : Nat → Int32) (re : Int) (fl : Int) (g1 : Nat → Int32) (g2 : Nat → Int32) (g3 : Nat → Int32) (g4 : Nat → Int32) (g5 : Nat → Int32) (rt : Int) (la : Int) (rs : Int) (rg : Int) (pd : Nat → Int32) (du : Nat → Int32) (ds : Nat → Int32) (me : Nat → Int32) (tt : Nat → Int32) (gr : Nat → Int32) (su : Nat → Int32) (gp : Nat → Int32) (rf : Nat → Option Nat) (m1 : Nat → Int32) (m2 : Nat → Int32) (m3 : Nat → Int32) (m4 : Nat → Int32) (m5 : Nat → Int32) (mr : Int) (mf : Int) (n1 : Nat → Int32) (n2 : Nat → Int32) (n3 : Nat → Int32) (n4 : Nat → Int32) (n5 : Nat → Int32) (nr : Int) (nf : Int) (th : Int) (db : Int) (sn : Int) (dm : Int) (sm : Int) (ty : Int) (nx : Int) (tk : Int) (pl : Int) (va : Int) (fa : Int) (lr : Int) (ri : Int) (s : Nat → Int32) (kp : Nat → Int32) (ik : Nat → Int32) (tn : Nat → Int32) (de : Nat → Int32) (sd : Nat → Int32) (dd : Nat → Int32) (sr : Nat → Int32) (tx : Nat → Int32) (pa : Nat → Int32), mw = (GW ki ln bt rl cp cs ct cv rr dr ja ea ma a1 a2 a3 a4 a5 a6 a7 a8 jb eb mb b1 b2 b3 b4 b5 b6 b7 b8 re fl g1 g2 g3 g4 g5 rt la rs rg pd du ds me tt gr su gp mk rf m1 m2 m3 m4 m5 mr mf n1 n2 n3 n4 n5 nr nf th tr db sn dm sm ty nx tk pl va fa lr ri s kp ik tn de sd dd sr tx pa) → (FH v rr dr la rf ln bt ea ma eb mb a1 a2 a3 a4 a5 a6 a7 b1 b2 b3 b4 b5 b6 b7 db sn ty va lr s ik de sd pa) → P) : P := by
  cases v with
  | false => exact FH_elim0 h hmk htr kk
  | true => exact FH_elim1 h hmk htr kk
