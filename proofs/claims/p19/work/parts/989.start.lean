/-! ===== both objects are made: the invariant at the loop's start ===== -/
def ckR (f : Nat → Int32) (j : Nat) (r : ab_R) : Bool := Nat.ble r.1 j && (Nat.ble j r.2.1 && (match r.2.2.2[j % r.2.2.2.length]? with
  | some sp => decide (sp.1 ≤ (f j).toInt) && decide ((f j).toInt ≤ sp.2)
  | none => false))
def ckF (F : ab_F) (v : Value) : Bool := match F, v with
  | .inl x, .int z => decide (x.2.1 ≤ z.toInt) && decide (z.toInt ≤ x.2.2)
  | .inr (some (some k)), .ref q => Nat.beq q k
  | .inr (some none), .long _ => true
  | .inr none, _ => true
  | _, _ => false
def ckFs : List ab_F → List Value → Bool
  | [], [] => true
  | F :: a, v :: b => ckF F v && ckFs a b
  | _, _ => false
def ckC (s : ab_S) (e : va_E) : Bool := match s, e with
  | .inl a, .inl x => Nat.beq x.1 a.1 && (Nat.beq x.2.1 a.2.1 && (match x.2.2 with
    | .inl f => (List.range a.2.1).all (fun j => a.2.2.any (ckR f j))
    | _ => false))
  | .inr (.inl o), .inr x => Nat.beq x.1 o.1 && ckFs o.2 x.2
  | .inr (.inr ks), .inl x => Nat.beq x.1 3 && (Nat.beq x.2.1 ks.length && (match x.2.2 with
    | .inr (.inr (.inr (.inr f))) => (List.range ks.length).all (fun j => decide (f j = ks[j]?))
    | _ => false))
  | _, _ => false
def ckW : List ab_S → List va_E → Bool
  | [], [] => true
  | s :: a, e :: b => ckC s e && ckW a b
  | _, _ => false
theorem ckR_ok {f : Nat → Int32} {j : Nat} {r : ab_R} (h : ckR f j r = true) : as_row f j r := by
  unfold ckR at h
  rw [Bool.and_eq_true, Bool.and_eq_true] at h
  obtain ⟨h1, h2, h3⟩ := h
  split at h3
  · rename_i sp hs
    rw [Bool.and_eq_true] at h3
    exact ⟨Nat.le_of_ble_eq_true h1, Nat.le_of_ble_eq_true h2, sp, hs, of_decide_eq_true h3.1, of_decide_eq_true h3.2⟩
  · cases h3
theorem ckF_ok {F : ab_F} {v : Value} (h : ckF F v = true) : as_fok F v := by
  unfold ckF at h
  split at h
  · rw [Bool.and_eq_true] at h
    exact ⟨of_decide_eq_true h.1, of_decide_eq_true h.2⟩
  · exact Nat.eq_of_beq_eq_true h
  · trivial
  · trivial
  · cases h
theorem ckFs_ok : ∀ {S : List ab_F} {F : List Value}, ckFs S F = true → F.length = S.length ∧ ∀ (j : Nat) (G : ab_F), S[j]? = some G → ∃ v, F[j]? = some v ∧ as_fok G v
  | [], [], _ => ⟨rfl, fun j G h => by simp at h⟩
  | [], _ :: _, h => by cases h
  | _ :: _, [], h => by cases h
  | G :: S, v :: F, h => by
    have h : (ckF G v && ckFs S F) = true := h
    rw [Bool.and_eq_true] at h
    obtain ⟨e, k⟩ := ckFs_ok h.2
    exact ⟨by rw [List.length_cons, List.length_cons, e], ca_cons (ckF_ok h.1) k⟩
theorem ckC_ok {s : ab_S} {e : va_E} (h : ckC s e = true) : as_cell s e := by
  unfold ckC at h
  split at h
  · rename_i a x
    rw [Bool.and_eq_true, Bool.and_eq_true] at h
    obtain ⟨h1, h2, h3⟩ := h
    split at h3
    · rename_i f hf
      refine ⟨Nat.eq_of_beq_eq_true h1, Nat.eq_of_beq_eq_true h2, f, hf, fun j hj => ?_⟩
      obtain ⟨r, r1, r2⟩ := List.any_eq_true.mp (List.all_eq_true.mp h3 j (List.mem_range.mpr hj))
      exact ⟨r, r1, ckR_ok r2⟩
    · cases h3
  · rename_i o x
    rw [Bool.and_eq_true] at h
    obtain ⟨k1, k2⟩ := ckFs_ok h.2
    exact ⟨Nat.eq_of_beq_eq_true h.1, k1, k2⟩
  · rename_i ks x
    rw [Bool.and_eq_true, Bool.and_eq_true] at h
    obtain ⟨h1, h2, h3⟩ := h
    split at h3
    · rename_i f hf
      refine ⟨Nat.eq_of_beq_eq_true h1, Nat.eq_of_beq_eq_true h2, f, hf, fun j k hk => ?_⟩
      have hj : j < ks.length := (List.getElem?_eq_some_iff.mp hk).1
      have := of_decide_eq_true (List.all_eq_true.mp h3 j (List.mem_range.mpr hj))
      rw [this, hk]
    · cases h3
  · cases h
theorem ckW_ok : ∀ {S : List ab_S} {W : List va_E}, ckW S W = true → as_HI S W
  | [], [], _ => hi_nil
  | [], _ :: _, h => by cases h
  | _ :: _, [], h => by cases h
  | s :: S, e :: W, h => by
    have h : (ckC s e && ckW S W) = true := h
    rw [Bool.and_eq_true] at h
    exact hi_cons (ckC_ok h.1) (ckW_ok h.2)
/-- an array of zeros -/
def ckZ (mw : List va_E) (k n : Nat) : Bool := (List.range n).all (fun j => decide (as_elt mw k j = some 0))
def ckL : List (Nat × Nat) := [(57, 131), (59, 2), (61, 30), (62, 80), (24, 10), (25, 16), (26, 16), (27, 64), (28, 8), (37, 8), (60, 8)]
def ckM : List (Nat × Nat) := [(0, 10), (1, 1), (5, 1), (5, 2), (23, 5), (23, 6), (56, 6), (56, 7), (56, 15)]
def ckA (q : Option mc_C) : Bool := match q with
  | some (a, b, pc, lv, st, mw) => Nat.beq a 67 && (Nat.beq b 13125 && (Nat.beq pc 18 && (decide (lv = [(3, iv 0), (2, .ref 56), (1, .ref 0), (0, .ref 3000)]) && (st.isEmpty && (ckW sh0 mw && (ckL.all (fun z => ckZ mw z.1 z.2) && (ckM.all (fun z => decide (as_fld mw z.1 z.2 = some (iv 0))) && (decide (as_fld mw 42 1 = some (.long 0)) && decide (as_fld mw 56 1 = some (.long 0))))))))))
  | none => false
set_option maxRecDepth 100000 in
theorem ck_go : ckA lw_go = true := by decide +kernel
theorem ckZ_G {mw : List va_E} {k n : Nat} (h : ckZ mw k n = true) {j : Nat} (hj : j < n) : as_elt mw k j = some 0 := of_decide_eq_true (List.all_eq_true.mp h j (List.mem_range.mpr hj))
theorem LI_start : ∃ mw : List va_E, lw_go = some (67, 13125, 18, [(3, iv 0), (2, .ref 56), (1, .ref 0), (0, .ref 3000)], [], mw) ∧ mw.length = 67 ∧ LI false mw := by
  have h := ck_go
  cases hg : lw_go with
  | none => rw [hg] at h; cases h
  | some q =>
    obtain ⟨a, b, pc, lv, st, mw⟩ := q
    rw [hg] at h
    simp only [ckA, Bool.and_eq_true] at h
    obtain ⟨h1, h2, h3, h4, h5, h6, hz, hf, t1, t2⟩ := h
    have h1 := Nat.eq_of_beq_eq_true h1
    have h2 := Nat.eq_of_beq_eq_true h2
    have h3 := Nat.eq_of_beq_eq_true h3
    have h4 := of_decide_eq_true h4
    have h5 : st = [] := List.isEmpty_iff.mp h5
    subst h1 h2 h3 h4 h5
    have hH := ckW_ok h6
    refine ⟨mw, rfl, hH.1, ?_⟩
    clear hg
    have Z : ∀ k n, (k, n) ∈ ckL → ∀ j, j < n → as_elt mw k j = some 0 := fun k n hm j hj => ckZ_G (List.all_eq_true.mp hz (k, n) hm) hj
    have F : ∀ k j, (k, j) ∈ ckM → as_fld mw k j = some (iv 0) := fun k j hm => of_decide_eq_true (List.all_eq_true.mp hf (k, j) hm)
    refine FH_elim (v := false) (mk := 0) (tr := 0) hH (of_decide_eq_true t1) (of_decide_eq_true t2) (fun ki ln bt rl cp cs ct cv rr dr ja ea ma a1 a2 a3 a4 a5 a6 a7 a8 jb eb mb b1 b2 b3 b4 b5 b6 b7 b8 re fl g1 g2 g3 g4 g5 rt la rs rg pd du ds me tt gr su gp rf m1 m2 m3 m4 m5 mr mf n1 n2 n3 n4 n5 nr nf th db sn dm sm ty nx tk pl va fa lr ri s kp ik tn de sd dd sr tx pa e hFH => ?_)
    subst e
    have ss : ∀ j, j < 131 → s j = 0 := fun j hj => by
      have q := Z 57 131 (by decide) j hj
      rw [elt_at (k := 57) rfl hj] at q
      exact Option.some.inj q
    have sik : ∀ j, j < 2 → ik j = 0 := fun j hj => by
      have q := Z 59 2 (by decide) j hj
      rw [elt_at (k := 59) rfl hj] at q
      exact Option.some.inj q
    have sde : ∀ j, j < 30 → de j = 0 := fun j hj => by
      have q := Z 61 30 (by decide) j hj
      rw [elt_at (k := 61) rfl hj] at q
      exact Option.some.inj q
    have ssd : ∀ j, j < 80 → sd j = 0 := fun j hj => by
      have q := Z 62 80 (by decide) j hj
      rw [elt_at (k := 62) rfl hj] at q
      exact Option.some.inj q
    have sg1 : ∀ j, j < 10 → g1 j = 0 := fun j hj => by
      have q := Z 24 10 (by decide) j hj
      rw [elt_at (k := 24) rfl hj] at q
      exact Option.some.inj q
    have sg2 : ∀ j, j < 16 → g2 j = 0 := fun j hj => by
      have q := Z 25 16 (by decide) j hj
      rw [elt_at (k := 25) rfl hj] at q
      exact Option.some.inj q
    have sg3 : ∀ j, j < 16 → g3 j = 0 := fun j hj => by
      have q := Z 26 16 (by decide) j hj
      rw [elt_at (k := 26) rfl hj] at q
      exact Option.some.inj q
    have sg4 : ∀ j, j < 64 → g4 j = 0 := fun j hj => by
      have q := Z 27 64 (by decide) j hj
      rw [elt_at (k := 27) rfl hj] at q
      exact Option.some.inj q
    have sg5 : ∀ j, j < 8 → g5 j = 0 := fun j hj => by
      have q := Z 28 8 (by decide) j hj
      rw [elt_at (k := 28) rfl hj] at q
      exact Option.some.inj q
    have stt : ∀ j, j < 8 → tt j = 0 := fun j hj => by
      have q := Z 37 8 (by decide) j hj
      rw [elt_at (k := 37) rfl hj] at q
      exact Option.some.inj q
    have stn : ∀ j, j < 8 → tn j = 0 := fun j hj => by
      have q := Z 60 8 (by decide) j hj
      rw [elt_at (k := 60) rfl hj] at q
      exact Option.some.inj q
    have fki : Int32.ofInt ki = Int32.ofInt 0 := iv_i (F 0 10 (by decide))
    have fln : Int32.ofInt ln = Int32.ofInt 0 := iv_i (F 1 1 (by decide))
    have fea : Int32.ofInt ea = Int32.ofInt 0 := iv_i (F 5 1 (by decide))
    have fma : Int32.ofInt ma = Int32.ofInt 0 := iv_i (F 5 2 (by decide))
    have fre : Int32.ofInt re = Int32.ofInt 0 := iv_i (F 23 5 (by decide))
    have ffl : Int32.ofInt fl = Int32.ofInt 0 := iv_i (F 23 6 (by decide))
    have fdb : Int32.ofInt db = Int32.ofInt 0 := iv_i (F 56 6 (by decide))
    have fsn : Int32.ofInt sn = Int32.ofInt 0 := iv_i (F 56 7 (by decide))
    have fty : Int32.ofInt ty = Int32.ofInt 0 := iv_i (F 56 15 (by decide))
    obtain ⟨-, -, ⟨q1, q2, q3, q4, q5, q6, -⟩, r1, r2, r3, -⟩ := id hFH
    have xln : ln = 0 := (iv_inj (by omega) (by omega)).mp fln
    have xty : ty = 0 := (iv_inj (by omega) (by omega)).mp fty
    have xea : ea = 0 := (iv_inj (by omega) (by omega)).mp fea
    have xma : ma = 0 := (iv_inj (by omega) (by omega)).mp fma
    have xdb : db = 0 := (iv_inj (by omega) (by omega)).mp fdb
    have xsn : sn = 0 := (iv_inj (by omega) (by omega)).mp fsn
    have e0 : ∀ j : Nat, zb (0 : Int32) j = false := fun j => zb_0 j
    have ek : ∀ j : Nat, zb (Int32.ofInt ki) j = false := fun j => by rw [fki]; exact zb_0 j
    have er : ∀ j : Nat, zb (Int32.ofInt re) j = false := fun j => by rw [fre]; exact zb_0 j
    refine LI_to ⟨hFH, ⟨fun i hi h3 => ?_, fun d hd => ?_⟩, fun i hi hz => absurd (sik i hi) hz, ⟨by omega, fun k hk => by omega⟩, fun _ => ⟨by omega, by omega, fun i hi => by omega, fun i hi => by omega, fun i hi => by omega⟩, (fun hv => by cases hv), ⟨fun j hj => ?_, fun j hj => ?_, fun j hj => by omega, fun j hj => ?_, fun j hj => ?_, fun j hj => ?_, fun j j1 j2 => er j, ?_, fun j j1 j2 => ?_, fun j hj => by omega⟩, fun hz => ?_, fun hz => ?_, fun i hi => ?_, fun p hp => ?_, rfl⟩
    · rw [ssd _ (by omega)] at h3
      exact absurd h3 (by decide)
    · rw [ss _ (by omega), sde _ (by omega)]
      exact Int.le_refl _
    · rw [sg1 j hj, ss _ (by omega)]
    · rw [sg2 j hj, ss _ (by omega)]
    · rw [sg4 j hj, ss _ (by omega)]
    · rw [sg5 j hj, ss _ (by omega)]
    · rw [er, ss _ (by omega)]; rfl
    · rw [ffl, ss _ (by omega)]; rfl
    · rw [ss _ (by omega)]; exact e0 j
    · rw [ek] at hz; cases hz
    · rw [ek] at hz; cases hz
    · rw [ek, sik i hi]; rfl
    · rw [stt p hp, stn p hp]
      exact ⟨rfl, by unfold i7; decide⟩
theorem lw_pure {L : Nat} {xs : Nat → Int32} (hL : L ≤ 2048) : ∃ (y0 : mm_C) (n : Nat) (mw' : List va_E), lw_go = some (67, 13125, y0) ∧ y0.2.2.2.length = 67 ∧ lw_run vL_law L xs n y0 = some (some (.int 1), mw') := by
  obtain ⟨mw, h1, h2, h3⟩ := LI_start
  obtain ⟨r, h4, mw', h5⟩ := law_lp (L := L) (xs := xs) (Q := fun r => ∃ mw', r = (some (iv 1), mw')) hL (fun mw' => ⟨mw', rfl⟩) 513 0 false mw h3 (by decide) (by decide) (by omega)
  subst h5
  exact ⟨_, _, mw', h1, h2, h4⟩
