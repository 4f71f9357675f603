/-! ===== class and reference held against each other: the invariant between calls ===== -/
theorem elt_at {mw : List va_E} {k t n j : Nat} {f : Nat → Int32} (h : mw[k]? = some (.inl (t, n, .inl f))) (hj : j < n) : as_elt mw k j = some (f j) := by
  unfold as_elt
  rw [h]
  have : Nat.ble (j + 1) n = true := Nat.ble_eq.mpr hj
  simp only [this, cond_true]
theorem elt_lt {mw : List va_E} {k t n j : Nat} {f : Nat → Int32} {x : Int32} (h : mw[k]? = some (.inl (t, n, .inl f))) (he : as_elt mw k j = some x) : j < n ∧ f j = x := by
  unfold as_elt at he
  rw [h] at he
  cases hb : Nat.ble (j + 1) n with
  | false => simp only [hb, cond_false] at he; cases he
  | true => simp only [hb, cond_true] at he; exact ⟨Nat.le_of_ble_eq_true hb, Option.some.inj he⟩
/-- rows and fields that stay -/
def ab_stE (sh : List ab_S) (k j : Nat) : Bool := match ab_arr sh k with
  | some a => a.2.2.any (fun r => r.2.2.1 && (Nat.ble r.1 j && Nat.ble j r.2.1))
  | none => false
theorem st_E {sh : List ab_S} {m1 m2 : List va_E} {k j : Nat} (hf : as_Fr sh m1 m2) (h : ab_stE sh k j = true) : as_elt m2 k j = as_elt m1 k j := by
  unfold ab_stE at h
  split at h
  · rename_i a ha
    obtain ⟨r, hr, h1⟩ := List.any_eq_true.mp h
    rw [Bool.and_eq_true, Bool.and_eq_true] at h1
    exact hf.1 k a ha r hr h1.1 j (Nat.le_of_ble_eq_true h1.2.1) (Nat.le_of_ble_eq_true h1.2.2)
  · cases h
theorem st_all {sh : List ab_S} {k n b t : Nat} {L : List (Int × Int)} (hs : sh[k]? = some (.inl (t, n, [(0, b, true, L)]))) {j : Nat} (hj : j ≤ b) : ab_stE sh k j = true := by
  have e : ab_arr sh k = some (t, n, [(0, b, true, L)]) := by unfold ab_arr; rw [hs]
  unfold ab_stE
  rw [e]
  show (true && (Nat.ble 0 j && Nat.ble j b) || false) = true
  rw [Nat.ble_eq_true_of_le (Nat.zero_le j), Nat.ble_eq_true_of_le hj]
  rfl
theorem shf_ok (v : Bool) : as_OK (shf v) = true := by
  cases v with
  | false => exact sh0_ok
  | true => exact sh1_ok
def EXx (s de sd : Nat → Int32) : Prop := (∀ i : Nat, i < 16 → (sd (5 * i + 2)).toInt = 3 → 0 ≤ (sd (5 * i + 3)).toInt ∧ (sd (5 * i + 3)).toInt ≤ 15) ∧ ∀ d : Nat, d < 10 → (s d).toInt ≤ (de (3 * d + 2)).toInt
def KEx (kp ik de : Nat → Int32) : Prop := ∀ i : Nat, i < 2 → ik i ≠ 0 → (∀ d : Nat, d < 10 → 0 ≤ (kp (131 * i + d)).toInt ∧ (kp (131 * i + d)).toInt ≤ (de (3 * d + 2)).toInt) ∧ ∀ p : Nat, p < 8 → i7 (kp (131 * i + 122 + p)) 0 9999
/-- a ledger of the class and the reference's state -/
def LG (sn : Int) (g1 g2 g3 g4 g5 : Nat → Int32) (re fl : Int) (s : Nat → Int32) : Prop := (∀ j : Nat, j < 10 → g1 j = s j) ∧ (∀ j : Nat, j < 16 → g2 j = s (10 + j)) ∧ (∀ j : Nat, (j : Int) < sn → g3 j = s (26 + j)) ∧ (∀ j : Nat, j < 64 → g4 j = s (58 + j)) ∧ (∀ j : Nat, j < 8 → g5 j = s (122 + j)) ∧ (∀ j : Nat, j < 16 → s (42 + j) = Int32.ofInt (bi (zb (Int32.ofInt re) j))) ∧ (∀ j : Nat, sn ≤ (j : Int) → j < 32 → zb (Int32.ofInt re) j = false) ∧ Int32.ofInt fl = s 130 ∧ (∀ j : Nat, 8 ≤ j → j < 32 → zb (s 130) j = false) ∧ ∀ j : Nat, (j : Int) < sn → i7 (s (26 + j)) 0 999
/-- an over stands for one told ahead -/
def OVx (db sn : Int) (sd : Nat → Int32) : Prop := ∀ i : Nat, (i : Int) < sn → (sd (5 * i + 1)).toInt < db ∧ ((sd (5 * i + 2)).toInt = 3 → 0 ≤ (sd (5 * i + 3)).toInt ∧ (sd (5 * i + 3)).toInt < sn)
def RO_ (nd ns : Int) (c1 c2 c3 c4 c5 c6 c7 c8 : Nat → Int32) (db sn : Int) (de sd : Nat → Int32) : Prop := nd = db ∧ ns = sn ∧ RRd db c1 c2 c3 de ∧ RRs sn c4 c5 c6 c7 c8 sd ∧ OVx db sn sd
theorem LG_ext {sn re fl re' fl' : Int} {g1 g2 g3 g4 g5 s g1' g2' g3' g4' g5' s' : Nat → Int32} (hs : sn ≤ 16) (h : LG sn g1 g2 g3 g4 g5 re fl s) (e1 : ∀ j, j < 10 → g1' j = g1 j) (e2 : ∀ j, j < 16 → g2' j = g2 j) (e3 : ∀ j, j < 16 → g3' j = g3 j) (e4 : ∀ j, j < 64 → g4' j = g4 j) (e5 : ∀ j, j < 8 → g5' j = g5 j) (er : Int32.ofInt re' = Int32.ofInt re) (ef : Int32.ofInt fl' = Int32.ofInt fl) (es : ∀ j, j < 131 → s' j = s j) : LG sn g1' g2' g3' g4' g5' re' fl' s' := by
  obtain ⟨h1, h2, h3, h4, h5, h6, h7, h8, h9, h10⟩ := h
  refine ⟨fun j hj => ?_, fun j hj => ?_, fun j hj => ?_, fun j hj => ?_, fun j hj => ?_, fun j hj => ?_, fun j j1 j2 => ?_, ?_, fun j j1 j2 => ?_, fun j hj => ?_⟩
  · rw [e1 j hj, es j (by omega)]; exact h1 j hj
  · rw [e2 j hj, es _ (by omega)]; exact h2 j hj
  · rw [e3 j (by omega), es _ (by omega)]; exact h3 j hj
  · rw [e4 j hj, es _ (by omega)]; exact h4 j hj
  · rw [e5 j hj, es _ (by omega)]; exact h5 j hj
  · rw [er, es _ (by omega)]; exact h6 j hj
  · rw [er]; exact h7 j j1 j2
  · rw [ef, es _ (by omega)]; exact h8
  · rw [es _ (by omega)]; exact h9 j j1 j2
  · rw [es _ (by omega)]; exact h10 j hj
theorem RO_ext {nd ns db sn : Int} {c1 c2 c3 c4 c5 c6 c7 c8 c1' c2' c3' c4' c5' c6' c7' c8' de sd de' sd' : Nat → Int32} (hd : db ≤ 10) (hs : sn ≤ 16) (h : RO_ nd ns c1 c2 c3 c4 c5 c6 c7 c8 db sn de sd) (e1 : ∀ j, j < 10 → c1' j = c1 j) (e2 : ∀ j, j < 10 → c2' j = c2 j) (e3 : ∀ j, j < 10 → c3' j = c3 j) (e4 : ∀ j, j < 16 → c4' j = c4 j) (e5 : ∀ j, j < 16 → c5' j = c5 j) (e6 : ∀ j, j < 16 → c6' j = c6 j) (e7 : ∀ j, j < 16 → c7' j = c7 j) (e8 : ∀ j, j < 16 → c8' j = c8 j) (ed : ∀ j, j < 30 → de' j = de j) (es : ∀ j, j < 80 → sd' j = sd j) : RO_ nd ns c1' c2' c3' c4' c5' c6' c7' c8' db sn de' sd' := by
  obtain ⟨h1, h2, h3, h4, h5⟩ := h
  refine ⟨h1, h2, fun i hi => ?_, fun i hi => ?_, fun i hi => ?_⟩
  · rw [e1 i (by omega), e2 i (by omega), e3 i (by omega), ed _ (by omega), ed _ (by omega), ed _ (by omega)]
    exact h3 i hi
  · rw [e4 i (by omega), e5 i (by omega), e6 i (by omega), e7 i (by omega), e8 i (by omega), es _ (by omega), es _ (by omega), es _ (by omega), es _ (by omega), es _ (by omega)]
    exact h4 i hi
  · rw [es _ (by omega), es _ (by omega), es _ (by omega)]
    exact h5 i hi
def RELx (v : Bool) (ea : Int) (ma : Int) (a1 : Nat → Int32) (a2 : Nat → Int32) (a3 : Nat → Int32) (a4 : Nat → Int32) (a5 : Nat → Int32) (a6 : Nat → Int32) (a7 : Nat → Int32) (a8 : Nat → Int32) (eb : Int) (mb : Int) (b1 : Nat → Int32) (b2 : Nat → Int32) (b3 : Nat → Int32) (b4 : Nat → Int32) (b5 : Nat → Int32) (b6 : Nat → Int32) (b7 : Nat → Int32) (b8 : Nat → Int32) (g1 : Nat → Int32) (g2 : Nat → Int32) (g3 : Nat → Int32) (g4 : Nat → Int32) (g5 : Nat → Int32) (re : Int) (fl : Int) (m1 : Nat → Int32) (m2 : Nat → Int32) (m3 : Nat → Int32) (m4 : Nat → Int32) (m5 : Nat → Int32) (mr : Int) (mf : Int) (n1 : Nat → Int32) (n2 : Nat → Int32) (n3 : Nat → Int32) (n4 : Nat → Int32) (n5 : Nat → Int32) (nr : Int) (nf : Int) (ki : Int) (tt : Nat → Int32) (mk : Int64) (tr : Int64) (db : Int) (sn : Int) (s : Nat → Int32) (kp : Nat → Int32) (ik : Nat → Int32) (tn : Nat → Int32) (de : Nat → Int32) (sd : Nat → Int32) : Prop := (v = false → RO_ ea ma a1 a2 a3 a4 a5 a6 a7 a8 db sn de sd) ∧ (v = true → RO_ eb mb b1 b2 b3 b4 b5 b6 b7 b8 db sn de sd) ∧ LG sn g1 g2 g3 g4 g5 re fl s ∧ (zb (Int32.ofInt ki) 0 = true → LG sn m1 m2 m3 m4 m5 mr mf (kof 0 kp)) ∧ (zb (Int32.ofInt ki) 1 = true → LG sn n1 n2 n3 n4 n5 nr nf (kof 1 kp)) ∧ (∀ i : Nat, i < 2 → ik i = Int32.ofInt (bi (zb (Int32.ofInt ki) i))) ∧ (∀ p : Nat, p < 8 → tt p = tn p ∧ i7 (tn p) 0 10) ∧ mk = tr
def FXR (v : Bool) (ki : Int) (ln : Int) (bt : Nat → Int32) (rl : Value) (cp : Int) (cs : Int) (ct : Int) (cv : Int) (rr : Nat) (dr : Nat) (ja : Int) (ea : Int) (ma : Int) (a1 : Nat → Int32) (a2 : Nat → Int32) (a3 : Nat → Int32) (a4 : Nat → Int32) (a5 : Nat → Int32) (a6 : Nat → Int32) (a7 : Nat → Int32) (a8 : Nat → Int32) (jb : Int) (eb : Int) (mb : Int) (b1 : Nat → Int32) (b2 : Nat → Int32) (b3 : Nat → Int32) (b4 : Nat → Int32) (b5 : Nat → Int32) (b6 : Nat → Int32) (b7 : Nat → Int32) (b8 : Nat → Int32) (re : Int) (fl : Int) (g1 : Nat → Int32) (g2 : Nat → Int32) (g3 : Nat → Int32) (g4 : Nat → Int32) (g5 : Nat → Int32) (rt : Int) (la : Int) (rs : Int) (rg : Int) (pd : Nat → Int32) (du : Nat → Int32) (ds : Nat → Int32) (me : Nat → Int32) (tt : Nat → Int32) (gr : Nat → Int32) (su : Nat → Int32) (gp : Nat → Int32) (mk : Int64) (rf : Nat → Option Nat) (m1 : Nat → Int32) (m2 : Nat → Int32) (m3 : Nat → Int32) (m4 : Nat → Int32) (m5 : Nat → Int32) (mr : Int) (mf : Int) (n1 : Nat → Int32) (n2 : Nat → Int32) (n3 : Nat → Int32) (n4 : Nat → Int32) (n5 : Nat → Int32) (nr : Int) (nf : Int) (th : Int) (tr : Int64) (db : Int) (sn : Int) (dm : Int) (sm : Int) (ty : Int) (nx : Int) (tk : Int) (pl : Int) (va : Int) (fa : Int) (lr : Int) (ri : Int) (s : Nat → Int32) (kp : Nat → Int32) (ik : Nat → Int32) (tn : Nat → Int32) (de : Nat → Int32) (sd : Nat → Int32) (dd : Nat → Int32) (sr : Nat → Int32) (tx : Nat → Int32) (pa : Nat → Int32) : Prop := (FH v rr dr la rf ln bt ea ma eb mb a1 a2 a3 a4 a5 a6 a7 b1 b2 b3 b4 b5 b6 b7 db sn ty va lr s ik de sd pa) ∧ EXx s de sd ∧ KEx kp ik de ∧ (ty = ln ∧ tx_like bt tx ln) ∧ (RELx v ea ma a1 a2 a3 a4 a5 a6 a7 a8 eb mb b1 b2 b3 b4 b5 b6 b7 b8 g1 g2 g3 g4 g5 re fl m1 m2 m3 m4 m5 mr mf n1 n2 n3 n4 n5 nr nf ki tt mk tr db sn s kp ik tn de sd)
def LI (v : Bool) (mw : List va_E) : Prop := ∃ (I_ : Nat → Int) (F_ : Nat → Nat → Int32) (n_ : Nat → Nat) (Z_ : Nat → Int64) (rl : Value) (rf : Nat → Option Nat), mw = (GW (I_ 0) (I_ 1) (F_ 0) rl (I_ 2) (I_ 3) (I_ 4) (I_ 5) (n_ 0) (n_ 1) (I_ 6) (I_ 7) (I_ 8) (F_ 1) (F_ 2) (F_ 3) (F_ 4) (F_ 5) (F_ 6) (F_ 7) (F_ 8) (I_ 9) (I_ 10) (I_ 11) (F_ 9) (F_ 10) (F_ 11) (F_ 12) (F_ 13) (F_ 14) (F_ 15) (F_ 16) (I_ 12) (I_ 13) (F_ 17) (F_ 18) (F_ 19) (F_ 20) (F_ 21) (I_ 14) (I_ 15) (I_ 16) (I_ 17) (F_ 22) (F_ 23) (F_ 24) (F_ 25) (F_ 26) (F_ 27) (F_ 28) (F_ 29) (Z_ 0) rf (F_ 30) (F_ 31) (F_ 32) (F_ 33) (F_ 34) (I_ 18) (I_ 19) (F_ 35) (F_ 36) (F_ 37) (F_ 38) (F_ 39) (I_ 20) (I_ 21) (I_ 22) (Z_ 1) (I_ 23) (I_ 24) (I_ 25) (I_ 26) (I_ 27) (I_ 28) (I_ 29) (I_ 30) (I_ 31) (I_ 32) (I_ 33) (I_ 34) (F_ 40) (F_ 41) (F_ 42) (F_ 43) (F_ 44) (F_ 45) (F_ 46) (F_ 47) (F_ 48) (F_ 49)) ∧ (FXR v (I_ 0) (I_ 1) (F_ 0) rl (I_ 2) (I_ 3) (I_ 4) (I_ 5) (n_ 0) (n_ 1) (I_ 6) (I_ 7) (I_ 8) (F_ 1) (F_ 2) (F_ 3) (F_ 4) (F_ 5) (F_ 6) (F_ 7) (F_ 8) (I_ 9) (I_ 10) (I_ 11) (F_ 9) (F_ 10) (F_ 11) (F_ 12) (F_ 13) (F_ 14) (F_ 15) (F_ 16) (I_ 12) (I_ 13) (F_ 17) (F_ 18) (F_ 19) (F_ 20) (F_ 21) (I_ 14) (I_ 15) (I_ 16) (I_ 17) (F_ 22) (F_ 23) (F_ 24) (F_ 25) (F_ 26) (F_ 27) (F_ 28) (F_ 29) (Z_ 0) rf (F_ 30) (F_ 31) (F_ 32) (F_ 33) (F_ 34) (I_ 18) (I_ 19) (F_ 35) (F_ 36) (F_ 37) (F_ 38) (F_ 39) (I_ 20) (I_ 21) (I_ 22) (Z_ 1) (I_ 23) (I_ 24) (I_ 25) (I_ 26) (I_ 27) (I_ 28) (I_ 29) (I_ 30) (I_ 31) (I_ 32) (I_ 33) (I_ 34) (F_ 40) (F_ 41) (F_ 42) (F_ 43) (F_ 44) (F_ 45) (F_ 46) (F_ 47) (F_ 48) (F_ 49))
