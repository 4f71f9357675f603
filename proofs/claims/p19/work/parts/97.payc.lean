/-! ===== pay: the class, exactly ===== -/
def ps1 (s : Nat → Int32) (P : Nat) (n : Int) : Nat → Int32 := upd s P (Int32.ofInt ((s P).toInt - n))
def ps2 (s : Nat → Int32) (P : Nat) (n : Int) : Nat → Int32 := upd s P (Int32.ofInt ((s P).toInt + n))
theorem ps_RS {s de : Nat → Int32} {P T E : Nat} {n : Int} (h1 : RS s) (h2 : DEr de) (hX : ∀ d : Nat, d < 10 → (s d).toInt ≤ (de (3 * d + 2)).toInt) (hP : 122 ≤ P ∧ P ≤ 129) (hT : 122 ≤ T ∧ T ≤ 129) (hE : E < 10) (hn : 1 ≤ n ∧ n ≤ 999) (ha : (s E).toInt + n ≤ (de (3 * E + 2)).toInt) (hb : n ≤ (s P).toInt) (hc : P = T ∨ (s T).toInt + n ≤ 9999) : RS (ps2 (ps2 (ps1 s P n) T n) E n) ∧ ∀ d : Nat, d < 10 → (ps2 (ps2 (ps1 s P n) T n) E n d).toInt ≤ (de (3 * d + 2)).toInt := by
  have bP := h1.2 P hP.1 hP.2
  have bT := h1.2 T hT.1 hT.2
  have bE := h1.1 E hE
  have dE := (h2 E hE).2.2
  unfold i7 at bP bT bE dE
  have v1 : (Int32.ofInt ((s P).toInt - n)).toInt = (s P).toInt - n := iv_to ⟨by omega, by omega⟩
  have vT : i7 (ps2 (ps1 s P n) T n T) 0 9999 := by
    unfold ps2
    rw [upd_same]
    by_cases e : P = T
    · subst e
      unfold ps1
      rw [upd_same, v1]
      unfold i7
      rw [iv_to ⟨by omega, by omega⟩]
      omega
    · unfold ps1
      rw [upd_ne (Ne.symm e)]
      unfold i7
      rw [iv_to ⟨by omega, by omega⟩]
      omega
  have vE : (ps2 (ps2 (ps1 s P n) T n) E n E).toInt = (s E).toInt + n := by
    show (upd (ps2 (ps1 s P n) T n) E (Int32.ofInt ((ps2 (ps1 s P n) T n E).toInt + n)) E).toInt = _
    rw [upd_same]
    have e1 : ps2 (ps1 s P n) T n E = s E := by
      unfold ps2
      rw [upd_ne (by omega)]
      unfold ps1
      rw [upd_ne (by omega)]
    rw [e1]
    exact iv_to ⟨by omega, by omega⟩
  have vo : ∀ d : Nat, d < 10 → d ≠ E → ps2 (ps2 (ps1 s P n) T n) E n d = s d := by
    intro d hd hne
    unfold ps2
    rw [upd_ne hne, upd_ne (by omega)]
    unfold ps1
    rw [upd_ne (by omega)]
  refine ⟨⟨fun j hj => ?_, fun j j1 j2 => ?_⟩, fun d hd => ?_⟩
  · by_cases e : j = E
    · subst e
      unfold i7
      rw [vE]
      omega
    · rw [vo j hj e]
      exact h1.1 j hj
  · have e0 : ps2 (ps2 (ps1 s P n) T n) E n j = ps2 (ps1 s P n) T n j := by
      show upd _ E _ j = _
      rw [upd_ne (by omega)]
    rw [e0]
    by_cases e : j = T
    · rw [e]; exact vT
    · have e1 : ps2 (ps1 s P n) T n j = ps1 s P n j := by
        show upd _ T _ j = _
        rw [upd_ne e]
      rw [e1]
      unfold ps1
      by_cases e2 : j = P
      · rw [e2, upd_same]
        unfold i7
        rw [v1]
        omega
      · rw [upd_ne e2]
        exact h1.2 j j1 j2
  · by_cases e : d = E
    · subst e
      rw [vE]
      exact ha
    · rw [vo d hd e]
      exact hX d hd
theorem ps_i {s de : Nat → Int32} {P : Nat} {n : Int} (hP : 10 ≤ P ∧ P ≤ 25) (h : RS s ∧ ∀ d : Nat, d < 10 → (s d).toInt ≤ (de (3 * d + 2)).toInt) : RS (ps2 s P n) ∧ ∀ d : Nat, d < 10 → (ps2 s P n d).toInt ≤ (de (3 * d + 2)).toInt := by
  unfold ps2
  exact ⟨⟨fun j hj => by rw [upd_ne (by omega)]; exact h.1.1 j hj, fun j j1 j2 => by rw [upd_ne (by omega)]; exact h.1.2 j j1 j2⟩, fun d hd => by rw [upd_ne (by omega)]; exact h.2 d hd⟩
/-- the same, as the machine has the places -/
theorem ps_Z {s de sd : Nat → Int32} {pr to d n : Int} (h1 : RS s) (h2 : DEr de) (hX : EXx s de sd) (hp : 0 ≤ pr ∧ pr ≤ 7) (ht : 0 ≤ to ∧ to ≤ 7) (hd : 0 ≤ d ∧ d ≤ 9) (hn : 1 ≤ n ∧ n ≤ 999) (ha : n ≤ fR de s d) (hb : n ≤ (s (Int.toNat (122 + pr))).toInt) (hc : pr = to ∨ (s (Int.toNat (122 + to))).toInt + n ≤ 9999) : RS (ps2 (ps2 (ps1 s (Int.toNat (122 + pr)) n) (Int.toNat (122 + to)) n) (Int.toNat (0 + d)) n) ∧ ∀ q : Nat, q < 10 → (ps2 (ps2 (ps1 s (Int.toNat (122 + pr)) n) (Int.toNat (122 + to)) n) (Int.toNat (0 + d)) n q).toInt ≤ (de (3 * q + 2)).toInt := by
  obtain ⟨x, rfl⟩ := Int.eq_ofNat_of_zero_le hd.1
  unfold fR at ha
  rw [show Int.toNat (3 * (x : Int) + 2) = 3 * x + 2 by omega, show Int.toNat (0 + (x : Int)) = x by omega] at ha
  rw [show Int.toNat (0 + (x : Int)) = x by omega]
  exact ps_RS h1 h2 hX.2 (by omega) (by omega) (by omega) hn (by omega) hb (by
    rcases hc with e | e
    · left; rw [e]
    · exact Or.inr e)
theorem fAS_r {de sd s : Nat → Int32} {sn k i : Int} (h1 : RS s) (h2 : DEr de) (hS : SDr sd) (hk : k = 1 ∧ 0 ≤ i ∧ i ≤ 15 ∨ k = 0 ∧ 0 ≤ i ∧ i ≤ 9) : -2147483648 ≤ fAS de sd s sn k i ∧ fAS de sd s sn k i ≤ 2147483647 := by
  unfold fAS
  rcases hk with ⟨rfl, hi⟩ | ⟨rfl, hi⟩
  · exact fMA_r (fR_r h1 h2 (sd_r hS hi).2.1)
  · have := fR_r h1 h2 hi
    show -2147483648 ≤ (bif fF s (de (Int.toNat (3 * i))).toInt then 0 else fR de s i) ∧ (bif fF s (de (Int.toNat (3 * i))).toInt then 0 else fR de s i) ≤ 2147483647
    cases fF s (de (Int.toNat (3 * i))).toInt with
    | true => show (-2147483648 : Int) ≤ 0 ∧ (0 : Int) ≤ 2147483647; decide
    | false => show -2147483648 ≤ fR de s i ∧ fR de s i ≤ 2147483647; omega
theorem fAS_1 {de sd s : Nat → Int32} {sn i : Int} (hX : EXx s de sd) (hS : SDr sd) (hi : 0 ≤ i ∧ i ≤ 15) : fAS de sd s sn 1 i ≤ fR de s (sd (Int.toNat (5 * i + 1))).toInt := fMA_le (fR_0 hX (sd_r hS hi).2.1)
theorem fAS_0 {de sd s : Nat → Int32} {sn i : Int} (hX : EXx s de sd) (hi : 0 ≤ i ∧ i ≤ 9) : fAS de sd s sn 0 i ≤ fR de s i := by
  have := fR_0 (sd := sd) hX hi
  show (bif fF s (de (Int.toNat (3 * i))).toInt then 0 else fR de s i) ≤ fR de s i
  cases fF s (de (Int.toNat (3 * i))).toInt with
  | true => exact this
  | false => exact Int.le_refl _
theorem fTH_t {db sn k i : Int} (hd : 0 ≤ db ∧ db ≤ 10) (hn : 0 ≤ sn ∧ sn ≤ 16) (h : fTH db sn k i = true) : k = 1 ∧ 0 ≤ i ∧ i ≤ 15 ∨ k = 0 ∧ 0 ≤ i ∧ i ≤ 9 := by
  unfold fTH at h
  rw [Bool.and_eq_true] at h
  have h1 := i3_t h.1
  by_cases e : k = 1
  · have h2 := h.2
    rw [decide_eq_true e] at h2
    have := i3_t h2
    omega
  · have h2 := h.2
    rw [decide_eq_false e] at h2
    have := i3_t h2
    omega
/-- may n coins be moved -/
def cMV (c2 g5 : Nat → Int32) (a d n m : Int) : Bool := decide (n ≤ m) && (decide (n ≤ (g5 (Int.toNat a)).toInt) && (decide (a = (c2 (Int.toNat d)).toInt) || decide ((g5 (Int.toNat (c2 (Int.toNat d)).toInt)).toInt + n ≤ 9999)))
def cSh (c4 c5 c6 : Nat → Int32) (re d : Int) : Nat → Int
  | 0 => 0
  | j + 1 => bif cW0 c5 c6 re d j then oOr (cSh c4 c5 c6 re d j) (oShl 1 (c4 (Int.toNat (j : Int))).toInt) else cSh c4 c5 c6 re d j
def cSO (c4 c5 c6 : Nat → Int32) (ns re fl d : Int) : Int := oAnd (cSh c4 c5 c6 re d ns.toNat) (oXor fl (-1))
def cSB (sh to n : Int) (g4 : Nat → Int32) : Nat → (Nat → Int32)
  | 0 => g4
  | j + 1 => bif zb (Int32.ofInt sh) j then ps2 (cSB sh to n g4 j) (Int.toNat ((j : Int) * 8 + to)) n else cSB sh to n g4 j
def cSS (c4 c5 c6 : Nat → Int32) (ns re fl d to : Int) : Int := oAnd (cSO c4 c5 c6 ns re fl d) (oXor (oShl 1 to) (-1))
def cAB (c1 c4 c5 c6 c7 g4 : Nat → Int32) (ns re fl i n : Int) : Nat → Int32 := bif decide ((c6 (Int.toNat i)).toInt = 3) then (bif i3 (c7 (Int.toNat i)).toInt 0 (ns - 1) then ps2 g4 (Int.toNat ((c4 (Int.toNat (c7 (Int.toNat i)).toInt)).toInt * 8 + (c4 (Int.toNat i)).toInt)) n else g4) else bif zb (Int32.ofInt fl) (Int.toNat (c1 (Int.toNat (c5 (Int.toNat i)).toInt)).toInt) then cSB (cSS c4 c5 c6 ns re fl (c5 (Int.toNat i)).toInt (c4 (Int.toNat i)).toInt) (c4 (Int.toNat i)).toInt (n / (bcF (cSS c4 c5 c6 ns re fl (c5 (Int.toNat i)).toInt (c4 (Int.toNat i)).toInt) + 1)) g4 8 else ps2 g4 (Int.toNat ((c1 (Int.toNat (c5 (Int.toNat i)).toInt)).toInt * 8 + (c4 (Int.toNat i)).toInt)) n
section PAC
variable {ki : Int} {ln : Int} {bt : Nat → Int32} {rl : Value} {cp : Int} {cs : Int} {ct : Int} {cv : Int} {rr : Nat} {dr : Nat} {ja : Int} {ea : Int} {ma : Int} {a1 : Nat → Int32} {a2 : Nat → Int32} {a3 : Nat → Int32} {a4 : Nat → Int32} {a5 : Nat → Int32} {a6 : Nat → Int32} {a7 : Nat → Int32} {a8 : Nat → Int32} {jb : Int} {eb : Int} {mb : Int} {b1 : Nat → Int32} {b2 : Nat → Int32} {b3 : Nat → Int32} {b4 : Nat → Int32} {b5 : Nat → Int32} {b6 : Nat → Int32} {b7 : Nat → Int32} {b8 : Nat → Int32} {re : Int} {fl : Int} {g1 : Nat → Int32} {g2 : Nat → Int32} {g3 : Nat → Int32} {g4 : Nat → Int32} {g5 : Nat → Int32} {rt : Int} {la : Int} {rs : Int} {rg : Int} {pd : Nat → Int32} {du : Nat → Int32} {ds : Nat → Int32} {me : Nat → Int32} {tt : Nat → Int32} {gr : Nat → Int32} {su : Nat → Int32} {gp : Nat → Int32} {mk : Int64} {rf : Nat → Option Nat} {m1 : Nat → Int32} {m2 : Nat → Int32} {m3 : Nat → Int32} {m4 : Nat → Int32} {m5 : Nat → Int32} {mr : Int} {mf : Int} {n1 : Nat → Int32} {n2 : Nat → Int32} {n3 : Nat → Int32} {n4 : Nat → Int32} {n5 : Nat → Int32} {nr : Int} {nf : Int} {E : List va_E} {a b d i k m n sh to x y : Int} {mw : List va_E} {Q : mm_R → Prop} {N : Nat}
abbrev rn_X2_addBack (N : Nat) (c : mm_C) (Q : mm_R → Prop) : Prop := rn (mm_gf gLX2) (mm_pf pLX2) (mm_mv vX2_addBack) (mm_mv zX2_addBack) (mm_kc kLX2) mm_gs0 mm_rf0 mm_ro none 4 (mm_ins iX2_addBack) N c Q
theorem c_addBack (hx : 0 ≤ x ∧ x ≤ 7) (hy : 0 ≤ y ∧ y ≤ 7) : sX2_addBack [.ref 29, iv (x), iv (y), iv (n)] (cW ki ln bt rl cp cs ct cv rr dr ja ea ma a1 a2 a3 a4 a5 a6 a7 a8 jb eb mb b1 b2 b3 b4 b5 b6 b7 b8 re fl g1 g2 g3 g4 g5 (dW rt la rs rg pd du ds me tt gr su gp mk rf m1 m2 m3 m4 m5 mr mf n1 n2 n3 n4 n5 nr nf E)) = some (none, (cW ki ln bt rl cp cs ct cv rr dr ja ea ma a1 a2 a3 a4 a5 a6 a7 a8 jb eb mb b1 b2 b3 b4 b5 b6 b7 b8 re fl g1 g2 g3 (ps2 g4 (Int.toNat (x * 8 + y)) n) g5 (dW rt la rs rg pd du ds me tt gr su gp mk rf m1 m2 m3 m4 m5 mr mf n1 n2 n3 n4 n5 nr nf E))) := by
  have main : ∀ Q : mm_R → Prop, Q (none, (cW ki ln bt rl cp cs ct cv rr dr ja ea ma a1 a2 a3 a4 a5 a6 a7 a8 jb eb mb b1 b2 b3 b4 b5 b6 b7 b8 re fl g1 g2 g3 (ps2 g4 (Int.toNat (x * 8 + y)) n) g5 (dW rt la rs rg pd du ds me tt gr su gp mk rf m1 m2 m3 m4 m5 mr mf n1 n2 n3 n4 n5 nr nf E))) → rn_X2_addBack (1000) (0, [(0, .ref 29), (1, iv (x)), (2, iv (y)), (3, iv (n))], [], (cW ki ln bt rl cp cs ct cv rr dr ja ea ma a1 a2 a3 a4 a5 a6 a7 a8 jb eb mb b1 b2 b3 b4 b5 b6 b7 b8 re fl g1 g2 g3 g4 g5 (dW rt la rs rg pd du ds me tt gr su gp mk rf m1 m2 m3 m4 m5 mr mf n1 n2 n3 n4 n5 nr nf E))) Q := by
    intro Q hQ
    refine r_al rfl rfl ?_
    refine r_gf rfl rfl xg_29 rfl ?_
    refine r_gf rfl rfl xg_4 rfl ?_
    refine r_gf rfl rfl xg_23 rfl ?_
    refine r_il rfl rfl ?_
    refine r_bi rfl (by decide) ?_
    refine r_mul rfl ?_
    refine r_il rfl rfl ?_
    refine r_add rfl ?_
    refine r_dup2 rfl rfl rfl ?_
    refine r_ia rfl xg_27 (by omega) (by omega) (by decide) ?_
    refine r_il rfl rfl ?_
    refine r_add rfl ?_
    refine r_ias rfl xg_27 (by omega) (by omega) (by decide) xs_27 ?_
    exact r_retv rfl rfl hQ
  obtain ⟨r, h1, h2⟩ := rn_S (vs := [.ref 29, iv (x), iv (y), iv (n)]) (Q := fun r => r = (none, (cW ki ln bt rl cp cs ct cv rr dr ja ea ma a1 a2 a3 a4 a5 a6 a7 a8 jb eb mb b1 b2 b3 b4 b5 b6 b7 b8 re fl g1 g2 g3 (ps2 g4 (Int.toNat (x * 8 + y)) n) g5 (dW rt la rs rg pd du ds me tt gr su gp mk rf m1 m2 m3 m4 m5 mr mf n1 n2 n3 n4 n5 nr nf E)))) rfl (rn_up (N := 1000) (M := mm_fuel) (by decide) (main (fun r => r = (none, (cW ki ln bt rl cp cs ct cv rr dr ja ea ma a1 a2 a3 a4 a5 a6 a7 a8 jb eb mb b1 b2 b3 b4 b5 b6 b7 b8 re fl g1 g2 g3 (ps2 g4 (Int.toNat (x * 8 + y)) n) g5 (dW rt la rs rg pd du ds me tt gr su gp mk rf m1 m2 m3 m4 m5 mr mf n1 n2 n3 n4 n5 nr nf E)))) rfl))
  have h1 : sX2_addBack [.ref 29, iv (x), iv (y), iv (n)] (cW ki ln bt rl cp cs ct cv rr dr ja ea ma a1 a2 a3 a4 a5 a6 a7 a8 jb eb mb b1 b2 b3 b4 b5 b6 b7 b8 re fl g1 g2 g3 g4 g5 (dW rt la rs rg pd du ds me tt gr su gp mk rf m1 m2 m3 m4 m5 mr mf n1 n2 n3 n4 n5 nr nf E)) = some r := h1
  rw [h1, h2]
abbrev rn_X2_moveCoins (N : Nat) (c : mm_C) (Q : mm_R → Prop) : Prop := rn (mm_gf gLX2) (mm_pf pLX2) (mm_mv vX2_moveCoins) (mm_mv zX2_moveCoins) (mm_kc kLX2) mm_gs0 mm_rf0 mm_ro (some .boolean) 7 (mm_ins iX2_moveCoins) N c Q
theorem c_mv0_0 (hAd : ARd a1 a2 a3) (hAs : ARs a4 a5 a6 a7) (hn : 0 ≤ ma ∧ ma ≤ 16) (h5 : ∀ p : Nat, p < 8 → 0 ≤ (g5 p).toInt ∧ (g5 p).toInt ≤ 9999) (ha : 0 ≤ a ∧ a ≤ 7) (hd : 0 ≤ d ∧ d ≤ 9) (hN : 1 ≤ n ∧ n ≤ 999) (hm : -2147483648 ≤ m ∧ m ≤ 2147483647) (hv : cMV a2 g5 a d n m = false) : sX2_moveCoins [.ref 29, iv (a), iv (d), iv (n), iv (m)] (cW ki ln bt rl cp cs ct cv 5 14 ja ea ma a1 a2 a3 a4 a5 a6 a7 a8 jb eb mb b1 b2 b3 b4 b5 b6 b7 b8 re fl g1 g2 g3 g4 g5 (dW rt la rs rg pd du ds me tt gr su gp mk rf m1 m2 m3 m4 m5 mr mf n1 n2 n3 n4 n5 nr nf E)) = some (some (iv 0), (cW ki ln bt rl cp cs ct cv 5 14 ja ea ma a1 a2 a3 a4 a5 a6 a7 a8 jb eb mb b1 b2 b3 b4 b5 b6 b7 b8 re fl g1 g2 g3 g4 g5 (dW rt la rs rg pd du ds me tt gr su gp mk rf m1 m2 m3 m4 m5 mr mf n1 n2 n3 n4 n5 nr nf E))) := by
  have main : ∀ Q : mm_R → Prop, Q (some (iv 0), (cW ki ln bt rl cp cs ct cv 5 14 ja ea ma a1 a2 a3 a4 a5 a6 a7 a8 jb eb mb b1 b2 b3 b4 b5 b6 b7 b8 re fl g1 g2 g3 g4 g5 (dW rt la rs rg pd du ds me tt gr su gp mk rf m1 m2 m3 m4 m5 mr mf n1 n2 n3 n4 n5 nr nf E))) → rn_X2_moveCoins (1000) (0, [(0, .ref 29), (1, iv (a)), (2, iv (d)), (3, iv (n)), (4, iv (m))], [], (cW ki ln bt rl cp cs ct cv 5 14 ja ea ma a1 a2 a3 a4 a5 a6 a7 a8 jb eb mb b1 b2 b3 b4 b5 b6 b7 b8 re fl g1 g2 g3 g4 g5 (dW rt la rs rg pd du ds me tt gr su gp mk rf m1 m2 m3 m4 m5 mr mf n1 n2 n3 n4 n5 nr nf E))) Q := by
    intro Q hQ
    have ht := (ar1 hAd hd).2
    have vb1 := h5 (Int.toNat a) (by omega)
    have vb2 := h5 (Int.toNat (a2 (Int.toNat d)).toInt) (by omega)
    refine r_al rfl rfl ?_
    refine r_gf rfl rfl xg_29 rfl ?_
    refine r_gf rfl rfl xg_4 rfl ?_
    refine r_gf rfl rfl xg_23 rfl ?_
    refine r_asw (lv' := [(5, _), (0, _), (1, _), (2, _), (3, _), (4, _)]) rfl rfl rfl ?_
    refine r_al rfl rfl ?_
    refine r_gf rfl rfl xg_29 rfl ?_
    refine r_gf rfl rfl xg_4 rfl ?_
    refine r_gf rfl rfl xg_5 rfl ?_
    refine r_il rfl rfl ?_
    refine r_ia rfl xg_7 (by omega) (by omega) (by decide) ?_
    refine r_isw (lv' := [(6, _), (5, _), (0, _), (1, _), (2, _), (3, _), (4, _)]) rfl rfl rfl ?_
    refine r_il rfl rfl ?_
    refine r_ilw rfl rfl ?_
    refine r_cgt rfl rfl (by omega) hm (fun u1 => ?_) (fun u1 => ?_)
    · refine r_ic rfl ?_
      exact r_retb rfl rfl (by omega) hQ
    · refine r_il rfl rfl ?_
      refine r_alw rfl rfl ?_
      refine r_il rfl rfl ?_
      refine r_ia rfl xg_28 (by omega) (by omega) (by decide) ?_
      refine r_cle rfl rfl (by omega) (by omega) (fun u2 => ?_) (fun u2 => ?_)
      · refine r_il rfl rfl ?_
        refine r_ilw rfl rfl ?_
        refine r_ceq rfl rfl (by omega) (by omega) (fun u3 => ?_) (fun u3 => ?_)
        · exfalso
          have e : cMV a2 g5 a d n m = true := by unfold cMV; rw [decide_eq_true u1, decide_eq_true u2, decide_eq_true u3]; rfl
          rw [e] at hv
          cases hv
        · refine r_alw rfl rfl ?_
          refine r_ilw rfl rfl ?_
          refine r_ia rfl xg_28 (by omega) (by omega) (by decide) ?_
          refine r_il rfl rfl ?_
          refine r_add rfl ?_
          refine r_si rfl (by decide) ?_
          refine r_cle rfl rfl (by omega) (by omega) (fun u4 => ?_) (fun u4 => ?_)
          · exfalso
            have e : cMV a2 g5 a d n m = true := by unfold cMV; rw [decide_eq_true u1, decide_eq_true u2, decide_eq_false u3, decide_eq_true u4]; rfl
            rw [e] at hv
            cases hv
          · refine r_ic rfl ?_
            exact r_retb rfl rfl (by omega) hQ
      · refine r_ic rfl ?_
        exact r_retb rfl rfl (by omega) hQ
  obtain ⟨r, h1, h2⟩ := rn_S (vs := [.ref 29, iv (a), iv (d), iv (n), iv (m)]) (Q := fun r => r = (some (iv 0), (cW ki ln bt rl cp cs ct cv 5 14 ja ea ma a1 a2 a3 a4 a5 a6 a7 a8 jb eb mb b1 b2 b3 b4 b5 b6 b7 b8 re fl g1 g2 g3 g4 g5 (dW rt la rs rg pd du ds me tt gr su gp mk rf m1 m2 m3 m4 m5 mr mf n1 n2 n3 n4 n5 nr nf E)))) rfl (rn_up (N := 1000) (M := mm_fuel) (by decide) (main (fun r => r = (some (iv 0), (cW ki ln bt rl cp cs ct cv 5 14 ja ea ma a1 a2 a3 a4 a5 a6 a7 a8 jb eb mb b1 b2 b3 b4 b5 b6 b7 b8 re fl g1 g2 g3 g4 g5 (dW rt la rs rg pd du ds me tt gr su gp mk rf m1 m2 m3 m4 m5 mr mf n1 n2 n3 n4 n5 nr nf E)))) rfl))
  have h1 : sX2_moveCoins [.ref 29, iv (a), iv (d), iv (n), iv (m)] (cW ki ln bt rl cp cs ct cv 5 14 ja ea ma a1 a2 a3 a4 a5 a6 a7 a8 jb eb mb b1 b2 b3 b4 b5 b6 b7 b8 re fl g1 g2 g3 g4 g5 (dW rt la rs rg pd du ds me tt gr su gp mk rf m1 m2 m3 m4 m5 mr mf n1 n2 n3 n4 n5 nr nf E)) = some r := h1
  rw [h1, h2]
theorem c_mv0_1 (hAd : ARd a1 a2 a3) (hAs : ARs a4 a5 a6 a7) (hn : 0 ≤ ma ∧ ma ≤ 16) (h5 : ∀ p : Nat, p < 8 → 0 ≤ (g5 p).toInt ∧ (g5 p).toInt ≤ 9999) (ha : 0 ≤ a ∧ a ≤ 7) (hd : 0 ≤ d ∧ d ≤ 9) (hN : 1 ≤ n ∧ n ≤ 999) (hm : -2147483648 ≤ m ∧ m ≤ 2147483647) (hv : cMV a2 g5 a d n m = true) : sX2_moveCoins [.ref 29, iv (a), iv (d), iv (n), iv (m)] (cW ki ln bt rl cp cs ct cv 5 14 ja ea ma a1 a2 a3 a4 a5 a6 a7 a8 jb eb mb b1 b2 b3 b4 b5 b6 b7 b8 re fl g1 g2 g3 g4 g5 (dW rt la rs rg pd du ds me tt gr su gp mk rf m1 m2 m3 m4 m5 mr mf n1 n2 n3 n4 n5 nr nf E)) = some (some (iv 1), (cW ki ln bt rl cp cs ct cv 5 14 ja ea ma a1 a2 a3 a4 a5 a6 a7 a8 jb eb mb b1 b2 b3 b4 b5 b6 b7 b8 re fl (ps2 g1 (Int.toNat d) n) g2 g3 g4 (ps2 (ps1 g5 (Int.toNat a) n) (Int.toNat (a2 (Int.toNat d)).toInt) n) (dW rt la rs rg pd du ds me tt gr su gp mk rf m1 m2 m3 m4 m5 mr mf n1 n2 n3 n4 n5 nr nf E))) := by
  have main : ∀ Q : mm_R → Prop, Q (some (iv 1), (cW ki ln bt rl cp cs ct cv 5 14 ja ea ma a1 a2 a3 a4 a5 a6 a7 a8 jb eb mb b1 b2 b3 b4 b5 b6 b7 b8 re fl (ps2 g1 (Int.toNat d) n) g2 g3 g4 (ps2 (ps1 g5 (Int.toNat a) n) (Int.toNat (a2 (Int.toNat d)).toInt) n) (dW rt la rs rg pd du ds me tt gr su gp mk rf m1 m2 m3 m4 m5 mr mf n1 n2 n3 n4 n5 nr nf E))) → rn_X2_moveCoins (1000) (0, [(0, .ref 29), (1, iv (a)), (2, iv (d)), (3, iv (n)), (4, iv (m))], [], (cW ki ln bt rl cp cs ct cv 5 14 ja ea ma a1 a2 a3 a4 a5 a6 a7 a8 jb eb mb b1 b2 b3 b4 b5 b6 b7 b8 re fl g1 g2 g3 g4 g5 (dW rt la rs rg pd du ds me tt gr su gp mk rf m1 m2 m3 m4 m5 mr mf n1 n2 n3 n4 n5 nr nf E))) Q := by
    intro Q hQ
    have ht := (ar1 hAd hd).2
    have vb1 := h5 (Int.toNat a) (by omega)
    have vb2 := h5 (Int.toNat (a2 (Int.toNat d)).toInt) (by omega)
    refine r_al rfl rfl ?_
    refine r_gf rfl rfl xg_29 rfl ?_
    refine r_gf rfl rfl xg_4 rfl ?_
    refine r_gf rfl rfl xg_23 rfl ?_
    refine r_asw (lv' := [(5, _), (0, _), (1, _), (2, _), (3, _), (4, _)]) rfl rfl rfl ?_
    refine r_al rfl rfl ?_
    refine r_gf rfl rfl xg_29 rfl ?_
    refine r_gf rfl rfl xg_4 rfl ?_
    refine r_gf rfl rfl xg_5 rfl ?_
    refine r_il rfl rfl ?_
    refine r_ia rfl xg_7 (by omega) (by omega) (by decide) ?_
    refine r_isw (lv' := [(6, _), (5, _), (0, _), (1, _), (2, _), (3, _), (4, _)]) rfl rfl rfl ?_
    refine r_il rfl rfl ?_
    refine r_ilw rfl rfl ?_
    refine r_cgt rfl rfl (by omega) hm (fun u1 => ?_) (fun u1 => ?_)
    · exfalso
      have e : cMV a2 g5 a d n m = false := by unfold cMV; rw [decide_eq_false (show ¬ n ≤ m by omega)]; rfl
      rw [e] at hv
      cases hv
    · refine r_il rfl rfl ?_
      refine r_alw rfl rfl ?_
      refine r_il rfl rfl ?_
      refine r_ia rfl xg_28 (by omega) (by omega) (by decide) ?_
      refine r_cle rfl rfl (by omega) (by omega) (fun u2 => ?_) (fun u2 => ?_)
      · refine r_il rfl rfl ?_
        refine r_ilw rfl rfl ?_
        refine r_ceq rfl rfl (by omega) (by omega) (fun u3 => ?_) (fun u3 => ?_)
        · refine r_alw rfl rfl ?_
          refine r_il rfl rfl ?_
          refine r_dup2 rfl rfl rfl ?_
          refine r_ia rfl xg_28 (by omega) (by omega) (by decide) ?_
          refine r_il rfl rfl ?_
          refine r_sub rfl ?_
          refine r_ias rfl xg_28 (by omega) (by omega) (by decide) xs_28 ?_
          refine r_alw rfl rfl ?_
          refine r_ilw rfl rfl ?_
          refine r_dup2 rfl rfl rfl ?_
          refine r_ia rfl xg_28 (by omega) (by omega) (by decide) ?_
          refine r_il rfl rfl ?_
          refine r_add rfl ?_
          refine r_ias rfl xg_28 (by omega) (by omega) (by decide) xs_28 ?_
          refine r_al rfl rfl ?_
          refine r_gf rfl rfl xg_29 rfl ?_
          refine r_gf rfl rfl xg_4 rfl ?_
          refine r_gf rfl rfl xg_23 rfl ?_
          refine r_il rfl rfl ?_
          refine r_dup2 rfl rfl rfl ?_
          refine r_ia rfl xg_24 (by omega) (by omega) (by decide) ?_
          refine r_il rfl rfl ?_
          refine r_add rfl ?_
          refine r_ias rfl xg_24 (by omega) (by omega) (by decide) xs_24 ?_
          refine r_ic rfl ?_
          exact r_retb rfl rfl (by omega) hQ
        · refine r_alw rfl rfl ?_
          refine r_ilw rfl rfl ?_
          refine r_ia rfl xg_28 (by omega) (by omega) (by decide) ?_
          refine r_il rfl rfl ?_
          refine r_add rfl ?_
          refine r_si rfl (by decide) ?_
          refine r_cle rfl rfl (by omega) (by omega) (fun u4 => ?_) (fun u4 => ?_)
          · refine r_alw rfl rfl ?_
            refine r_il rfl rfl ?_
            refine r_dup2 rfl rfl rfl ?_
            refine r_ia rfl xg_28 (by omega) (by omega) (by decide) ?_
            refine r_il rfl rfl ?_
            refine r_sub rfl ?_
            refine r_ias rfl xg_28 (by omega) (by omega) (by decide) xs_28 ?_
            refine r_alw rfl rfl ?_
            refine r_ilw rfl rfl ?_
            refine r_dup2 rfl rfl rfl ?_
            refine r_ia rfl xg_28 (by omega) (by omega) (by decide) ?_
            refine r_il rfl rfl ?_
            refine r_add rfl ?_
            refine r_ias rfl xg_28 (by omega) (by omega) (by decide) xs_28 ?_
            refine r_al rfl rfl ?_
            refine r_gf rfl rfl xg_29 rfl ?_
            refine r_gf rfl rfl xg_4 rfl ?_
            refine r_gf rfl rfl xg_23 rfl ?_
            refine r_il rfl rfl ?_
            refine r_dup2 rfl rfl rfl ?_
            refine r_ia rfl xg_24 (by omega) (by omega) (by decide) ?_
            refine r_il rfl rfl ?_
            refine r_add rfl ?_
            refine r_ias rfl xg_24 (by omega) (by omega) (by decide) xs_24 ?_
            refine r_ic rfl ?_
            exact r_retb rfl rfl (by omega) hQ
          · exfalso
            have e : cMV a2 g5 a d n m = false := by unfold cMV; rw [decide_eq_true u1, decide_eq_true u2, decide_eq_false u3, decide_eq_false (Int.not_le.mpr u4)]; rfl
            rw [e] at hv
            cases hv
      · exfalso
        have e : cMV a2 g5 a d n m = false := by unfold cMV; rw [decide_eq_true u1, decide_eq_false (Int.not_le.mpr u2)]; rfl
        rw [e] at hv
        cases hv
  obtain ⟨r, h1, h2⟩ := rn_S (vs := [.ref 29, iv (a), iv (d), iv (n), iv (m)]) (Q := fun r => r = (some (iv 1), (cW ki ln bt rl cp cs ct cv 5 14 ja ea ma a1 a2 a3 a4 a5 a6 a7 a8 jb eb mb b1 b2 b3 b4 b5 b6 b7 b8 re fl (ps2 g1 (Int.toNat d) n) g2 g3 g4 (ps2 (ps1 g5 (Int.toNat a) n) (Int.toNat (a2 (Int.toNat d)).toInt) n) (dW rt la rs rg pd du ds me tt gr su gp mk rf m1 m2 m3 m4 m5 mr mf n1 n2 n3 n4 n5 nr nf E)))) rfl (rn_up (N := 1000) (M := mm_fuel) (by decide) (main (fun r => r = (some (iv 1), (cW ki ln bt rl cp cs ct cv 5 14 ja ea ma a1 a2 a3 a4 a5 a6 a7 a8 jb eb mb b1 b2 b3 b4 b5 b6 b7 b8 re fl (ps2 g1 (Int.toNat d) n) g2 g3 g4 (ps2 (ps1 g5 (Int.toNat a) n) (Int.toNat (a2 (Int.toNat d)).toInt) n) (dW rt la rs rg pd du ds me tt gr su gp mk rf m1 m2 m3 m4 m5 mr mf n1 n2 n3 n4 n5 nr nf E)))) rfl))
  have h1 : sX2_moveCoins [.ref 29, iv (a), iv (d), iv (n), iv (m)] (cW ki ln bt rl cp cs ct cv 5 14 ja ea ma a1 a2 a3 a4 a5 a6 a7 a8 jb eb mb b1 b2 b3 b4 b5 b6 b7 b8 re fl g1 g2 g3 g4 g5 (dW rt la rs rg pd du ds me tt gr su gp mk rf m1 m2 m3 m4 m5 mr mf n1 n2 n3 n4 n5 nr nf E)) = some r := h1
  rw [h1, h2]
abbrev rn_X2_payByDebtor (N : Nat) (c : mm_C) (Q : mm_R → Prop) : Prop := rn (mm_gf gLX2) (mm_pf pLX2) (mm_mv vX2_payByDebtor) (mm_mv zX2_payByDebtor) (mm_kc kLX2) mm_gs0 mm_rf0 mm_ro (some .int) 3 (mm_ins iX2_payByDebtor) N c Q
theorem c_pbd0_0 (hAd : ARd a1 a2 a3) (hAs : ARs a4 a5 a6 a7) (hn : 0 ≤ ma ∧ ma ≤ 16) (h5 : ∀ p : Nat, p < 8 → 0 ≤ (g5 p).toInt ∧ (g5 p).toInt ≤ 9999) (hd : 0 ≤ d ∧ d ≤ 9) (hN : 1 ≤ n ∧ n ≤ 999) (hv : cMV a2 g5 (a1 (Int.toNat d)).toInt d n (nrm (cAD a1 a3 g1 fl d)) = false) : sX2_payByDebtor [.ref 29, iv (d), iv (n)] (cW ki ln bt rl cp cs ct cv 5 14 ja ea ma a1 a2 a3 a4 a5 a6 a7 a8 jb eb mb b1 b2 b3 b4 b5 b6 b7 b8 re fl g1 g2 g3 g4 g5 (dW rt la rs rg pd du ds me tt gr su gp mk rf m1 m2 m3 m4 m5 mr mf n1 n2 n3 n4 n5 nr nf E)) = some (some (iv (-2)), (cW ki ln bt rl cp cs ct cv 5 14 ja ea ma a1 a2 a3 a4 a5 a6 a7 a8 jb eb mb b1 b2 b3 b4 b5 b6 b7 b8 re fl g1 g2 g3 g4 g5 (dW rt la rs rg pd du ds me tt gr su gp mk rf m1 m2 m3 m4 m5 mr mf n1 n2 n3 n4 n5 nr nf E))) := by
  have main : ∀ Q : mm_R → Prop, Q (some (iv (-2)), (cW ki ln bt rl cp cs ct cv 5 14 ja ea ma a1 a2 a3 a4 a5 a6 a7 a8 jb eb mb b1 b2 b3 b4 b5 b6 b7 b8 re fl g1 g2 g3 g4 g5 (dW rt la rs rg pd du ds me tt gr su gp mk rf m1 m2 m3 m4 m5 mr mf n1 n2 n3 n4 n5 nr nf E))) → rn_X2_payByDebtor (1000) (0, [(0, .ref 29), (1, iv (d)), (2, iv (n))], [], (cW ki ln bt rl cp cs ct cv 5 14 ja ea ma a1 a2 a3 a4 a5 a6 a7 a8 jb eb mb b1 b2 b3 b4 b5 b6 b7 b8 re fl g1 g2 g3 g4 g5 (dW rt la rs rg pd du ds me tt gr su gp mk rf m1 m2 m3 m4 m5 mr mf n1 n2 n3 n4 n5 nr nf E))) Q := by
    intro Q hQ
    refine r_al rfl rfl ?_
    refine r_al rfl rfl ?_
    refine r_gf rfl rfl xg_29 rfl ?_
    refine r_gf rfl rfl xg_4 rfl ?_
    refine r_gf rfl rfl xg_5 rfl ?_
    refine r_il rfl rfl ?_
    refine r_ia rfl xg_6 (by omega) (by omega) (by decide) ?_
    refine r_il rfl rfl ?_
    refine r_il rfl rfl ?_
    refine r_al rfl rfl ?_
    refine r_gf rfl rfl xg_29 rfl ?_
    refine r_il rfl rfl ?_
    refine r_v2s rfl rfl xg_4 rfl (c_adC0 hAd hAs hn hd) ?_
    refine r_nrm ?_
    refine r_v5s rfl rfl xg_29 rfl (c_mv0_0 hAd hAs hn h5 (ar1 hAd hd).1 hd hN (nrm_r _) hv) ?_
    refine r_zne rfl rfl (by decide) (fun u1 => ?_) (fun u1 => ?_)
    · exact absurd rfl u1
    · refine r_bi rfl (by decide) ?_
      exact r_ret rfl rfl hQ
  obtain ⟨r, h1, h2⟩ := rn_S (vs := [.ref 29, iv (d), iv (n)]) (Q := fun r => r = (some (iv (-2)), (cW ki ln bt rl cp cs ct cv 5 14 ja ea ma a1 a2 a3 a4 a5 a6 a7 a8 jb eb mb b1 b2 b3 b4 b5 b6 b7 b8 re fl g1 g2 g3 g4 g5 (dW rt la rs rg pd du ds me tt gr su gp mk rf m1 m2 m3 m4 m5 mr mf n1 n2 n3 n4 n5 nr nf E)))) rfl (rn_up (N := 1000) (M := mm_fuel) (by decide) (main (fun r => r = (some (iv (-2)), (cW ki ln bt rl cp cs ct cv 5 14 ja ea ma a1 a2 a3 a4 a5 a6 a7 a8 jb eb mb b1 b2 b3 b4 b5 b6 b7 b8 re fl g1 g2 g3 g4 g5 (dW rt la rs rg pd du ds me tt gr su gp mk rf m1 m2 m3 m4 m5 mr mf n1 n2 n3 n4 n5 nr nf E)))) rfl))
  have h1 : sX2_payByDebtor [.ref 29, iv (d), iv (n)] (cW ki ln bt rl cp cs ct cv 5 14 ja ea ma a1 a2 a3 a4 a5 a6 a7 a8 jb eb mb b1 b2 b3 b4 b5 b6 b7 b8 re fl g1 g2 g3 g4 g5 (dW rt la rs rg pd du ds me tt gr su gp mk rf m1 m2 m3 m4 m5 mr mf n1 n2 n3 n4 n5 nr nf E)) = some r := h1
  rw [h1, h2]
theorem c_pbd0_1 (hAd : ARd a1 a2 a3) (hAs : ARs a4 a5 a6 a7) (hn : 0 ≤ ma ∧ ma ≤ 16) (h5 : ∀ p : Nat, p < 8 → 0 ≤ (g5 p).toInt ∧ (g5 p).toInt ≤ 9999) (hd : 0 ≤ d ∧ d ≤ 9) (hN : 1 ≤ n ∧ n ≤ 999) (hv : cMV a2 g5 (a1 (Int.toNat d)).toInt d n (nrm (cAD a1 a3 g1 fl d)) = true) : sX2_payByDebtor [.ref 29, iv (d), iv (n)] (cW ki ln bt rl cp cs ct cv 5 14 ja ea ma a1 a2 a3 a4 a5 a6 a7 a8 jb eb mb b1 b2 b3 b4 b5 b6 b7 b8 re fl g1 g2 g3 g4 g5 (dW rt la rs rg pd du ds me tt gr su gp mk rf m1 m2 m3 m4 m5 mr mf n1 n2 n3 n4 n5 nr nf E)) = some (some (iv (cR a3 (ps2 g1 (Int.toNat d) n) d)), (cW ki ln bt rl cp cs ct cv 5 14 ja ea ma a1 a2 a3 a4 a5 a6 a7 a8 jb eb mb b1 b2 b3 b4 b5 b6 b7 b8 re fl (ps2 g1 (Int.toNat d) n) g2 g3 g4 (ps2 (ps1 g5 (Int.toNat (a1 (Int.toNat d)).toInt) n) (Int.toNat (a2 (Int.toNat d)).toInt) n) (dW rt la rs rg pd du ds me tt gr su gp mk rf m1 m2 m3 m4 m5 mr mf n1 n2 n3 n4 n5 nr nf E))) := by
  have main : ∀ Q : mm_R → Prop, Q (some (iv (cR a3 (ps2 g1 (Int.toNat d) n) d)), (cW ki ln bt rl cp cs ct cv 5 14 ja ea ma a1 a2 a3 a4 a5 a6 a7 a8 jb eb mb b1 b2 b3 b4 b5 b6 b7 b8 re fl (ps2 g1 (Int.toNat d) n) g2 g3 g4 (ps2 (ps1 g5 (Int.toNat (a1 (Int.toNat d)).toInt) n) (Int.toNat (a2 (Int.toNat d)).toInt) n) (dW rt la rs rg pd du ds me tt gr su gp mk rf m1 m2 m3 m4 m5 mr mf n1 n2 n3 n4 n5 nr nf E))) → rn_X2_payByDebtor (1000) (0, [(0, .ref 29), (1, iv (d)), (2, iv (n))], [], (cW ki ln bt rl cp cs ct cv 5 14 ja ea ma a1 a2 a3 a4 a5 a6 a7 a8 jb eb mb b1 b2 b3 b4 b5 b6 b7 b8 re fl g1 g2 g3 g4 g5 (dW rt la rs rg pd du ds me tt gr su gp mk rf m1 m2 m3 m4 m5 mr mf n1 n2 n3 n4 n5 nr nf E))) Q := by
    intro Q hQ
    refine r_al rfl rfl ?_
    refine r_al rfl rfl ?_
    refine r_gf rfl rfl xg_29 rfl ?_
    refine r_gf rfl rfl xg_4 rfl ?_
    refine r_gf rfl rfl xg_5 rfl ?_
    refine r_il rfl rfl ?_
    refine r_ia rfl xg_6 (by omega) (by omega) (by decide) ?_
    refine r_il rfl rfl ?_
    refine r_il rfl rfl ?_
    refine r_al rfl rfl ?_
    refine r_gf rfl rfl xg_29 rfl ?_
    refine r_il rfl rfl ?_
    refine r_v2s rfl rfl xg_4 rfl (c_adC0 hAd hAs hn hd) ?_
    refine r_nrm ?_
    refine r_v5s rfl rfl xg_29 rfl (c_mv0_1 hAd hAs hn h5 (ar1 hAd hd).1 hd hN (nrm_r _) hv) ?_
    refine r_zne rfl rfl (by decide) (fun u1 => ?_) (fun u1 => ?_)
    · refine r_al rfl rfl ?_
      refine r_gf rfl rfl xg_29 rfl ?_
      refine r_il rfl rfl ?_
      refine r_v2s rfl rfl xg_4 rfl (c_restC0 hd) ?_
      exact r_ret rfl rfl hQ
    · exact absurd u1 (by decide)
  obtain ⟨r, h1, h2⟩ := rn_S (vs := [.ref 29, iv (d), iv (n)]) (Q := fun r => r = (some (iv (cR a3 (ps2 g1 (Int.toNat d) n) d)), (cW ki ln bt rl cp cs ct cv 5 14 ja ea ma a1 a2 a3 a4 a5 a6 a7 a8 jb eb mb b1 b2 b3 b4 b5 b6 b7 b8 re fl (ps2 g1 (Int.toNat d) n) g2 g3 g4 (ps2 (ps1 g5 (Int.toNat (a1 (Int.toNat d)).toInt) n) (Int.toNat (a2 (Int.toNat d)).toInt) n) (dW rt la rs rg pd du ds me tt gr su gp mk rf m1 m2 m3 m4 m5 mr mf n1 n2 n3 n4 n5 nr nf E)))) rfl (rn_up (N := 1000) (M := mm_fuel) (by decide) (main (fun r => r = (some (iv (cR a3 (ps2 g1 (Int.toNat d) n) d)), (cW ki ln bt rl cp cs ct cv 5 14 ja ea ma a1 a2 a3 a4 a5 a6 a7 a8 jb eb mb b1 b2 b3 b4 b5 b6 b7 b8 re fl (ps2 g1 (Int.toNat d) n) g2 g3 g4 (ps2 (ps1 g5 (Int.toNat (a1 (Int.toNat d)).toInt) n) (Int.toNat (a2 (Int.toNat d)).toInt) n) (dW rt la rs rg pd du ds me tt gr su gp mk rf m1 m2 m3 m4 m5 mr mf n1 n2 n3 n4 n5 nr nf E)))) rfl))
  have h1 : sX2_payByDebtor [.ref 29, iv (d), iv (n)] (cW ki ln bt rl cp cs ct cv 5 14 ja ea ma a1 a2 a3 a4 a5 a6 a7 a8 jb eb mb b1 b2 b3 b4 b5 b6 b7 b8 re fl g1 g2 g3 g4 g5 (dW rt la rs rg pd du ds me tt gr su gp mk rf m1 m2 m3 m4 m5 mr mf n1 n2 n3 n4 n5 nr nf E)) = some r := h1
  rw [h1, h2]
abbrev rn_X2_sharersOf (N : Nat) (c : mm_C) (Q : mm_R → Prop) : Prop := rn (mm_gf gLX2) (mm_pf pLX2) (mm_mv vX2_sharersOf) (mm_mv zX2_sharersOf) (mm_kc kLX2) mm_gs0 mm_rf0 mm_ro (some .int) 4 (mm_ins iX2_sharersOf) N c Q
theorem sho_lp0 {q : Nat} (hq : q ≤ 16) (hd : -2147483648 ≤ d ∧ d ≤ 2147483647) (k : rn_X2_sharersOf N (53, [(3, iv (((q : Nat) : Int))), (2, iv (cSh a4 a5 a6 re d q)), (0, .ref 29), (1, iv (d))], [], (cW ki ln bt rl cp cs ct cv 5 14 ja ea (q : Int) a1 a2 a3 a4 a5 a6 a7 a8 jb eb mb b1 b2 b3 b4 b5 b6 b7 b8 re fl g1 g2 g3 g4 g5 (dW rt la rs rg pd du ds me tt gr su gp mk rf m1 m2 m3 m4 m5 mr mf n1 n2 n3 n4 n5 nr nf E))) Q) : ∀ (m j : Nat), j + m = q → rn_X2_sharersOf (N + 60 * m + 60) (4, [(3, iv ((j : Int))), (2, iv (cSh a4 a5 a6 re d j)), (0, .ref 29), (1, iv (d))], [], (cW ki ln bt rl cp cs ct cv 5 14 ja ea (q : Int) a1 a2 a3 a4 a5 a6 a7 a8 jb eb mb b1 b2 b3 b4 b5 b6 b7 b8 re fl g1 g2 g3 g4 g5 (dW rt la rs rg pd du ds me tt gr su gp mk rf m1 m2 m3 m4 m5 mr mf n1 n2 n3 n4 n5 nr nf E))) Q := by
  intro m
  induction m with
  | zero =>
    intro j hj
    have hj : j = q := by omega
    subst hj
    refine rn_up (N := N + 60) (by omega) ?_
    refine r_il rfl rfl ?_
    refine r_al rfl rfl ?_
    refine r_gf rfl rfl xg_29 rfl ?_
    refine r_gf rfl rfl xg_4 rfl ?_
    refine r_gf rfl rfl xg_5 rfl ?_
    refine r_cge rfl rfl (by omega) (by omega) (fun u1 => ?_) (fun u1 => ?_)
    · exact rn_up (by omega) k
    · omega
  | succ m ih =>
    intro j hj
    obtain ⟨M, hM⟩ : ∃ M, M = N + 60 * m + 60 := ⟨_, rfl⟩
    rw [← hM] at ih
    refine rn_up (N := M + 60) (by omega) ?_
    refine r_il rfl rfl ?_
    refine r_al rfl rfl ?_
    refine r_gf rfl rfl xg_29 rfl ?_
    refine r_gf rfl rfl xg_4 rfl ?_
    refine r_gf rfl rfl xg_5 rfl ?_
    refine r_cge rfl rfl (by omega) (by omega) (fun u1 => ?_) (fun u1 => ?_)
    · omega
    · refine r_al rfl rfl ?_
      refine r_gf rfl rfl xg_29 rfl ?_
      refine r_il rfl rfl ?_
      refine r_il rfl rfl ?_
      refine r_v3s rfl rfl xg_4 rfl (c_stW0 (by omega) hd) ?_
      refine r_zeq rfl rfl (bi_r _) (fun u2 => ?_) (fun u2 => ?_)
      · refine r_inc (lv' := [(3, _), (2, _), (0, _), (1, _)]) rfl rfl rfl rfl ?_
        refine r_goto rfl rfl ?_
        have e : cSh a4 a5 a6 re d j = cSh a4 a5 a6 re d (j + 1) := by show _ = (bif cW0 a5 a6 re d j then _ else _); rw [bi_0 u2]; rfl
        rw [e]
        exact rn_up (by omega) (ih (j + 1) (by omega))
      · refine r_il rfl rfl ?_
        refine r_ic rfl ?_
        refine r_al rfl rfl ?_
        refine r_gf rfl rfl xg_29 rfl ?_
        refine r_gf rfl rfl xg_4 rfl ?_
        refine r_gf rfl rfl xg_5 rfl ?_
        refine r_il rfl rfl ?_
        refine r_ia rfl xg_9 (by omega) (by omega) (by decide) ?_
        refine r_shl rfl ?_
        refine r_or rfl ?_
        refine r_is (lv' := [(2, _), (3, _), (0, _), (1, _)]) rfl rfl rfl ?_
        refine r_inc (lv' := [(3, _), (2, _), (0, _), (1, _)]) rfl rfl rfl rfl ?_
        refine r_goto rfl rfl ?_
        have e : oOr (cSh a4 a5 a6 re d j) (oShl 1 (a4 (Int.toNat (j : Int))).toInt) = cSh a4 a5 a6 re d (j + 1) := by show _ = (bif cW0 a5 a6 re d j then _ else _); rw [bi_1 u2]; rfl
        rw [e]
        exact rn_up (by omega) (ih (j + 1) (by omega))
theorem c_so0 (hn : 0 ≤ ma ∧ ma ≤ 16) (hd : -2147483648 ≤ d ∧ d ≤ 2147483647) : sX2_sharersOf [.ref 29, iv d] (cW ki ln bt rl cp cs ct cv 5 14 ja ea ma a1 a2 a3 a4 a5 a6 a7 a8 jb eb mb b1 b2 b3 b4 b5 b6 b7 b8 re fl g1 g2 g3 g4 g5 (dW rt la rs rg pd du ds me tt gr su gp mk rf m1 m2 m3 m4 m5 mr mf n1 n2 n3 n4 n5 nr nf E)) = some (some (iv (cSO a4 a5 a6 ma re fl d)), (cW ki ln bt rl cp cs ct cv 5 14 ja ea ma a1 a2 a3 a4 a5 a6 a7 a8 jb eb mb b1 b2 b3 b4 b5 b6 b7 b8 re fl g1 g2 g3 g4 g5 (dW rt la rs rg pd du ds me tt gr su gp mk rf m1 m2 m3 m4 m5 mr mf n1 n2 n3 n4 n5 nr nf E))) := by
  obtain ⟨q, rfl⟩ := Int.eq_ofNat_of_zero_le hn.1
  have hq : q ≤ 16 := by omega
  have main : ∀ Q : mm_R → Prop, Q (some (iv (cSO a4 a5 a6 (q : Int) re fl d)), (cW ki ln bt rl cp cs ct cv 5 14 ja ea (q : Int) a1 a2 a3 a4 a5 a6 a7 a8 jb eb mb b1 b2 b3 b4 b5 b6 b7 b8 re fl g1 g2 g3 g4 g5 (dW rt la rs rg pd du ds me tt gr su gp mk rf m1 m2 m3 m4 m5 mr mf n1 n2 n3 n4 n5 nr nf E))) → rn_X2_sharersOf (40 + 60 * 16 + 60 + 20) (0, [(0, .ref 29), (1, iv (d))], [], (cW ki ln bt rl cp cs ct cv 5 14 ja ea (q : Int) a1 a2 a3 a4 a5 a6 a7 a8 jb eb mb b1 b2 b3 b4 b5 b6 b7 b8 re fl g1 g2 g3 g4 g5 (dW rt la rs rg pd du ds me tt gr su gp mk rf m1 m2 m3 m4 m5 mr mf n1 n2 n3 n4 n5 nr nf E))) Q := by
    intro Q hQ
    refine r_ic rfl ?_
    refine r_is (lv' := [(2, _), (0, _), (1, _)]) rfl rfl rfl ?_
    refine r_ic rfl ?_
    refine r_is (lv' := [(3, _), (2, _), (0, _), (1, _)]) rfl rfl rfl ?_
    refine rn_up (N := 40 + 60 * q + 60) (by omega) (sho_lp0 (N := 40) hq hd ?_ q 0 (by omega))
    refine r_il rfl rfl ?_
    refine r_al rfl rfl ?_
    refine r_gf rfl rfl xg_29 rfl ?_
    refine r_gf rfl rfl xg_4 rfl ?_
    refine r_gf rfl rfl xg_23 rfl ?_
    refine r_ic rfl ?_
    refine r_xor rfl ?_
    refine r_and rfl ?_
    exact r_ret rfl rfl hQ
  obtain ⟨r, h1, h2⟩ := rn_S (vs := [.ref 29, iv d]) (Q := fun r => r = (some (iv (cSO a4 a5 a6 (q : Int) re fl d)), (cW ki ln bt rl cp cs ct cv 5 14 ja ea (q : Int) a1 a2 a3 a4 a5 a6 a7 a8 jb eb mb b1 b2 b3 b4 b5 b6 b7 b8 re fl g1 g2 g3 g4 g5 (dW rt la rs rg pd du ds me tt gr su gp mk rf m1 m2 m3 m4 m5 mr mf n1 n2 n3 n4 n5 nr nf E)))) rfl (rn_up (N := 40 + 60 * 16 + 60 + 20) (M := mm_fuel) (by decide) (main (fun r => r = (some (iv (cSO a4 a5 a6 (q : Int) re fl d)), (cW ki ln bt rl cp cs ct cv 5 14 ja ea (q : Int) a1 a2 a3 a4 a5 a6 a7 a8 jb eb mb b1 b2 b3 b4 b5 b6 b7 b8 re fl g1 g2 g3 g4 g5 (dW rt la rs rg pd du ds me tt gr su gp mk rf m1 m2 m3 m4 m5 mr mf n1 n2 n3 n4 n5 nr nf E)))) rfl))
  have h1 : sX2_sharersOf [.ref 29, iv d] (cW ki ln bt rl cp cs ct cv 5 14 ja ea (q : Int) a1 a2 a3 a4 a5 a6 a7 a8 jb eb mb b1 b2 b3 b4 b5 b6 b7 b8 re fl g1 g2 g3 g4 g5 (dW rt la rs rg pd du ds me tt gr su gp mk rf m1 m2 m3 m4 m5 mr mf n1 n2 n3 n4 n5 nr nf E)) = some r := h1
  rw [h1, h2]
abbrev rn_X2_shareBack (N : Nat) (c : mm_C) (Q : mm_R → Prop) : Prop := rn (mm_gf gLX2) (mm_pf pLX2) (mm_mv vX2_shareBack) (mm_mv zX2_shareBack) (mm_kc kLX2) mm_gs0 mm_rf0 mm_ro none 7 (mm_ins iX2_shareBack) N c Q
theorem shb_lp0 (hy : 0 ≤ y ∧ y ≤ 7) (k : rn_X2_shareBack N (59, [(6, iv (((8 : Nat) : Int))), (4, iv (sh)), (5, iv (n)), (0, .ref 29), (2, iv (y))], [], (cW ki ln bt rl cp cs ct cv 5 14 ja ea ma a1 a2 a3 a4 a5 a6 a7 a8 jb eb mb b1 b2 b3 b4 b5 b6 b7 b8 re fl g1 g2 g3 (cSB sh y n g4 8) g5 (dW rt la rs rg pd du ds me tt gr su gp mk rf m1 m2 m3 m4 m5 mr mf n1 n2 n3 n4 n5 nr nf E))) Q) : ∀ (m j : Nat), j + m = 8 → rn_X2_shareBack (N + 40 * m + 40) (27, [(6, iv ((j : Int))), (4, iv (sh)), (5, iv (n)), (0, .ref 29), (2, iv (y))], [], (cW ki ln bt rl cp cs ct cv 5 14 ja ea ma a1 a2 a3 a4 a5 a6 a7 a8 jb eb mb b1 b2 b3 b4 b5 b6 b7 b8 re fl g1 g2 g3 (cSB sh y n g4 j) g5 (dW rt la rs rg pd du ds me tt gr su gp mk rf m1 m2 m3 m4 m5 mr mf n1 n2 n3 n4 n5 nr nf E))) Q := by
  intro m
  induction m with
  | zero =>
    intro j hj
    have hj : j = 8 := by omega
    subst hj
    refine rn_up (N := N + 40) (by omega) ?_
    refine r_ilw rfl rfl ?_
    refine r_bi rfl (by decide) ?_
    refine r_cge rfl rfl (by omega) (by omega) (fun u1 => ?_) (fun u1 => ?_)
    · exact rn_up (by omega) k
    · omega
  | succ m ih =>
    intro j hj
    obtain ⟨M, hM⟩ : ∃ M, M = N + 40 * m + 40 := ⟨_, rfl⟩
    rw [← hM] at ih
    refine rn_up (N := M + 40) (by omega) ?_
    refine r_ilw rfl rfl ?_
    refine r_bi rfl (by decide) ?_
    refine r_cge rfl rfl (by omega) (by omega) (fun u1 => ?_) (fun u1 => ?_)
    · omega
    · refine r_ilw rfl rfl ?_
      refine r_ilw rfl rfl ?_
      refine r_s2s rfl rfl rfl (c_isIn (by omega)) ?_
      refine r_zeq rfl rfl (bi_r _) (fun u2 => ?_) (fun u2 => ?_)
      · have u2 : zb (Int32.ofInt sh) j = false := bi_0 u2
        refine r_inc (lv' := [(6, _), (4, _), (5, _), (0, _), (2, _)]) rfl rfl rfl rfl ?_
        refine r_goto rfl rfl ?_
        have e : cSB sh y n g4 j = cSB sh y n g4 (j + 1) := by show _ = (bif zb (Int32.ofInt sh) j then _ else _); rw [u2]; rfl
        rw [e]
        exact rn_up (by omega) (ih (j + 1) (by omega))
      · have u2 : zb (Int32.ofInt sh) j = true := bi_1 u2
        refine r_al rfl rfl ?_
        refine r_ilw rfl rfl ?_
        refine r_il rfl rfl ?_
        refine r_ilw rfl rfl ?_
        refine r_v4n rfl rfl xg_29 rfl (c_addBack (by omega) hy) ?_
        refine r_inc (lv' := [(6, _), (4, _), (5, _), (0, _), (2, _)]) rfl rfl rfl rfl ?_
        refine r_goto rfl rfl ?_
        have e : ps2 (cSB sh y n g4 j) (Int.toNat ((j : Int) * 8 + y)) n = cSB sh y n g4 (j + 1) := by show _ = (bif zb (Int32.ofInt sh) j then _ else _); rw [u2]; rfl
        rw [e]
        exact rn_up (by omega) (ih (j + 1) (by omega))
theorem c_shb0 (hAd : ARd a1 a2 a3) (hAs : ARs a4 a5 a6 a7) (hn : 0 ≤ ma ∧ ma ≤ 16) (hd : 0 ≤ d ∧ d ≤ 9) (hy : 0 ≤ y ∧ y ≤ 7) (hN : 1 ≤ n ∧ n ≤ 999) (hB : 0 ≤ bcF (cSS a4 a5 a6 ma re fl d y) ∧ bcF (cSS a4 a5 a6 ma re fl d y) ≤ 32) : sX2_shareBack [.ref 29, iv (d), iv (y), iv (n)] (cW ki ln bt rl cp cs ct cv 5 14 ja ea ma a1 a2 a3 a4 a5 a6 a7 a8 jb eb mb b1 b2 b3 b4 b5 b6 b7 b8 re fl g1 g2 g3 g4 g5 (dW rt la rs rg pd du ds me tt gr su gp mk rf m1 m2 m3 m4 m5 mr mf n1 n2 n3 n4 n5 nr nf E)) = some (none, (cW ki ln bt rl cp cs ct cv 5 14 ja ea ma a1 a2 a3 a4 a5 a6 a7 a8 jb eb mb b1 b2 b3 b4 b5 b6 b7 b8 re fl g1 g2 g3 (cSB (cSS a4 a5 a6 ma re fl d y) y (n / (bcF (cSS a4 a5 a6 ma re fl d y) + 1)) g4 8) g5 (dW rt la rs rg pd du ds me tt gr su gp mk rf m1 m2 m3 m4 m5 mr mf n1 n2 n3 n4 n5 nr nf E))) := by
  have main : ∀ Q : mm_R → Prop, Q (none, (cW ki ln bt rl cp cs ct cv 5 14 ja ea ma a1 a2 a3 a4 a5 a6 a7 a8 jb eb mb b1 b2 b3 b4 b5 b6 b7 b8 re fl g1 g2 g3 (cSB (cSS a4 a5 a6 ma re fl d y) y (n / (bcF (cSS a4 a5 a6 ma re fl d y) + 1)) g4 8) g5 (dW rt la rs rg pd du ds me tt gr su gp mk rf m1 m2 m3 m4 m5 mr mf n1 n2 n3 n4 n5 nr nf E))) → rn_X2_shareBack (20 + 40 * 8 + 40 + 100) (0, [(0, .ref 29), (1, iv (d)), (2, iv (y)), (3, iv (n))], [], (cW ki ln bt rl cp cs ct cv 5 14 ja ea ma a1 a2 a3 a4 a5 a6 a7 a8 jb eb mb b1 b2 b3 b4 b5 b6 b7 b8 re fl g1 g2 g3 g4 g5 (dW rt la rs rg pd du ds me tt gr su gp mk rf m1 m2 m3 m4 m5 mr mf n1 n2 n3 n4 n5 nr nf E))) Q := by
    intro Q hQ
    refine r_al rfl rfl ?_
    refine r_il rfl rfl ?_
    refine r_v2s rfl rfl xg_29 rfl (c_so0 hn (by omega)) ?_
    refine r_ic rfl ?_
    refine r_il rfl rfl ?_
    refine r_shl rfl ?_
    refine r_ic rfl ?_
    refine r_xor rfl ?_
    refine r_and rfl ?_
    show rn_X2_shareBack _ (11, [(0, .ref 29), (1, iv (d)), (2, iv (y)), (3, iv (n))], [iv (cSS a4 a5 a6 ma re fl d y)], (cW ki ln bt rl cp cs ct cv 5 14 ja ea ma a1 a2 a3 a4 a5 a6 a7 a8 jb eb mb b1 b2 b3 b4 b5 b6 b7 b8 re fl g1 g2 g3 g4 g5 (dW rt la rs rg pd du ds me tt gr su gp mk rf m1 m2 m3 m4 m5 mr mf n1 n2 n3 n4 n5 nr nf E))) Q
    refine r_isw (lv' := [(4, _), (0, _), (1, _), (2, _), (3, _)]) rfl rfl rfl ?_
    refine r_il rfl rfl ?_
    refine r_ilw rfl rfl ?_
    refine r_s1s rfl rfl rfl c_bitCount ?_
    refine r_ic rfl ?_
    refine r_add rfl ?_
    refine r_div rfl (by omega) (by omega) ?_
    refine r_isw (lv' := [(5, _), (4, _), (0, _), (1, _), (2, _), (3, _)]) rfl rfl rfl ?_
    refine r_ic rfl ?_
    refine r_isw (lv' := [(6, _), (5, _), (4, _), (0, _), (1, _), (2, _), (3, _)]) rfl rfl rfl ?_
    refine rn_LE (a := [(6, iv (0)), (4, iv (cSS a4 a5 a6 ma re fl d y)), (5, iv ((n) / ((bcF (cSS a4 a5 a6 ma re fl d y)) + (1)))), (0, .ref 29), (2, iv (y))]) ⟨(List.forall_mem_cons.mpr ⟨List.mem_cons_self, (List.forall_mem_cons.mpr ⟨(List.mem_cons_of_mem _ (List.mem_cons_of_mem _ List.mem_cons_self)), (List.forall_mem_cons.mpr ⟨(List.mem_cons_of_mem _ List.mem_cons_self), (List.forall_mem_cons.mpr ⟨(List.mem_cons_of_mem _ (List.mem_cons_of_mem _ (List.mem_cons_of_mem _ List.mem_cons_self))), (List.forall_mem_cons.mpr ⟨(List.mem_cons_of_mem _ (List.mem_cons_of_mem _ (List.mem_cons_of_mem _ (List.mem_cons_of_mem _ (List.mem_cons_of_mem _ List.mem_cons_self))))), (fun _ h => absurd h List.not_mem_nil)⟩)⟩)⟩)⟩)⟩), (by show List.Nodup [6, 4, 5, 0, 2]; decide), (by show List.Nodup [6, 5, 4, 0, 1, 2, 3]; decide)⟩ ?_
    refine rn_up (N := 20 + 40 * 8 + 40) (by decide) (shb_lp0 (N := 20) hy ?_ 8 0 rfl)
    exact r_retv rfl rfl hQ
  obtain ⟨r, h1, h2⟩ := rn_S (vs := [.ref 29, iv (d), iv (y), iv (n)]) (Q := fun r => r = (none, (cW ki ln bt rl cp cs ct cv 5 14 ja ea ma a1 a2 a3 a4 a5 a6 a7 a8 jb eb mb b1 b2 b3 b4 b5 b6 b7 b8 re fl g1 g2 g3 (cSB (cSS a4 a5 a6 ma re fl d y) y (n / (bcF (cSS a4 a5 a6 ma re fl d y) + 1)) g4 8) g5 (dW rt la rs rg pd du ds me tt gr su gp mk rf m1 m2 m3 m4 m5 mr mf n1 n2 n3 n4 n5 nr nf E)))) rfl (rn_up (N := 20 + 40 * 8 + 40 + 100) (M := mm_fuel) (by decide) (main (fun r => r = (none, (cW ki ln bt rl cp cs ct cv 5 14 ja ea ma a1 a2 a3 a4 a5 a6 a7 a8 jb eb mb b1 b2 b3 b4 b5 b6 b7 b8 re fl g1 g2 g3 (cSB (cSS a4 a5 a6 ma re fl d y) y (n / (bcF (cSS a4 a5 a6 ma re fl d y) + 1)) g4 8) g5 (dW rt la rs rg pd du ds me tt gr su gp mk rf m1 m2 m3 m4 m5 mr mf n1 n2 n3 n4 n5 nr nf E)))) rfl))
  have h1 : sX2_shareBack [.ref 29, iv (d), iv (y), iv (n)] (cW ki ln bt rl cp cs ct cv 5 14 ja ea ma a1 a2 a3 a4 a5 a6 a7 a8 jb eb mb b1 b2 b3 b4 b5 b6 b7 b8 re fl g1 g2 g3 g4 g5 (dW rt la rs rg pd du ds me tt gr su gp mk rf m1 m2 m3 m4 m5 mr mf n1 n2 n3 n4 n5 nr nf E)) = some r := h1
  rw [h1, h2]
abbrev rn_X2_addBacks (N : Nat) (c : mm_C) (Q : mm_R → Prop) : Prop := rn (mm_gf gLX2) (mm_pf pLX2) (mm_mv vX2_addBacks) (mm_mv zX2_addBacks) (mm_kc kLX2) mm_gs0 mm_rf0 mm_ro none 7 (mm_ins iX2_addBacks) N c Q
theorem c_abs0 (hAd : ARd a1 a2 a3) (hAs : ARs a4 a5 a6 a7) (hn : 0 ≤ ma ∧ ma ≤ 16) (hi : 0 ≤ i ∧ i ≤ 15) (hN : 1 ≤ n ∧ n ≤ 999) (hB : 0 ≤ bcF (cSS a4 a5 a6 ma re fl (a5 (Int.toNat i)).toInt (a4 (Int.toNat i)).toInt) ∧ bcF (cSS a4 a5 a6 ma re fl (a5 (Int.toNat i)).toInt (a4 (Int.toNat i)).toInt) ≤ 32) : sX2_addBacks [.ref 29, iv (i), iv (n)] (cW ki ln bt rl cp cs ct cv 5 14 ja ea ma a1 a2 a3 a4 a5 a6 a7 a8 jb eb mb b1 b2 b3 b4 b5 b6 b7 b8 re fl g1 g2 g3 g4 g5 (dW rt la rs rg pd du ds me tt gr su gp mk rf m1 m2 m3 m4 m5 mr mf n1 n2 n3 n4 n5 nr nf E)) = some (none, (cW ki ln bt rl cp cs ct cv 5 14 ja ea ma a1 a2 a3 a4 a5 a6 a7 a8 jb eb mb b1 b2 b3 b4 b5 b6 b7 b8 re fl g1 g2 g3 (cAB a1 a4 a5 a6 a7 g4 ma re fl i n) g5 (dW rt la rs rg pd du ds me tt gr su gp mk rf m1 m2 m3 m4 m5 mr mf n1 n2 n3 n4 n5 nr nf E))) := by
  have main : ∀ Q : mm_R → Prop, Q (none, (cW ki ln bt rl cp cs ct cv 5 14 ja ea ma a1 a2 a3 a4 a5 a6 a7 a8 jb eb mb b1 b2 b3 b4 b5 b6 b7 b8 re fl g1 g2 g3 (cAB a1 a4 a5 a6 a7 g4 ma re fl i n) g5 (dW rt la rs rg pd du ds me tt gr su gp mk rf m1 m2 m3 m4 m5 mr mf n1 n2 n3 n4 n5 nr nf E))) → rn_X2_addBacks (1000) (0, [(0, .ref 29), (1, iv (i)), (2, iv (n))], [], (cW ki ln bt rl cp cs ct cv 5 14 ja ea ma a1 a2 a3 a4 a5 a6 a7 a8 jb eb mb b1 b2 b3 b4 b5 b6 b7 b8 re fl g1 g2 g3 g4 g5 (dW rt la rs rg pd du ds me tt gr su gp mk rf m1 m2 m3 m4 m5 mr mf n1 n2 n3 n4 n5 nr nf E))) Q := by
    intro Q hQ
    have rp := (ar4 hAs hi).1
    have rd := (ar4 hAs hi).2
    refine r_al rfl rfl ?_
    refine r_gf rfl rfl xg_29 rfl ?_
    refine r_gf rfl rfl xg_4 rfl ?_
    refine r_as (lv' := [(3, _), (0, _), (1, _), (2, _)]) rfl rfl rfl ?_
    refine r_al rfl rfl ?_
    refine r_gf rfl rfl xg_5 rfl ?_
    refine r_il rfl rfl ?_
    refine r_ia rfl xg_9 (by omega) (by omega) (by decide) ?_
    refine r_isw (lv' := [(4, _), (3, _), (0, _), (1, _), (2, _)]) rfl rfl rfl ?_
    refine r_al rfl rfl ?_
    refine r_gf rfl rfl xg_5 rfl ?_
    refine r_il rfl rfl ?_
    refine r_ia rfl xg_10 (by omega) (by omega) (by decide) ?_
    refine r_isw (lv' := [(5, _), (4, _), (3, _), (0, _), (1, _), (2, _)]) rfl rfl rfl ?_
    refine r_al rfl rfl ?_
    refine r_gf rfl rfl xg_5 rfl ?_
    refine r_il rfl rfl ?_
    refine r_ia rfl xg_11 (by omega) (by omega) (by decide) ?_
    refine r_ic rfl ?_
    refine r_cne rfl rfl (as_r _) (by decide) (fun u1 => ?_) (fun u1 => ?_)
    · refine r_al rfl rfl ?_
      refine r_gf rfl rfl xg_29 rfl ?_
      refine r_al rfl rfl ?_
      refine r_gf rfl rfl xg_5 rfl ?_
      refine r_ilw rfl rfl ?_
      refine r_ia rfl xg_6 (by omega) (by omega) (by decide) ?_
      refine r_v2s rfl rfl xg_4 rfl (c_isFalC0 (ar1 hAd rd).1) ?_
      refine r_zeq rfl rfl (bi_r _) (fun u2 => ?_) (fun u2 => ?_)
      · have e : (cAB a1 a4 a5 a6 a7 g4 ma re fl i n) = ps2 g4 (Int.toNat ((a1 (Int.toNat (a5 (Int.toNat i)).toInt)).toInt * 8 + (a4 (Int.toNat i)).toInt)) n := by unfold cAB; rw [decide_eq_false u1, bi_0 u2]; rfl
        rw [e] at hQ
        refine r_al rfl rfl ?_
        refine r_al rfl rfl ?_
        refine r_gf rfl rfl xg_5 rfl ?_
        refine r_ilw rfl rfl ?_
        refine r_ia rfl xg_6 (by omega) (by omega) (by decide) ?_
        refine r_ilw rfl rfl ?_
        refine r_il rfl rfl ?_
        refine r_v4n rfl rfl xg_29 rfl (c_addBack (ar1 hAd rd).1 rp) ?_
        exact r_retv rfl rfl hQ
      · have e : (cAB a1 a4 a5 a6 a7 g4 ma re fl i n) = cSB (cSS a4 a5 a6 ma re fl (a5 (Int.toNat i)).toInt (a4 (Int.toNat i)).toInt) (a4 (Int.toNat i)).toInt (n / (bcF (cSS a4 a5 a6 ma re fl (a5 (Int.toNat i)).toInt (a4 (Int.toNat i)).toInt) + 1)) g4 8 := by unfold cAB; rw [decide_eq_false u1, bi_1 u2]; rfl
        rw [e] at hQ
        refine r_al rfl rfl ?_
        refine r_ilw rfl rfl ?_
        refine r_ilw rfl rfl ?_
        refine r_il rfl rfl ?_
        refine r_v4n rfl rfl xg_29 rfl (c_shb0 hAd hAs hn rd rp hN hB) ?_
        refine r_goto rfl rfl ?_
        exact r_retv rfl rfl hQ
    · refine r_al rfl rfl ?_
      refine r_gf rfl rfl xg_5 rfl ?_
      refine r_il rfl rfl ?_
      refine r_ia rfl xg_12 (by omega) (by omega) (by decide) ?_
      refine r_isw (lv' := [(6, _), (5, _), (4, _), (3, _), (0, _), (1, _), (2, _)]) rfl rfl rfl ?_
      refine r_al rfl rfl ?_
      refine r_gf rfl rfl xg_29 rfl ?_
      refine r_ilw rfl rfl ?_
      refine r_v2s rfl rfl xg_4 rfl (c_isStandC0 (as_r _) hn) ?_
      refine r_zeq rfl rfl (bi_r _) (fun u2 => ?_) (fun u2 => ?_)
      · have e : (cAB a1 a4 a5 a6 a7 g4 ma re fl i n) = g4 := by unfold cAB; rw [decide_eq_true u1, bi_0 u2]; rfl
        rw [e] at hQ
        refine r_goto rfl rfl ?_
        exact r_retv rfl rfl hQ
      · have u2 := bi_1 u2
        have ru := i3_t u2
        have e : (cAB a1 a4 a5 a6 a7 g4 ma re fl i n) = ps2 g4 (Int.toNat ((a4 (Int.toNat (a7 (Int.toNat i)).toInt)).toInt * 8 + (a4 (Int.toNat i)).toInt)) n := by unfold cAB; rw [decide_eq_true u1, u2]; rfl
        rw [e] at hQ
        refine r_al rfl rfl ?_
        refine r_al rfl rfl ?_
        refine r_gf rfl rfl xg_5 rfl ?_
        refine r_ilw rfl rfl ?_
        refine r_ia rfl xg_9 (by omega) (by omega) (by decide) ?_
        refine r_ilw rfl rfl ?_
        refine r_il rfl rfl ?_
        refine r_v4n rfl rfl xg_29 rfl (c_addBack (ar4 hAs (by omega)).1 rp) ?_
        refine r_goto rfl rfl ?_
        exact r_retv rfl rfl hQ
  obtain ⟨r, h1, h2⟩ := rn_S (vs := [.ref 29, iv (i), iv (n)]) (Q := fun r => r = (none, (cW ki ln bt rl cp cs ct cv 5 14 ja ea ma a1 a2 a3 a4 a5 a6 a7 a8 jb eb mb b1 b2 b3 b4 b5 b6 b7 b8 re fl g1 g2 g3 (cAB a1 a4 a5 a6 a7 g4 ma re fl i n) g5 (dW rt la rs rg pd du ds me tt gr su gp mk rf m1 m2 m3 m4 m5 mr mf n1 n2 n3 n4 n5 nr nf E)))) rfl (rn_up (N := 1000) (M := mm_fuel) (by decide) (main (fun r => r = (none, (cW ki ln bt rl cp cs ct cv 5 14 ja ea ma a1 a2 a3 a4 a5 a6 a7 a8 jb eb mb b1 b2 b3 b4 b5 b6 b7 b8 re fl g1 g2 g3 (cAB a1 a4 a5 a6 a7 g4 ma re fl i n) g5 (dW rt la rs rg pd du ds me tt gr su gp mk rf m1 m2 m3 m4 m5 mr mf n1 n2 n3 n4 n5 nr nf E)))) rfl))
  have h1 : sX2_addBacks [.ref 29, iv (i), iv (n)] (cW ki ln bt rl cp cs ct cv 5 14 ja ea ma a1 a2 a3 a4 a5 a6 a7 a8 jb eb mb b1 b2 b3 b4 b5 b6 b7 b8 re fl g1 g2 g3 g4 g5 (dW rt la rs rg pd du ds me tt gr su gp mk rf m1 m2 m3 m4 m5 mr mf n1 n2 n3 n4 n5 nr nf E)) = some r := h1
  rw [h1, h2]
abbrev rn_X2_payByStanding (N : Nat) (c : mm_C) (Q : mm_R → Prop) : Prop := rn (mm_gf gLX2) (mm_pf pLX2) (mm_mv vX2_payByStanding) (mm_mv zX2_payByStanding) (mm_kc kLX2) mm_gs0 mm_rf0 mm_ro (some .int) 4 (mm_ins iX2_payByStanding) N c Q
theorem c_pbs0_0 (hAd : ARd a1 a2 a3) (hAs : ARs a4 a5 a6 a7) (hn : 0 ≤ ma ∧ ma ≤ 16) (h5 : ∀ p : Nat, p < 8 → 0 ≤ (g5 p).toInt ∧ (g5 p).toInt ≤ 9999) (hi : 0 ≤ i ∧ i ≤ 15) (hN : 1 ≤ n ∧ n ≤ 999) (hB : 0 ≤ bcF (cSS a4 a5 a6 ma re fl (a5 (Int.toNat i)).toInt (a4 (Int.toNat i)).toInt) ∧ bcF (cSS a4 a5 a6 ma re fl (a5 (Int.toNat i)).toInt (a4 (Int.toNat i)).toInt) ≤ 32) (hv : cMV a2 g5 (a4 (Int.toNat i)).toInt (a5 (Int.toNat i)).toInt n (nrm (cAS a1 a3 a4 a5 a6 a7 g1 g2 g3 ma re fl i)) = false) : sX2_payByStanding [.ref 29, iv (i), iv (n)] (cW ki ln bt rl cp cs ct cv 5 14 ja ea ma a1 a2 a3 a4 a5 a6 a7 a8 jb eb mb b1 b2 b3 b4 b5 b6 b7 b8 re fl g1 g2 g3 g4 g5 (dW rt la rs rg pd du ds me tt gr su gp mk rf m1 m2 m3 m4 m5 mr mf n1 n2 n3 n4 n5 nr nf E)) = some (some (iv (-2)), (cW ki ln bt rl cp cs ct cv 5 14 ja ea ma a1 a2 a3 a4 a5 a6 a7 a8 jb eb mb b1 b2 b3 b4 b5 b6 b7 b8 re fl g1 g2 g3 g4 g5 (dW rt la rs rg pd du ds me tt gr su gp mk rf m1 m2 m3 m4 m5 mr mf n1 n2 n3 n4 n5 nr nf E))) := by
  have main : ∀ Q : mm_R → Prop, Q (some (iv (-2)), (cW ki ln bt rl cp cs ct cv 5 14 ja ea ma a1 a2 a3 a4 a5 a6 a7 a8 jb eb mb b1 b2 b3 b4 b5 b6 b7 b8 re fl g1 g2 g3 g4 g5 (dW rt la rs rg pd du ds me tt gr su gp mk rf m1 m2 m3 m4 m5 mr mf n1 n2 n3 n4 n5 nr nf E))) → rn_X2_payByStanding (1000) (0, [(0, .ref 29), (1, iv (i)), (2, iv (n))], [], (cW ki ln bt rl cp cs ct cv 5 14 ja ea ma a1 a2 a3 a4 a5 a6 a7 a8 jb eb mb b1 b2 b3 b4 b5 b6 b7 b8 re fl g1 g2 g3 g4 g5 (dW rt la rs rg pd du ds me tt gr su gp mk rf m1 m2 m3 m4 m5 mr mf n1 n2 n3 n4 n5 nr nf E))) Q := by
    intro Q hQ
    have rp := (ar4 hAs hi).1
    have rd := (ar4 hAs hi).2
    refine r_al rfl rfl ?_
    refine r_gf rfl rfl xg_29 rfl ?_
    refine r_gf rfl rfl xg_4 rfl ?_
    refine r_gf rfl rfl xg_5 rfl ?_
    refine r_il rfl rfl ?_
    refine r_ia rfl xg_10 (by omega) (by omega) (by decide) ?_
    refine r_is (lv' := [(3, _), (0, _), (1, _), (2, _)]) rfl rfl rfl ?_
    refine r_al rfl rfl ?_
    refine r_al rfl rfl ?_
    refine r_gf rfl rfl xg_29 rfl ?_
    refine r_gf rfl rfl xg_4 rfl ?_
    refine r_gf rfl rfl xg_5 rfl ?_
    refine r_il rfl rfl ?_
    refine r_ia rfl xg_9 (by omega) (by omega) (by decide) ?_
    refine r_il rfl rfl ?_
    refine r_il rfl rfl ?_
    refine r_al rfl rfl ?_
    refine r_gf rfl rfl xg_29 rfl ?_
    refine r_il rfl rfl ?_
    refine r_v2s rfl rfl xg_4 rfl (c_asC0 hAd hAs hn hi) ?_
    refine r_nrm ?_
    refine r_v5s rfl rfl xg_29 rfl (c_mv0_0 hAd hAs hn h5 rp rd hN (nrm_r _) hv) ?_
    refine r_zne rfl rfl (by decide) (fun u1 => ?_) (fun u1 => ?_)
    · exact absurd rfl u1
    · refine r_bi rfl (by decide) ?_
      exact r_ret rfl rfl hQ
  obtain ⟨r, h1, h2⟩ := rn_S (vs := [.ref 29, iv (i), iv (n)]) (Q := fun r => r = (some (iv (-2)), (cW ki ln bt rl cp cs ct cv 5 14 ja ea ma a1 a2 a3 a4 a5 a6 a7 a8 jb eb mb b1 b2 b3 b4 b5 b6 b7 b8 re fl g1 g2 g3 g4 g5 (dW rt la rs rg pd du ds me tt gr su gp mk rf m1 m2 m3 m4 m5 mr mf n1 n2 n3 n4 n5 nr nf E)))) rfl (rn_up (N := 1000) (M := mm_fuel) (by decide) (main (fun r => r = (some (iv (-2)), (cW ki ln bt rl cp cs ct cv 5 14 ja ea ma a1 a2 a3 a4 a5 a6 a7 a8 jb eb mb b1 b2 b3 b4 b5 b6 b7 b8 re fl g1 g2 g3 g4 g5 (dW rt la rs rg pd du ds me tt gr su gp mk rf m1 m2 m3 m4 m5 mr mf n1 n2 n3 n4 n5 nr nf E)))) rfl))
  have h1 : sX2_payByStanding [.ref 29, iv (i), iv (n)] (cW ki ln bt rl cp cs ct cv 5 14 ja ea ma a1 a2 a3 a4 a5 a6 a7 a8 jb eb mb b1 b2 b3 b4 b5 b6 b7 b8 re fl g1 g2 g3 g4 g5 (dW rt la rs rg pd du ds me tt gr su gp mk rf m1 m2 m3 m4 m5 mr mf n1 n2 n3 n4 n5 nr nf E)) = some r := h1
  rw [h1, h2]
theorem c_pbs0_1 (hAd : ARd a1 a2 a3) (hAs : ARs a4 a5 a6 a7) (hn : 0 ≤ ma ∧ ma ≤ 16) (h5 : ∀ p : Nat, p < 8 → 0 ≤ (g5 p).toInt ∧ (g5 p).toInt ≤ 9999) (hi : 0 ≤ i ∧ i ≤ 15) (hN : 1 ≤ n ∧ n ≤ 999) (hB : 0 ≤ bcF (cSS a4 a5 a6 ma re fl (a5 (Int.toNat i)).toInt (a4 (Int.toNat i)).toInt) ∧ bcF (cSS a4 a5 a6 ma re fl (a5 (Int.toNat i)).toInt (a4 (Int.toNat i)).toInt) ≤ 32) (hv : cMV a2 g5 (a4 (Int.toNat i)).toInt (a5 (Int.toNat i)).toInt n (nrm (cAS a1 a3 a4 a5 a6 a7 g1 g2 g3 ma re fl i)) = true) : sX2_payByStanding [.ref 29, iv (i), iv (n)] (cW ki ln bt rl cp cs ct cv 5 14 ja ea ma a1 a2 a3 a4 a5 a6 a7 a8 jb eb mb b1 b2 b3 b4 b5 b6 b7 b8 re fl g1 g2 g3 g4 g5 (dW rt la rs rg pd du ds me tt gr su gp mk rf m1 m2 m3 m4 m5 mr mf n1 n2 n3 n4 n5 nr nf E)) = some (some (iv (cR a3 (ps2 g1 (Int.toNat (a5 (Int.toNat i)).toInt) n) (a5 (Int.toNat i)).toInt)), (cW ki ln bt rl cp cs ct cv 5 14 ja ea ma a1 a2 a3 a4 a5 a6 a7 a8 jb eb mb b1 b2 b3 b4 b5 b6 b7 b8 re fl (ps2 g1 (Int.toNat (a5 (Int.toNat i)).toInt) n) (ps2 g2 (Int.toNat i) n) g3 (cAB a1 a4 a5 a6 a7 g4 ma re fl i n) (ps2 (ps1 g5 (Int.toNat (a4 (Int.toNat i)).toInt) n) (Int.toNat (a2 (Int.toNat (a5 (Int.toNat i)).toInt)).toInt) n) (dW rt la rs rg pd du ds me tt gr su gp mk rf m1 m2 m3 m4 m5 mr mf n1 n2 n3 n4 n5 nr nf E))) := by
  have main : ∀ Q : mm_R → Prop, Q (some (iv (cR a3 (ps2 g1 (Int.toNat (a5 (Int.toNat i)).toInt) n) (a5 (Int.toNat i)).toInt)), (cW ki ln bt rl cp cs ct cv 5 14 ja ea ma a1 a2 a3 a4 a5 a6 a7 a8 jb eb mb b1 b2 b3 b4 b5 b6 b7 b8 re fl (ps2 g1 (Int.toNat (a5 (Int.toNat i)).toInt) n) (ps2 g2 (Int.toNat i) n) g3 (cAB a1 a4 a5 a6 a7 g4 ma re fl i n) (ps2 (ps1 g5 (Int.toNat (a4 (Int.toNat i)).toInt) n) (Int.toNat (a2 (Int.toNat (a5 (Int.toNat i)).toInt)).toInt) n) (dW rt la rs rg pd du ds me tt gr su gp mk rf m1 m2 m3 m4 m5 mr mf n1 n2 n3 n4 n5 nr nf E))) → rn_X2_payByStanding (1000) (0, [(0, .ref 29), (1, iv (i)), (2, iv (n))], [], (cW ki ln bt rl cp cs ct cv 5 14 ja ea ma a1 a2 a3 a4 a5 a6 a7 a8 jb eb mb b1 b2 b3 b4 b5 b6 b7 b8 re fl g1 g2 g3 g4 g5 (dW rt la rs rg pd du ds me tt gr su gp mk rf m1 m2 m3 m4 m5 mr mf n1 n2 n3 n4 n5 nr nf E))) Q := by
    intro Q hQ
    have rp := (ar4 hAs hi).1
    have rd := (ar4 hAs hi).2
    refine r_al rfl rfl ?_
    refine r_gf rfl rfl xg_29 rfl ?_
    refine r_gf rfl rfl xg_4 rfl ?_
    refine r_gf rfl rfl xg_5 rfl ?_
    refine r_il rfl rfl ?_
    refine r_ia rfl xg_10 (by omega) (by omega) (by decide) ?_
    refine r_is (lv' := [(3, _), (0, _), (1, _), (2, _)]) rfl rfl rfl ?_
    refine r_al rfl rfl ?_
    refine r_al rfl rfl ?_
    refine r_gf rfl rfl xg_29 rfl ?_
    refine r_gf rfl rfl xg_4 rfl ?_
    refine r_gf rfl rfl xg_5 rfl ?_
    refine r_il rfl rfl ?_
    refine r_ia rfl xg_9 (by omega) (by omega) (by decide) ?_
    refine r_il rfl rfl ?_
    refine r_il rfl rfl ?_
    refine r_al rfl rfl ?_
    refine r_gf rfl rfl xg_29 rfl ?_
    refine r_il rfl rfl ?_
    refine r_v2s rfl rfl xg_4 rfl (c_asC0 hAd hAs hn hi) ?_
    refine r_nrm ?_
    refine r_v5s rfl rfl xg_29 rfl (c_mv0_1 hAd hAs hn h5 rp rd hN (nrm_r _) hv) ?_
    refine r_zne rfl rfl (by decide) (fun u1 => ?_) (fun u1 => ?_)
    · refine r_al rfl rfl ?_
      refine r_gf rfl rfl xg_29 rfl ?_
      refine r_gf rfl rfl xg_4 rfl ?_
      refine r_gf rfl rfl xg_23 rfl ?_
      refine r_il rfl rfl ?_
      refine r_dup2 rfl rfl rfl ?_
      refine r_ia rfl xg_25 (by omega) (by omega) (by decide) ?_
      refine r_il rfl rfl ?_
      refine r_add rfl ?_
      refine r_ias rfl xg_25 (by omega) (by omega) (by decide) xs_25 ?_
      refine r_al rfl rfl ?_
      refine r_il rfl rfl ?_
      refine r_il rfl rfl ?_
      refine r_v3n rfl rfl xg_29 rfl (c_abs0 hAd hAs hn hi hN hB) ?_
      refine r_al rfl rfl ?_
      refine r_gf rfl rfl xg_29 rfl ?_
      refine r_il rfl rfl ?_
      refine r_v2s rfl rfl xg_4 rfl (c_restC0 rd) ?_
      exact r_ret rfl rfl hQ
    · exact absurd u1 (by decide)
  obtain ⟨r, h1, h2⟩ := rn_S (vs := [.ref 29, iv (i), iv (n)]) (Q := fun r => r = (some (iv (cR a3 (ps2 g1 (Int.toNat (a5 (Int.toNat i)).toInt) n) (a5 (Int.toNat i)).toInt)), (cW ki ln bt rl cp cs ct cv 5 14 ja ea ma a1 a2 a3 a4 a5 a6 a7 a8 jb eb mb b1 b2 b3 b4 b5 b6 b7 b8 re fl (ps2 g1 (Int.toNat (a5 (Int.toNat i)).toInt) n) (ps2 g2 (Int.toNat i) n) g3 (cAB a1 a4 a5 a6 a7 g4 ma re fl i n) (ps2 (ps1 g5 (Int.toNat (a4 (Int.toNat i)).toInt) n) (Int.toNat (a2 (Int.toNat (a5 (Int.toNat i)).toInt)).toInt) n) (dW rt la rs rg pd du ds me tt gr su gp mk rf m1 m2 m3 m4 m5 mr mf n1 n2 n3 n4 n5 nr nf E)))) rfl (rn_up (N := 1000) (M := mm_fuel) (by decide) (main (fun r => r = (some (iv (cR a3 (ps2 g1 (Int.toNat (a5 (Int.toNat i)).toInt) n) (a5 (Int.toNat i)).toInt)), (cW ki ln bt rl cp cs ct cv 5 14 ja ea ma a1 a2 a3 a4 a5 a6 a7 a8 jb eb mb b1 b2 b3 b4 b5 b6 b7 b8 re fl (ps2 g1 (Int.toNat (a5 (Int.toNat i)).toInt) n) (ps2 g2 (Int.toNat i) n) g3 (cAB a1 a4 a5 a6 a7 g4 ma re fl i n) (ps2 (ps1 g5 (Int.toNat (a4 (Int.toNat i)).toInt) n) (Int.toNat (a2 (Int.toNat (a5 (Int.toNat i)).toInt)).toInt) n) (dW rt la rs rg pd du ds me tt gr su gp mk rf m1 m2 m3 m4 m5 mr mf n1 n2 n3 n4 n5 nr nf E)))) rfl))
  have h1 : sX2_payByStanding [.ref 29, iv (i), iv (n)] (cW ki ln bt rl cp cs ct cv 5 14 ja ea ma a1 a2 a3 a4 a5 a6 a7 a8 jb eb mb b1 b2 b3 b4 b5 b6 b7 b8 re fl g1 g2 g3 g4 g5 (dW rt la rs rg pd du ds me tt gr su gp mk rf m1 m2 m3 m4 m5 mr mf n1 n2 n3 n4 n5 nr nf E)) = some r := h1
  rw [h1, h2]
abbrev rn_X11_isPayable (N : Nat) (c : mm_C) (Q : mm_R → Prop) : Prop := rn (mm_gf gLX11) (mm_pf pLX11) (mm_mv vX11_isPayable) (mm_mv zX11_isPayable) (mm_kc kLX11) mm_gs0 mm_rf0 mm_ro (some .boolean) 3 (mm_ins iX11_isPayable) N c Q
theorem c_isPay0 (hk : -2147483648 ≤ k ∧ k ≤ 2147483647) (ha : -2147483648 ≤ a ∧ a ≤ 2147483647) (hd : 0 ≤ ea ∧ ea ≤ 10) (hn : 0 ≤ ma ∧ ma ≤ 16) : sX11_isPayable [.ref 0, iv (k), iv (a)] (cW ki ln bt rl cp cs ct cv 5 14 ja ea ma a1 a2 a3 a4 a5 a6 a7 a8 jb eb mb b1 b2 b3 b4 b5 b6 b7 b8 re fl g1 g2 g3 g4 g5 (dW rt la rs rg pd du ds me tt gr su gp mk rf m1 m2 m3 m4 m5 mr mf n1 n2 n3 n4 n5 nr nf E)) = some (some (iv (bi (fTH ea ma k a))), (cW ki ln bt rl cp cs ct cv 5 14 ja ea ma a1 a2 a3 a4 a5 a6 a7 a8 jb eb mb b1 b2 b3 b4 b5 b6 b7 b8 re fl g1 g2 g3 g4 g5 (dW rt la rs rg pd du ds me tt gr su gp mk rf m1 m2 m3 m4 m5 mr mf n1 n2 n3 n4 n5 nr nf E))) := by
  have main : ∀ Q : mm_R → Prop, Q (some (iv (bi (fTH ea ma k a))), (cW ki ln bt rl cp cs ct cv 5 14 ja ea ma a1 a2 a3 a4 a5 a6 a7 a8 jb eb mb b1 b2 b3 b4 b5 b6 b7 b8 re fl g1 g2 g3 g4 g5 (dW rt la rs rg pd du ds me tt gr su gp mk rf m1 m2 m3 m4 m5 mr mf n1 n2 n3 n4 n5 nr nf E))) → rn_X11_isPayable (1000) (0, [(0, .ref 0), (1, iv (k)), (2, iv (a))], [], (cW ki ln bt rl cp cs ct cv 5 14 ja ea ma a1 a2 a3 a4 a5 a6 a7 a8 jb eb mb b1 b2 b3 b4 b5 b6 b7 b8 re fl g1 g2 g3 g4 g5 (dW rt la rs rg pd du ds me tt gr su gp mk rf m1 m2 m3 m4 m5 mr mf n1 n2 n3 n4 n5 nr nf E))) Q := by
    intro Q hQ
    refine r_il rfl rfl ?_
    refine r_ic rfl ?_
    refine r_cne rfl rfl (by omega) (by omega) (fun u1 => ?_) (fun u1 => ?_)
    · refine r_il rfl rfl ?_
      refine r_zne rfl rfl (by omega) (fun u2 => ?_) (fun u2 => ?_)
      · have e : fTH ea ma k a = false := by unfold fTH; rw [show i3 k 0 1 = false by simp [i3]; omega]; rfl
        rw [e] at hQ
        refine r_ic rfl ?_
        exact r_retb rfl rfl (by omega) hQ
      · refine r_al rfl rfl ?_
        refine r_gf rfl rfl xg_0 rfl ?_
        refine r_il rfl rfl ?_
        refine r_v2s rfl rfl xg_4 rfl (c_isDebtC0 ha (by omega)) ?_
        refine r_zeq rfl rfl (bi_r _) (fun u3 => ?_) (fun u3 => ?_)
        · have e : fTH ea ma k a = false := by unfold fTH; rw [show i3 k 0 1 = true by rw [u2]; decide, decide_eq_false u1, bi_0 u3]; rfl
          rw [e] at hQ
          refine r_ic rfl ?_
          exact r_retb rfl rfl (by omega) hQ
        · have e : fTH ea ma k a = true := by unfold fTH; rw [show i3 k 0 1 = true by rw [u2]; decide, decide_eq_false u1, bi_1 u3]; rfl
          rw [e] at hQ
          refine r_ic rfl ?_
          refine r_goto rfl rfl ?_
          exact r_retb rfl rfl (by omega) hQ
    · have e : fTH ea ma k a = i3 a 0 (ma - 1) := by unfold fTH; rw [show i3 k 0 1 = true by rw [u1]; decide, decide_eq_true u1]; rfl
      rw [e] at hQ
      refine r_al rfl rfl ?_
      refine r_gf rfl rfl xg_0 rfl ?_
      refine r_il rfl rfl ?_
      refine r_v2s rfl rfl xg_4 rfl (c_isStandC0 ha hn) ?_
      refine r_goto rfl rfl ?_
      exact r_retb rfl rfl (bi_01 _) hQ
  obtain ⟨r, h1, h2⟩ := rn_S (vs := [.ref 0, iv (k), iv (a)]) (Q := fun r => r = (some (iv (bi (fTH ea ma k a))), (cW ki ln bt rl cp cs ct cv 5 14 ja ea ma a1 a2 a3 a4 a5 a6 a7 a8 jb eb mb b1 b2 b3 b4 b5 b6 b7 b8 re fl g1 g2 g3 g4 g5 (dW rt la rs rg pd du ds me tt gr su gp mk rf m1 m2 m3 m4 m5 mr mf n1 n2 n3 n4 n5 nr nf E)))) rfl (rn_up (N := 1000) (M := mm_fuel) (by decide) (main (fun r => r = (some (iv (bi (fTH ea ma k a))), (cW ki ln bt rl cp cs ct cv 5 14 ja ea ma a1 a2 a3 a4 a5 a6 a7 a8 jb eb mb b1 b2 b3 b4 b5 b6 b7 b8 re fl g1 g2 g3 g4 g5 (dW rt la rs rg pd du ds me tt gr su gp mk rf m1 m2 m3 m4 m5 mr mf n1 n2 n3 n4 n5 nr nf E)))) rfl))
  have h1 : sX11_isPayable [.ref 0, iv (k), iv (a)] (cW ki ln bt rl cp cs ct cv 5 14 ja ea ma a1 a2 a3 a4 a5 a6 a7 a8 jb eb mb b1 b2 b3 b4 b5 b6 b7 b8 re fl g1 g2 g3 g4 g5 (dW rt la rs rg pd du ds me tt gr su gp mk rf m1 m2 m3 m4 m5 mr mf n1 n2 n3 n4 n5 nr nf E)) = some r := h1
  rw [h1, h2]
abbrev rn_X11_pay (N : Nat) (c : mm_C) (Q : mm_R → Prop) : Prop := rn (mm_gf gLX11) (mm_pf pLX11) (mm_mv vX11_pay) (mm_mv zX11_pay) (mm_kc kLX11) mm_gs0 mm_rf0 mm_ro (some .int) 4 (mm_ins iX11_pay) N c Q
theorem c_payB0 (hk : -2147483648 ≤ k ∧ k ≤ 2147483647) (ha : -2147483648 ≤ a ∧ a ≤ 2147483647) (hN2 : -2147483648 ≤ n ∧ n ≤ 2147483647) (hdb : 0 ≤ ea ∧ ea ≤ 10) (hn : 0 ≤ ma ∧ ma ≤ 16) (hb : (fTH ea ma k a && i3 n 1 999) = false) : sX11_pay [.ref 0, iv (k), iv (a), iv (n)] (cW ki ln bt rl cp cs ct cv 5 14 ja ea ma a1 a2 a3 a4 a5 a6 a7 a8 jb eb mb b1 b2 b3 b4 b5 b6 b7 b8 re fl g1 g2 g3 g4 g5 (dW rt la rs rg pd du ds me tt gr su gp mk rf m1 m2 m3 m4 m5 mr mf n1 n2 n3 n4 n5 nr nf E)) = some (some (iv (-1)), (cW ki ln bt rl cp cs ct cv 5 14 ja ea ma a1 a2 a3 a4 a5 a6 a7 a8 jb eb mb b1 b2 b3 b4 b5 b6 b7 b8 re fl g1 g2 g3 g4 g5 (dW rt la rs rg pd du ds me tt gr su gp mk rf m1 m2 m3 m4 m5 mr mf n1 n2 n3 n4 n5 nr nf E))) := by
  have main : ∀ Q : mm_R → Prop, Q (some (iv (-1)), (cW ki ln bt rl cp cs ct cv 5 14 ja ea ma a1 a2 a3 a4 a5 a6 a7 a8 jb eb mb b1 b2 b3 b4 b5 b6 b7 b8 re fl g1 g2 g3 g4 g5 (dW rt la rs rg pd du ds me tt gr su gp mk rf m1 m2 m3 m4 m5 mr mf n1 n2 n3 n4 n5 nr nf E))) → rn_X11_pay (1000) (0, [(0, .ref 0), (1, iv (k)), (2, iv (a)), (3, iv (n))], [], (cW ki ln bt rl cp cs ct cv 5 14 ja ea ma a1 a2 a3 a4 a5 a6 a7 a8 jb eb mb b1 b2 b3 b4 b5 b6 b7 b8 re fl g1 g2 g3 g4 g5 (dW rt la rs rg pd du ds me tt gr su gp mk rf m1 m2 m3 m4 m5 mr mf n1 n2 n3 n4 n5 nr nf E))) Q := by
    intro Q hQ
    refine r_al rfl rfl ?_
    refine r_il rfl rfl ?_
    refine r_il rfl rfl ?_
    refine r_v3s rfl rfl xg_0 rfl (c_isPay0 hk ha hdb hn) ?_
    refine r_zeq rfl rfl (bi_r _) (fun u1 => ?_) (fun u1 => ?_)
    · refine r_ic rfl ?_
      exact r_ret rfl rfl hQ
    · refine r_il rfl rfl ?_
      refine r_ic rfl ?_
      refine r_clt rfl rfl (by omega) (by omega) (fun u2 => ?_) (fun u2 => ?_)
      · refine r_ic rfl ?_
        exact r_ret rfl rfl hQ
      · refine r_il rfl rfl ?_
        refine r_si rfl (by decide) ?_
        refine r_cle rfl rfl (by omega) (by omega) (fun u3 => ?_) (fun u3 => ?_)
        · have e : i3 n 1 999 = true := by simp [i3]; omega
          rw [bi_1 u1, e] at hb
          cases hb
        · refine r_ic rfl ?_
          exact r_ret rfl rfl hQ
  obtain ⟨r, h1, h2⟩ := rn_S (vs := [.ref 0, iv (k), iv (a), iv (n)]) (Q := fun r => r = (some (iv (-1)), (cW ki ln bt rl cp cs ct cv 5 14 ja ea ma a1 a2 a3 a4 a5 a6 a7 a8 jb eb mb b1 b2 b3 b4 b5 b6 b7 b8 re fl g1 g2 g3 g4 g5 (dW rt la rs rg pd du ds me tt gr su gp mk rf m1 m2 m3 m4 m5 mr mf n1 n2 n3 n4 n5 nr nf E)))) rfl (rn_up (N := 1000) (M := mm_fuel) (by decide) (main (fun r => r = (some (iv (-1)), (cW ki ln bt rl cp cs ct cv 5 14 ja ea ma a1 a2 a3 a4 a5 a6 a7 a8 jb eb mb b1 b2 b3 b4 b5 b6 b7 b8 re fl g1 g2 g3 g4 g5 (dW rt la rs rg pd du ds me tt gr su gp mk rf m1 m2 m3 m4 m5 mr mf n1 n2 n3 n4 n5 nr nf E)))) rfl))
  have h1 : sX11_pay [.ref 0, iv (k), iv (a), iv (n)] (cW ki ln bt rl cp cs ct cv 5 14 ja ea ma a1 a2 a3 a4 a5 a6 a7 a8 jb eb mb b1 b2 b3 b4 b5 b6 b7 b8 re fl g1 g2 g3 g4 g5 (dW rt la rs rg pd du ds me tt gr su gp mk rf m1 m2 m3 m4 m5 mr mf n1 n2 n3 n4 n5 nr nf E)) = some r := h1
  rw [h1, h2]
theorem c_payG0_00 (hAd : ARd a1 a2 a3) (hAs : ARs a4 a5 a6 a7) (hn : 0 ≤ ma ∧ ma ≤ 16) (h5 : ∀ p : Nat, p < 8 → 0 ≤ (g5 p).toInt ∧ (g5 p).toInt ≤ 9999) (hdb : 0 ≤ ea ∧ ea ≤ 10) (hr : 0 ≤ a ∧ a ≤ 9) (hN : 1 ≤ n ∧ n ≤ 999)  (ht : fTH ea ma 0 a = true) (hv : cMV a2 g5 (a1 (Int.toNat a)).toInt a n (nrm (cAD a1 a3 g1 fl a)) = false) : sX11_pay [.ref 0, iv (0), iv (a), iv (n)] (cW ki ln bt rl cp cs ct cv 5 14 ja ea ma a1 a2 a3 a4 a5 a6 a7 a8 jb eb mb b1 b2 b3 b4 b5 b6 b7 b8 re fl g1 g2 g3 g4 g5 (dW rt la rs rg pd du ds me tt gr su gp mk rf m1 m2 m3 m4 m5 mr mf n1 n2 n3 n4 n5 nr nf E)) = some (some (iv (-2)), (cW ki ln bt rl cp cs ct cv 5 14 ja ea ma a1 a2 a3 a4 a5 a6 a7 a8 jb eb mb b1 b2 b3 b4 b5 b6 b7 b8 re fl g1 g2 g3 g4 g5 (dW rt la rs rg pd du ds me tt gr su gp mk rf m1 m2 m3 m4 m5 mr mf n1 n2 n3 n4 n5 nr nf E))) := by
  have main : ∀ Q : mm_R → Prop, Q (some (iv (-2)), (cW ki ln bt rl cp cs ct cv 5 14 ja ea ma a1 a2 a3 a4 a5 a6 a7 a8 jb eb mb b1 b2 b3 b4 b5 b6 b7 b8 re fl g1 g2 g3 g4 g5 (dW rt la rs rg pd du ds me tt gr su gp mk rf m1 m2 m3 m4 m5 mr mf n1 n2 n3 n4 n5 nr nf E))) → rn_X11_pay (1000) (0, [(0, .ref 0), (1, iv (0)), (2, iv (a)), (3, iv (n))], [], (cW ki ln bt rl cp cs ct cv 5 14 ja ea ma a1 a2 a3 a4 a5 a6 a7 a8 jb eb mb b1 b2 b3 b4 b5 b6 b7 b8 re fl g1 g2 g3 g4 g5 (dW rt la rs rg pd du ds me tt gr su gp mk rf m1 m2 m3 m4 m5 mr mf n1 n2 n3 n4 n5 nr nf E))) Q := by
    intro Q hQ
    refine r_al rfl rfl ?_
    refine r_il rfl rfl ?_
    refine r_il rfl rfl ?_
    refine r_v3s rfl rfl xg_0 rfl (c_isPay0 (by decide) (by omega) hdb hn) ?_
    rw [ht]
    refine r_zeq rfl rfl (bi_r _) (fun u1 => ?_) (fun u1 => ?_)
    · exact absurd u1 (by decide)
    · refine r_il rfl rfl ?_
      refine r_ic rfl ?_
      refine r_clt rfl rfl (by omega) (by omega) (fun u2 => ?_) (fun u2 => ?_)
      · omega
      · refine r_il rfl rfl ?_
        refine r_si rfl (by decide) ?_
        refine r_cle rfl rfl (by omega) (by omega) (fun u3 => ?_) (fun u3 => ?_)
        · refine r_il rfl rfl ?_
          refine r_ic rfl ?_
          refine r_cne rfl rfl (by decide) (by decide) (fun u4 => ?_) (fun u4 => ?_)
          · refine r_al rfl rfl ?_
            refine r_gf rfl rfl xg_0 rfl ?_
            refine r_il rfl rfl ?_
            refine r_il rfl rfl ?_
            refine r_v3s rfl rfl xg_29 rfl (c_pbd0_0 hAd hAs hn h5 hr hN hv) ?_
            exact r_ret rfl rfl hQ
          · exact absurd u4 (by decide)
        · omega
  obtain ⟨r, h1, h2⟩ := rn_S (vs := [.ref 0, iv (0), iv (a), iv (n)]) (Q := fun r => r = (some (iv (-2)), (cW ki ln bt rl cp cs ct cv 5 14 ja ea ma a1 a2 a3 a4 a5 a6 a7 a8 jb eb mb b1 b2 b3 b4 b5 b6 b7 b8 re fl g1 g2 g3 g4 g5 (dW rt la rs rg pd du ds me tt gr su gp mk rf m1 m2 m3 m4 m5 mr mf n1 n2 n3 n4 n5 nr nf E)))) rfl (rn_up (N := 1000) (M := mm_fuel) (by decide) (main (fun r => r = (some (iv (-2)), (cW ki ln bt rl cp cs ct cv 5 14 ja ea ma a1 a2 a3 a4 a5 a6 a7 a8 jb eb mb b1 b2 b3 b4 b5 b6 b7 b8 re fl g1 g2 g3 g4 g5 (dW rt la rs rg pd du ds me tt gr su gp mk rf m1 m2 m3 m4 m5 mr mf n1 n2 n3 n4 n5 nr nf E)))) rfl))
  have h1 : sX11_pay [.ref 0, iv (0), iv (a), iv (n)] (cW ki ln bt rl cp cs ct cv 5 14 ja ea ma a1 a2 a3 a4 a5 a6 a7 a8 jb eb mb b1 b2 b3 b4 b5 b6 b7 b8 re fl g1 g2 g3 g4 g5 (dW rt la rs rg pd du ds me tt gr su gp mk rf m1 m2 m3 m4 m5 mr mf n1 n2 n3 n4 n5 nr nf E)) = some r := h1
  rw [h1, h2]
theorem c_payG0_01 (hAd : ARd a1 a2 a3) (hAs : ARs a4 a5 a6 a7) (hn : 0 ≤ ma ∧ ma ≤ 16) (h5 : ∀ p : Nat, p < 8 → 0 ≤ (g5 p).toInt ∧ (g5 p).toInt ≤ 9999) (hdb : 0 ≤ ea ∧ ea ≤ 10) (hr : 0 ≤ a ∧ a ≤ 9) (hN : 1 ≤ n ∧ n ≤ 999)  (ht : fTH ea ma 0 a = true) (hv : cMV a2 g5 (a1 (Int.toNat a)).toInt a n (nrm (cAD a1 a3 g1 fl a)) = true) : sX11_pay [.ref 0, iv (0), iv (a), iv (n)] (cW ki ln bt rl cp cs ct cv 5 14 ja ea ma a1 a2 a3 a4 a5 a6 a7 a8 jb eb mb b1 b2 b3 b4 b5 b6 b7 b8 re fl g1 g2 g3 g4 g5 (dW rt la rs rg pd du ds me tt gr su gp mk rf m1 m2 m3 m4 m5 mr mf n1 n2 n3 n4 n5 nr nf E)) = some (some (iv (cR a3 (ps2 g1 (Int.toNat a) n) a)), (cW ki ln bt rl cp cs ct cv 5 14 ja ea ma a1 a2 a3 a4 a5 a6 a7 a8 jb eb mb b1 b2 b3 b4 b5 b6 b7 b8 re fl (ps2 g1 (Int.toNat a) n) g2 g3 g4 (ps2 (ps1 g5 (Int.toNat (a1 (Int.toNat a)).toInt) n) (Int.toNat (a2 (Int.toNat a)).toInt) n) (dW rt la rs rg pd du ds me tt gr su gp mk rf m1 m2 m3 m4 m5 mr mf n1 n2 n3 n4 n5 nr nf E))) := by
  have main : ∀ Q : mm_R → Prop, Q (some (iv (cR a3 (ps2 g1 (Int.toNat a) n) a)), (cW ki ln bt rl cp cs ct cv 5 14 ja ea ma a1 a2 a3 a4 a5 a6 a7 a8 jb eb mb b1 b2 b3 b4 b5 b6 b7 b8 re fl (ps2 g1 (Int.toNat a) n) g2 g3 g4 (ps2 (ps1 g5 (Int.toNat (a1 (Int.toNat a)).toInt) n) (Int.toNat (a2 (Int.toNat a)).toInt) n) (dW rt la rs rg pd du ds me tt gr su gp mk rf m1 m2 m3 m4 m5 mr mf n1 n2 n3 n4 n5 nr nf E))) → rn_X11_pay (1000) (0, [(0, .ref 0), (1, iv (0)), (2, iv (a)), (3, iv (n))], [], (cW ki ln bt rl cp cs ct cv 5 14 ja ea ma a1 a2 a3 a4 a5 a6 a7 a8 jb eb mb b1 b2 b3 b4 b5 b6 b7 b8 re fl g1 g2 g3 g4 g5 (dW rt la rs rg pd du ds me tt gr su gp mk rf m1 m2 m3 m4 m5 mr mf n1 n2 n3 n4 n5 nr nf E))) Q := by
    intro Q hQ
    refine r_al rfl rfl ?_
    refine r_il rfl rfl ?_
    refine r_il rfl rfl ?_
    refine r_v3s rfl rfl xg_0 rfl (c_isPay0 (by decide) (by omega) hdb hn) ?_
    rw [ht]
    refine r_zeq rfl rfl (bi_r _) (fun u1 => ?_) (fun u1 => ?_)
    · exact absurd u1 (by decide)
    · refine r_il rfl rfl ?_
      refine r_ic rfl ?_
      refine r_clt rfl rfl (by omega) (by omega) (fun u2 => ?_) (fun u2 => ?_)
      · omega
      · refine r_il rfl rfl ?_
        refine r_si rfl (by decide) ?_
        refine r_cle rfl rfl (by omega) (by omega) (fun u3 => ?_) (fun u3 => ?_)
        · refine r_il rfl rfl ?_
          refine r_ic rfl ?_
          refine r_cne rfl rfl (by decide) (by decide) (fun u4 => ?_) (fun u4 => ?_)
          · refine r_al rfl rfl ?_
            refine r_gf rfl rfl xg_0 rfl ?_
            refine r_il rfl rfl ?_
            refine r_il rfl rfl ?_
            refine r_v3s rfl rfl xg_29 rfl (c_pbd0_1 hAd hAs hn h5 hr hN hv) ?_
            exact r_ret rfl rfl hQ
          · exact absurd u4 (by decide)
        · omega
  obtain ⟨r, h1, h2⟩ := rn_S (vs := [.ref 0, iv (0), iv (a), iv (n)]) (Q := fun r => r = (some (iv (cR a3 (ps2 g1 (Int.toNat a) n) a)), (cW ki ln bt rl cp cs ct cv 5 14 ja ea ma a1 a2 a3 a4 a5 a6 a7 a8 jb eb mb b1 b2 b3 b4 b5 b6 b7 b8 re fl (ps2 g1 (Int.toNat a) n) g2 g3 g4 (ps2 (ps1 g5 (Int.toNat (a1 (Int.toNat a)).toInt) n) (Int.toNat (a2 (Int.toNat a)).toInt) n) (dW rt la rs rg pd du ds me tt gr su gp mk rf m1 m2 m3 m4 m5 mr mf n1 n2 n3 n4 n5 nr nf E)))) rfl (rn_up (N := 1000) (M := mm_fuel) (by decide) (main (fun r => r = (some (iv (cR a3 (ps2 g1 (Int.toNat a) n) a)), (cW ki ln bt rl cp cs ct cv 5 14 ja ea ma a1 a2 a3 a4 a5 a6 a7 a8 jb eb mb b1 b2 b3 b4 b5 b6 b7 b8 re fl (ps2 g1 (Int.toNat a) n) g2 g3 g4 (ps2 (ps1 g5 (Int.toNat (a1 (Int.toNat a)).toInt) n) (Int.toNat (a2 (Int.toNat a)).toInt) n) (dW rt la rs rg pd du ds me tt gr su gp mk rf m1 m2 m3 m4 m5 mr mf n1 n2 n3 n4 n5 nr nf E)))) rfl))
  have h1 : sX11_pay [.ref 0, iv (0), iv (a), iv (n)] (cW ki ln bt rl cp cs ct cv 5 14 ja ea ma a1 a2 a3 a4 a5 a6 a7 a8 jb eb mb b1 b2 b3 b4 b5 b6 b7 b8 re fl g1 g2 g3 g4 g5 (dW rt la rs rg pd du ds me tt gr su gp mk rf m1 m2 m3 m4 m5 mr mf n1 n2 n3 n4 n5 nr nf E)) = some r := h1
  rw [h1, h2]
theorem c_payG0_10 (hAd : ARd a1 a2 a3) (hAs : ARs a4 a5 a6 a7) (hn : 0 ≤ ma ∧ ma ≤ 16) (h5 : ∀ p : Nat, p < 8 → 0 ≤ (g5 p).toInt ∧ (g5 p).toInt ≤ 9999) (hdb : 0 ≤ ea ∧ ea ≤ 10) (hr : 0 ≤ a ∧ a ≤ 15) (hN : 1 ≤ n ∧ n ≤ 999) (hB : 0 ≤ bcF (cSS a4 a5 a6 ma re fl (a5 (Int.toNat a)).toInt (a4 (Int.toNat a)).toInt) ∧ bcF (cSS a4 a5 a6 ma re fl (a5 (Int.toNat a)).toInt (a4 (Int.toNat a)).toInt) ≤ 32) (ht : fTH ea ma 1 a = true) (hv : cMV a2 g5 (a4 (Int.toNat a)).toInt (a5 (Int.toNat a)).toInt n (nrm (cAS a1 a3 a4 a5 a6 a7 g1 g2 g3 ma re fl a)) = false) : sX11_pay [.ref 0, iv (1), iv (a), iv (n)] (cW ki ln bt rl cp cs ct cv 5 14 ja ea ma a1 a2 a3 a4 a5 a6 a7 a8 jb eb mb b1 b2 b3 b4 b5 b6 b7 b8 re fl g1 g2 g3 g4 g5 (dW rt la rs rg pd du ds me tt gr su gp mk rf m1 m2 m3 m4 m5 mr mf n1 n2 n3 n4 n5 nr nf E)) = some (some (iv (-2)), (cW ki ln bt rl cp cs ct cv 5 14 ja ea ma a1 a2 a3 a4 a5 a6 a7 a8 jb eb mb b1 b2 b3 b4 b5 b6 b7 b8 re fl g1 g2 g3 g4 g5 (dW rt la rs rg pd du ds me tt gr su gp mk rf m1 m2 m3 m4 m5 mr mf n1 n2 n3 n4 n5 nr nf E))) := by
  have main : ∀ Q : mm_R → Prop, Q (some (iv (-2)), (cW ki ln bt rl cp cs ct cv 5 14 ja ea ma a1 a2 a3 a4 a5 a6 a7 a8 jb eb mb b1 b2 b3 b4 b5 b6 b7 b8 re fl g1 g2 g3 g4 g5 (dW rt la rs rg pd du ds me tt gr su gp mk rf m1 m2 m3 m4 m5 mr mf n1 n2 n3 n4 n5 nr nf E))) → rn_X11_pay (1000) (0, [(0, .ref 0), (1, iv (1)), (2, iv (a)), (3, iv (n))], [], (cW ki ln bt rl cp cs ct cv 5 14 ja ea ma a1 a2 a3 a4 a5 a6 a7 a8 jb eb mb b1 b2 b3 b4 b5 b6 b7 b8 re fl g1 g2 g3 g4 g5 (dW rt la rs rg pd du ds me tt gr su gp mk rf m1 m2 m3 m4 m5 mr mf n1 n2 n3 n4 n5 nr nf E))) Q := by
    intro Q hQ
    refine r_al rfl rfl ?_
    refine r_il rfl rfl ?_
    refine r_il rfl rfl ?_
    refine r_v3s rfl rfl xg_0 rfl (c_isPay0 (by decide) (by omega) hdb hn) ?_
    rw [ht]
    refine r_zeq rfl rfl (bi_r _) (fun u1 => ?_) (fun u1 => ?_)
    · exact absurd u1 (by decide)
    · refine r_il rfl rfl ?_
      refine r_ic rfl ?_
      refine r_clt rfl rfl (by omega) (by omega) (fun u2 => ?_) (fun u2 => ?_)
      · omega
      · refine r_il rfl rfl ?_
        refine r_si rfl (by decide) ?_
        refine r_cle rfl rfl (by omega) (by omega) (fun u3 => ?_) (fun u3 => ?_)
        · refine r_il rfl rfl ?_
          refine r_ic rfl ?_
          refine r_cne rfl rfl (by decide) (by decide) (fun u4 => ?_) (fun u4 => ?_)
          · exact absurd rfl u4
          · refine r_al rfl rfl ?_
            refine r_gf rfl rfl xg_0 rfl ?_
            refine r_il rfl rfl ?_
            refine r_il rfl rfl ?_
            refine r_v3s rfl rfl xg_29 rfl (c_pbs0_0 hAd hAs hn h5 hr hN hB hv) ?_
            refine r_goto rfl rfl ?_
            exact r_ret rfl rfl hQ
        · omega
  obtain ⟨r, h1, h2⟩ := rn_S (vs := [.ref 0, iv (1), iv (a), iv (n)]) (Q := fun r => r = (some (iv (-2)), (cW ki ln bt rl cp cs ct cv 5 14 ja ea ma a1 a2 a3 a4 a5 a6 a7 a8 jb eb mb b1 b2 b3 b4 b5 b6 b7 b8 re fl g1 g2 g3 g4 g5 (dW rt la rs rg pd du ds me tt gr su gp mk rf m1 m2 m3 m4 m5 mr mf n1 n2 n3 n4 n5 nr nf E)))) rfl (rn_up (N := 1000) (M := mm_fuel) (by decide) (main (fun r => r = (some (iv (-2)), (cW ki ln bt rl cp cs ct cv 5 14 ja ea ma a1 a2 a3 a4 a5 a6 a7 a8 jb eb mb b1 b2 b3 b4 b5 b6 b7 b8 re fl g1 g2 g3 g4 g5 (dW rt la rs rg pd du ds me tt gr su gp mk rf m1 m2 m3 m4 m5 mr mf n1 n2 n3 n4 n5 nr nf E)))) rfl))
  have h1 : sX11_pay [.ref 0, iv (1), iv (a), iv (n)] (cW ki ln bt rl cp cs ct cv 5 14 ja ea ma a1 a2 a3 a4 a5 a6 a7 a8 jb eb mb b1 b2 b3 b4 b5 b6 b7 b8 re fl g1 g2 g3 g4 g5 (dW rt la rs rg pd du ds me tt gr su gp mk rf m1 m2 m3 m4 m5 mr mf n1 n2 n3 n4 n5 nr nf E)) = some r := h1
  rw [h1, h2]
theorem c_payG0_11 (hAd : ARd a1 a2 a3) (hAs : ARs a4 a5 a6 a7) (hn : 0 ≤ ma ∧ ma ≤ 16) (h5 : ∀ p : Nat, p < 8 → 0 ≤ (g5 p).toInt ∧ (g5 p).toInt ≤ 9999) (hdb : 0 ≤ ea ∧ ea ≤ 10) (hr : 0 ≤ a ∧ a ≤ 15) (hN : 1 ≤ n ∧ n ≤ 999) (hB : 0 ≤ bcF (cSS a4 a5 a6 ma re fl (a5 (Int.toNat a)).toInt (a4 (Int.toNat a)).toInt) ∧ bcF (cSS a4 a5 a6 ma re fl (a5 (Int.toNat a)).toInt (a4 (Int.toNat a)).toInt) ≤ 32) (ht : fTH ea ma 1 a = true) (hv : cMV a2 g5 (a4 (Int.toNat a)).toInt (a5 (Int.toNat a)).toInt n (nrm (cAS a1 a3 a4 a5 a6 a7 g1 g2 g3 ma re fl a)) = true) : sX11_pay [.ref 0, iv (1), iv (a), iv (n)] (cW ki ln bt rl cp cs ct cv 5 14 ja ea ma a1 a2 a3 a4 a5 a6 a7 a8 jb eb mb b1 b2 b3 b4 b5 b6 b7 b8 re fl g1 g2 g3 g4 g5 (dW rt la rs rg pd du ds me tt gr su gp mk rf m1 m2 m3 m4 m5 mr mf n1 n2 n3 n4 n5 nr nf E)) = some (some (iv (cR a3 (ps2 g1 (Int.toNat (a5 (Int.toNat a)).toInt) n) (a5 (Int.toNat a)).toInt)), (cW ki ln bt rl cp cs ct cv 5 14 ja ea ma a1 a2 a3 a4 a5 a6 a7 a8 jb eb mb b1 b2 b3 b4 b5 b6 b7 b8 re fl (ps2 g1 (Int.toNat (a5 (Int.toNat a)).toInt) n) (ps2 g2 (Int.toNat a) n) g3 (cAB a1 a4 a5 a6 a7 g4 ma re fl a n) (ps2 (ps1 g5 (Int.toNat (a4 (Int.toNat a)).toInt) n) (Int.toNat (a2 (Int.toNat (a5 (Int.toNat a)).toInt)).toInt) n) (dW rt la rs rg pd du ds me tt gr su gp mk rf m1 m2 m3 m4 m5 mr mf n1 n2 n3 n4 n5 nr nf E))) := by
  have main : ∀ Q : mm_R → Prop, Q (some (iv (cR a3 (ps2 g1 (Int.toNat (a5 (Int.toNat a)).toInt) n) (a5 (Int.toNat a)).toInt)), (cW ki ln bt rl cp cs ct cv 5 14 ja ea ma a1 a2 a3 a4 a5 a6 a7 a8 jb eb mb b1 b2 b3 b4 b5 b6 b7 b8 re fl (ps2 g1 (Int.toNat (a5 (Int.toNat a)).toInt) n) (ps2 g2 (Int.toNat a) n) g3 (cAB a1 a4 a5 a6 a7 g4 ma re fl a n) (ps2 (ps1 g5 (Int.toNat (a4 (Int.toNat a)).toInt) n) (Int.toNat (a2 (Int.toNat (a5 (Int.toNat a)).toInt)).toInt) n) (dW rt la rs rg pd du ds me tt gr su gp mk rf m1 m2 m3 m4 m5 mr mf n1 n2 n3 n4 n5 nr nf E))) → rn_X11_pay (1000) (0, [(0, .ref 0), (1, iv (1)), (2, iv (a)), (3, iv (n))], [], (cW ki ln bt rl cp cs ct cv 5 14 ja ea ma a1 a2 a3 a4 a5 a6 a7 a8 jb eb mb b1 b2 b3 b4 b5 b6 b7 b8 re fl g1 g2 g3 g4 g5 (dW rt la rs rg pd du ds me tt gr su gp mk rf m1 m2 m3 m4 m5 mr mf n1 n2 n3 n4 n5 nr nf E))) Q := by
    intro Q hQ
    refine r_al rfl rfl ?_
    refine r_il rfl rfl ?_
    refine r_il rfl rfl ?_
    refine r_v3s rfl rfl xg_0 rfl (c_isPay0 (by decide) (by omega) hdb hn) ?_
    rw [ht]
    refine r_zeq rfl rfl (bi_r _) (fun u1 => ?_) (fun u1 => ?_)
    · exact absurd u1 (by decide)
    · refine r_il rfl rfl ?_
      refine r_ic rfl ?_
      refine r_clt rfl rfl (by omega) (by omega) (fun u2 => ?_) (fun u2 => ?_)
      · omega
      · refine r_il rfl rfl ?_
        refine r_si rfl (by decide) ?_
        refine r_cle rfl rfl (by omega) (by omega) (fun u3 => ?_) (fun u3 => ?_)
        · refine r_il rfl rfl ?_
          refine r_ic rfl ?_
          refine r_cne rfl rfl (by decide) (by decide) (fun u4 => ?_) (fun u4 => ?_)
          · exact absurd rfl u4
          · refine r_al rfl rfl ?_
            refine r_gf rfl rfl xg_0 rfl ?_
            refine r_il rfl rfl ?_
            refine r_il rfl rfl ?_
            refine r_v3s rfl rfl xg_29 rfl (c_pbs0_1 hAd hAs hn h5 hr hN hB hv) ?_
            refine r_goto rfl rfl ?_
            exact r_ret rfl rfl hQ
        · omega
  obtain ⟨r, h1, h2⟩ := rn_S (vs := [.ref 0, iv (1), iv (a), iv (n)]) (Q := fun r => r = (some (iv (cR a3 (ps2 g1 (Int.toNat (a5 (Int.toNat a)).toInt) n) (a5 (Int.toNat a)).toInt)), (cW ki ln bt rl cp cs ct cv 5 14 ja ea ma a1 a2 a3 a4 a5 a6 a7 a8 jb eb mb b1 b2 b3 b4 b5 b6 b7 b8 re fl (ps2 g1 (Int.toNat (a5 (Int.toNat a)).toInt) n) (ps2 g2 (Int.toNat a) n) g3 (cAB a1 a4 a5 a6 a7 g4 ma re fl a n) (ps2 (ps1 g5 (Int.toNat (a4 (Int.toNat a)).toInt) n) (Int.toNat (a2 (Int.toNat (a5 (Int.toNat a)).toInt)).toInt) n) (dW rt la rs rg pd du ds me tt gr su gp mk rf m1 m2 m3 m4 m5 mr mf n1 n2 n3 n4 n5 nr nf E)))) rfl (rn_up (N := 1000) (M := mm_fuel) (by decide) (main (fun r => r = (some (iv (cR a3 (ps2 g1 (Int.toNat (a5 (Int.toNat a)).toInt) n) (a5 (Int.toNat a)).toInt)), (cW ki ln bt rl cp cs ct cv 5 14 ja ea ma a1 a2 a3 a4 a5 a6 a7 a8 jb eb mb b1 b2 b3 b4 b5 b6 b7 b8 re fl (ps2 g1 (Int.toNat (a5 (Int.toNat a)).toInt) n) (ps2 g2 (Int.toNat a) n) g3 (cAB a1 a4 a5 a6 a7 g4 ma re fl a n) (ps2 (ps1 g5 (Int.toNat (a4 (Int.toNat a)).toInt) n) (Int.toNat (a2 (Int.toNat (a5 (Int.toNat a)).toInt)).toInt) n) (dW rt la rs rg pd du ds me tt gr su gp mk rf m1 m2 m3 m4 m5 mr mf n1 n2 n3 n4 n5 nr nf E)))) rfl))
  have h1 : sX11_pay [.ref 0, iv (1), iv (a), iv (n)] (cW ki ln bt rl cp cs ct cv 5 14 ja ea ma a1 a2 a3 a4 a5 a6 a7 a8 jb eb mb b1 b2 b3 b4 b5 b6 b7 b8 re fl g1 g2 g3 g4 g5 (dW rt la rs rg pd du ds me tt gr su gp mk rf m1 m2 m3 m4 m5 mr mf n1 n2 n3 n4 n5 nr nf E)) = some r := h1
  rw [h1, h2]
theorem c_mv1_0 (hAd : ARd b1 b2 b3) (hAs : ARs b4 b5 b6 b7) (hn : 0 ≤ mb ∧ mb ≤ 16) (h5 : ∀ p : Nat, p < 8 → 0 ≤ (g5 p).toInt ∧ (g5 p).toInt ≤ 9999) (ha : 0 ≤ a ∧ a ≤ 7) (hd : 0 ≤ d ∧ d ≤ 9) (hN : 1 ≤ n ∧ n ≤ 999) (hm : -2147483648 ≤ m ∧ m ≤ 2147483647) (hv : cMV b2 g5 a d n m = false) : sX2_moveCoins [.ref 29, iv (a), iv (d), iv (n), iv (m)] (cW ki ln bt rl cp cs ct cv 14 5 ja ea ma a1 a2 a3 a4 a5 a6 a7 a8 jb eb mb b1 b2 b3 b4 b5 b6 b7 b8 re fl g1 g2 g3 g4 g5 (dW rt la rs rg pd du ds me tt gr su gp mk rf m1 m2 m3 m4 m5 mr mf n1 n2 n3 n4 n5 nr nf E)) = some (some (iv 0), (cW ki ln bt rl cp cs ct cv 14 5 ja ea ma a1 a2 a3 a4 a5 a6 a7 a8 jb eb mb b1 b2 b3 b4 b5 b6 b7 b8 re fl g1 g2 g3 g4 g5 (dW rt la rs rg pd du ds me tt gr su gp mk rf m1 m2 m3 m4 m5 mr mf n1 n2 n3 n4 n5 nr nf E))) := by
  have main : ∀ Q : mm_R → Prop, Q (some (iv 0), (cW ki ln bt rl cp cs ct cv 14 5 ja ea ma a1 a2 a3 a4 a5 a6 a7 a8 jb eb mb b1 b2 b3 b4 b5 b6 b7 b8 re fl g1 g2 g3 g4 g5 (dW rt la rs rg pd du ds me tt gr su gp mk rf m1 m2 m3 m4 m5 mr mf n1 n2 n3 n4 n5 nr nf E))) → rn_X2_moveCoins (1000) (0, [(0, .ref 29), (1, iv (a)), (2, iv (d)), (3, iv (n)), (4, iv (m))], [], (cW ki ln bt rl cp cs ct cv 14 5 ja ea ma a1 a2 a3 a4 a5 a6 a7 a8 jb eb mb b1 b2 b3 b4 b5 b6 b7 b8 re fl g1 g2 g3 g4 g5 (dW rt la rs rg pd du ds me tt gr su gp mk rf m1 m2 m3 m4 m5 mr mf n1 n2 n3 n4 n5 nr nf E))) Q := by
    intro Q hQ
    have ht := (ar1 hAd hd).2
    have vb1 := h5 (Int.toNat a) (by omega)
    have vb2 := h5 (Int.toNat (b2 (Int.toNat d)).toInt) (by omega)
    refine r_al rfl rfl ?_
    refine r_gf rfl rfl xg_29 rfl ?_
    refine r_gf rfl rfl xg_4 rfl ?_
    refine r_gf rfl rfl xg_23 rfl ?_
    refine r_asw (lv' := [(5, _), (0, _), (1, _), (2, _), (3, _), (4, _)]) rfl rfl rfl ?_
    refine r_al rfl rfl ?_
    refine r_gf rfl rfl xg_29 rfl ?_
    refine r_gf rfl rfl xg_4 rfl ?_
    refine r_gf rfl rfl xg_14 rfl ?_
    refine r_il rfl rfl ?_
    refine r_ia rfl xg_16 (by omega) (by omega) (by decide) ?_
    refine r_isw (lv' := [(6, _), (5, _), (0, _), (1, _), (2, _), (3, _), (4, _)]) rfl rfl rfl ?_
    refine r_il rfl rfl ?_
    refine r_ilw rfl rfl ?_
    refine r_cgt rfl rfl (by omega) hm (fun u1 => ?_) (fun u1 => ?_)
    · refine r_ic rfl ?_
      exact r_retb rfl rfl (by omega) hQ
    · refine r_il rfl rfl ?_
      refine r_alw rfl rfl ?_
      refine r_il rfl rfl ?_
      refine r_ia rfl xg_28 (by omega) (by omega) (by decide) ?_
      refine r_cle rfl rfl (by omega) (by omega) (fun u2 => ?_) (fun u2 => ?_)
      · refine r_il rfl rfl ?_
        refine r_ilw rfl rfl ?_
        refine r_ceq rfl rfl (by omega) (by omega) (fun u3 => ?_) (fun u3 => ?_)
        · exfalso
          have e : cMV b2 g5 a d n m = true := by unfold cMV; rw [decide_eq_true u1, decide_eq_true u2, decide_eq_true u3]; rfl
          rw [e] at hv
          cases hv
        · refine r_alw rfl rfl ?_
          refine r_ilw rfl rfl ?_
          refine r_ia rfl xg_28 (by omega) (by omega) (by decide) ?_
          refine r_il rfl rfl ?_
          refine r_add rfl ?_
          refine r_si rfl (by decide) ?_
          refine r_cle rfl rfl (by omega) (by omega) (fun u4 => ?_) (fun u4 => ?_)
          · exfalso
            have e : cMV b2 g5 a d n m = true := by unfold cMV; rw [decide_eq_true u1, decide_eq_true u2, decide_eq_false u3, decide_eq_true u4]; rfl
            rw [e] at hv
            cases hv
          · refine r_ic rfl ?_
            exact r_retb rfl rfl (by omega) hQ
      · refine r_ic rfl ?_
        exact r_retb rfl rfl (by omega) hQ
  obtain ⟨r, h1, h2⟩ := rn_S (vs := [.ref 29, iv (a), iv (d), iv (n), iv (m)]) (Q := fun r => r = (some (iv 0), (cW ki ln bt rl cp cs ct cv 14 5 ja ea ma a1 a2 a3 a4 a5 a6 a7 a8 jb eb mb b1 b2 b3 b4 b5 b6 b7 b8 re fl g1 g2 g3 g4 g5 (dW rt la rs rg pd du ds me tt gr su gp mk rf m1 m2 m3 m4 m5 mr mf n1 n2 n3 n4 n5 nr nf E)))) rfl (rn_up (N := 1000) (M := mm_fuel) (by decide) (main (fun r => r = (some (iv 0), (cW ki ln bt rl cp cs ct cv 14 5 ja ea ma a1 a2 a3 a4 a5 a6 a7 a8 jb eb mb b1 b2 b3 b4 b5 b6 b7 b8 re fl g1 g2 g3 g4 g5 (dW rt la rs rg pd du ds me tt gr su gp mk rf m1 m2 m3 m4 m5 mr mf n1 n2 n3 n4 n5 nr nf E)))) rfl))
  have h1 : sX2_moveCoins [.ref 29, iv (a), iv (d), iv (n), iv (m)] (cW ki ln bt rl cp cs ct cv 14 5 ja ea ma a1 a2 a3 a4 a5 a6 a7 a8 jb eb mb b1 b2 b3 b4 b5 b6 b7 b8 re fl g1 g2 g3 g4 g5 (dW rt la rs rg pd du ds me tt gr su gp mk rf m1 m2 m3 m4 m5 mr mf n1 n2 n3 n4 n5 nr nf E)) = some r := h1
  rw [h1, h2]
theorem c_mv1_1 (hAd : ARd b1 b2 b3) (hAs : ARs b4 b5 b6 b7) (hn : 0 ≤ mb ∧ mb ≤ 16) (h5 : ∀ p : Nat, p < 8 → 0 ≤ (g5 p).toInt ∧ (g5 p).toInt ≤ 9999) (ha : 0 ≤ a ∧ a ≤ 7) (hd : 0 ≤ d ∧ d ≤ 9) (hN : 1 ≤ n ∧ n ≤ 999) (hm : -2147483648 ≤ m ∧ m ≤ 2147483647) (hv : cMV b2 g5 a d n m = true) : sX2_moveCoins [.ref 29, iv (a), iv (d), iv (n), iv (m)] (cW ki ln bt rl cp cs ct cv 14 5 ja ea ma a1 a2 a3 a4 a5 a6 a7 a8 jb eb mb b1 b2 b3 b4 b5 b6 b7 b8 re fl g1 g2 g3 g4 g5 (dW rt la rs rg pd du ds me tt gr su gp mk rf m1 m2 m3 m4 m5 mr mf n1 n2 n3 n4 n5 nr nf E)) = some (some (iv 1), (cW ki ln bt rl cp cs ct cv 14 5 ja ea ma a1 a2 a3 a4 a5 a6 a7 a8 jb eb mb b1 b2 b3 b4 b5 b6 b7 b8 re fl (ps2 g1 (Int.toNat d) n) g2 g3 g4 (ps2 (ps1 g5 (Int.toNat a) n) (Int.toNat (b2 (Int.toNat d)).toInt) n) (dW rt la rs rg pd du ds me tt gr su gp mk rf m1 m2 m3 m4 m5 mr mf n1 n2 n3 n4 n5 nr nf E))) := by
  have main : ∀ Q : mm_R → Prop, Q (some (iv 1), (cW ki ln bt rl cp cs ct cv 14 5 ja ea ma a1 a2 a3 a4 a5 a6 a7 a8 jb eb mb b1 b2 b3 b4 b5 b6 b7 b8 re fl (ps2 g1 (Int.toNat d) n) g2 g3 g4 (ps2 (ps1 g5 (Int.toNat a) n) (Int.toNat (b2 (Int.toNat d)).toInt) n) (dW rt la rs rg pd du ds me tt gr su gp mk rf m1 m2 m3 m4 m5 mr mf n1 n2 n3 n4 n5 nr nf E))) → rn_X2_moveCoins (1000) (0, [(0, .ref 29), (1, iv (a)), (2, iv (d)), (3, iv (n)), (4, iv (m))], [], (cW ki ln bt rl cp cs ct cv 14 5 ja ea ma a1 a2 a3 a4 a5 a6 a7 a8 jb eb mb b1 b2 b3 b4 b5 b6 b7 b8 re fl g1 g2 g3 g4 g5 (dW rt la rs rg pd du ds me tt gr su gp mk rf m1 m2 m3 m4 m5 mr mf n1 n2 n3 n4 n5 nr nf E))) Q := by
    intro Q hQ
    have ht := (ar1 hAd hd).2
    have vb1 := h5 (Int.toNat a) (by omega)
    have vb2 := h5 (Int.toNat (b2 (Int.toNat d)).toInt) (by omega)
    refine r_al rfl rfl ?_
    refine r_gf rfl rfl xg_29 rfl ?_
    refine r_gf rfl rfl xg_4 rfl ?_
    refine r_gf rfl rfl xg_23 rfl ?_
    refine r_asw (lv' := [(5, _), (0, _), (1, _), (2, _), (3, _), (4, _)]) rfl rfl rfl ?_
    refine r_al rfl rfl ?_
    refine r_gf rfl rfl xg_29 rfl ?_
    refine r_gf rfl rfl xg_4 rfl ?_
    refine r_gf rfl rfl xg_14 rfl ?_
    refine r_il rfl rfl ?_
    refine r_ia rfl xg_16 (by omega) (by omega) (by decide) ?_
    refine r_isw (lv' := [(6, _), (5, _), (0, _), (1, _), (2, _), (3, _), (4, _)]) rfl rfl rfl ?_
    refine r_il rfl rfl ?_
    refine r_ilw rfl rfl ?_
    refine r_cgt rfl rfl (by omega) hm (fun u1 => ?_) (fun u1 => ?_)
    · exfalso
      have e : cMV b2 g5 a d n m = false := by unfold cMV; rw [decide_eq_false (show ¬ n ≤ m by omega)]; rfl
      rw [e] at hv
      cases hv
    · refine r_il rfl rfl ?_
      refine r_alw rfl rfl ?_
      refine r_il rfl rfl ?_
      refine r_ia rfl xg_28 (by omega) (by omega) (by decide) ?_
      refine r_cle rfl rfl (by omega) (by omega) (fun u2 => ?_) (fun u2 => ?_)
      · refine r_il rfl rfl ?_
        refine r_ilw rfl rfl ?_
        refine r_ceq rfl rfl (by omega) (by omega) (fun u3 => ?_) (fun u3 => ?_)
        · refine r_alw rfl rfl ?_
          refine r_il rfl rfl ?_
          refine r_dup2 rfl rfl rfl ?_
          refine r_ia rfl xg_28 (by omega) (by omega) (by decide) ?_
          refine r_il rfl rfl ?_
          refine r_sub rfl ?_
          refine r_ias rfl xg_28 (by omega) (by omega) (by decide) xs_28 ?_
          refine r_alw rfl rfl ?_
          refine r_ilw rfl rfl ?_
          refine r_dup2 rfl rfl rfl ?_
          refine r_ia rfl xg_28 (by omega) (by omega) (by decide) ?_
          refine r_il rfl rfl ?_
          refine r_add rfl ?_
          refine r_ias rfl xg_28 (by omega) (by omega) (by decide) xs_28 ?_
          refine r_al rfl rfl ?_
          refine r_gf rfl rfl xg_29 rfl ?_
          refine r_gf rfl rfl xg_4 rfl ?_
          refine r_gf rfl rfl xg_23 rfl ?_
          refine r_il rfl rfl ?_
          refine r_dup2 rfl rfl rfl ?_
          refine r_ia rfl xg_24 (by omega) (by omega) (by decide) ?_
          refine r_il rfl rfl ?_
          refine r_add rfl ?_
          refine r_ias rfl xg_24 (by omega) (by omega) (by decide) xs_24 ?_
          refine r_ic rfl ?_
          exact r_retb rfl rfl (by omega) hQ
        · refine r_alw rfl rfl ?_
          refine r_ilw rfl rfl ?_
          refine r_ia rfl xg_28 (by omega) (by omega) (by decide) ?_
          refine r_il rfl rfl ?_
          refine r_add rfl ?_
          refine r_si rfl (by decide) ?_
          refine r_cle rfl rfl (by omega) (by omega) (fun u4 => ?_) (fun u4 => ?_)
          · refine r_alw rfl rfl ?_
            refine r_il rfl rfl ?_
            refine r_dup2 rfl rfl rfl ?_
            refine r_ia rfl xg_28 (by omega) (by omega) (by decide) ?_
            refine r_il rfl rfl ?_
            refine r_sub rfl ?_
            refine r_ias rfl xg_28 (by omega) (by omega) (by decide) xs_28 ?_
            refine r_alw rfl rfl ?_
            refine r_ilw rfl rfl ?_
            refine r_dup2 rfl rfl rfl ?_
            refine r_ia rfl xg_28 (by omega) (by omega) (by decide) ?_
            refine r_il rfl rfl ?_
            refine r_add rfl ?_
            refine r_ias rfl xg_28 (by omega) (by omega) (by decide) xs_28 ?_
            refine r_al rfl rfl ?_
            refine r_gf rfl rfl xg_29 rfl ?_
            refine r_gf rfl rfl xg_4 rfl ?_
            refine r_gf rfl rfl xg_23 rfl ?_
            refine r_il rfl rfl ?_
            refine r_dup2 rfl rfl rfl ?_
            refine r_ia rfl xg_24 (by omega) (by omega) (by decide) ?_
            refine r_il rfl rfl ?_
            refine r_add rfl ?_
            refine r_ias rfl xg_24 (by omega) (by omega) (by decide) xs_24 ?_
            refine r_ic rfl ?_
            exact r_retb rfl rfl (by omega) hQ
          · exfalso
            have e : cMV b2 g5 a d n m = false := by unfold cMV; rw [decide_eq_true u1, decide_eq_true u2, decide_eq_false u3, decide_eq_false (Int.not_le.mpr u4)]; rfl
            rw [e] at hv
            cases hv
      · exfalso
        have e : cMV b2 g5 a d n m = false := by unfold cMV; rw [decide_eq_true u1, decide_eq_false (Int.not_le.mpr u2)]; rfl
        rw [e] at hv
        cases hv
  obtain ⟨r, h1, h2⟩ := rn_S (vs := [.ref 29, iv (a), iv (d), iv (n), iv (m)]) (Q := fun r => r = (some (iv 1), (cW ki ln bt rl cp cs ct cv 14 5 ja ea ma a1 a2 a3 a4 a5 a6 a7 a8 jb eb mb b1 b2 b3 b4 b5 b6 b7 b8 re fl (ps2 g1 (Int.toNat d) n) g2 g3 g4 (ps2 (ps1 g5 (Int.toNat a) n) (Int.toNat (b2 (Int.toNat d)).toInt) n) (dW rt la rs rg pd du ds me tt gr su gp mk rf m1 m2 m3 m4 m5 mr mf n1 n2 n3 n4 n5 nr nf E)))) rfl (rn_up (N := 1000) (M := mm_fuel) (by decide) (main (fun r => r = (some (iv 1), (cW ki ln bt rl cp cs ct cv 14 5 ja ea ma a1 a2 a3 a4 a5 a6 a7 a8 jb eb mb b1 b2 b3 b4 b5 b6 b7 b8 re fl (ps2 g1 (Int.toNat d) n) g2 g3 g4 (ps2 (ps1 g5 (Int.toNat a) n) (Int.toNat (b2 (Int.toNat d)).toInt) n) (dW rt la rs rg pd du ds me tt gr su gp mk rf m1 m2 m3 m4 m5 mr mf n1 n2 n3 n4 n5 nr nf E)))) rfl))
  have h1 : sX2_moveCoins [.ref 29, iv (a), iv (d), iv (n), iv (m)] (cW ki ln bt rl cp cs ct cv 14 5 ja ea ma a1 a2 a3 a4 a5 a6 a7 a8 jb eb mb b1 b2 b3 b4 b5 b6 b7 b8 re fl g1 g2 g3 g4 g5 (dW rt la rs rg pd du ds me tt gr su gp mk rf m1 m2 m3 m4 m5 mr mf n1 n2 n3 n4 n5 nr nf E)) = some r := h1
  rw [h1, h2]
theorem c_pbd1_0 (hAd : ARd b1 b2 b3) (hAs : ARs b4 b5 b6 b7) (hn : 0 ≤ mb ∧ mb ≤ 16) (h5 : ∀ p : Nat, p < 8 → 0 ≤ (g5 p).toInt ∧ (g5 p).toInt ≤ 9999) (hd : 0 ≤ d ∧ d ≤ 9) (hN : 1 ≤ n ∧ n ≤ 999) (hv : cMV b2 g5 (b1 (Int.toNat d)).toInt d n (nrm (cAD b1 b3 g1 fl d)) = false) : sX2_payByDebtor [.ref 29, iv (d), iv (n)] (cW ki ln bt rl cp cs ct cv 14 5 ja ea ma a1 a2 a3 a4 a5 a6 a7 a8 jb eb mb b1 b2 b3 b4 b5 b6 b7 b8 re fl g1 g2 g3 g4 g5 (dW rt la rs rg pd du ds me tt gr su gp mk rf m1 m2 m3 m4 m5 mr mf n1 n2 n3 n4 n5 nr nf E)) = some (some (iv (-2)), (cW ki ln bt rl cp cs ct cv 14 5 ja ea ma a1 a2 a3 a4 a5 a6 a7 a8 jb eb mb b1 b2 b3 b4 b5 b6 b7 b8 re fl g1 g2 g3 g4 g5 (dW rt la rs rg pd du ds me tt gr su gp mk rf m1 m2 m3 m4 m5 mr mf n1 n2 n3 n4 n5 nr nf E))) := by
  have main : ∀ Q : mm_R → Prop, Q (some (iv (-2)), (cW ki ln bt rl cp cs ct cv 14 5 ja ea ma a1 a2 a3 a4 a5 a6 a7 a8 jb eb mb b1 b2 b3 b4 b5 b6 b7 b8 re fl g1 g2 g3 g4 g5 (dW rt la rs rg pd du ds me tt gr su gp mk rf m1 m2 m3 m4 m5 mr mf n1 n2 n3 n4 n5 nr nf E))) → rn_X2_payByDebtor (1000) (0, [(0, .ref 29), (1, iv (d)), (2, iv (n))], [], (cW ki ln bt rl cp cs ct cv 14 5 ja ea ma a1 a2 a3 a4 a5 a6 a7 a8 jb eb mb b1 b2 b3 b4 b5 b6 b7 b8 re fl g1 g2 g3 g4 g5 (dW rt la rs rg pd du ds me tt gr su gp mk rf m1 m2 m3 m4 m5 mr mf n1 n2 n3 n4 n5 nr nf E))) Q := by
    intro Q hQ
    refine r_al rfl rfl ?_
    refine r_al rfl rfl ?_
    refine r_gf rfl rfl xg_29 rfl ?_
    refine r_gf rfl rfl xg_4 rfl ?_
    refine r_gf rfl rfl xg_14 rfl ?_
    refine r_il rfl rfl ?_
    refine r_ia rfl xg_15 (by omega) (by omega) (by decide) ?_
    refine r_il rfl rfl ?_
    refine r_il rfl rfl ?_
    refine r_al rfl rfl ?_
    refine r_gf rfl rfl xg_29 rfl ?_
    refine r_il rfl rfl ?_
    refine r_v2s rfl rfl xg_4 rfl (c_adC1 hAd hAs hn hd) ?_
    refine r_nrm ?_
    refine r_v5s rfl rfl xg_29 rfl (c_mv1_0 hAd hAs hn h5 (ar1 hAd hd).1 hd hN (nrm_r _) hv) ?_
    refine r_zne rfl rfl (by decide) (fun u1 => ?_) (fun u1 => ?_)
    · exact absurd rfl u1
    · refine r_bi rfl (by decide) ?_
      exact r_ret rfl rfl hQ
  obtain ⟨r, h1, h2⟩ := rn_S (vs := [.ref 29, iv (d), iv (n)]) (Q := fun r => r = (some (iv (-2)), (cW ki ln bt rl cp cs ct cv 14 5 ja ea ma a1 a2 a3 a4 a5 a6 a7 a8 jb eb mb b1 b2 b3 b4 b5 b6 b7 b8 re fl g1 g2 g3 g4 g5 (dW rt la rs rg pd du ds me tt gr su gp mk rf m1 m2 m3 m4 m5 mr mf n1 n2 n3 n4 n5 nr nf E)))) rfl (rn_up (N := 1000) (M := mm_fuel) (by decide) (main (fun r => r = (some (iv (-2)), (cW ki ln bt rl cp cs ct cv 14 5 ja ea ma a1 a2 a3 a4 a5 a6 a7 a8 jb eb mb b1 b2 b3 b4 b5 b6 b7 b8 re fl g1 g2 g3 g4 g5 (dW rt la rs rg pd du ds me tt gr su gp mk rf m1 m2 m3 m4 m5 mr mf n1 n2 n3 n4 n5 nr nf E)))) rfl))
  have h1 : sX2_payByDebtor [.ref 29, iv (d), iv (n)] (cW ki ln bt rl cp cs ct cv 14 5 ja ea ma a1 a2 a3 a4 a5 a6 a7 a8 jb eb mb b1 b2 b3 b4 b5 b6 b7 b8 re fl g1 g2 g3 g4 g5 (dW rt la rs rg pd du ds me tt gr su gp mk rf m1 m2 m3 m4 m5 mr mf n1 n2 n3 n4 n5 nr nf E)) = some r := h1
  rw [h1, h2]
theorem c_pbd1_1 (hAd : ARd b1 b2 b3) (hAs : ARs b4 b5 b6 b7) (hn : 0 ≤ mb ∧ mb ≤ 16) (h5 : ∀ p : Nat, p < 8 → 0 ≤ (g5 p).toInt ∧ (g5 p).toInt ≤ 9999) (hd : 0 ≤ d ∧ d ≤ 9) (hN : 1 ≤ n ∧ n ≤ 999) (hv : cMV b2 g5 (b1 (Int.toNat d)).toInt d n (nrm (cAD b1 b3 g1 fl d)) = true) : sX2_payByDebtor [.ref 29, iv (d), iv (n)] (cW ki ln bt rl cp cs ct cv 14 5 ja ea ma a1 a2 a3 a4 a5 a6 a7 a8 jb eb mb b1 b2 b3 b4 b5 b6 b7 b8 re fl g1 g2 g3 g4 g5 (dW rt la rs rg pd du ds me tt gr su gp mk rf m1 m2 m3 m4 m5 mr mf n1 n2 n3 n4 n5 nr nf E)) = some (some (iv (cR b3 (ps2 g1 (Int.toNat d) n) d)), (cW ki ln bt rl cp cs ct cv 14 5 ja ea ma a1 a2 a3 a4 a5 a6 a7 a8 jb eb mb b1 b2 b3 b4 b5 b6 b7 b8 re fl (ps2 g1 (Int.toNat d) n) g2 g3 g4 (ps2 (ps1 g5 (Int.toNat (b1 (Int.toNat d)).toInt) n) (Int.toNat (b2 (Int.toNat d)).toInt) n) (dW rt la rs rg pd du ds me tt gr su gp mk rf m1 m2 m3 m4 m5 mr mf n1 n2 n3 n4 n5 nr nf E))) := by
  have main : ∀ Q : mm_R → Prop, Q (some (iv (cR b3 (ps2 g1 (Int.toNat d) n) d)), (cW ki ln bt rl cp cs ct cv 14 5 ja ea ma a1 a2 a3 a4 a5 a6 a7 a8 jb eb mb b1 b2 b3 b4 b5 b6 b7 b8 re fl (ps2 g1 (Int.toNat d) n) g2 g3 g4 (ps2 (ps1 g5 (Int.toNat (b1 (Int.toNat d)).toInt) n) (Int.toNat (b2 (Int.toNat d)).toInt) n) (dW rt la rs rg pd du ds me tt gr su gp mk rf m1 m2 m3 m4 m5 mr mf n1 n2 n3 n4 n5 nr nf E))) → rn_X2_payByDebtor (1000) (0, [(0, .ref 29), (1, iv (d)), (2, iv (n))], [], (cW ki ln bt rl cp cs ct cv 14 5 ja ea ma a1 a2 a3 a4 a5 a6 a7 a8 jb eb mb b1 b2 b3 b4 b5 b6 b7 b8 re fl g1 g2 g3 g4 g5 (dW rt la rs rg pd du ds me tt gr su gp mk rf m1 m2 m3 m4 m5 mr mf n1 n2 n3 n4 n5 nr nf E))) Q := by
    intro Q hQ
    refine r_al rfl rfl ?_
    refine r_al rfl rfl ?_
    refine r_gf rfl rfl xg_29 rfl ?_
    refine r_gf rfl rfl xg_4 rfl ?_
    refine r_gf rfl rfl xg_14 rfl ?_
    refine r_il rfl rfl ?_
    refine r_ia rfl xg_15 (by omega) (by omega) (by decide) ?_
    refine r_il rfl rfl ?_
    refine r_il rfl rfl ?_
    refine r_al rfl rfl ?_
    refine r_gf rfl rfl xg_29 rfl ?_
    refine r_il rfl rfl ?_
    refine r_v2s rfl rfl xg_4 rfl (c_adC1 hAd hAs hn hd) ?_
    refine r_nrm ?_
    refine r_v5s rfl rfl xg_29 rfl (c_mv1_1 hAd hAs hn h5 (ar1 hAd hd).1 hd hN (nrm_r _) hv) ?_
    refine r_zne rfl rfl (by decide) (fun u1 => ?_) (fun u1 => ?_)
    · refine r_al rfl rfl ?_
      refine r_gf rfl rfl xg_29 rfl ?_
      refine r_il rfl rfl ?_
      refine r_v2s rfl rfl xg_4 rfl (c_restC1 hd) ?_
      exact r_ret rfl rfl hQ
    · exact absurd u1 (by decide)
  obtain ⟨r, h1, h2⟩ := rn_S (vs := [.ref 29, iv (d), iv (n)]) (Q := fun r => r = (some (iv (cR b3 (ps2 g1 (Int.toNat d) n) d)), (cW ki ln bt rl cp cs ct cv 14 5 ja ea ma a1 a2 a3 a4 a5 a6 a7 a8 jb eb mb b1 b2 b3 b4 b5 b6 b7 b8 re fl (ps2 g1 (Int.toNat d) n) g2 g3 g4 (ps2 (ps1 g5 (Int.toNat (b1 (Int.toNat d)).toInt) n) (Int.toNat (b2 (Int.toNat d)).toInt) n) (dW rt la rs rg pd du ds me tt gr su gp mk rf m1 m2 m3 m4 m5 mr mf n1 n2 n3 n4 n5 nr nf E)))) rfl (rn_up (N := 1000) (M := mm_fuel) (by decide) (main (fun r => r = (some (iv (cR b3 (ps2 g1 (Int.toNat d) n) d)), (cW ki ln bt rl cp cs ct cv 14 5 ja ea ma a1 a2 a3 a4 a5 a6 a7 a8 jb eb mb b1 b2 b3 b4 b5 b6 b7 b8 re fl (ps2 g1 (Int.toNat d) n) g2 g3 g4 (ps2 (ps1 g5 (Int.toNat (b1 (Int.toNat d)).toInt) n) (Int.toNat (b2 (Int.toNat d)).toInt) n) (dW rt la rs rg pd du ds me tt gr su gp mk rf m1 m2 m3 m4 m5 mr mf n1 n2 n3 n4 n5 nr nf E)))) rfl))
  have h1 : sX2_payByDebtor [.ref 29, iv (d), iv (n)] (cW ki ln bt rl cp cs ct cv 14 5 ja ea ma a1 a2 a3 a4 a5 a6 a7 a8 jb eb mb b1 b2 b3 b4 b5 b6 b7 b8 re fl g1 g2 g3 g4 g5 (dW rt la rs rg pd du ds me tt gr su gp mk rf m1 m2 m3 m4 m5 mr mf n1 n2 n3 n4 n5 nr nf E)) = some r := h1
  rw [h1, h2]
theorem sho_lp1 {q : Nat} (hq : q ≤ 16) (hd : -2147483648 ≤ d ∧ d ≤ 2147483647) (k : rn_X2_sharersOf N (53, [(3, iv (((q : Nat) : Int))), (2, iv (cSh b4 b5 b6 re d q)), (0, .ref 29), (1, iv (d))], [], (cW ki ln bt rl cp cs ct cv 14 5 ja ea ma a1 a2 a3 a4 a5 a6 a7 a8 jb eb (q : Int) b1 b2 b3 b4 b5 b6 b7 b8 re fl g1 g2 g3 g4 g5 (dW rt la rs rg pd du ds me tt gr su gp mk rf m1 m2 m3 m4 m5 mr mf n1 n2 n3 n4 n5 nr nf E))) Q) : ∀ (m j : Nat), j + m = q → rn_X2_sharersOf (N + 60 * m + 60) (4, [(3, iv ((j : Int))), (2, iv (cSh b4 b5 b6 re d j)), (0, .ref 29), (1, iv (d))], [], (cW ki ln bt rl cp cs ct cv 14 5 ja ea ma a1 a2 a3 a4 a5 a6 a7 a8 jb eb (q : Int) b1 b2 b3 b4 b5 b6 b7 b8 re fl g1 g2 g3 g4 g5 (dW rt la rs rg pd du ds me tt gr su gp mk rf m1 m2 m3 m4 m5 mr mf n1 n2 n3 n4 n5 nr nf E))) Q := by
  intro m
  induction m with
  | zero =>
    intro j hj
    have hj : j = q := by omega
    subst hj
    refine rn_up (N := N + 60) (by omega) ?_
    refine r_il rfl rfl ?_
    refine r_al rfl rfl ?_
    refine r_gf rfl rfl xg_29 rfl ?_
    refine r_gf rfl rfl xg_4 rfl ?_
    refine r_gf rfl rfl xg_14 rfl ?_
    refine r_cge rfl rfl (by omega) (by omega) (fun u1 => ?_) (fun u1 => ?_)
    · exact rn_up (by omega) k
    · omega
  | succ m ih =>
    intro j hj
    obtain ⟨M, hM⟩ : ∃ M, M = N + 60 * m + 60 := ⟨_, rfl⟩
    rw [← hM] at ih
    refine rn_up (N := M + 60) (by omega) ?_
    refine r_il rfl rfl ?_
    refine r_al rfl rfl ?_
    refine r_gf rfl rfl xg_29 rfl ?_
    refine r_gf rfl rfl xg_4 rfl ?_
    refine r_gf rfl rfl xg_14 rfl ?_
    refine r_cge rfl rfl (by omega) (by omega) (fun u1 => ?_) (fun u1 => ?_)
    · omega
    · refine r_al rfl rfl ?_
      refine r_gf rfl rfl xg_29 rfl ?_
      refine r_il rfl rfl ?_
      refine r_il rfl rfl ?_
      refine r_v3s rfl rfl xg_4 rfl (c_stW1 (by omega) hd) ?_
      refine r_zeq rfl rfl (bi_r _) (fun u2 => ?_) (fun u2 => ?_)
      · refine r_inc (lv' := [(3, _), (2, _), (0, _), (1, _)]) rfl rfl rfl rfl ?_
        refine r_goto rfl rfl ?_
        have e : cSh b4 b5 b6 re d j = cSh b4 b5 b6 re d (j + 1) := by show _ = (bif cW0 b5 b6 re d j then _ else _); rw [bi_0 u2]; rfl
        rw [e]
        exact rn_up (by omega) (ih (j + 1) (by omega))
      · refine r_il rfl rfl ?_
        refine r_ic rfl ?_
        refine r_al rfl rfl ?_
        refine r_gf rfl rfl xg_29 rfl ?_
        refine r_gf rfl rfl xg_4 rfl ?_
        refine r_gf rfl rfl xg_14 rfl ?_
        refine r_il rfl rfl ?_
        refine r_ia rfl xg_18 (by omega) (by omega) (by decide) ?_
        refine r_shl rfl ?_
        refine r_or rfl ?_
        refine r_is (lv' := [(2, _), (3, _), (0, _), (1, _)]) rfl rfl rfl ?_
        refine r_inc (lv' := [(3, _), (2, _), (0, _), (1, _)]) rfl rfl rfl rfl ?_
        refine r_goto rfl rfl ?_
        have e : oOr (cSh b4 b5 b6 re d j) (oShl 1 (b4 (Int.toNat (j : Int))).toInt) = cSh b4 b5 b6 re d (j + 1) := by show _ = (bif cW0 b5 b6 re d j then _ else _); rw [bi_1 u2]; rfl
        rw [e]
        exact rn_up (by omega) (ih (j + 1) (by omega))
theorem c_so1 (hn : 0 ≤ mb ∧ mb ≤ 16) (hd : -2147483648 ≤ d ∧ d ≤ 2147483647) : sX2_sharersOf [.ref 29, iv d] (cW ki ln bt rl cp cs ct cv 14 5 ja ea ma a1 a2 a3 a4 a5 a6 a7 a8 jb eb mb b1 b2 b3 b4 b5 b6 b7 b8 re fl g1 g2 g3 g4 g5 (dW rt la rs rg pd du ds me tt gr su gp mk rf m1 m2 m3 m4 m5 mr mf n1 n2 n3 n4 n5 nr nf E)) = some (some (iv (cSO b4 b5 b6 mb re fl d)), (cW ki ln bt rl cp cs ct cv 14 5 ja ea ma a1 a2 a3 a4 a5 a6 a7 a8 jb eb mb b1 b2 b3 b4 b5 b6 b7 b8 re fl g1 g2 g3 g4 g5 (dW rt la rs rg pd du ds me tt gr su gp mk rf m1 m2 m3 m4 m5 mr mf n1 n2 n3 n4 n5 nr nf E))) := by
  obtain ⟨q, rfl⟩ := Int.eq_ofNat_of_zero_le hn.1
  have hq : q ≤ 16 := by omega
  have main : ∀ Q : mm_R → Prop, Q (some (iv (cSO b4 b5 b6 (q : Int) re fl d)), (cW ki ln bt rl cp cs ct cv 14 5 ja ea ma a1 a2 a3 a4 a5 a6 a7 a8 jb eb (q : Int) b1 b2 b3 b4 b5 b6 b7 b8 re fl g1 g2 g3 g4 g5 (dW rt la rs rg pd du ds me tt gr su gp mk rf m1 m2 m3 m4 m5 mr mf n1 n2 n3 n4 n5 nr nf E))) → rn_X2_sharersOf (40 + 60 * 16 + 60 + 20) (0, [(0, .ref 29), (1, iv (d))], [], (cW ki ln bt rl cp cs ct cv 14 5 ja ea ma a1 a2 a3 a4 a5 a6 a7 a8 jb eb (q : Int) b1 b2 b3 b4 b5 b6 b7 b8 re fl g1 g2 g3 g4 g5 (dW rt la rs rg pd du ds me tt gr su gp mk rf m1 m2 m3 m4 m5 mr mf n1 n2 n3 n4 n5 nr nf E))) Q := by
    intro Q hQ
    refine r_ic rfl ?_
    refine r_is (lv' := [(2, _), (0, _), (1, _)]) rfl rfl rfl ?_
    refine r_ic rfl ?_
    refine r_is (lv' := [(3, _), (2, _), (0, _), (1, _)]) rfl rfl rfl ?_
    refine rn_up (N := 40 + 60 * q + 60) (by omega) (sho_lp1 (N := 40) hq hd ?_ q 0 (by omega))
    refine r_il rfl rfl ?_
    refine r_al rfl rfl ?_
    refine r_gf rfl rfl xg_29 rfl ?_
    refine r_gf rfl rfl xg_4 rfl ?_
    refine r_gf rfl rfl xg_23 rfl ?_
    refine r_ic rfl ?_
    refine r_xor rfl ?_
    refine r_and rfl ?_
    exact r_ret rfl rfl hQ
  obtain ⟨r, h1, h2⟩ := rn_S (vs := [.ref 29, iv d]) (Q := fun r => r = (some (iv (cSO b4 b5 b6 (q : Int) re fl d)), (cW ki ln bt rl cp cs ct cv 14 5 ja ea ma a1 a2 a3 a4 a5 a6 a7 a8 jb eb (q : Int) b1 b2 b3 b4 b5 b6 b7 b8 re fl g1 g2 g3 g4 g5 (dW rt la rs rg pd du ds me tt gr su gp mk rf m1 m2 m3 m4 m5 mr mf n1 n2 n3 n4 n5 nr nf E)))) rfl (rn_up (N := 40 + 60 * 16 + 60 + 20) (M := mm_fuel) (by decide) (main (fun r => r = (some (iv (cSO b4 b5 b6 (q : Int) re fl d)), (cW ki ln bt rl cp cs ct cv 14 5 ja ea ma a1 a2 a3 a4 a5 a6 a7 a8 jb eb (q : Int) b1 b2 b3 b4 b5 b6 b7 b8 re fl g1 g2 g3 g4 g5 (dW rt la rs rg pd du ds me tt gr su gp mk rf m1 m2 m3 m4 m5 mr mf n1 n2 n3 n4 n5 nr nf E)))) rfl))
  have h1 : sX2_sharersOf [.ref 29, iv d] (cW ki ln bt rl cp cs ct cv 14 5 ja ea ma a1 a2 a3 a4 a5 a6 a7 a8 jb eb (q : Int) b1 b2 b3 b4 b5 b6 b7 b8 re fl g1 g2 g3 g4 g5 (dW rt la rs rg pd du ds me tt gr su gp mk rf m1 m2 m3 m4 m5 mr mf n1 n2 n3 n4 n5 nr nf E)) = some r := h1
  rw [h1, h2]
theorem shb_lp1 (hy : 0 ≤ y ∧ y ≤ 7) (k : rn_X2_shareBack N (59, [(6, iv (((8 : Nat) : Int))), (4, iv (sh)), (5, iv (n)), (0, .ref 29), (2, iv (y))], [], (cW ki ln bt rl cp cs ct cv 14 5 ja ea ma a1 a2 a3 a4 a5 a6 a7 a8 jb eb mb b1 b2 b3 b4 b5 b6 b7 b8 re fl g1 g2 g3 (cSB sh y n g4 8) g5 (dW rt la rs rg pd du ds me tt gr su gp mk rf m1 m2 m3 m4 m5 mr mf n1 n2 n3 n4 n5 nr nf E))) Q) : ∀ (m j : Nat), j + m = 8 → rn_X2_shareBack (N + 40 * m + 40) (27, [(6, iv ((j : Int))), (4, iv (sh)), (5, iv (n)), (0, .ref 29), (2, iv (y))], [], (cW ki ln bt rl cp cs ct cv 14 5 ja ea ma a1 a2 a3 a4 a5 a6 a7 a8 jb eb mb b1 b2 b3 b4 b5 b6 b7 b8 re fl g1 g2 g3 (cSB sh y n g4 j) g5 (dW rt la rs rg pd du ds me tt gr su gp mk rf m1 m2 m3 m4 m5 mr mf n1 n2 n3 n4 n5 nr nf E))) Q := by
  intro m
  induction m with
  | zero =>
    intro j hj
    have hj : j = 8 := by omega
    subst hj
    refine rn_up (N := N + 40) (by omega) ?_
    refine r_ilw rfl rfl ?_
    refine r_bi rfl (by decide) ?_
    refine r_cge rfl rfl (by omega) (by omega) (fun u1 => ?_) (fun u1 => ?_)
    · exact rn_up (by omega) k
    · omega
  | succ m ih =>
    intro j hj
    obtain ⟨M, hM⟩ : ∃ M, M = N + 40 * m + 40 := ⟨_, rfl⟩
    rw [← hM] at ih
    refine rn_up (N := M + 40) (by omega) ?_
    refine r_ilw rfl rfl ?_
    refine r_bi rfl (by decide) ?_
    refine r_cge rfl rfl (by omega) (by omega) (fun u1 => ?_) (fun u1 => ?_)
    · omega
    · refine r_ilw rfl rfl ?_
      refine r_ilw rfl rfl ?_
      refine r_s2s rfl rfl rfl (c_isIn (by omega)) ?_
      refine r_zeq rfl rfl (bi_r _) (fun u2 => ?_) (fun u2 => ?_)
      · have u2 : zb (Int32.ofInt sh) j = false := bi_0 u2
        refine r_inc (lv' := [(6, _), (4, _), (5, _), (0, _), (2, _)]) rfl rfl rfl rfl ?_
        refine r_goto rfl rfl ?_
        have e : cSB sh y n g4 j = cSB sh y n g4 (j + 1) := by show _ = (bif zb (Int32.ofInt sh) j then _ else _); rw [u2]; rfl
        rw [e]
        exact rn_up (by omega) (ih (j + 1) (by omega))
      · have u2 : zb (Int32.ofInt sh) j = true := bi_1 u2
        refine r_al rfl rfl ?_
        refine r_ilw rfl rfl ?_
        refine r_il rfl rfl ?_
        refine r_ilw rfl rfl ?_
        refine r_v4n rfl rfl xg_29 rfl (c_addBack (by omega) hy) ?_
        refine r_inc (lv' := [(6, _), (4, _), (5, _), (0, _), (2, _)]) rfl rfl rfl rfl ?_
        refine r_goto rfl rfl ?_
        have e : ps2 (cSB sh y n g4 j) (Int.toNat ((j : Int) * 8 + y)) n = cSB sh y n g4 (j + 1) := by show _ = (bif zb (Int32.ofInt sh) j then _ else _); rw [u2]; rfl
        rw [e]
        exact rn_up (by omega) (ih (j + 1) (by omega))
theorem c_shb1 (hAd : ARd b1 b2 b3) (hAs : ARs b4 b5 b6 b7) (hn : 0 ≤ mb ∧ mb ≤ 16) (hd : 0 ≤ d ∧ d ≤ 9) (hy : 0 ≤ y ∧ y ≤ 7) (hN : 1 ≤ n ∧ n ≤ 999) (hB : 0 ≤ bcF (cSS b4 b5 b6 mb re fl d y) ∧ bcF (cSS b4 b5 b6 mb re fl d y) ≤ 32) : sX2_shareBack [.ref 29, iv (d), iv (y), iv (n)] (cW ki ln bt rl cp cs ct cv 14 5 ja ea ma a1 a2 a3 a4 a5 a6 a7 a8 jb eb mb b1 b2 b3 b4 b5 b6 b7 b8 re fl g1 g2 g3 g4 g5 (dW rt la rs rg pd du ds me tt gr su gp mk rf m1 m2 m3 m4 m5 mr mf n1 n2 n3 n4 n5 nr nf E)) = some (none, (cW ki ln bt rl cp cs ct cv 14 5 ja ea ma a1 a2 a3 a4 a5 a6 a7 a8 jb eb mb b1 b2 b3 b4 b5 b6 b7 b8 re fl g1 g2 g3 (cSB (cSS b4 b5 b6 mb re fl d y) y (n / (bcF (cSS b4 b5 b6 mb re fl d y) + 1)) g4 8) g5 (dW rt la rs rg pd du ds me tt gr su gp mk rf m1 m2 m3 m4 m5 mr mf n1 n2 n3 n4 n5 nr nf E))) := by
  have main : ∀ Q : mm_R → Prop, Q (none, (cW ki ln bt rl cp cs ct cv 14 5 ja ea ma a1 a2 a3 a4 a5 a6 a7 a8 jb eb mb b1 b2 b3 b4 b5 b6 b7 b8 re fl g1 g2 g3 (cSB (cSS b4 b5 b6 mb re fl d y) y (n / (bcF (cSS b4 b5 b6 mb re fl d y) + 1)) g4 8) g5 (dW rt la rs rg pd du ds me tt gr su gp mk rf m1 m2 m3 m4 m5 mr mf n1 n2 n3 n4 n5 nr nf E))) → rn_X2_shareBack (20 + 40 * 8 + 40 + 100) (0, [(0, .ref 29), (1, iv (d)), (2, iv (y)), (3, iv (n))], [], (cW ki ln bt rl cp cs ct cv 14 5 ja ea ma a1 a2 a3 a4 a5 a6 a7 a8 jb eb mb b1 b2 b3 b4 b5 b6 b7 b8 re fl g1 g2 g3 g4 g5 (dW rt la rs rg pd du ds me tt gr su gp mk rf m1 m2 m3 m4 m5 mr mf n1 n2 n3 n4 n5 nr nf E))) Q := by
    intro Q hQ
    refine r_al rfl rfl ?_
    refine r_il rfl rfl ?_
    refine r_v2s rfl rfl xg_29 rfl (c_so1 hn (by omega)) ?_
    refine r_ic rfl ?_
    refine r_il rfl rfl ?_
    refine r_shl rfl ?_
    refine r_ic rfl ?_
    refine r_xor rfl ?_
    refine r_and rfl ?_
    show rn_X2_shareBack _ (11, [(0, .ref 29), (1, iv (d)), (2, iv (y)), (3, iv (n))], [iv (cSS b4 b5 b6 mb re fl d y)], (cW ki ln bt rl cp cs ct cv 14 5 ja ea ma a1 a2 a3 a4 a5 a6 a7 a8 jb eb mb b1 b2 b3 b4 b5 b6 b7 b8 re fl g1 g2 g3 g4 g5 (dW rt la rs rg pd du ds me tt gr su gp mk rf m1 m2 m3 m4 m5 mr mf n1 n2 n3 n4 n5 nr nf E))) Q
    refine r_isw (lv' := [(4, _), (0, _), (1, _), (2, _), (3, _)]) rfl rfl rfl ?_
    refine r_il rfl rfl ?_
    refine r_ilw rfl rfl ?_
    refine r_s1s rfl rfl rfl c_bitCount ?_
    refine r_ic rfl ?_
    refine r_add rfl ?_
    refine r_div rfl (by omega) (by omega) ?_
    refine r_isw (lv' := [(5, _), (4, _), (0, _), (1, _), (2, _), (3, _)]) rfl rfl rfl ?_
    refine r_ic rfl ?_
    refine r_isw (lv' := [(6, _), (5, _), (4, _), (0, _), (1, _), (2, _), (3, _)]) rfl rfl rfl ?_
    refine rn_LE (a := [(6, iv (0)), (4, iv (cSS b4 b5 b6 mb re fl d y)), (5, iv ((n) / ((bcF (cSS b4 b5 b6 mb re fl d y)) + (1)))), (0, .ref 29), (2, iv (y))]) ⟨(List.forall_mem_cons.mpr ⟨List.mem_cons_self, (List.forall_mem_cons.mpr ⟨(List.mem_cons_of_mem _ (List.mem_cons_of_mem _ List.mem_cons_self)), (List.forall_mem_cons.mpr ⟨(List.mem_cons_of_mem _ List.mem_cons_self), (List.forall_mem_cons.mpr ⟨(List.mem_cons_of_mem _ (List.mem_cons_of_mem _ (List.mem_cons_of_mem _ List.mem_cons_self))), (List.forall_mem_cons.mpr ⟨(List.mem_cons_of_mem _ (List.mem_cons_of_mem _ (List.mem_cons_of_mem _ (List.mem_cons_of_mem _ (List.mem_cons_of_mem _ List.mem_cons_self))))), (fun _ h => absurd h List.not_mem_nil)⟩)⟩)⟩)⟩)⟩), (by show List.Nodup [6, 4, 5, 0, 2]; decide), (by show List.Nodup [6, 5, 4, 0, 1, 2, 3]; decide)⟩ ?_
    refine rn_up (N := 20 + 40 * 8 + 40) (by decide) (shb_lp1 (N := 20) hy ?_ 8 0 rfl)
    exact r_retv rfl rfl hQ
  obtain ⟨r, h1, h2⟩ := rn_S (vs := [.ref 29, iv (d), iv (y), iv (n)]) (Q := fun r => r = (none, (cW ki ln bt rl cp cs ct cv 14 5 ja ea ma a1 a2 a3 a4 a5 a6 a7 a8 jb eb mb b1 b2 b3 b4 b5 b6 b7 b8 re fl g1 g2 g3 (cSB (cSS b4 b5 b6 mb re fl d y) y (n / (bcF (cSS b4 b5 b6 mb re fl d y) + 1)) g4 8) g5 (dW rt la rs rg pd du ds me tt gr su gp mk rf m1 m2 m3 m4 m5 mr mf n1 n2 n3 n4 n5 nr nf E)))) rfl (rn_up (N := 20 + 40 * 8 + 40 + 100) (M := mm_fuel) (by decide) (main (fun r => r = (none, (cW ki ln bt rl cp cs ct cv 14 5 ja ea ma a1 a2 a3 a4 a5 a6 a7 a8 jb eb mb b1 b2 b3 b4 b5 b6 b7 b8 re fl g1 g2 g3 (cSB (cSS b4 b5 b6 mb re fl d y) y (n / (bcF (cSS b4 b5 b6 mb re fl d y) + 1)) g4 8) g5 (dW rt la rs rg pd du ds me tt gr su gp mk rf m1 m2 m3 m4 m5 mr mf n1 n2 n3 n4 n5 nr nf E)))) rfl))
  have h1 : sX2_shareBack [.ref 29, iv (d), iv (y), iv (n)] (cW ki ln bt rl cp cs ct cv 14 5 ja ea ma a1 a2 a3 a4 a5 a6 a7 a8 jb eb mb b1 b2 b3 b4 b5 b6 b7 b8 re fl g1 g2 g3 g4 g5 (dW rt la rs rg pd du ds me tt gr su gp mk rf m1 m2 m3 m4 m5 mr mf n1 n2 n3 n4 n5 nr nf E)) = some r := h1
  rw [h1, h2]
theorem c_abs1 (hAd : ARd b1 b2 b3) (hAs : ARs b4 b5 b6 b7) (hn : 0 ≤ mb ∧ mb ≤ 16) (hi : 0 ≤ i ∧ i ≤ 15) (hN : 1 ≤ n ∧ n ≤ 999) (hB : 0 ≤ bcF (cSS b4 b5 b6 mb re fl (b5 (Int.toNat i)).toInt (b4 (Int.toNat i)).toInt) ∧ bcF (cSS b4 b5 b6 mb re fl (b5 (Int.toNat i)).toInt (b4 (Int.toNat i)).toInt) ≤ 32) : sX2_addBacks [.ref 29, iv (i), iv (n)] (cW ki ln bt rl cp cs ct cv 14 5 ja ea ma a1 a2 a3 a4 a5 a6 a7 a8 jb eb mb b1 b2 b3 b4 b5 b6 b7 b8 re fl g1 g2 g3 g4 g5 (dW rt la rs rg pd du ds me tt gr su gp mk rf m1 m2 m3 m4 m5 mr mf n1 n2 n3 n4 n5 nr nf E)) = some (none, (cW ki ln bt rl cp cs ct cv 14 5 ja ea ma a1 a2 a3 a4 a5 a6 a7 a8 jb eb mb b1 b2 b3 b4 b5 b6 b7 b8 re fl g1 g2 g3 (cAB b1 b4 b5 b6 b7 g4 mb re fl i n) g5 (dW rt la rs rg pd du ds me tt gr su gp mk rf m1 m2 m3 m4 m5 mr mf n1 n2 n3 n4 n5 nr nf E))) := by
  have main : ∀ Q : mm_R → Prop, Q (none, (cW ki ln bt rl cp cs ct cv 14 5 ja ea ma a1 a2 a3 a4 a5 a6 a7 a8 jb eb mb b1 b2 b3 b4 b5 b6 b7 b8 re fl g1 g2 g3 (cAB b1 b4 b5 b6 b7 g4 mb re fl i n) g5 (dW rt la rs rg pd du ds me tt gr su gp mk rf m1 m2 m3 m4 m5 mr mf n1 n2 n3 n4 n5 nr nf E))) → rn_X2_addBacks (1000) (0, [(0, .ref 29), (1, iv (i)), (2, iv (n))], [], (cW ki ln bt rl cp cs ct cv 14 5 ja ea ma a1 a2 a3 a4 a5 a6 a7 a8 jb eb mb b1 b2 b3 b4 b5 b6 b7 b8 re fl g1 g2 g3 g4 g5 (dW rt la rs rg pd du ds me tt gr su gp mk rf m1 m2 m3 m4 m5 mr mf n1 n2 n3 n4 n5 nr nf E))) Q := by
    intro Q hQ
    have rp := (ar4 hAs hi).1
    have rd := (ar4 hAs hi).2
    refine r_al rfl rfl ?_
    refine r_gf rfl rfl xg_29 rfl ?_
    refine r_gf rfl rfl xg_4 rfl ?_
    refine r_as (lv' := [(3, _), (0, _), (1, _), (2, _)]) rfl rfl rfl ?_
    refine r_al rfl rfl ?_
    refine r_gf rfl rfl xg_14 rfl ?_
    refine r_il rfl rfl ?_
    refine r_ia rfl xg_18 (by omega) (by omega) (by decide) ?_
    refine r_isw (lv' := [(4, _), (3, _), (0, _), (1, _), (2, _)]) rfl rfl rfl ?_
    refine r_al rfl rfl ?_
    refine r_gf rfl rfl xg_14 rfl ?_
    refine r_il rfl rfl ?_
    refine r_ia rfl xg_19 (by omega) (by omega) (by decide) ?_
    refine r_isw (lv' := [(5, _), (4, _), (3, _), (0, _), (1, _), (2, _)]) rfl rfl rfl ?_
    refine r_al rfl rfl ?_
    refine r_gf rfl rfl xg_14 rfl ?_
    refine r_il rfl rfl ?_
    refine r_ia rfl xg_20 (by omega) (by omega) (by decide) ?_
    refine r_ic rfl ?_
    refine r_cne rfl rfl (as_r _) (by decide) (fun u1 => ?_) (fun u1 => ?_)
    · refine r_al rfl rfl ?_
      refine r_gf rfl rfl xg_29 rfl ?_
      refine r_al rfl rfl ?_
      refine r_gf rfl rfl xg_14 rfl ?_
      refine r_ilw rfl rfl ?_
      refine r_ia rfl xg_15 (by omega) (by omega) (by decide) ?_
      refine r_v2s rfl rfl xg_4 rfl (c_isFalC1 (ar1 hAd rd).1) ?_
      refine r_zeq rfl rfl (bi_r _) (fun u2 => ?_) (fun u2 => ?_)
      · have e : (cAB b1 b4 b5 b6 b7 g4 mb re fl i n) = ps2 g4 (Int.toNat ((b1 (Int.toNat (b5 (Int.toNat i)).toInt)).toInt * 8 + (b4 (Int.toNat i)).toInt)) n := by unfold cAB; rw [decide_eq_false u1, bi_0 u2]; rfl
        rw [e] at hQ
        refine r_al rfl rfl ?_
        refine r_al rfl rfl ?_
        refine r_gf rfl rfl xg_14 rfl ?_
        refine r_ilw rfl rfl ?_
        refine r_ia rfl xg_15 (by omega) (by omega) (by decide) ?_
        refine r_ilw rfl rfl ?_
        refine r_il rfl rfl ?_
        refine r_v4n rfl rfl xg_29 rfl (c_addBack (ar1 hAd rd).1 rp) ?_
        exact r_retv rfl rfl hQ
      · have e : (cAB b1 b4 b5 b6 b7 g4 mb re fl i n) = cSB (cSS b4 b5 b6 mb re fl (b5 (Int.toNat i)).toInt (b4 (Int.toNat i)).toInt) (b4 (Int.toNat i)).toInt (n / (bcF (cSS b4 b5 b6 mb re fl (b5 (Int.toNat i)).toInt (b4 (Int.toNat i)).toInt) + 1)) g4 8 := by unfold cAB; rw [decide_eq_false u1, bi_1 u2]; rfl
        rw [e] at hQ
        refine r_al rfl rfl ?_
        refine r_ilw rfl rfl ?_
        refine r_ilw rfl rfl ?_
        refine r_il rfl rfl ?_
        refine r_v4n rfl rfl xg_29 rfl (c_shb1 hAd hAs hn rd rp hN hB) ?_
        refine r_goto rfl rfl ?_
        exact r_retv rfl rfl hQ
    · refine r_al rfl rfl ?_
      refine r_gf rfl rfl xg_14 rfl ?_
      refine r_il rfl rfl ?_
      refine r_ia rfl xg_21 (by omega) (by omega) (by decide) ?_
      refine r_isw (lv' := [(6, _), (5, _), (4, _), (3, _), (0, _), (1, _), (2, _)]) rfl rfl rfl ?_
      refine r_al rfl rfl ?_
      refine r_gf rfl rfl xg_29 rfl ?_
      refine r_ilw rfl rfl ?_
      refine r_v2s rfl rfl xg_4 rfl (c_isStandC1 (as_r _) hn) ?_
      refine r_zeq rfl rfl (bi_r _) (fun u2 => ?_) (fun u2 => ?_)
      · have e : (cAB b1 b4 b5 b6 b7 g4 mb re fl i n) = g4 := by unfold cAB; rw [decide_eq_true u1, bi_0 u2]; rfl
        rw [e] at hQ
        refine r_goto rfl rfl ?_
        exact r_retv rfl rfl hQ
      · have u2 := bi_1 u2
        have ru := i3_t u2
        have e : (cAB b1 b4 b5 b6 b7 g4 mb re fl i n) = ps2 g4 (Int.toNat ((b4 (Int.toNat (b7 (Int.toNat i)).toInt)).toInt * 8 + (b4 (Int.toNat i)).toInt)) n := by unfold cAB; rw [decide_eq_true u1, u2]; rfl
        rw [e] at hQ
        refine r_al rfl rfl ?_
        refine r_al rfl rfl ?_
        refine r_gf rfl rfl xg_14 rfl ?_
        refine r_ilw rfl rfl ?_
        refine r_ia rfl xg_18 (by omega) (by omega) (by decide) ?_
        refine r_ilw rfl rfl ?_
        refine r_il rfl rfl ?_
        refine r_v4n rfl rfl xg_29 rfl (c_addBack (ar4 hAs (by omega)).1 rp) ?_
        refine r_goto rfl rfl ?_
        exact r_retv rfl rfl hQ
  obtain ⟨r, h1, h2⟩ := rn_S (vs := [.ref 29, iv (i), iv (n)]) (Q := fun r => r = (none, (cW ki ln bt rl cp cs ct cv 14 5 ja ea ma a1 a2 a3 a4 a5 a6 a7 a8 jb eb mb b1 b2 b3 b4 b5 b6 b7 b8 re fl g1 g2 g3 (cAB b1 b4 b5 b6 b7 g4 mb re fl i n) g5 (dW rt la rs rg pd du ds me tt gr su gp mk rf m1 m2 m3 m4 m5 mr mf n1 n2 n3 n4 n5 nr nf E)))) rfl (rn_up (N := 1000) (M := mm_fuel) (by decide) (main (fun r => r = (none, (cW ki ln bt rl cp cs ct cv 14 5 ja ea ma a1 a2 a3 a4 a5 a6 a7 a8 jb eb mb b1 b2 b3 b4 b5 b6 b7 b8 re fl g1 g2 g3 (cAB b1 b4 b5 b6 b7 g4 mb re fl i n) g5 (dW rt la rs rg pd du ds me tt gr su gp mk rf m1 m2 m3 m4 m5 mr mf n1 n2 n3 n4 n5 nr nf E)))) rfl))
  have h1 : sX2_addBacks [.ref 29, iv (i), iv (n)] (cW ki ln bt rl cp cs ct cv 14 5 ja ea ma a1 a2 a3 a4 a5 a6 a7 a8 jb eb mb b1 b2 b3 b4 b5 b6 b7 b8 re fl g1 g2 g3 g4 g5 (dW rt la rs rg pd du ds me tt gr su gp mk rf m1 m2 m3 m4 m5 mr mf n1 n2 n3 n4 n5 nr nf E)) = some r := h1
  rw [h1, h2]
theorem c_pbs1_0 (hAd : ARd b1 b2 b3) (hAs : ARs b4 b5 b6 b7) (hn : 0 ≤ mb ∧ mb ≤ 16) (h5 : ∀ p : Nat, p < 8 → 0 ≤ (g5 p).toInt ∧ (g5 p).toInt ≤ 9999) (hi : 0 ≤ i ∧ i ≤ 15) (hN : 1 ≤ n ∧ n ≤ 999) (hB : 0 ≤ bcF (cSS b4 b5 b6 mb re fl (b5 (Int.toNat i)).toInt (b4 (Int.toNat i)).toInt) ∧ bcF (cSS b4 b5 b6 mb re fl (b5 (Int.toNat i)).toInt (b4 (Int.toNat i)).toInt) ≤ 32) (hv : cMV b2 g5 (b4 (Int.toNat i)).toInt (b5 (Int.toNat i)).toInt n (nrm (cAS b1 b3 b4 b5 b6 b7 g1 g2 g3 mb re fl i)) = false) : sX2_payByStanding [.ref 29, iv (i), iv (n)] (cW ki ln bt rl cp cs ct cv 14 5 ja ea ma a1 a2 a3 a4 a5 a6 a7 a8 jb eb mb b1 b2 b3 b4 b5 b6 b7 b8 re fl g1 g2 g3 g4 g5 (dW rt la rs rg pd du ds me tt gr su gp mk rf m1 m2 m3 m4 m5 mr mf n1 n2 n3 n4 n5 nr nf E)) = some (some (iv (-2)), (cW ki ln bt rl cp cs ct cv 14 5 ja ea ma a1 a2 a3 a4 a5 a6 a7 a8 jb eb mb b1 b2 b3 b4 b5 b6 b7 b8 re fl g1 g2 g3 g4 g5 (dW rt la rs rg pd du ds me tt gr su gp mk rf m1 m2 m3 m4 m5 mr mf n1 n2 n3 n4 n5 nr nf E))) := by
  have main : ∀ Q : mm_R → Prop, Q (some (iv (-2)), (cW ki ln bt rl cp cs ct cv 14 5 ja ea ma a1 a2 a3 a4 a5 a6 a7 a8 jb eb mb b1 b2 b3 b4 b5 b6 b7 b8 re fl g1 g2 g3 g4 g5 (dW rt la rs rg pd du ds me tt gr su gp mk rf m1 m2 m3 m4 m5 mr mf n1 n2 n3 n4 n5 nr nf E))) → rn_X2_payByStanding (1000) (0, [(0, .ref 29), (1, iv (i)), (2, iv (n))], [], (cW ki ln bt rl cp cs ct cv 14 5 ja ea ma a1 a2 a3 a4 a5 a6 a7 a8 jb eb mb b1 b2 b3 b4 b5 b6 b7 b8 re fl g1 g2 g3 g4 g5 (dW rt la rs rg pd du ds me tt gr su gp mk rf m1 m2 m3 m4 m5 mr mf n1 n2 n3 n4 n5 nr nf E))) Q := by
    intro Q hQ
    have rp := (ar4 hAs hi).1
    have rd := (ar4 hAs hi).2
    refine r_al rfl rfl ?_
    refine r_gf rfl rfl xg_29 rfl ?_
    refine r_gf rfl rfl xg_4 rfl ?_
    refine r_gf rfl rfl xg_14 rfl ?_
    refine r_il rfl rfl ?_
    refine r_ia rfl xg_19 (by omega) (by omega) (by decide) ?_
    refine r_is (lv' := [(3, _), (0, _), (1, _), (2, _)]) rfl rfl rfl ?_
    refine r_al rfl rfl ?_
    refine r_al rfl rfl ?_
    refine r_gf rfl rfl xg_29 rfl ?_
    refine r_gf rfl rfl xg_4 rfl ?_
    refine r_gf rfl rfl xg_14 rfl ?_
    refine r_il rfl rfl ?_
    refine r_ia rfl xg_18 (by omega) (by omega) (by decide) ?_
    refine r_il rfl rfl ?_
    refine r_il rfl rfl ?_
    refine r_al rfl rfl ?_
    refine r_gf rfl rfl xg_29 rfl ?_
    refine r_il rfl rfl ?_
    refine r_v2s rfl rfl xg_4 rfl (c_asC1 hAd hAs hn hi) ?_
    refine r_nrm ?_
    refine r_v5s rfl rfl xg_29 rfl (c_mv1_0 hAd hAs hn h5 rp rd hN (nrm_r _) hv) ?_
    refine r_zne rfl rfl (by decide) (fun u1 => ?_) (fun u1 => ?_)
    · exact absurd rfl u1
    · refine r_bi rfl (by decide) ?_
      exact r_ret rfl rfl hQ
  obtain ⟨r, h1, h2⟩ := rn_S (vs := [.ref 29, iv (i), iv (n)]) (Q := fun r => r = (some (iv (-2)), (cW ki ln bt rl cp cs ct cv 14 5 ja ea ma a1 a2 a3 a4 a5 a6 a7 a8 jb eb mb b1 b2 b3 b4 b5 b6 b7 b8 re fl g1 g2 g3 g4 g5 (dW rt la rs rg pd du ds me tt gr su gp mk rf m1 m2 m3 m4 m5 mr mf n1 n2 n3 n4 n5 nr nf E)))) rfl (rn_up (N := 1000) (M := mm_fuel) (by decide) (main (fun r => r = (some (iv (-2)), (cW ki ln bt rl cp cs ct cv 14 5 ja ea ma a1 a2 a3 a4 a5 a6 a7 a8 jb eb mb b1 b2 b3 b4 b5 b6 b7 b8 re fl g1 g2 g3 g4 g5 (dW rt la rs rg pd du ds me tt gr su gp mk rf m1 m2 m3 m4 m5 mr mf n1 n2 n3 n4 n5 nr nf E)))) rfl))
  have h1 : sX2_payByStanding [.ref 29, iv (i), iv (n)] (cW ki ln bt rl cp cs ct cv 14 5 ja ea ma a1 a2 a3 a4 a5 a6 a7 a8 jb eb mb b1 b2 b3 b4 b5 b6 b7 b8 re fl g1 g2 g3 g4 g5 (dW rt la rs rg pd du ds me tt gr su gp mk rf m1 m2 m3 m4 m5 mr mf n1 n2 n3 n4 n5 nr nf E)) = some r := h1
  rw [h1, h2]
theorem c_pbs1_1 (hAd : ARd b1 b2 b3) (hAs : ARs b4 b5 b6 b7) (hn : 0 ≤ mb ∧ mb ≤ 16) (h5 : ∀ p : Nat, p < 8 → 0 ≤ (g5 p).toInt ∧ (g5 p).toInt ≤ 9999) (hi : 0 ≤ i ∧ i ≤ 15) (hN : 1 ≤ n ∧ n ≤ 999) (hB : 0 ≤ bcF (cSS b4 b5 b6 mb re fl (b5 (Int.toNat i)).toInt (b4 (Int.toNat i)).toInt) ∧ bcF (cSS b4 b5 b6 mb re fl (b5 (Int.toNat i)).toInt (b4 (Int.toNat i)).toInt) ≤ 32) (hv : cMV b2 g5 (b4 (Int.toNat i)).toInt (b5 (Int.toNat i)).toInt n (nrm (cAS b1 b3 b4 b5 b6 b7 g1 g2 g3 mb re fl i)) = true) : sX2_payByStanding [.ref 29, iv (i), iv (n)] (cW ki ln bt rl cp cs ct cv 14 5 ja ea ma a1 a2 a3 a4 a5 a6 a7 a8 jb eb mb b1 b2 b3 b4 b5 b6 b7 b8 re fl g1 g2 g3 g4 g5 (dW rt la rs rg pd du ds me tt gr su gp mk rf m1 m2 m3 m4 m5 mr mf n1 n2 n3 n4 n5 nr nf E)) = some (some (iv (cR b3 (ps2 g1 (Int.toNat (b5 (Int.toNat i)).toInt) n) (b5 (Int.toNat i)).toInt)), (cW ki ln bt rl cp cs ct cv 14 5 ja ea ma a1 a2 a3 a4 a5 a6 a7 a8 jb eb mb b1 b2 b3 b4 b5 b6 b7 b8 re fl (ps2 g1 (Int.toNat (b5 (Int.toNat i)).toInt) n) (ps2 g2 (Int.toNat i) n) g3 (cAB b1 b4 b5 b6 b7 g4 mb re fl i n) (ps2 (ps1 g5 (Int.toNat (b4 (Int.toNat i)).toInt) n) (Int.toNat (b2 (Int.toNat (b5 (Int.toNat i)).toInt)).toInt) n) (dW rt la rs rg pd du ds me tt gr su gp mk rf m1 m2 m3 m4 m5 mr mf n1 n2 n3 n4 n5 nr nf E))) := by
  have main : ∀ Q : mm_R → Prop, Q (some (iv (cR b3 (ps2 g1 (Int.toNat (b5 (Int.toNat i)).toInt) n) (b5 (Int.toNat i)).toInt)), (cW ki ln bt rl cp cs ct cv 14 5 ja ea ma a1 a2 a3 a4 a5 a6 a7 a8 jb eb mb b1 b2 b3 b4 b5 b6 b7 b8 re fl (ps2 g1 (Int.toNat (b5 (Int.toNat i)).toInt) n) (ps2 g2 (Int.toNat i) n) g3 (cAB b1 b4 b5 b6 b7 g4 mb re fl i n) (ps2 (ps1 g5 (Int.toNat (b4 (Int.toNat i)).toInt) n) (Int.toNat (b2 (Int.toNat (b5 (Int.toNat i)).toInt)).toInt) n) (dW rt la rs rg pd du ds me tt gr su gp mk rf m1 m2 m3 m4 m5 mr mf n1 n2 n3 n4 n5 nr nf E))) → rn_X2_payByStanding (1000) (0, [(0, .ref 29), (1, iv (i)), (2, iv (n))], [], (cW ki ln bt rl cp cs ct cv 14 5 ja ea ma a1 a2 a3 a4 a5 a6 a7 a8 jb eb mb b1 b2 b3 b4 b5 b6 b7 b8 re fl g1 g2 g3 g4 g5 (dW rt la rs rg pd du ds me tt gr su gp mk rf m1 m2 m3 m4 m5 mr mf n1 n2 n3 n4 n5 nr nf E))) Q := by
    intro Q hQ
    have rp := (ar4 hAs hi).1
    have rd := (ar4 hAs hi).2
    refine r_al rfl rfl ?_
    refine r_gf rfl rfl xg_29 rfl ?_
    refine r_gf rfl rfl xg_4 rfl ?_
    refine r_gf rfl rfl xg_14 rfl ?_
    refine r_il rfl rfl ?_
    refine r_ia rfl xg_19 (by omega) (by omega) (by decide) ?_
    refine r_is (lv' := [(3, _), (0, _), (1, _), (2, _)]) rfl rfl rfl ?_
    refine r_al rfl rfl ?_
    refine r_al rfl rfl ?_
    refine r_gf rfl rfl xg_29 rfl ?_
    refine r_gf rfl rfl xg_4 rfl ?_
    refine r_gf rfl rfl xg_14 rfl ?_
    refine r_il rfl rfl ?_
    refine r_ia rfl xg_18 (by omega) (by omega) (by decide) ?_
    refine r_il rfl rfl ?_
    refine r_il rfl rfl ?_
    refine r_al rfl rfl ?_
    refine r_gf rfl rfl xg_29 rfl ?_
    refine r_il rfl rfl ?_
    refine r_v2s rfl rfl xg_4 rfl (c_asC1 hAd hAs hn hi) ?_
    refine r_nrm ?_
    refine r_v5s rfl rfl xg_29 rfl (c_mv1_1 hAd hAs hn h5 rp rd hN (nrm_r _) hv) ?_
    refine r_zne rfl rfl (by decide) (fun u1 => ?_) (fun u1 => ?_)
    · refine r_al rfl rfl ?_
      refine r_gf rfl rfl xg_29 rfl ?_
      refine r_gf rfl rfl xg_4 rfl ?_
      refine r_gf rfl rfl xg_23 rfl ?_
      refine r_il rfl rfl ?_
      refine r_dup2 rfl rfl rfl ?_
      refine r_ia rfl xg_25 (by omega) (by omega) (by decide) ?_
      refine r_il rfl rfl ?_
      refine r_add rfl ?_
      refine r_ias rfl xg_25 (by omega) (by omega) (by decide) xs_25 ?_
      refine r_al rfl rfl ?_
      refine r_il rfl rfl ?_
      refine r_il rfl rfl ?_
      refine r_v3n rfl rfl xg_29 rfl (c_abs1 hAd hAs hn hi hN hB) ?_
      refine r_al rfl rfl ?_
      refine r_gf rfl rfl xg_29 rfl ?_
      refine r_il rfl rfl ?_
      refine r_v2s rfl rfl xg_4 rfl (c_restC1 rd) ?_
      exact r_ret rfl rfl hQ
    · exact absurd u1 (by decide)
  obtain ⟨r, h1, h2⟩ := rn_S (vs := [.ref 29, iv (i), iv (n)]) (Q := fun r => r = (some (iv (cR b3 (ps2 g1 (Int.toNat (b5 (Int.toNat i)).toInt) n) (b5 (Int.toNat i)).toInt)), (cW ki ln bt rl cp cs ct cv 14 5 ja ea ma a1 a2 a3 a4 a5 a6 a7 a8 jb eb mb b1 b2 b3 b4 b5 b6 b7 b8 re fl (ps2 g1 (Int.toNat (b5 (Int.toNat i)).toInt) n) (ps2 g2 (Int.toNat i) n) g3 (cAB b1 b4 b5 b6 b7 g4 mb re fl i n) (ps2 (ps1 g5 (Int.toNat (b4 (Int.toNat i)).toInt) n) (Int.toNat (b2 (Int.toNat (b5 (Int.toNat i)).toInt)).toInt) n) (dW rt la rs rg pd du ds me tt gr su gp mk rf m1 m2 m3 m4 m5 mr mf n1 n2 n3 n4 n5 nr nf E)))) rfl (rn_up (N := 1000) (M := mm_fuel) (by decide) (main (fun r => r = (some (iv (cR b3 (ps2 g1 (Int.toNat (b5 (Int.toNat i)).toInt) n) (b5 (Int.toNat i)).toInt)), (cW ki ln bt rl cp cs ct cv 14 5 ja ea ma a1 a2 a3 a4 a5 a6 a7 a8 jb eb mb b1 b2 b3 b4 b5 b6 b7 b8 re fl (ps2 g1 (Int.toNat (b5 (Int.toNat i)).toInt) n) (ps2 g2 (Int.toNat i) n) g3 (cAB b1 b4 b5 b6 b7 g4 mb re fl i n) (ps2 (ps1 g5 (Int.toNat (b4 (Int.toNat i)).toInt) n) (Int.toNat (b2 (Int.toNat (b5 (Int.toNat i)).toInt)).toInt) n) (dW rt la rs rg pd du ds me tt gr su gp mk rf m1 m2 m3 m4 m5 mr mf n1 n2 n3 n4 n5 nr nf E)))) rfl))
  have h1 : sX2_payByStanding [.ref 29, iv (i), iv (n)] (cW ki ln bt rl cp cs ct cv 14 5 ja ea ma a1 a2 a3 a4 a5 a6 a7 a8 jb eb mb b1 b2 b3 b4 b5 b6 b7 b8 re fl g1 g2 g3 g4 g5 (dW rt la rs rg pd du ds me tt gr su gp mk rf m1 m2 m3 m4 m5 mr mf n1 n2 n3 n4 n5 nr nf E)) = some r := h1
  rw [h1, h2]
theorem c_isPay1 (hk : -2147483648 ≤ k ∧ k ≤ 2147483647) (ha : -2147483648 ≤ a ∧ a ≤ 2147483647) (hd : 0 ≤ eb ∧ eb ≤ 10) (hn : 0 ≤ mb ∧ mb ≤ 16) : sX11_isPayable [.ref 0, iv (k), iv (a)] (cW ki ln bt rl cp cs ct cv 14 5 ja ea ma a1 a2 a3 a4 a5 a6 a7 a8 jb eb mb b1 b2 b3 b4 b5 b6 b7 b8 re fl g1 g2 g3 g4 g5 (dW rt la rs rg pd du ds me tt gr su gp mk rf m1 m2 m3 m4 m5 mr mf n1 n2 n3 n4 n5 nr nf E)) = some (some (iv (bi (fTH eb mb k a))), (cW ki ln bt rl cp cs ct cv 14 5 ja ea ma a1 a2 a3 a4 a5 a6 a7 a8 jb eb mb b1 b2 b3 b4 b5 b6 b7 b8 re fl g1 g2 g3 g4 g5 (dW rt la rs rg pd du ds me tt gr su gp mk rf m1 m2 m3 m4 m5 mr mf n1 n2 n3 n4 n5 nr nf E))) := by
  have main : ∀ Q : mm_R → Prop, Q (some (iv (bi (fTH eb mb k a))), (cW ki ln bt rl cp cs ct cv 14 5 ja ea ma a1 a2 a3 a4 a5 a6 a7 a8 jb eb mb b1 b2 b3 b4 b5 b6 b7 b8 re fl g1 g2 g3 g4 g5 (dW rt la rs rg pd du ds me tt gr su gp mk rf m1 m2 m3 m4 m5 mr mf n1 n2 n3 n4 n5 nr nf E))) → rn_X11_isPayable (1000) (0, [(0, .ref 0), (1, iv (k)), (2, iv (a))], [], (cW ki ln bt rl cp cs ct cv 14 5 ja ea ma a1 a2 a3 a4 a5 a6 a7 a8 jb eb mb b1 b2 b3 b4 b5 b6 b7 b8 re fl g1 g2 g3 g4 g5 (dW rt la rs rg pd du ds me tt gr su gp mk rf m1 m2 m3 m4 m5 mr mf n1 n2 n3 n4 n5 nr nf E))) Q := by
    intro Q hQ
    refine r_il rfl rfl ?_
    refine r_ic rfl ?_
    refine r_cne rfl rfl (by omega) (by omega) (fun u1 => ?_) (fun u1 => ?_)
    · refine r_il rfl rfl ?_
      refine r_zne rfl rfl (by omega) (fun u2 => ?_) (fun u2 => ?_)
      · have e : fTH eb mb k a = false := by unfold fTH; rw [show i3 k 0 1 = false by simp [i3]; omega]; rfl
        rw [e] at hQ
        refine r_ic rfl ?_
        exact r_retb rfl rfl (by omega) hQ
      · refine r_al rfl rfl ?_
        refine r_gf rfl rfl xg_0 rfl ?_
        refine r_il rfl rfl ?_
        refine r_v2s rfl rfl xg_4 rfl (c_isDebtC1 ha (by omega)) ?_
        refine r_zeq rfl rfl (bi_r _) (fun u3 => ?_) (fun u3 => ?_)
        · have e : fTH eb mb k a = false := by unfold fTH; rw [show i3 k 0 1 = true by rw [u2]; decide, decide_eq_false u1, bi_0 u3]; rfl
          rw [e] at hQ
          refine r_ic rfl ?_
          exact r_retb rfl rfl (by omega) hQ
        · have e : fTH eb mb k a = true := by unfold fTH; rw [show i3 k 0 1 = true by rw [u2]; decide, decide_eq_false u1, bi_1 u3]; rfl
          rw [e] at hQ
          refine r_ic rfl ?_
          refine r_goto rfl rfl ?_
          exact r_retb rfl rfl (by omega) hQ
    · have e : fTH eb mb k a = i3 a 0 (mb - 1) := by unfold fTH; rw [show i3 k 0 1 = true by rw [u1]; decide, decide_eq_true u1]; rfl
      rw [e] at hQ
      refine r_al rfl rfl ?_
      refine r_gf rfl rfl xg_0 rfl ?_
      refine r_il rfl rfl ?_
      refine r_v2s rfl rfl xg_4 rfl (c_isStandC1 ha hn) ?_
      refine r_goto rfl rfl ?_
      exact r_retb rfl rfl (bi_01 _) hQ
  obtain ⟨r, h1, h2⟩ := rn_S (vs := [.ref 0, iv (k), iv (a)]) (Q := fun r => r = (some (iv (bi (fTH eb mb k a))), (cW ki ln bt rl cp cs ct cv 14 5 ja ea ma a1 a2 a3 a4 a5 a6 a7 a8 jb eb mb b1 b2 b3 b4 b5 b6 b7 b8 re fl g1 g2 g3 g4 g5 (dW rt la rs rg pd du ds me tt gr su gp mk rf m1 m2 m3 m4 m5 mr mf n1 n2 n3 n4 n5 nr nf E)))) rfl (rn_up (N := 1000) (M := mm_fuel) (by decide) (main (fun r => r = (some (iv (bi (fTH eb mb k a))), (cW ki ln bt rl cp cs ct cv 14 5 ja ea ma a1 a2 a3 a4 a5 a6 a7 a8 jb eb mb b1 b2 b3 b4 b5 b6 b7 b8 re fl g1 g2 g3 g4 g5 (dW rt la rs rg pd du ds me tt gr su gp mk rf m1 m2 m3 m4 m5 mr mf n1 n2 n3 n4 n5 nr nf E)))) rfl))
  have h1 : sX11_isPayable [.ref 0, iv (k), iv (a)] (cW ki ln bt rl cp cs ct cv 14 5 ja ea ma a1 a2 a3 a4 a5 a6 a7 a8 jb eb mb b1 b2 b3 b4 b5 b6 b7 b8 re fl g1 g2 g3 g4 g5 (dW rt la rs rg pd du ds me tt gr su gp mk rf m1 m2 m3 m4 m5 mr mf n1 n2 n3 n4 n5 nr nf E)) = some r := h1
  rw [h1, h2]
theorem c_payB1 (hk : -2147483648 ≤ k ∧ k ≤ 2147483647) (ha : -2147483648 ≤ a ∧ a ≤ 2147483647) (hN2 : -2147483648 ≤ n ∧ n ≤ 2147483647) (hdb : 0 ≤ eb ∧ eb ≤ 10) (hn : 0 ≤ mb ∧ mb ≤ 16) (hb : (fTH eb mb k a && i3 n 1 999) = false) : sX11_pay [.ref 0, iv (k), iv (a), iv (n)] (cW ki ln bt rl cp cs ct cv 14 5 ja ea ma a1 a2 a3 a4 a5 a6 a7 a8 jb eb mb b1 b2 b3 b4 b5 b6 b7 b8 re fl g1 g2 g3 g4 g5 (dW rt la rs rg pd du ds me tt gr su gp mk rf m1 m2 m3 m4 m5 mr mf n1 n2 n3 n4 n5 nr nf E)) = some (some (iv (-1)), (cW ki ln bt rl cp cs ct cv 14 5 ja ea ma a1 a2 a3 a4 a5 a6 a7 a8 jb eb mb b1 b2 b3 b4 b5 b6 b7 b8 re fl g1 g2 g3 g4 g5 (dW rt la rs rg pd du ds me tt gr su gp mk rf m1 m2 m3 m4 m5 mr mf n1 n2 n3 n4 n5 nr nf E))) := by
  have main : ∀ Q : mm_R → Prop, Q (some (iv (-1)), (cW ki ln bt rl cp cs ct cv 14 5 ja ea ma a1 a2 a3 a4 a5 a6 a7 a8 jb eb mb b1 b2 b3 b4 b5 b6 b7 b8 re fl g1 g2 g3 g4 g5 (dW rt la rs rg pd du ds me tt gr su gp mk rf m1 m2 m3 m4 m5 mr mf n1 n2 n3 n4 n5 nr nf E))) → rn_X11_pay (1000) (0, [(0, .ref 0), (1, iv (k)), (2, iv (a)), (3, iv (n))], [], (cW ki ln bt rl cp cs ct cv 14 5 ja ea ma a1 a2 a3 a4 a5 a6 a7 a8 jb eb mb b1 b2 b3 b4 b5 b6 b7 b8 re fl g1 g2 g3 g4 g5 (dW rt la rs rg pd du ds me tt gr su gp mk rf m1 m2 m3 m4 m5 mr mf n1 n2 n3 n4 n5 nr nf E))) Q := by
    intro Q hQ
    refine r_al rfl rfl ?_
    refine r_il rfl rfl ?_
    refine r_il rfl rfl ?_
    refine r_v3s rfl rfl xg_0 rfl (c_isPay1 hk ha hdb hn) ?_
    refine r_zeq rfl rfl (bi_r _) (fun u1 => ?_) (fun u1 => ?_)
    · refine r_ic rfl ?_
      exact r_ret rfl rfl hQ
    · refine r_il rfl rfl ?_
      refine r_ic rfl ?_
      refine r_clt rfl rfl (by omega) (by omega) (fun u2 => ?_) (fun u2 => ?_)
      · refine r_ic rfl ?_
        exact r_ret rfl rfl hQ
      · refine r_il rfl rfl ?_
        refine r_si rfl (by decide) ?_
        refine r_cle rfl rfl (by omega) (by omega) (fun u3 => ?_) (fun u3 => ?_)
        · have e : i3 n 1 999 = true := by simp [i3]; omega
          rw [bi_1 u1, e] at hb
          cases hb
        · refine r_ic rfl ?_
          exact r_ret rfl rfl hQ
  obtain ⟨r, h1, h2⟩ := rn_S (vs := [.ref 0, iv (k), iv (a), iv (n)]) (Q := fun r => r = (some (iv (-1)), (cW ki ln bt rl cp cs ct cv 14 5 ja ea ma a1 a2 a3 a4 a5 a6 a7 a8 jb eb mb b1 b2 b3 b4 b5 b6 b7 b8 re fl g1 g2 g3 g4 g5 (dW rt la rs rg pd du ds me tt gr su gp mk rf m1 m2 m3 m4 m5 mr mf n1 n2 n3 n4 n5 nr nf E)))) rfl (rn_up (N := 1000) (M := mm_fuel) (by decide) (main (fun r => r = (some (iv (-1)), (cW ki ln bt rl cp cs ct cv 14 5 ja ea ma a1 a2 a3 a4 a5 a6 a7 a8 jb eb mb b1 b2 b3 b4 b5 b6 b7 b8 re fl g1 g2 g3 g4 g5 (dW rt la rs rg pd du ds me tt gr su gp mk rf m1 m2 m3 m4 m5 mr mf n1 n2 n3 n4 n5 nr nf E)))) rfl))
  have h1 : sX11_pay [.ref 0, iv (k), iv (a), iv (n)] (cW ki ln bt rl cp cs ct cv 14 5 ja ea ma a1 a2 a3 a4 a5 a6 a7 a8 jb eb mb b1 b2 b3 b4 b5 b6 b7 b8 re fl g1 g2 g3 g4 g5 (dW rt la rs rg pd du ds me tt gr su gp mk rf m1 m2 m3 m4 m5 mr mf n1 n2 n3 n4 n5 nr nf E)) = some r := h1
  rw [h1, h2]
theorem c_payG1_00 (hAd : ARd b1 b2 b3) (hAs : ARs b4 b5 b6 b7) (hn : 0 ≤ mb ∧ mb ≤ 16) (h5 : ∀ p : Nat, p < 8 → 0 ≤ (g5 p).toInt ∧ (g5 p).toInt ≤ 9999) (hdb : 0 ≤ eb ∧ eb ≤ 10) (hr : 0 ≤ a ∧ a ≤ 9) (hN : 1 ≤ n ∧ n ≤ 999)  (ht : fTH eb mb 0 a = true) (hv : cMV b2 g5 (b1 (Int.toNat a)).toInt a n (nrm (cAD b1 b3 g1 fl a)) = false) : sX11_pay [.ref 0, iv (0), iv (a), iv (n)] (cW ki ln bt rl cp cs ct cv 14 5 ja ea ma a1 a2 a3 a4 a5 a6 a7 a8 jb eb mb b1 b2 b3 b4 b5 b6 b7 b8 re fl g1 g2 g3 g4 g5 (dW rt la rs rg pd du ds me tt gr su gp mk rf m1 m2 m3 m4 m5 mr mf n1 n2 n3 n4 n5 nr nf E)) = some (some (iv (-2)), (cW ki ln bt rl cp cs ct cv 14 5 ja ea ma a1 a2 a3 a4 a5 a6 a7 a8 jb eb mb b1 b2 b3 b4 b5 b6 b7 b8 re fl g1 g2 g3 g4 g5 (dW rt la rs rg pd du ds me tt gr su gp mk rf m1 m2 m3 m4 m5 mr mf n1 n2 n3 n4 n5 nr nf E))) := by
  have main : ∀ Q : mm_R → Prop, Q (some (iv (-2)), (cW ki ln bt rl cp cs ct cv 14 5 ja ea ma a1 a2 a3 a4 a5 a6 a7 a8 jb eb mb b1 b2 b3 b4 b5 b6 b7 b8 re fl g1 g2 g3 g4 g5 (dW rt la rs rg pd du ds me tt gr su gp mk rf m1 m2 m3 m4 m5 mr mf n1 n2 n3 n4 n5 nr nf E))) → rn_X11_pay (1000) (0, [(0, .ref 0), (1, iv (0)), (2, iv (a)), (3, iv (n))], [], (cW ki ln bt rl cp cs ct cv 14 5 ja ea ma a1 a2 a3 a4 a5 a6 a7 a8 jb eb mb b1 b2 b3 b4 b5 b6 b7 b8 re fl g1 g2 g3 g4 g5 (dW rt la rs rg pd du ds me tt gr su gp mk rf m1 m2 m3 m4 m5 mr mf n1 n2 n3 n4 n5 nr nf E))) Q := by
    intro Q hQ
    refine r_al rfl rfl ?_
    refine r_il rfl rfl ?_
    refine r_il rfl rfl ?_
    refine r_v3s rfl rfl xg_0 rfl (c_isPay1 (by decide) (by omega) hdb hn) ?_
    rw [ht]
    refine r_zeq rfl rfl (bi_r _) (fun u1 => ?_) (fun u1 => ?_)
    · exact absurd u1 (by decide)
    · refine r_il rfl rfl ?_
      refine r_ic rfl ?_
      refine r_clt rfl rfl (by omega) (by omega) (fun u2 => ?_) (fun u2 => ?_)
      · omega
      · refine r_il rfl rfl ?_
        refine r_si rfl (by decide) ?_
        refine r_cle rfl rfl (by omega) (by omega) (fun u3 => ?_) (fun u3 => ?_)
        · refine r_il rfl rfl ?_
          refine r_ic rfl ?_
          refine r_cne rfl rfl (by decide) (by decide) (fun u4 => ?_) (fun u4 => ?_)
          · refine r_al rfl rfl ?_
            refine r_gf rfl rfl xg_0 rfl ?_
            refine r_il rfl rfl ?_
            refine r_il rfl rfl ?_
            refine r_v3s rfl rfl xg_29 rfl (c_pbd1_0 hAd hAs hn h5 hr hN hv) ?_
            exact r_ret rfl rfl hQ
          · exact absurd u4 (by decide)
        · omega
  obtain ⟨r, h1, h2⟩ := rn_S (vs := [.ref 0, iv (0), iv (a), iv (n)]) (Q := fun r => r = (some (iv (-2)), (cW ki ln bt rl cp cs ct cv 14 5 ja ea ma a1 a2 a3 a4 a5 a6 a7 a8 jb eb mb b1 b2 b3 b4 b5 b6 b7 b8 re fl g1 g2 g3 g4 g5 (dW rt la rs rg pd du ds me tt gr su gp mk rf m1 m2 m3 m4 m5 mr mf n1 n2 n3 n4 n5 nr nf E)))) rfl (rn_up (N := 1000) (M := mm_fuel) (by decide) (main (fun r => r = (some (iv (-2)), (cW ki ln bt rl cp cs ct cv 14 5 ja ea ma a1 a2 a3 a4 a5 a6 a7 a8 jb eb mb b1 b2 b3 b4 b5 b6 b7 b8 re fl g1 g2 g3 g4 g5 (dW rt la rs rg pd du ds me tt gr su gp mk rf m1 m2 m3 m4 m5 mr mf n1 n2 n3 n4 n5 nr nf E)))) rfl))
  have h1 : sX11_pay [.ref 0, iv (0), iv (a), iv (n)] (cW ki ln bt rl cp cs ct cv 14 5 ja ea ma a1 a2 a3 a4 a5 a6 a7 a8 jb eb mb b1 b2 b3 b4 b5 b6 b7 b8 re fl g1 g2 g3 g4 g5 (dW rt la rs rg pd du ds me tt gr su gp mk rf m1 m2 m3 m4 m5 mr mf n1 n2 n3 n4 n5 nr nf E)) = some r := h1
  rw [h1, h2]
theorem c_payG1_01 (hAd : ARd b1 b2 b3) (hAs : ARs b4 b5 b6 b7) (hn : 0 ≤ mb ∧ mb ≤ 16) (h5 : ∀ p : Nat, p < 8 → 0 ≤ (g5 p).toInt ∧ (g5 p).toInt ≤ 9999) (hdb : 0 ≤ eb ∧ eb ≤ 10) (hr : 0 ≤ a ∧ a ≤ 9) (hN : 1 ≤ n ∧ n ≤ 999)  (ht : fTH eb mb 0 a = true) (hv : cMV b2 g5 (b1 (Int.toNat a)).toInt a n (nrm (cAD b1 b3 g1 fl a)) = true) : sX11_pay [.ref 0, iv (0), iv (a), iv (n)] (cW ki ln bt rl cp cs ct cv 14 5 ja ea ma a1 a2 a3 a4 a5 a6 a7 a8 jb eb mb b1 b2 b3 b4 b5 b6 b7 b8 re fl g1 g2 g3 g4 g5 (dW rt la rs rg pd du ds me tt gr su gp mk rf m1 m2 m3 m4 m5 mr mf n1 n2 n3 n4 n5 nr nf E)) = some (some (iv (cR b3 (ps2 g1 (Int.toNat a) n) a)), (cW ki ln bt rl cp cs ct cv 14 5 ja ea ma a1 a2 a3 a4 a5 a6 a7 a8 jb eb mb b1 b2 b3 b4 b5 b6 b7 b8 re fl (ps2 g1 (Int.toNat a) n) g2 g3 g4 (ps2 (ps1 g5 (Int.toNat (b1 (Int.toNat a)).toInt) n) (Int.toNat (b2 (Int.toNat a)).toInt) n) (dW rt la rs rg pd du ds me tt gr su gp mk rf m1 m2 m3 m4 m5 mr mf n1 n2 n3 n4 n5 nr nf E))) := by
  have main : ∀ Q : mm_R → Prop, Q (some (iv (cR b3 (ps2 g1 (Int.toNat a) n) a)), (cW ki ln bt rl cp cs ct cv 14 5 ja ea ma a1 a2 a3 a4 a5 a6 a7 a8 jb eb mb b1 b2 b3 b4 b5 b6 b7 b8 re fl (ps2 g1 (Int.toNat a) n) g2 g3 g4 (ps2 (ps1 g5 (Int.toNat (b1 (Int.toNat a)).toInt) n) (Int.toNat (b2 (Int.toNat a)).toInt) n) (dW rt la rs rg pd du ds me tt gr su gp mk rf m1 m2 m3 m4 m5 mr mf n1 n2 n3 n4 n5 nr nf E))) → rn_X11_pay (1000) (0, [(0, .ref 0), (1, iv (0)), (2, iv (a)), (3, iv (n))], [], (cW ki ln bt rl cp cs ct cv 14 5 ja ea ma a1 a2 a3 a4 a5 a6 a7 a8 jb eb mb b1 b2 b3 b4 b5 b6 b7 b8 re fl g1 g2 g3 g4 g5 (dW rt la rs rg pd du ds me tt gr su gp mk rf m1 m2 m3 m4 m5 mr mf n1 n2 n3 n4 n5 nr nf E))) Q := by
    intro Q hQ
    refine r_al rfl rfl ?_
    refine r_il rfl rfl ?_
    refine r_il rfl rfl ?_
    refine r_v3s rfl rfl xg_0 rfl (c_isPay1 (by decide) (by omega) hdb hn) ?_
    rw [ht]
    refine r_zeq rfl rfl (bi_r _) (fun u1 => ?_) (fun u1 => ?_)
    · exact absurd u1 (by decide)
    · refine r_il rfl rfl ?_
      refine r_ic rfl ?_
      refine r_clt rfl rfl (by omega) (by omega) (fun u2 => ?_) (fun u2 => ?_)
      · omega
      · refine r_il rfl rfl ?_
        refine r_si rfl (by decide) ?_
        refine r_cle rfl rfl (by omega) (by omega) (fun u3 => ?_) (fun u3 => ?_)
        · refine r_il rfl rfl ?_
          refine r_ic rfl ?_
          refine r_cne rfl rfl (by decide) (by decide) (fun u4 => ?_) (fun u4 => ?_)
          · refine r_al rfl rfl ?_
            refine r_gf rfl rfl xg_0 rfl ?_
            refine r_il rfl rfl ?_
            refine r_il rfl rfl ?_
            refine r_v3s rfl rfl xg_29 rfl (c_pbd1_1 hAd hAs hn h5 hr hN hv) ?_
            exact r_ret rfl rfl hQ
          · exact absurd u4 (by decide)
        · omega
  obtain ⟨r, h1, h2⟩ := rn_S (vs := [.ref 0, iv (0), iv (a), iv (n)]) (Q := fun r => r = (some (iv (cR b3 (ps2 g1 (Int.toNat a) n) a)), (cW ki ln bt rl cp cs ct cv 14 5 ja ea ma a1 a2 a3 a4 a5 a6 a7 a8 jb eb mb b1 b2 b3 b4 b5 b6 b7 b8 re fl (ps2 g1 (Int.toNat a) n) g2 g3 g4 (ps2 (ps1 g5 (Int.toNat (b1 (Int.toNat a)).toInt) n) (Int.toNat (b2 (Int.toNat a)).toInt) n) (dW rt la rs rg pd du ds me tt gr su gp mk rf m1 m2 m3 m4 m5 mr mf n1 n2 n3 n4 n5 nr nf E)))) rfl (rn_up (N := 1000) (M := mm_fuel) (by decide) (main (fun r => r = (some (iv (cR b3 (ps2 g1 (Int.toNat a) n) a)), (cW ki ln bt rl cp cs ct cv 14 5 ja ea ma a1 a2 a3 a4 a5 a6 a7 a8 jb eb mb b1 b2 b3 b4 b5 b6 b7 b8 re fl (ps2 g1 (Int.toNat a) n) g2 g3 g4 (ps2 (ps1 g5 (Int.toNat (b1 (Int.toNat a)).toInt) n) (Int.toNat (b2 (Int.toNat a)).toInt) n) (dW rt la rs rg pd du ds me tt gr su gp mk rf m1 m2 m3 m4 m5 mr mf n1 n2 n3 n4 n5 nr nf E)))) rfl))
  have h1 : sX11_pay [.ref 0, iv (0), iv (a), iv (n)] (cW ki ln bt rl cp cs ct cv 14 5 ja ea ma a1 a2 a3 a4 a5 a6 a7 a8 jb eb mb b1 b2 b3 b4 b5 b6 b7 b8 re fl g1 g2 g3 g4 g5 (dW rt la rs rg pd du ds me tt gr su gp mk rf m1 m2 m3 m4 m5 mr mf n1 n2 n3 n4 n5 nr nf E)) = some r := h1
  rw [h1, h2]
theorem c_payG1_10 (hAd : ARd b1 b2 b3) (hAs : ARs b4 b5 b6 b7) (hn : 0 ≤ mb ∧ mb ≤ 16) (h5 : ∀ p : Nat, p < 8 → 0 ≤ (g5 p).toInt ∧ (g5 p).toInt ≤ 9999) (hdb : 0 ≤ eb ∧ eb ≤ 10) (hr : 0 ≤ a ∧ a ≤ 15) (hN : 1 ≤ n ∧ n ≤ 999) (hB : 0 ≤ bcF (cSS b4 b5 b6 mb re fl (b5 (Int.toNat a)).toInt (b4 (Int.toNat a)).toInt) ∧ bcF (cSS b4 b5 b6 mb re fl (b5 (Int.toNat a)).toInt (b4 (Int.toNat a)).toInt) ≤ 32) (ht : fTH eb mb 1 a = true) (hv : cMV b2 g5 (b4 (Int.toNat a)).toInt (b5 (Int.toNat a)).toInt n (nrm (cAS b1 b3 b4 b5 b6 b7 g1 g2 g3 mb re fl a)) = false) : sX11_pay [.ref 0, iv (1), iv (a), iv (n)] (cW ki ln bt rl cp cs ct cv 14 5 ja ea ma a1 a2 a3 a4 a5 a6 a7 a8 jb eb mb b1 b2 b3 b4 b5 b6 b7 b8 re fl g1 g2 g3 g4 g5 (dW rt la rs rg pd du ds me tt gr su gp mk rf m1 m2 m3 m4 m5 mr mf n1 n2 n3 n4 n5 nr nf E)) = some (some (iv (-2)), (cW ki ln bt rl cp cs ct cv 14 5 ja ea ma a1 a2 a3 a4 a5 a6 a7 a8 jb eb mb b1 b2 b3 b4 b5 b6 b7 b8 re fl g1 g2 g3 g4 g5 (dW rt la rs rg pd du ds me tt gr su gp mk rf m1 m2 m3 m4 m5 mr mf n1 n2 n3 n4 n5 nr nf E))) := by
  have main : ∀ Q : mm_R → Prop, Q (some (iv (-2)), (cW ki ln bt rl cp cs ct cv 14 5 ja ea ma a1 a2 a3 a4 a5 a6 a7 a8 jb eb mb b1 b2 b3 b4 b5 b6 b7 b8 re fl g1 g2 g3 g4 g5 (dW rt la rs rg pd du ds me tt gr su gp mk rf m1 m2 m3 m4 m5 mr mf n1 n2 n3 n4 n5 nr nf E))) → rn_X11_pay (1000) (0, [(0, .ref 0), (1, iv (1)), (2, iv (a)), (3, iv (n))], [], (cW ki ln bt rl cp cs ct cv 14 5 ja ea ma a1 a2 a3 a4 a5 a6 a7 a8 jb eb mb b1 b2 b3 b4 b5 b6 b7 b8 re fl g1 g2 g3 g4 g5 (dW rt la rs rg pd du ds me tt gr su gp mk rf m1 m2 m3 m4 m5 mr mf n1 n2 n3 n4 n5 nr nf E))) Q := by
    intro Q hQ
    refine r_al rfl rfl ?_
    refine r_il rfl rfl ?_
    refine r_il rfl rfl ?_
    refine r_v3s rfl rfl xg_0 rfl (c_isPay1 (by decide) (by omega) hdb hn) ?_
    rw [ht]
    refine r_zeq rfl rfl (bi_r _) (fun u1 => ?_) (fun u1 => ?_)
    · exact absurd u1 (by decide)
    · refine r_il rfl rfl ?_
      refine r_ic rfl ?_
      refine r_clt rfl rfl (by omega) (by omega) (fun u2 => ?_) (fun u2 => ?_)
      · omega
      · refine r_il rfl rfl ?_
        refine r_si rfl (by decide) ?_
        refine r_cle rfl rfl (by omega) (by omega) (fun u3 => ?_) (fun u3 => ?_)
        · refine r_il rfl rfl ?_
          refine r_ic rfl ?_
          refine r_cne rfl rfl (by decide) (by decide) (fun u4 => ?_) (fun u4 => ?_)
          · exact absurd rfl u4
          · refine r_al rfl rfl ?_
            refine r_gf rfl rfl xg_0 rfl ?_
            refine r_il rfl rfl ?_
            refine r_il rfl rfl ?_
            refine r_v3s rfl rfl xg_29 rfl (c_pbs1_0 hAd hAs hn h5 hr hN hB hv) ?_
            refine r_goto rfl rfl ?_
            exact r_ret rfl rfl hQ
        · omega
  obtain ⟨r, h1, h2⟩ := rn_S (vs := [.ref 0, iv (1), iv (a), iv (n)]) (Q := fun r => r = (some (iv (-2)), (cW ki ln bt rl cp cs ct cv 14 5 ja ea ma a1 a2 a3 a4 a5 a6 a7 a8 jb eb mb b1 b2 b3 b4 b5 b6 b7 b8 re fl g1 g2 g3 g4 g5 (dW rt la rs rg pd du ds me tt gr su gp mk rf m1 m2 m3 m4 m5 mr mf n1 n2 n3 n4 n5 nr nf E)))) rfl (rn_up (N := 1000) (M := mm_fuel) (by decide) (main (fun r => r = (some (iv (-2)), (cW ki ln bt rl cp cs ct cv 14 5 ja ea ma a1 a2 a3 a4 a5 a6 a7 a8 jb eb mb b1 b2 b3 b4 b5 b6 b7 b8 re fl g1 g2 g3 g4 g5 (dW rt la rs rg pd du ds me tt gr su gp mk rf m1 m2 m3 m4 m5 mr mf n1 n2 n3 n4 n5 nr nf E)))) rfl))
  have h1 : sX11_pay [.ref 0, iv (1), iv (a), iv (n)] (cW ki ln bt rl cp cs ct cv 14 5 ja ea ma a1 a2 a3 a4 a5 a6 a7 a8 jb eb mb b1 b2 b3 b4 b5 b6 b7 b8 re fl g1 g2 g3 g4 g5 (dW rt la rs rg pd du ds me tt gr su gp mk rf m1 m2 m3 m4 m5 mr mf n1 n2 n3 n4 n5 nr nf E)) = some r := h1
  rw [h1, h2]
theorem c_payG1_11 (hAd : ARd b1 b2 b3) (hAs : ARs b4 b5 b6 b7) (hn : 0 ≤ mb ∧ mb ≤ 16) (h5 : ∀ p : Nat, p < 8 → 0 ≤ (g5 p).toInt ∧ (g5 p).toInt ≤ 9999) (hdb : 0 ≤ eb ∧ eb ≤ 10) (hr : 0 ≤ a ∧ a ≤ 15) (hN : 1 ≤ n ∧ n ≤ 999) (hB : 0 ≤ bcF (cSS b4 b5 b6 mb re fl (b5 (Int.toNat a)).toInt (b4 (Int.toNat a)).toInt) ∧ bcF (cSS b4 b5 b6 mb re fl (b5 (Int.toNat a)).toInt (b4 (Int.toNat a)).toInt) ≤ 32) (ht : fTH eb mb 1 a = true) (hv : cMV b2 g5 (b4 (Int.toNat a)).toInt (b5 (Int.toNat a)).toInt n (nrm (cAS b1 b3 b4 b5 b6 b7 g1 g2 g3 mb re fl a)) = true) : sX11_pay [.ref 0, iv (1), iv (a), iv (n)] (cW ki ln bt rl cp cs ct cv 14 5 ja ea ma a1 a2 a3 a4 a5 a6 a7 a8 jb eb mb b1 b2 b3 b4 b5 b6 b7 b8 re fl g1 g2 g3 g4 g5 (dW rt la rs rg pd du ds me tt gr su gp mk rf m1 m2 m3 m4 m5 mr mf n1 n2 n3 n4 n5 nr nf E)) = some (some (iv (cR b3 (ps2 g1 (Int.toNat (b5 (Int.toNat a)).toInt) n) (b5 (Int.toNat a)).toInt)), (cW ki ln bt rl cp cs ct cv 14 5 ja ea ma a1 a2 a3 a4 a5 a6 a7 a8 jb eb mb b1 b2 b3 b4 b5 b6 b7 b8 re fl (ps2 g1 (Int.toNat (b5 (Int.toNat a)).toInt) n) (ps2 g2 (Int.toNat a) n) g3 (cAB b1 b4 b5 b6 b7 g4 mb re fl a n) (ps2 (ps1 g5 (Int.toNat (b4 (Int.toNat a)).toInt) n) (Int.toNat (b2 (Int.toNat (b5 (Int.toNat a)).toInt)).toInt) n) (dW rt la rs rg pd du ds me tt gr su gp mk rf m1 m2 m3 m4 m5 mr mf n1 n2 n3 n4 n5 nr nf E))) := by
  have main : ∀ Q : mm_R → Prop, Q (some (iv (cR b3 (ps2 g1 (Int.toNat (b5 (Int.toNat a)).toInt) n) (b5 (Int.toNat a)).toInt)), (cW ki ln bt rl cp cs ct cv 14 5 ja ea ma a1 a2 a3 a4 a5 a6 a7 a8 jb eb mb b1 b2 b3 b4 b5 b6 b7 b8 re fl (ps2 g1 (Int.toNat (b5 (Int.toNat a)).toInt) n) (ps2 g2 (Int.toNat a) n) g3 (cAB b1 b4 b5 b6 b7 g4 mb re fl a n) (ps2 (ps1 g5 (Int.toNat (b4 (Int.toNat a)).toInt) n) (Int.toNat (b2 (Int.toNat (b5 (Int.toNat a)).toInt)).toInt) n) (dW rt la rs rg pd du ds me tt gr su gp mk rf m1 m2 m3 m4 m5 mr mf n1 n2 n3 n4 n5 nr nf E))) → rn_X11_pay (1000) (0, [(0, .ref 0), (1, iv (1)), (2, iv (a)), (3, iv (n))], [], (cW ki ln bt rl cp cs ct cv 14 5 ja ea ma a1 a2 a3 a4 a5 a6 a7 a8 jb eb mb b1 b2 b3 b4 b5 b6 b7 b8 re fl g1 g2 g3 g4 g5 (dW rt la rs rg pd du ds me tt gr su gp mk rf m1 m2 m3 m4 m5 mr mf n1 n2 n3 n4 n5 nr nf E))) Q := by
    intro Q hQ
    refine r_al rfl rfl ?_
    refine r_il rfl rfl ?_
    refine r_il rfl rfl ?_
    refine r_v3s rfl rfl xg_0 rfl (c_isPay1 (by decide) (by omega) hdb hn) ?_
    rw [ht]
    refine r_zeq rfl rfl (bi_r _) (fun u1 => ?_) (fun u1 => ?_)
    · exact absurd u1 (by decide)
    · refine r_il rfl rfl ?_
      refine r_ic rfl ?_
      refine r_clt rfl rfl (by omega) (by omega) (fun u2 => ?_) (fun u2 => ?_)
      · omega
      · refine r_il rfl rfl ?_
        refine r_si rfl (by decide) ?_
        refine r_cle rfl rfl (by omega) (by omega) (fun u3 => ?_) (fun u3 => ?_)
        · refine r_il rfl rfl ?_
          refine r_ic rfl ?_
          refine r_cne rfl rfl (by decide) (by decide) (fun u4 => ?_) (fun u4 => ?_)
          · exact absurd rfl u4
          · refine r_al rfl rfl ?_
            refine r_gf rfl rfl xg_0 rfl ?_
            refine r_il rfl rfl ?_
            refine r_il rfl rfl ?_
            refine r_v3s rfl rfl xg_29 rfl (c_pbs1_1 hAd hAs hn h5 hr hN hB hv) ?_
            refine r_goto rfl rfl ?_
            exact r_ret rfl rfl hQ
        · omega
  obtain ⟨r, h1, h2⟩ := rn_S (vs := [.ref 0, iv (1), iv (a), iv (n)]) (Q := fun r => r = (some (iv (cR b3 (ps2 g1 (Int.toNat (b5 (Int.toNat a)).toInt) n) (b5 (Int.toNat a)).toInt)), (cW ki ln bt rl cp cs ct cv 14 5 ja ea ma a1 a2 a3 a4 a5 a6 a7 a8 jb eb mb b1 b2 b3 b4 b5 b6 b7 b8 re fl (ps2 g1 (Int.toNat (b5 (Int.toNat a)).toInt) n) (ps2 g2 (Int.toNat a) n) g3 (cAB b1 b4 b5 b6 b7 g4 mb re fl a n) (ps2 (ps1 g5 (Int.toNat (b4 (Int.toNat a)).toInt) n) (Int.toNat (b2 (Int.toNat (b5 (Int.toNat a)).toInt)).toInt) n) (dW rt la rs rg pd du ds me tt gr su gp mk rf m1 m2 m3 m4 m5 mr mf n1 n2 n3 n4 n5 nr nf E)))) rfl (rn_up (N := 1000) (M := mm_fuel) (by decide) (main (fun r => r = (some (iv (cR b3 (ps2 g1 (Int.toNat (b5 (Int.toNat a)).toInt) n) (b5 (Int.toNat a)).toInt)), (cW ki ln bt rl cp cs ct cv 14 5 ja ea ma a1 a2 a3 a4 a5 a6 a7 a8 jb eb mb b1 b2 b3 b4 b5 b6 b7 b8 re fl (ps2 g1 (Int.toNat (b5 (Int.toNat a)).toInt) n) (ps2 g2 (Int.toNat a) n) g3 (cAB b1 b4 b5 b6 b7 g4 mb re fl a n) (ps2 (ps1 g5 (Int.toNat (b4 (Int.toNat a)).toInt) n) (Int.toNat (b2 (Int.toNat (b5 (Int.toNat a)).toInt)).toInt) n) (dW rt la rs rg pd du ds me tt gr su gp mk rf m1 m2 m3 m4 m5 mr mf n1 n2 n3 n4 n5 nr nf E)))) rfl))
  have h1 : sX11_pay [.ref 0, iv (1), iv (a), iv (n)] (cW ki ln bt rl cp cs ct cv 14 5 ja ea ma a1 a2 a3 a4 a5 a6 a7 a8 jb eb mb b1 b2 b3 b4 b5 b6 b7 b8 re fl g1 g2 g3 g4 g5 (dW rt la rs rg pd du ds me tt gr su gp mk rf m1 m2 m3 m4 m5 mr mf n1 n2 n3 n4 n5 nr nf E)) = some r := h1
  rw [h1, h2]
end PAC
