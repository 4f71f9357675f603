/-! ===== what may be asked: the class, exactly ===== -/
def mnI (a c : Int) : Int := bif decide (c < a) then c else a
def cLR (c3 c5 g1 g2 g3 : Nat → Int32) (re i : Int) : Int := mnI (nrm (cL g3 g2 re i)) (nrm (cR c3 g1 (c5 (Int.toNat i)).toInt))
theorem mnI_or (a c : Int) : mnI a c = a ∨ mnI a c = c := by
  unfold mnI
  cases decide (c < a) with
  | true => exact Or.inr rfl
  | false => exact Or.inl rfl
theorem cLR_r {c3 c5 g1 g2 g3 : Nat → Int32} {re i : Int} : -2147483648 ≤ cLR c3 c5 g1 g2 g3 re i ∧ cLR c3 c5 g1 g2 g3 re i ≤ 2147483647 := by
  unfold cLR
  rcases mnI_or (nrm (cL g3 g2 re i)) (nrm (cR c3 g1 (c5 (Int.toNat i)).toInt)) with e | e
  · rw [e]; exact nrm_r _
  · rw [e]; exact nrm_r _
/-- stands ahead for the debt d, and hasn't fallen -/
def cAh (c4 c5 c6 : Nat → Int32) (re fl d : Int) (j : Nat) : Bool := (decide ((c6 (Int.toNat (j : Int))).toInt = 0) || decide ((c6 (Int.toNat (j : Int))).toInt = 1)) && (decide ((c5 (Int.toNat (j : Int))).toInt = d) && (!zb (Int32.ofInt re) j && !zb (Int32.ofInt fl) (Int.toNat (c4 (Int.toNat (j : Int))).toInt)))
def cAA (c4 c5 c6 : Nat → Int32) (re fl d : Int) : Nat → Bool
  | 0 => true
  | j + 1 => cAA c4 c5 c6 re fl d j && !cAh c4 c5 c6 re fl d j
theorem cAA_f {c4 c5 c6 : Nat → Int32} {re fl d : Int} {j : Nat} (h : cAh c4 c5 c6 re fl d j = true) : ∀ m : Nat, cAA c4 c5 c6 re fl d (j + 1 + m) = false
  | 0 => by show (cAA c4 c5 c6 re fl d j && !cAh c4 c5 c6 re fl d j) = false; rw [h]; cases cAA c4 c5 c6 re fl d j <;> rfl
  | m + 1 => by show (cAA c4 c5 c6 re fl d (j + 1 + m) && _) = false; rw [cAA_f h m]; rfl
def cAF (c1 c4 c5 c6 : Nat → Int32) (ns re fl d : Int) : Bool := zb (Int32.ofInt fl) (Int.toNat (c1 (Int.toNat d)).toInt) && cAA c4 c5 c6 re fl d ns.toNat
def cAO (c3 c4 c5 g1 g2 g3 : Nat → Int32) (ns re fl i u : Int) : Int := bif i3 u 0 (ns - 1) && zb (Int32.ofInt fl) (Int.toNat (c4 (Int.toNat u)).toInt) then mnI (cLR c3 c5 g1 g2 g3 re i) (nrm (cL g3 g2 re u)) else 0
def cAS (c1 c3 c4 c5 c6 c7 g1 g2 g3 : Nat → Int32) (ns re fl i : Int) : Int := bif zb (Int32.ofInt fl) (Int.toNat (c4 (Int.toNat i)).toInt) then 0 else bif decide ((c6 (Int.toNat i)).toInt = 3) then cAO c3 c4 c5 g1 g2 g3 ns re fl i (c7 (Int.toNat i)).toInt else bif decide ((c6 (Int.toNat i)).toInt = 2) && !cAF c1 c4 c5 c6 ns re fl (c5 (Int.toNat i)).toInt then 0 else cLR c3 c5 g1 g2 g3 re i
def cAD (c1 c3 g1 : Nat → Int32) (fl d : Int) : Int := bif zb (Int32.ofInt fl) (Int.toNat (c1 (Int.toNat d)).toInt) then 0 else cR c3 g1 d
section AC
variable {ki : Int} {ln : Int} {bt : Nat → Int32} {rl : Value} {cp : Int} {cs : Int} {ct : Int} {cv : Int} {rr : Nat} {dr : Nat} {ja : Int} {ea : Int} {ma : Int} {a1 : Nat → Int32} {a2 : Nat → Int32} {a3 : Nat → Int32} {a4 : Nat → Int32} {a5 : Nat → Int32} {a6 : Nat → Int32} {a7 : Nat → Int32} {a8 : Nat → Int32} {jb : Int} {eb : Int} {mb : Int} {b1 : Nat → Int32} {b2 : Nat → Int32} {b3 : Nat → Int32} {b4 : Nat → Int32} {b5 : Nat → Int32} {b6 : Nat → Int32} {b7 : Nat → Int32} {b8 : Nat → Int32} {re : Int} {fl : Int} {g1 : Nat → Int32} {g2 : Nat → Int32} {g3 : Nat → Int32} {g4 : Nat → Int32} {g5 : Nat → Int32} {rt : Int} {la : Int} {rs : Int} {rg : Int} {pd : Nat → Int32} {du : Nat → Int32} {ds : Nat → Int32} {me : Nat → Int32} {tt : Nat → Int32} {gr : Nat → Int32} {su : Nat → Int32} {gp : Nat → Int32} {mk : Int64} {rf : Nat → Option Nat} {m1 : Nat → Int32} {m2 : Nat → Int32} {m3 : Nat → Int32} {m4 : Nat → Int32} {m5 : Nat → Int32} {mr : Int} {mf : Int} {n1 : Nat → Int32} {n2 : Nat → Int32} {n3 : Nat → Int32} {n4 : Nat → Int32} {n5 : Nat → Int32} {nr : Int} {nf : Int} {E : List va_E} {a b d i u : Int} {mw : List va_E} {Q : mm_R → Prop} {N : Nat}
theorem c_minC (ha : -2147483648 ≤ a ∧ a ≤ 2147483647) (hb : -2147483648 ≤ b ∧ b ≤ 2147483647) : sJ9_min_7cf53 [iv (a), iv (b)] mw = some (some (iv (mnI a b)), mw) := by
  have main : ∀ Q : mm_R → Prop, Q (some (iv (mnI a b)), mw) → rn_J9_min_7cf53 (1000) (0, [(0, iv (a)), (1, iv (b))], [], mw) Q := by
    intro Q hQ
    refine r_il rfl rfl ?_
    refine r_il rfl rfl ?_
    refine r_cgt rfl rfl ha hb (fun u1 => ?_) (fun u1 => ?_)
    · have e : mnI a b = b := by unfold mnI; rw [decide_eq_true u1]; rfl
      rw [e] at hQ
      refine r_il rfl rfl ?_
      exact r_ret rfl rfl hQ
    · have e : mnI a b = a := by unfold mnI; rw [decide_eq_false (Int.not_lt.mpr u1)]; rfl
      rw [e] at hQ
      refine r_il rfl rfl ?_
      refine r_goto rfl rfl ?_
      exact r_ret rfl rfl hQ
  obtain ⟨r, h1, h2⟩ := rn_S (vs := [iv (a), iv (b)]) (Q := fun r => r = (some (iv (mnI a b)), mw)) rfl (rn_up (N := 1000) (M := mm_fuel) (by decide) (main (fun r => r = (some (iv (mnI a b)), mw)) rfl))
  have h1 : sJ9_min_7cf53 [iv (a), iv (b)] mw = some r := h1
  rw [h1, h2]
theorem ar4 {c4 c5 c6 c7 : Nat → Int32} (h : ARs c4 c5 c6 c7) {i : Int} (hi : 0 ≤ i ∧ i ≤ 15) : (0 ≤ (c4 (Int.toNat i)).toInt ∧ (c4 (Int.toNat i)).toInt ≤ 7) ∧ (0 ≤ (c5 (Int.toNat i)).toInt ∧ (c5 (Int.toNat i)).toInt ≤ 9) := ⟨(h (Int.toNat i) (by omega)).1, (h (Int.toNat i) (by omega)).2.1⟩
theorem ar1 {c1 c2 c3 : Nat → Int32} (h : ARd c1 c2 c3) {d : Int} (hd : 0 ≤ d ∧ d ≤ 9) : (0 ≤ (c1 (Int.toNat d)).toInt ∧ (c1 (Int.toNat d)).toInt ≤ 7) ∧ (0 ≤ (c2 (Int.toNat d)).toInt ∧ (c2 (Int.toNat d)).toInt ≤ 7) := ⟨(h (Int.toNat d) (by omega)).1, (h (Int.toNat d) (by omega)).2.1⟩
abbrev rn_X0_lesserOfLeftAndRest (N : Nat) (c : mm_C) (Q : mm_R → Prop) : Prop := rn (mm_gf gLX0) (mm_pf pLX0) (mm_mv vX0_lesserOfLeftAndRest) (mm_mv zX0_lesserOfLeftAndRest) (mm_kc kLX0) mm_gs0 mm_rf0 mm_ro (some .int) 2 (mm_ins iX0_lesserOfLeftAndRest) N c Q
theorem c_lrC0 (hAd : ARd a1 a2 a3) (hAs : ARs a4 a5 a6 a7) (hn : 0 ≤ ma ∧ ma ≤ 16) (hi : 0 ≤ i ∧ i ≤ 15) : sX0_lesserOfLeftAndRest [.ref 4, iv (i)] (cW ki ln bt rl cp cs ct cv 5 14 ja ea ma a1 a2 a3 a4 a5 a6 a7 a8 jb eb mb b1 b2 b3 b4 b5 b6 b7 b8 re fl g1 g2 g3 g4 g5 (dW rt la rs rg pd du ds me tt gr su gp mk rf m1 m2 m3 m4 m5 mr mf n1 n2 n3 n4 n5 nr nf E)) = some (some (iv (cLR a3 a5 g1 g2 g3 re i)), (cW ki ln bt rl cp cs ct cv 5 14 ja ea ma a1 a2 a3 a4 a5 a6 a7 a8 jb eb mb b1 b2 b3 b4 b5 b6 b7 b8 re fl g1 g2 g3 g4 g5 (dW rt la rs rg pd du ds me tt gr su gp mk rf m1 m2 m3 m4 m5 mr mf n1 n2 n3 n4 n5 nr nf E))) := by
  have main : ∀ Q : mm_R → Prop, Q (some (iv (cLR a3 a5 g1 g2 g3 re i)), (cW ki ln bt rl cp cs ct cv 5 14 ja ea ma a1 a2 a3 a4 a5 a6 a7 a8 jb eb mb b1 b2 b3 b4 b5 b6 b7 b8 re fl g1 g2 g3 g4 g5 (dW rt la rs rg pd du ds me tt gr su gp mk rf m1 m2 m3 m4 m5 mr mf n1 n2 n3 n4 n5 nr nf E))) → rn_X0_lesserOfLeftAndRest (1000) (0, [(0, .ref 4), (1, iv (i))], [], (cW ki ln bt rl cp cs ct cv 5 14 ja ea ma a1 a2 a3 a4 a5 a6 a7 a8 jb eb mb b1 b2 b3 b4 b5 b6 b7 b8 re fl g1 g2 g3 g4 g5 (dW rt la rs rg pd du ds me tt gr su gp mk rf m1 m2 m3 m4 m5 mr mf n1 n2 n3 n4 n5 nr nf E))) Q := by
    intro Q hQ
    refine r_al rfl rfl ?_
    refine r_il rfl rfl ?_
    refine r_v2s rfl rfl xg_4 rfl (c_leftC0 hi) ?_
    refine r_nrm ?_
    refine r_al rfl rfl ?_
    refine r_al rfl rfl ?_
    refine r_gf rfl rfl xg_4 rfl ?_
    refine r_gf rfl rfl xg_5 rfl ?_
    refine r_il rfl rfl ?_
    refine r_ia rfl xg_10 (by omega) (by omega) (by decide) ?_
    refine r_v2s rfl rfl xg_4 rfl (c_restC0 (ar4 hAs hi).2) ?_
    refine r_nrm ?_
    refine r_s2s rfl rfl rfl (c_minC (nrm_r _) (nrm_r _)) ?_
    exact r_ret rfl rfl hQ
  obtain ⟨r, h1, h2⟩ := rn_S (vs := [.ref 4, iv (i)]) (Q := fun r => r = (some (iv (cLR a3 a5 g1 g2 g3 re i)), (cW ki ln bt rl cp cs ct cv 5 14 ja ea ma a1 a2 a3 a4 a5 a6 a7 a8 jb eb mb b1 b2 b3 b4 b5 b6 b7 b8 re fl g1 g2 g3 g4 g5 (dW rt la rs rg pd du ds me tt gr su gp mk rf m1 m2 m3 m4 m5 mr mf n1 n2 n3 n4 n5 nr nf E)))) rfl (rn_up (N := 1000) (M := mm_fuel) (by decide) (main (fun r => r = (some (iv (cLR a3 a5 g1 g2 g3 re i)), (cW ki ln bt rl cp cs ct cv 5 14 ja ea ma a1 a2 a3 a4 a5 a6 a7 a8 jb eb mb b1 b2 b3 b4 b5 b6 b7 b8 re fl g1 g2 g3 g4 g5 (dW rt la rs rg pd du ds me tt gr su gp mk rf m1 m2 m3 m4 m5 mr mf n1 n2 n3 n4 n5 nr nf E)))) rfl))
  have h1 : sX0_lesserOfLeftAndRest [.ref 4, iv (i)] (cW ki ln bt rl cp cs ct cv 5 14 ja ea ma a1 a2 a3 a4 a5 a6 a7 a8 jb eb mb b1 b2 b3 b4 b5 b6 b7 b8 re fl g1 g2 g3 g4 g5 (dW rt la rs rg pd du ds me tt gr su gp mk rf m1 m2 m3 m4 m5 mr mf n1 n2 n3 n4 n5 nr nf E)) = some r := h1
  rw [h1, h2]
abbrev rn_X0_askOfDebtor (N : Nat) (c : mm_C) (Q : mm_R → Prop) : Prop := rn (mm_gf gLX0) (mm_pf pLX0) (mm_mv vX0_askOfDebtor) (mm_mv zX0_askOfDebtor) (mm_kc kLX0) mm_gs0 mm_rf0 mm_ro (some .int) 2 (mm_ins iX0_askOfDebtor) N c Q
theorem c_adC0 (hAd : ARd a1 a2 a3) (hAs : ARs a4 a5 a6 a7) (hn : 0 ≤ ma ∧ ma ≤ 16) (hd : 0 ≤ d ∧ d ≤ 9) : sX0_askOfDebtor [.ref 4, iv (d)] (cW ki ln bt rl cp cs ct cv 5 14 ja ea ma a1 a2 a3 a4 a5 a6 a7 a8 jb eb mb b1 b2 b3 b4 b5 b6 b7 b8 re fl g1 g2 g3 g4 g5 (dW rt la rs rg pd du ds me tt gr su gp mk rf m1 m2 m3 m4 m5 mr mf n1 n2 n3 n4 n5 nr nf E)) = some (some (iv (cAD a1 a3 g1 fl d)), (cW ki ln bt rl cp cs ct cv 5 14 ja ea ma a1 a2 a3 a4 a5 a6 a7 a8 jb eb mb b1 b2 b3 b4 b5 b6 b7 b8 re fl g1 g2 g3 g4 g5 (dW rt la rs rg pd du ds me tt gr su gp mk rf m1 m2 m3 m4 m5 mr mf n1 n2 n3 n4 n5 nr nf E))) := by
  have main : ∀ Q : mm_R → Prop, Q (some (iv (cAD a1 a3 g1 fl d)), (cW ki ln bt rl cp cs ct cv 5 14 ja ea ma a1 a2 a3 a4 a5 a6 a7 a8 jb eb mb b1 b2 b3 b4 b5 b6 b7 b8 re fl g1 g2 g3 g4 g5 (dW rt la rs rg pd du ds me tt gr su gp mk rf m1 m2 m3 m4 m5 mr mf n1 n2 n3 n4 n5 nr nf E))) → rn_X0_askOfDebtor (1000) (0, [(0, .ref 4), (1, iv (d))], [], (cW ki ln bt rl cp cs ct cv 5 14 ja ea ma a1 a2 a3 a4 a5 a6 a7 a8 jb eb mb b1 b2 b3 b4 b5 b6 b7 b8 re fl g1 g2 g3 g4 g5 (dW rt la rs rg pd du ds me tt gr su gp mk rf m1 m2 m3 m4 m5 mr mf n1 n2 n3 n4 n5 nr nf E))) Q := by
    intro Q hQ
    refine r_al rfl rfl ?_
    refine r_al rfl rfl ?_
    refine r_gf rfl rfl xg_4 rfl ?_
    refine r_gf rfl rfl xg_5 rfl ?_
    refine r_il rfl rfl ?_
    refine r_ia rfl xg_6 (by omega) (by omega) (by decide) ?_
    refine r_v2s rfl rfl xg_4 rfl (c_isFalC0 (ar1 hAd hd).1) ?_
    refine r_zeq rfl rfl (bi_r _) (fun u1 => ?_) (fun u1 => ?_)
    · have e : cAD a1 a3 g1 fl d = cR a3 g1 d := by unfold cAD; rw [bi_0 u1]; rfl
      rw [e] at hQ
      refine r_al rfl rfl ?_
      refine r_il rfl rfl ?_
      refine r_v2s rfl rfl xg_4 rfl (c_restC0 hd) ?_
      exact r_ret rfl rfl hQ
    · have e : cAD a1 a3 g1 fl d = 0 := by unfold cAD; rw [bi_1 u1]; rfl
      rw [e] at hQ
      refine r_ic rfl ?_
      refine r_goto rfl rfl ?_
      exact r_ret rfl rfl hQ
  obtain ⟨r, h1, h2⟩ := rn_S (vs := [.ref 4, iv (d)]) (Q := fun r => r = (some (iv (cAD a1 a3 g1 fl d)), (cW ki ln bt rl cp cs ct cv 5 14 ja ea ma a1 a2 a3 a4 a5 a6 a7 a8 jb eb mb b1 b2 b3 b4 b5 b6 b7 b8 re fl g1 g2 g3 g4 g5 (dW rt la rs rg pd du ds me tt gr su gp mk rf m1 m2 m3 m4 m5 mr mf n1 n2 n3 n4 n5 nr nf E)))) rfl (rn_up (N := 1000) (M := mm_fuel) (by decide) (main (fun r => r = (some (iv (cAD a1 a3 g1 fl d)), (cW ki ln bt rl cp cs ct cv 5 14 ja ea ma a1 a2 a3 a4 a5 a6 a7 a8 jb eb mb b1 b2 b3 b4 b5 b6 b7 b8 re fl g1 g2 g3 g4 g5 (dW rt la rs rg pd du ds me tt gr su gp mk rf m1 m2 m3 m4 m5 mr mf n1 n2 n3 n4 n5 nr nf E)))) rfl))
  have h1 : sX0_askOfDebtor [.ref 4, iv (d)] (cW ki ln bt rl cp cs ct cv 5 14 ja ea ma a1 a2 a3 a4 a5 a6 a7 a8 jb eb mb b1 b2 b3 b4 b5 b6 b7 b8 re fl g1 g2 g3 g4 g5 (dW rt la rs rg pd du ds me tt gr su gp mk rf m1 m2 m3 m4 m5 mr mf n1 n2 n3 n4 n5 nr nf E)) = some r := h1
  rw [h1, h2]
abbrev rn_X0_askOfOver (N : Nat) (c : mm_C) (Q : mm_R → Prop) : Prop := rn (mm_gf gLX0) (mm_pf pLX0) (mm_mv vX0_askOfOver) (mm_mv zX0_askOfOver) (mm_kc kLX0) mm_gs0 mm_rf0 mm_ro (some .int) 3 (mm_ins iX0_askOfOver) N c Q
theorem c_aoC0 (hAd : ARd a1 a2 a3) (hAs : ARs a4 a5 a6 a7) (hn : 0 ≤ ma ∧ ma ≤ 16) (hi : 0 ≤ i ∧ i ≤ 15) (hu : -2147483648 ≤ u ∧ u ≤ 2147483647) : sX0_askOfOver [.ref 4, iv (i), iv (u)] (cW ki ln bt rl cp cs ct cv 5 14 ja ea ma a1 a2 a3 a4 a5 a6 a7 a8 jb eb mb b1 b2 b3 b4 b5 b6 b7 b8 re fl g1 g2 g3 g4 g5 (dW rt la rs rg pd du ds me tt gr su gp mk rf m1 m2 m3 m4 m5 mr mf n1 n2 n3 n4 n5 nr nf E)) = some (some (iv (cAO a3 a4 a5 g1 g2 g3 ma re fl i u)), (cW ki ln bt rl cp cs ct cv 5 14 ja ea ma a1 a2 a3 a4 a5 a6 a7 a8 jb eb mb b1 b2 b3 b4 b5 b6 b7 b8 re fl g1 g2 g3 g4 g5 (dW rt la rs rg pd du ds me tt gr su gp mk rf m1 m2 m3 m4 m5 mr mf n1 n2 n3 n4 n5 nr nf E))) := by
  have main : ∀ Q : mm_R → Prop, Q (some (iv (cAO a3 a4 a5 g1 g2 g3 ma re fl i u)), (cW ki ln bt rl cp cs ct cv 5 14 ja ea ma a1 a2 a3 a4 a5 a6 a7 a8 jb eb mb b1 b2 b3 b4 b5 b6 b7 b8 re fl g1 g2 g3 g4 g5 (dW rt la rs rg pd du ds me tt gr su gp mk rf m1 m2 m3 m4 m5 mr mf n1 n2 n3 n4 n5 nr nf E))) → rn_X0_askOfOver (1000) (0, [(0, .ref 4), (1, iv (i)), (2, iv (u))], [], (cW ki ln bt rl cp cs ct cv 5 14 ja ea ma a1 a2 a3 a4 a5 a6 a7 a8 jb eb mb b1 b2 b3 b4 b5 b6 b7 b8 re fl g1 g2 g3 g4 g5 (dW rt la rs rg pd du ds me tt gr su gp mk rf m1 m2 m3 m4 m5 mr mf n1 n2 n3 n4 n5 nr nf E))) Q := by
    intro Q hQ
    refine r_al rfl rfl ?_
    refine r_il rfl rfl ?_
    refine r_v2s rfl rfl xg_4 rfl (c_isStandC0 hu hn) ?_
    refine r_zeq rfl rfl (bi_r _) (fun u1 => ?_) (fun u1 => ?_)
    · have e : cAO a3 a4 a5 g1 g2 g3 ma re fl i u = 0 := by unfold cAO; rw [bi_0 u1]; rfl
      rw [e] at hQ
      refine r_ic rfl ?_
      exact r_ret rfl rfl hQ
    · have u1 := bi_1 u1
      have ru := i3_t u1
      refine r_al rfl rfl ?_
      refine r_al rfl rfl ?_
      refine r_gf rfl rfl xg_4 rfl ?_
      refine r_gf rfl rfl xg_5 rfl ?_
      refine r_il rfl rfl ?_
      refine r_ia rfl xg_9 (by omega) (by omega) (by decide) ?_
      refine r_v2s rfl rfl xg_4 rfl (c_isFalC0 (ar4 hAs (by omega)).1) ?_
      refine r_zne rfl rfl (bi_r _) (fun u2 => ?_) (fun u2 => ?_)
      · have e : cAO a3 a4 a5 g1 g2 g3 ma re fl i u = mnI (cLR a3 a5 g1 g2 g3 re i) (nrm (cL g3 g2 re u)) := by unfold cAO; rw [u1, bi_1 u2]; rfl
        rw [e] at hQ
        refine r_al rfl rfl ?_
        refine r_il rfl rfl ?_
        refine r_v2s rfl rfl xg_4 rfl (c_lrC0 hAd hAs hn hi) ?_
        refine r_al rfl rfl ?_
        refine r_il rfl rfl ?_
        refine r_v2s rfl rfl xg_4 rfl (c_leftC0 (by omega)) ?_
        refine r_nrm ?_
        refine r_s2s rfl rfl rfl (c_minC cLR_r (nrm_r _)) ?_
        exact r_ret rfl rfl hQ
      · have e : cAO a3 a4 a5 g1 g2 g3 ma re fl i u = 0 := by unfold cAO; rw [u1, bi_0 u2]; rfl
        rw [e] at hQ
        refine r_ic rfl ?_
        exact r_ret rfl rfl hQ
  obtain ⟨r, h1, h2⟩ := rn_S (vs := [.ref 4, iv (i), iv (u)]) (Q := fun r => r = (some (iv (cAO a3 a4 a5 g1 g2 g3 ma re fl i u)), (cW ki ln bt rl cp cs ct cv 5 14 ja ea ma a1 a2 a3 a4 a5 a6 a7 a8 jb eb mb b1 b2 b3 b4 b5 b6 b7 b8 re fl g1 g2 g3 g4 g5 (dW rt la rs rg pd du ds me tt gr su gp mk rf m1 m2 m3 m4 m5 mr mf n1 n2 n3 n4 n5 nr nf E)))) rfl (rn_up (N := 1000) (M := mm_fuel) (by decide) (main (fun r => r = (some (iv (cAO a3 a4 a5 g1 g2 g3 ma re fl i u)), (cW ki ln bt rl cp cs ct cv 5 14 ja ea ma a1 a2 a3 a4 a5 a6 a7 a8 jb eb mb b1 b2 b3 b4 b5 b6 b7 b8 re fl g1 g2 g3 g4 g5 (dW rt la rs rg pd du ds me tt gr su gp mk rf m1 m2 m3 m4 m5 mr mf n1 n2 n3 n4 n5 nr nf E)))) rfl))
  have h1 : sX0_askOfOver [.ref 4, iv (i), iv (u)] (cW ki ln bt rl cp cs ct cv 5 14 ja ea ma a1 a2 a3 a4 a5 a6 a7 a8 jb eb mb b1 b2 b3 b4 b5 b6 b7 b8 re fl g1 g2 g3 g4 g5 (dW rt la rs rg pd du ds me tt gr su gp mk rf m1 m2 m3 m4 m5 mr mf n1 n2 n3 n4 n5 nr nf E)) = some r := h1
  rw [h1, h2]
abbrev rn_X0_allAheadFell (N : Nat) (c : mm_C) (Q : mm_R → Prop) : Prop := rn (mm_gf gLX0) (mm_pf pLX0) (mm_mv vX0_allAheadFell) (mm_mv zX0_allAheadFell) (mm_kc kLX0) mm_gs0 mm_rf0 mm_ro (some .boolean) 4 (mm_ins iX0_allAheadFell) N c Q
theorem aaf_lp0 {n : Nat} (hn : n ≤ 16) (hAs : ARs a4 a5 a6 a7) (hd : -2147483648 ≤ d ∧ d ≤ 2147483647) (k : Q (some (iv (bi (cAA a4 a5 a6 re fl d n))), (cW ki ln bt rl cp cs ct cv 5 14 ja ea (n : Int) a1 a2 a3 a4 a5 a6 a7 a8 jb eb mb b1 b2 b3 b4 b5 b6 b7 b8 re fl g1 g2 g3 g4 g5 (dW rt la rs rg pd du ds me tt gr su gp mk rf m1 m2 m3 m4 m5 mr mf n1 n2 n3 n4 n5 nr nf E)))) : ∀ (m j : Nat), j + m = n → cAA a4 a5 a6 re fl d j = true → rn_X0_allAheadFell (10 + 100 * m + 100) (20, [(2, iv ((j : Int))), (0, .ref 4), (1, iv (d))], [], (cW ki ln bt rl cp cs ct cv 5 14 ja ea (n : Int) a1 a2 a3 a4 a5 a6 a7 a8 jb eb mb b1 b2 b3 b4 b5 b6 b7 b8 re fl g1 g2 g3 g4 g5 (dW rt la rs rg pd du ds me tt gr su gp mk rf m1 m2 m3 m4 m5 mr mf n1 n2 n3 n4 n5 nr nf E))) Q := by
  intro m
  induction m with
  | zero =>
    intro j hj ha
    have hj : j = n := by omega
    subst hj
    rw [ha] at k
    refine rn_up (N := 10 + 100) (by omega) ?_
    refine r_il rfl rfl ?_
    refine r_al rfl rfl ?_
    refine r_gf rfl rfl xg_4 rfl ?_
    refine r_gf rfl rfl xg_5 rfl ?_
    refine r_cge rfl rfl (by omega) (by omega) (fun u1 => ?_) (fun u1 => ?_)
    · refine r_ic rfl ?_
      exact r_retb rfl rfl (by omega) k
    · omega
  | succ m ih =>
    intro j hj ha
    obtain ⟨M, hM⟩ : ∃ M, M = 10 + 100 * m + 100 := ⟨_, rfl⟩
    rw [← hM] at ih
    refine rn_up (N := M + 100) (by omega) ?_
    refine r_il rfl rfl ?_
    refine r_al rfl rfl ?_
    refine r_gf rfl rfl xg_4 rfl ?_
    refine r_gf rfl rfl xg_5 rfl ?_
    refine r_cge rfl rfl (by omega) (by omega) (fun u1 => ?_) (fun u1 => ?_)
    · omega
    · refine r_al rfl rfl ?_
      refine r_gf rfl rfl xg_4 rfl ?_
      refine r_gf rfl rfl xg_5 rfl ?_
      refine r_il rfl rfl ?_
      refine r_ia rfl xg_11 (by omega) (by omega) (by decide) ?_
      have rj := ar4 hAs (show 0 ≤ (j : Int) ∧ (j : Int) ≤ 15 by omega)
      have K : rn_X0_allAheadFell (M + 60) (61, [(2, iv ((j : Int))), (0, .ref 4), (1, iv (d))], [iv (bi (decide ((a6 (Int.toNat (j : Int))).toInt = 0) || decide ((a6 (Int.toNat (j : Int))).toInt = 1)))], (cW ki ln bt rl cp cs ct cv 5 14 ja ea (n : Int) a1 a2 a3 a4 a5 a6 a7 a8 jb eb mb b1 b2 b3 b4 b5 b6 b7 b8 re fl g1 g2 g3 g4 g5 (dW rt la rs rg pd du ds me tt gr su gp mk rf m1 m2 m3 m4 m5 mr mf n1 n2 n3 n4 n5 nr nf E))) Q := by
        refine r_is (lv' := [(3, _), (2, _), (0, _), (1, _)]) rfl rfl rfl ?_
        refine r_il rfl rfl ?_
        refine r_zeq rfl rfl (bi_r _) (fun u2 => ?_) (fun u2 => ?_)
        · have u2 := bi_0 u2
          refine r_inc (lv' := [(2, _), (3, _), (0, _), (1, _)]) rfl rfl rfl rfl ?_
          refine r_goto rfl rfl ?_
          have e : cAh a4 a5 a6 re fl d j = false := by unfold cAh; rw [u2]; rfl
          have ha2 : cAA a4 a5 a6 re fl d (j + 1) = true := by show (cAA a4 a5 a6 re fl d j && !cAh a4 a5 a6 re fl d j) = true; rw [ha, e]; rfl
          refine rn_LE (a := [(2, iv ((j : Int) + 1)), (0, .ref 4), (1, iv (d))]) ⟨(List.forall_mem_cons.mpr ⟨List.mem_cons_self, (List.forall_mem_cons.mpr ⟨(List.mem_cons_of_mem _ (List.mem_cons_of_mem _ List.mem_cons_self)), (List.forall_mem_cons.mpr ⟨(List.mem_cons_of_mem _ (List.mem_cons_of_mem _ (List.mem_cons_of_mem _ List.mem_cons_self))), (fun _ h => absurd h List.not_mem_nil)⟩)⟩)⟩), (by show List.Nodup [2, 0, 1]; decide), (by show List.Nodup [2, 3, 0, 1]; decide)⟩ ?_
          exact rn_up (by omega) (ih (j + 1) (by omega) ha2)
        · have u2 := bi_1 u2
          refine r_al rfl rfl ?_
          refine r_gf rfl rfl xg_4 rfl ?_
          refine r_gf rfl rfl xg_5 rfl ?_
          refine r_il rfl rfl ?_
          refine r_ia rfl xg_10 (by omega) (by omega) (by decide) ?_
          refine r_il rfl rfl ?_
          refine r_cne rfl rfl (as_r _) hd (fun u3 => ?_) (fun u3 => ?_)
          · refine r_inc (lv' := [(2, _), (3, _), (0, _), (1, _)]) rfl rfl rfl rfl ?_
            refine r_goto rfl rfl ?_
            have e : cAh a4 a5 a6 re fl d j = false := by unfold cAh; rw [u2, decide_eq_false u3]; rfl
            have ha2 : cAA a4 a5 a6 re fl d (j + 1) = true := by show (cAA a4 a5 a6 re fl d j && !cAh a4 a5 a6 re fl d j) = true; rw [ha, e]; rfl
            refine rn_LE (a := [(2, iv ((j : Int) + 1)), (0, .ref 4), (1, iv (d))]) ⟨(List.forall_mem_cons.mpr ⟨List.mem_cons_self, (List.forall_mem_cons.mpr ⟨(List.mem_cons_of_mem _ (List.mem_cons_of_mem _ List.mem_cons_self)), (List.forall_mem_cons.mpr ⟨(List.mem_cons_of_mem _ (List.mem_cons_of_mem _ (List.mem_cons_of_mem _ List.mem_cons_self))), (fun _ h => absurd h List.not_mem_nil)⟩)⟩)⟩), (by show List.Nodup [2, 0, 1]; decide), (by show List.Nodup [2, 3, 0, 1]; decide)⟩ ?_
            exact rn_up (by omega) (ih (j + 1) (by omega) ha2)
          · refine r_al rfl rfl ?_
            refine r_il rfl rfl ?_
            refine r_v2s rfl rfl xg_4 rfl (c_isRelC0 (by omega)) ?_
            refine r_zne rfl rfl (bi_r _) (fun u4 => ?_) (fun u4 => ?_)
            · have u4 : zb (Int32.ofInt re) j = true := bi_1 u4
              refine r_inc (lv' := [(2, _), (3, _), (0, _), (1, _)]) rfl rfl rfl rfl ?_
              refine r_goto rfl rfl ?_
              have e : cAh a4 a5 a6 re fl d j = false := by unfold cAh; rw [u2, decide_eq_true u3, u4]; rfl
              have ha2 : cAA a4 a5 a6 re fl d (j + 1) = true := by show (cAA a4 a5 a6 re fl d j && !cAh a4 a5 a6 re fl d j) = true; rw [ha, e]; rfl
              refine rn_LE (a := [(2, iv ((j : Int) + 1)), (0, .ref 4), (1, iv (d))]) ⟨(List.forall_mem_cons.mpr ⟨List.mem_cons_self, (List.forall_mem_cons.mpr ⟨(List.mem_cons_of_mem _ (List.mem_cons_of_mem _ List.mem_cons_self)), (List.forall_mem_cons.mpr ⟨(List.mem_cons_of_mem _ (List.mem_cons_of_mem _ (List.mem_cons_of_mem _ List.mem_cons_self))), (fun _ h => absurd h List.not_mem_nil)⟩)⟩)⟩), (by show List.Nodup [2, 0, 1]; decide), (by show List.Nodup [2, 3, 0, 1]; decide)⟩ ?_
              exact rn_up (by omega) (ih (j + 1) (by omega) ha2)
            · have u4 : zb (Int32.ofInt re) j = false := bi_0 u4
              refine r_al rfl rfl ?_
              refine r_al rfl rfl ?_
              refine r_gf rfl rfl xg_4 rfl ?_
              refine r_gf rfl rfl xg_5 rfl ?_
              refine r_il rfl rfl ?_
              refine r_ia rfl xg_9 (by omega) (by omega) (by decide) ?_
              refine r_v2s rfl rfl xg_4 rfl (c_isFalC0 rj.1) ?_
              refine r_zne rfl rfl (bi_r _) (fun u5 => ?_) (fun u5 => ?_)
              · have u5 := bi_1 u5
                refine r_inc (lv' := [(2, _), (3, _), (0, _), (1, _)]) rfl rfl rfl rfl ?_
                refine r_goto rfl rfl ?_
                have e : cAh a4 a5 a6 re fl d j = false := by unfold cAh; rw [u2, decide_eq_true u3, u4, u5]; rfl
                have ha2 : cAA a4 a5 a6 re fl d (j + 1) = true := by show (cAA a4 a5 a6 re fl d j && !cAh a4 a5 a6 re fl d j) = true; rw [ha, e]; rfl
                refine rn_LE (a := [(2, iv ((j : Int) + 1)), (0, .ref 4), (1, iv (d))]) ⟨(List.forall_mem_cons.mpr ⟨List.mem_cons_self, (List.forall_mem_cons.mpr ⟨(List.mem_cons_of_mem _ (List.mem_cons_of_mem _ List.mem_cons_self)), (List.forall_mem_cons.mpr ⟨(List.mem_cons_of_mem _ (List.mem_cons_of_mem _ (List.mem_cons_of_mem _ List.mem_cons_self))), (fun _ h => absurd h List.not_mem_nil)⟩)⟩)⟩), (by show List.Nodup [2, 0, 1]; decide), (by show List.Nodup [2, 3, 0, 1]; decide)⟩ ?_
                exact rn_up (by omega) (ih (j + 1) (by omega) ha2)
              · have u5 := bi_0 u5
                have e : cAh a4 a5 a6 re fl d j = true := by unfold cAh; rw [u2, decide_eq_true u3, u4, u5]; rfl
                have e2 := cAA_f e m
                rw [show j + 1 + m = n by omega] at e2
                rw [e2] at k
                refine r_ic rfl ?_
                exact r_retb rfl rfl (by omega) k
      refine r_zeq rfl rfl (as_r _) (fun u6 => ?_) (fun u6 => ?_)
      · refine r_ic rfl ?_
        refine r_goto rfl rfl ?_
        rw [decide_eq_true u6] at K
        exact rn_up (N := M + 60) (by omega) K
      · refine r_al rfl rfl ?_
        refine r_gf rfl rfl xg_4 rfl ?_
        refine r_gf rfl rfl xg_5 rfl ?_
        refine r_il rfl rfl ?_
        refine r_ia rfl xg_11 (by omega) (by omega) (by decide) ?_
        refine r_ic rfl ?_
        refine r_cne rfl rfl (as_r _) (by decide) (fun u7 => ?_) (fun u7 => ?_)
        · refine r_ic rfl ?_
          rw [decide_eq_false u6, decide_eq_false u7] at K
          exact rn_up (N := M + 60) (by omega) K
        · refine r_ic rfl ?_
          refine r_goto rfl rfl ?_
          rw [decide_eq_false u6, decide_eq_true u7] at K
          exact rn_up (N := M + 60) (by omega) K
theorem c_aafC0 (hAd : ARd a1 a2 a3) (hAs : ARs a4 a5 a6 a7) (hn : 0 ≤ ma ∧ ma ≤ 16) (hd : 0 ≤ d ∧ d ≤ 9) : sX0_allAheadFell [.ref 4, iv d] (cW ki ln bt rl cp cs ct cv 5 14 ja ea ma a1 a2 a3 a4 a5 a6 a7 a8 jb eb mb b1 b2 b3 b4 b5 b6 b7 b8 re fl g1 g2 g3 g4 g5 (dW rt la rs rg pd du ds me tt gr su gp mk rf m1 m2 m3 m4 m5 mr mf n1 n2 n3 n4 n5 nr nf E)) = some (some (iv (bi (cAF a1 a4 a5 a6 ma re fl d))), (cW ki ln bt rl cp cs ct cv 5 14 ja ea ma a1 a2 a3 a4 a5 a6 a7 a8 jb eb mb b1 b2 b3 b4 b5 b6 b7 b8 re fl g1 g2 g3 g4 g5 (dW rt la rs rg pd du ds me tt gr su gp mk rf m1 m2 m3 m4 m5 mr mf n1 n2 n3 n4 n5 nr nf E))) := by
  obtain ⟨n, rfl⟩ := Int.eq_ofNat_of_zero_le hn.1
  have hn16 : n ≤ 16 := by omega
  obtain ⟨M, hM⟩ : ∃ M, M = 10 + 100 * 16 + 100 := ⟨_, rfl⟩
  have main : ∀ Q : mm_R → Prop, Q (some (iv (bi (cAF a1 a4 a5 a6 (n : Int) re fl d))), (cW ki ln bt rl cp cs ct cv 5 14 ja ea (n : Int) a1 a2 a3 a4 a5 a6 a7 a8 jb eb mb b1 b2 b3 b4 b5 b6 b7 b8 re fl g1 g2 g3 g4 g5 (dW rt la rs rg pd du ds me tt gr su gp mk rf m1 m2 m3 m4 m5 mr mf n1 n2 n3 n4 n5 nr nf E))) → rn_X0_allAheadFell (M + 60) (0, [(0, .ref 4), (1, iv (d))], [], (cW ki ln bt rl cp cs ct cv 5 14 ja ea (n : Int) a1 a2 a3 a4 a5 a6 a7 a8 jb eb mb b1 b2 b3 b4 b5 b6 b7 b8 re fl g1 g2 g3 g4 g5 (dW rt la rs rg pd du ds me tt gr su gp mk rf m1 m2 m3 m4 m5 mr mf n1 n2 n3 n4 n5 nr nf E))) Q := by
    intro Q hQ
    refine r_al rfl rfl ?_
    refine r_al rfl rfl ?_
    refine r_gf rfl rfl xg_4 rfl ?_
    refine r_gf rfl rfl xg_5 rfl ?_
    refine r_il rfl rfl ?_
    refine r_ia rfl xg_6 (by omega) (by omega) (by decide) ?_
    refine r_v2s rfl rfl xg_4 rfl (c_isFalC0 (ar1 hAd hd).1) ?_
    refine r_zne rfl rfl (bi_r _) (fun u1 => ?_) (fun u1 => ?_)
    · have e : cAF a1 a4 a5 a6 (n : Int) re fl d = cAA a4 a5 a6 re fl d n := by unfold cAF; rw [bi_1 u1]; rfl
      rw [e] at hQ
      refine r_ic rfl ?_
      refine r_is (lv' := [(2, _), (0, _), (1, _)]) rfl rfl rfl ?_
      exact rn_up (N := 10 + 100 * n + 100) (by omega) (aaf_lp0 hn16 hAs (by omega) hQ n 0 (by omega) rfl)
    · have e : cAF a1 a4 a5 a6 (n : Int) re fl d = false := by unfold cAF; rw [bi_0 u1]; rfl
      rw [e] at hQ
      refine r_ic rfl ?_
      exact r_retb rfl rfl (by omega) hQ
  obtain ⟨r, h1, h2⟩ := rn_S (vs := [.ref 4, iv d]) (Q := fun r => r = (some (iv (bi (cAF a1 a4 a5 a6 (n : Int) re fl d))), (cW ki ln bt rl cp cs ct cv 5 14 ja ea (n : Int) a1 a2 a3 a4 a5 a6 a7 a8 jb eb mb b1 b2 b3 b4 b5 b6 b7 b8 re fl g1 g2 g3 g4 g5 (dW rt la rs rg pd du ds me tt gr su gp mk rf m1 m2 m3 m4 m5 mr mf n1 n2 n3 n4 n5 nr nf E)))) rfl (rn_up (N := M + 60) (M := mm_fuel) (by rw [hM]; decide) (main (fun r => r = (some (iv (bi (cAF a1 a4 a5 a6 (n : Int) re fl d))), (cW ki ln bt rl cp cs ct cv 5 14 ja ea (n : Int) a1 a2 a3 a4 a5 a6 a7 a8 jb eb mb b1 b2 b3 b4 b5 b6 b7 b8 re fl g1 g2 g3 g4 g5 (dW rt la rs rg pd du ds me tt gr su gp mk rf m1 m2 m3 m4 m5 mr mf n1 n2 n3 n4 n5 nr nf E)))) rfl))
  have h1 : sX0_allAheadFell [.ref 4, iv d] (cW ki ln bt rl cp cs ct cv 5 14 ja ea (n : Int) a1 a2 a3 a4 a5 a6 a7 a8 jb eb mb b1 b2 b3 b4 b5 b6 b7 b8 re fl g1 g2 g3 g4 g5 (dW rt la rs rg pd du ds me tt gr su gp mk rf m1 m2 m3 m4 m5 mr mf n1 n2 n3 n4 n5 nr nf E)) = some r := h1
  rw [h1, h2]
abbrev rn_X0_askOfStanding (N : Nat) (c : mm_C) (Q : mm_R → Prop) : Prop := rn (mm_gf gLX0) (mm_pf pLX0) (mm_mv vX0_askOfStanding) (mm_mv zX0_askOfStanding) (mm_kc kLX0) mm_gs0 mm_rf0 mm_ro (some .int) 2 (mm_ins iX0_askOfStanding) N c Q
theorem c_asC0 (hAd : ARd a1 a2 a3) (hAs : ARs a4 a5 a6 a7) (hn : 0 ≤ ma ∧ ma ≤ 16) (hi : 0 ≤ i ∧ i ≤ 15) : sX0_askOfStanding [.ref 4, iv (i)] (cW ki ln bt rl cp cs ct cv 5 14 ja ea ma a1 a2 a3 a4 a5 a6 a7 a8 jb eb mb b1 b2 b3 b4 b5 b6 b7 b8 re fl g1 g2 g3 g4 g5 (dW rt la rs rg pd du ds me tt gr su gp mk rf m1 m2 m3 m4 m5 mr mf n1 n2 n3 n4 n5 nr nf E)) = some (some (iv (cAS a1 a3 a4 a5 a6 a7 g1 g2 g3 ma re fl i)), (cW ki ln bt rl cp cs ct cv 5 14 ja ea ma a1 a2 a3 a4 a5 a6 a7 a8 jb eb mb b1 b2 b3 b4 b5 b6 b7 b8 re fl g1 g2 g3 g4 g5 (dW rt la rs rg pd du ds me tt gr su gp mk rf m1 m2 m3 m4 m5 mr mf n1 n2 n3 n4 n5 nr nf E))) := by
  have main : ∀ Q : mm_R → Prop, Q (some (iv (cAS a1 a3 a4 a5 a6 a7 g1 g2 g3 ma re fl i)), (cW ki ln bt rl cp cs ct cv 5 14 ja ea ma a1 a2 a3 a4 a5 a6 a7 a8 jb eb mb b1 b2 b3 b4 b5 b6 b7 b8 re fl g1 g2 g3 g4 g5 (dW rt la rs rg pd du ds me tt gr su gp mk rf m1 m2 m3 m4 m5 mr mf n1 n2 n3 n4 n5 nr nf E))) → rn_X0_askOfStanding (1000) (0, [(0, .ref 4), (1, iv (i))], [], (cW ki ln bt rl cp cs ct cv 5 14 ja ea ma a1 a2 a3 a4 a5 a6 a7 a8 jb eb mb b1 b2 b3 b4 b5 b6 b7 b8 re fl g1 g2 g3 g4 g5 (dW rt la rs rg pd du ds me tt gr su gp mk rf m1 m2 m3 m4 m5 mr mf n1 n2 n3 n4 n5 nr nf E))) Q := by
    intro Q hQ
    refine r_al rfl rfl ?_
    refine r_al rfl rfl ?_
    refine r_gf rfl rfl xg_4 rfl ?_
    refine r_gf rfl rfl xg_5 rfl ?_
    refine r_il rfl rfl ?_
    refine r_ia rfl xg_9 (by omega) (by omega) (by decide) ?_
    refine r_v2s rfl rfl xg_4 rfl (c_isFalC0 (ar4 hAs hi).1) ?_
    refine r_zeq rfl rfl (bi_r _) (fun u1 => ?_) (fun u1 => ?_)
    · have u1 := bi_0 u1
      refine r_al rfl rfl ?_
      refine r_gf rfl rfl xg_4 rfl ?_
      refine r_gf rfl rfl xg_5 rfl ?_
      refine r_il rfl rfl ?_
      refine r_ia rfl xg_11 (by omega) (by omega) (by decide) ?_
      refine r_ic rfl ?_
      refine r_cne rfl rfl (as_r _) (by decide) (fun u2 => ?_) (fun u2 => ?_)
      · refine r_al rfl rfl ?_
        refine r_gf rfl rfl xg_4 rfl ?_
        refine r_gf rfl rfl xg_5 rfl ?_
        refine r_il rfl rfl ?_
        refine r_ia rfl xg_11 (by omega) (by omega) (by decide) ?_
        refine r_ic rfl ?_
        refine r_cne rfl rfl (as_r _) (by decide) (fun u3 => ?_) (fun u3 => ?_)
        · have e : cAS a1 a3 a4 a5 a6 a7 g1 g2 g3 ma re fl i = cLR a3 a5 g1 g2 g3 re i := by unfold cAS; rw [u1, decide_eq_false u2, decide_eq_false u3]; rfl
          rw [e] at hQ
          refine r_al rfl rfl ?_
          refine r_il rfl rfl ?_
          refine r_v2s rfl rfl xg_4 rfl (c_lrC0 hAd hAs hn hi) ?_
          exact r_ret rfl rfl hQ
        · refine r_al rfl rfl ?_
          refine r_al rfl rfl ?_
          refine r_gf rfl rfl xg_4 rfl ?_
          refine r_gf rfl rfl xg_5 rfl ?_
          refine r_il rfl rfl ?_
          refine r_ia rfl xg_10 (by omega) (by omega) (by decide) ?_
          refine r_v2s rfl rfl xg_4 rfl (c_aafC0 hAd hAs hn (ar4 hAs hi).2) ?_
          refine r_zne rfl rfl (bi_r _) (fun u4 => ?_) (fun u4 => ?_)
          · have e : cAS a1 a3 a4 a5 a6 a7 g1 g2 g3 ma re fl i = cLR a3 a5 g1 g2 g3 re i := by unfold cAS; rw [u1, decide_eq_false u2, decide_eq_true u3, bi_1 u4]; rfl
            rw [e] at hQ
            refine r_al rfl rfl ?_
            refine r_il rfl rfl ?_
            refine r_v2s rfl rfl xg_4 rfl (c_lrC0 hAd hAs hn hi) ?_
            exact r_ret rfl rfl hQ
          · have e : cAS a1 a3 a4 a5 a6 a7 g1 g2 g3 ma re fl i = 0 := by unfold cAS; rw [u1, decide_eq_false u2, decide_eq_true u3, bi_0 u4]; rfl
            rw [e] at hQ
            refine r_ic rfl ?_
            exact r_ret rfl rfl hQ
      · have e : cAS a1 a3 a4 a5 a6 a7 g1 g2 g3 ma re fl i = cAO a3 a4 a5 g1 g2 g3 ma re fl i (a7 (Int.toNat i)).toInt := by unfold cAS; rw [u1, decide_eq_true u2]; rfl
        rw [e] at hQ
        refine r_al rfl rfl ?_
        refine r_il rfl rfl ?_
        refine r_al rfl rfl ?_
        refine r_gf rfl rfl xg_4 rfl ?_
        refine r_gf rfl rfl xg_5 rfl ?_
        refine r_il rfl rfl ?_
        refine r_ia rfl xg_12 (by omega) (by omega) (by decide) ?_
        refine r_v3s rfl rfl xg_4 rfl (c_aoC0 hAd hAs hn hi (as_r _)) ?_
        exact r_ret rfl rfl hQ
    · have e : cAS a1 a3 a4 a5 a6 a7 g1 g2 g3 ma re fl i = 0 := by unfold cAS; rw [bi_1 u1]; rfl
      rw [e] at hQ
      refine r_ic rfl ?_
      exact r_ret rfl rfl hQ
  obtain ⟨r, h1, h2⟩ := rn_S (vs := [.ref 4, iv (i)]) (Q := fun r => r = (some (iv (cAS a1 a3 a4 a5 a6 a7 g1 g2 g3 ma re fl i)), (cW ki ln bt rl cp cs ct cv 5 14 ja ea ma a1 a2 a3 a4 a5 a6 a7 a8 jb eb mb b1 b2 b3 b4 b5 b6 b7 b8 re fl g1 g2 g3 g4 g5 (dW rt la rs rg pd du ds me tt gr su gp mk rf m1 m2 m3 m4 m5 mr mf n1 n2 n3 n4 n5 nr nf E)))) rfl (rn_up (N := 1000) (M := mm_fuel) (by decide) (main (fun r => r = (some (iv (cAS a1 a3 a4 a5 a6 a7 g1 g2 g3 ma re fl i)), (cW ki ln bt rl cp cs ct cv 5 14 ja ea ma a1 a2 a3 a4 a5 a6 a7 a8 jb eb mb b1 b2 b3 b4 b5 b6 b7 b8 re fl g1 g2 g3 g4 g5 (dW rt la rs rg pd du ds me tt gr su gp mk rf m1 m2 m3 m4 m5 mr mf n1 n2 n3 n4 n5 nr nf E)))) rfl))
  have h1 : sX0_askOfStanding [.ref 4, iv (i)] (cW ki ln bt rl cp cs ct cv 5 14 ja ea ma a1 a2 a3 a4 a5 a6 a7 a8 jb eb mb b1 b2 b3 b4 b5 b6 b7 b8 re fl g1 g2 g3 g4 g5 (dW rt la rs rg pd du ds me tt gr su gp mk rf m1 m2 m3 m4 m5 mr mf n1 n2 n3 n4 n5 nr nf E)) = some r := h1
  rw [h1, h2]
theorem c_lrC1 (hAd : ARd b1 b2 b3) (hAs : ARs b4 b5 b6 b7) (hn : 0 ≤ mb ∧ mb ≤ 16) (hi : 0 ≤ i ∧ i ≤ 15) : sX0_lesserOfLeftAndRest [.ref 4, iv (i)] (cW ki ln bt rl cp cs ct cv 14 5 ja ea ma a1 a2 a3 a4 a5 a6 a7 a8 jb eb mb b1 b2 b3 b4 b5 b6 b7 b8 re fl g1 g2 g3 g4 g5 (dW rt la rs rg pd du ds me tt gr su gp mk rf m1 m2 m3 m4 m5 mr mf n1 n2 n3 n4 n5 nr nf E)) = some (some (iv (cLR b3 b5 g1 g2 g3 re i)), (cW ki ln bt rl cp cs ct cv 14 5 ja ea ma a1 a2 a3 a4 a5 a6 a7 a8 jb eb mb b1 b2 b3 b4 b5 b6 b7 b8 re fl g1 g2 g3 g4 g5 (dW rt la rs rg pd du ds me tt gr su gp mk rf m1 m2 m3 m4 m5 mr mf n1 n2 n3 n4 n5 nr nf E))) := by
  have main : ∀ Q : mm_R → Prop, Q (some (iv (cLR b3 b5 g1 g2 g3 re i)), (cW ki ln bt rl cp cs ct cv 14 5 ja ea ma a1 a2 a3 a4 a5 a6 a7 a8 jb eb mb b1 b2 b3 b4 b5 b6 b7 b8 re fl g1 g2 g3 g4 g5 (dW rt la rs rg pd du ds me tt gr su gp mk rf m1 m2 m3 m4 m5 mr mf n1 n2 n3 n4 n5 nr nf E))) → rn_X0_lesserOfLeftAndRest (1000) (0, [(0, .ref 4), (1, iv (i))], [], (cW ki ln bt rl cp cs ct cv 14 5 ja ea ma a1 a2 a3 a4 a5 a6 a7 a8 jb eb mb b1 b2 b3 b4 b5 b6 b7 b8 re fl g1 g2 g3 g4 g5 (dW rt la rs rg pd du ds me tt gr su gp mk rf m1 m2 m3 m4 m5 mr mf n1 n2 n3 n4 n5 nr nf E))) Q := by
    intro Q hQ
    refine r_al rfl rfl ?_
    refine r_il rfl rfl ?_
    refine r_v2s rfl rfl xg_4 rfl (c_leftC1 hi) ?_
    refine r_nrm ?_
    refine r_al rfl rfl ?_
    refine r_al rfl rfl ?_
    refine r_gf rfl rfl xg_4 rfl ?_
    refine r_gf rfl rfl xg_14 rfl ?_
    refine r_il rfl rfl ?_
    refine r_ia rfl xg_19 (by omega) (by omega) (by decide) ?_
    refine r_v2s rfl rfl xg_4 rfl (c_restC1 (ar4 hAs hi).2) ?_
    refine r_nrm ?_
    refine r_s2s rfl rfl rfl (c_minC (nrm_r _) (nrm_r _)) ?_
    exact r_ret rfl rfl hQ
  obtain ⟨r, h1, h2⟩ := rn_S (vs := [.ref 4, iv (i)]) (Q := fun r => r = (some (iv (cLR b3 b5 g1 g2 g3 re i)), (cW ki ln bt rl cp cs ct cv 14 5 ja ea ma a1 a2 a3 a4 a5 a6 a7 a8 jb eb mb b1 b2 b3 b4 b5 b6 b7 b8 re fl g1 g2 g3 g4 g5 (dW rt la rs rg pd du ds me tt gr su gp mk rf m1 m2 m3 m4 m5 mr mf n1 n2 n3 n4 n5 nr nf E)))) rfl (rn_up (N := 1000) (M := mm_fuel) (by decide) (main (fun r => r = (some (iv (cLR b3 b5 g1 g2 g3 re i)), (cW ki ln bt rl cp cs ct cv 14 5 ja ea ma a1 a2 a3 a4 a5 a6 a7 a8 jb eb mb b1 b2 b3 b4 b5 b6 b7 b8 re fl g1 g2 g3 g4 g5 (dW rt la rs rg pd du ds me tt gr su gp mk rf m1 m2 m3 m4 m5 mr mf n1 n2 n3 n4 n5 nr nf E)))) rfl))
  have h1 : sX0_lesserOfLeftAndRest [.ref 4, iv (i)] (cW ki ln bt rl cp cs ct cv 14 5 ja ea ma a1 a2 a3 a4 a5 a6 a7 a8 jb eb mb b1 b2 b3 b4 b5 b6 b7 b8 re fl g1 g2 g3 g4 g5 (dW rt la rs rg pd du ds me tt gr su gp mk rf m1 m2 m3 m4 m5 mr mf n1 n2 n3 n4 n5 nr nf E)) = some r := h1
  rw [h1, h2]
theorem c_adC1 (hAd : ARd b1 b2 b3) (hAs : ARs b4 b5 b6 b7) (hn : 0 ≤ mb ∧ mb ≤ 16) (hd : 0 ≤ d ∧ d ≤ 9) : sX0_askOfDebtor [.ref 4, iv (d)] (cW ki ln bt rl cp cs ct cv 14 5 ja ea ma a1 a2 a3 a4 a5 a6 a7 a8 jb eb mb b1 b2 b3 b4 b5 b6 b7 b8 re fl g1 g2 g3 g4 g5 (dW rt la rs rg pd du ds me tt gr su gp mk rf m1 m2 m3 m4 m5 mr mf n1 n2 n3 n4 n5 nr nf E)) = some (some (iv (cAD b1 b3 g1 fl d)), (cW ki ln bt rl cp cs ct cv 14 5 ja ea ma a1 a2 a3 a4 a5 a6 a7 a8 jb eb mb b1 b2 b3 b4 b5 b6 b7 b8 re fl g1 g2 g3 g4 g5 (dW rt la rs rg pd du ds me tt gr su gp mk rf m1 m2 m3 m4 m5 mr mf n1 n2 n3 n4 n5 nr nf E))) := by
  have main : ∀ Q : mm_R → Prop, Q (some (iv (cAD b1 b3 g1 fl d)), (cW ki ln bt rl cp cs ct cv 14 5 ja ea ma a1 a2 a3 a4 a5 a6 a7 a8 jb eb mb b1 b2 b3 b4 b5 b6 b7 b8 re fl g1 g2 g3 g4 g5 (dW rt la rs rg pd du ds me tt gr su gp mk rf m1 m2 m3 m4 m5 mr mf n1 n2 n3 n4 n5 nr nf E))) → rn_X0_askOfDebtor (1000) (0, [(0, .ref 4), (1, iv (d))], [], (cW ki ln bt rl cp cs ct cv 14 5 ja ea ma a1 a2 a3 a4 a5 a6 a7 a8 jb eb mb b1 b2 b3 b4 b5 b6 b7 b8 re fl g1 g2 g3 g4 g5 (dW rt la rs rg pd du ds me tt gr su gp mk rf m1 m2 m3 m4 m5 mr mf n1 n2 n3 n4 n5 nr nf E))) Q := by
    intro Q hQ
    refine r_al rfl rfl ?_
    refine r_al rfl rfl ?_
    refine r_gf rfl rfl xg_4 rfl ?_
    refine r_gf rfl rfl xg_14 rfl ?_
    refine r_il rfl rfl ?_
    refine r_ia rfl xg_15 (by omega) (by omega) (by decide) ?_
    refine r_v2s rfl rfl xg_4 rfl (c_isFalC1 (ar1 hAd hd).1) ?_
    refine r_zeq rfl rfl (bi_r _) (fun u1 => ?_) (fun u1 => ?_)
    · have e : cAD b1 b3 g1 fl d = cR b3 g1 d := by unfold cAD; rw [bi_0 u1]; rfl
      rw [e] at hQ
      refine r_al rfl rfl ?_
      refine r_il rfl rfl ?_
      refine r_v2s rfl rfl xg_4 rfl (c_restC1 hd) ?_
      exact r_ret rfl rfl hQ
    · have e : cAD b1 b3 g1 fl d = 0 := by unfold cAD; rw [bi_1 u1]; rfl
      rw [e] at hQ
      refine r_ic rfl ?_
      refine r_goto rfl rfl ?_
      exact r_ret rfl rfl hQ
  obtain ⟨r, h1, h2⟩ := rn_S (vs := [.ref 4, iv (d)]) (Q := fun r => r = (some (iv (cAD b1 b3 g1 fl d)), (cW ki ln bt rl cp cs ct cv 14 5 ja ea ma a1 a2 a3 a4 a5 a6 a7 a8 jb eb mb b1 b2 b3 b4 b5 b6 b7 b8 re fl g1 g2 g3 g4 g5 (dW rt la rs rg pd du ds me tt gr su gp mk rf m1 m2 m3 m4 m5 mr mf n1 n2 n3 n4 n5 nr nf E)))) rfl (rn_up (N := 1000) (M := mm_fuel) (by decide) (main (fun r => r = (some (iv (cAD b1 b3 g1 fl d)), (cW ki ln bt rl cp cs ct cv 14 5 ja ea ma a1 a2 a3 a4 a5 a6 a7 a8 jb eb mb b1 b2 b3 b4 b5 b6 b7 b8 re fl g1 g2 g3 g4 g5 (dW rt la rs rg pd du ds me tt gr su gp mk rf m1 m2 m3 m4 m5 mr mf n1 n2 n3 n4 n5 nr nf E)))) rfl))
  have h1 : sX0_askOfDebtor [.ref 4, iv (d)] (cW ki ln bt rl cp cs ct cv 14 5 ja ea ma a1 a2 a3 a4 a5 a6 a7 a8 jb eb mb b1 b2 b3 b4 b5 b6 b7 b8 re fl g1 g2 g3 g4 g5 (dW rt la rs rg pd du ds me tt gr su gp mk rf m1 m2 m3 m4 m5 mr mf n1 n2 n3 n4 n5 nr nf E)) = some r := h1
  rw [h1, h2]
theorem c_aoC1 (hAd : ARd b1 b2 b3) (hAs : ARs b4 b5 b6 b7) (hn : 0 ≤ mb ∧ mb ≤ 16) (hi : 0 ≤ i ∧ i ≤ 15) (hu : -2147483648 ≤ u ∧ u ≤ 2147483647) : sX0_askOfOver [.ref 4, iv (i), iv (u)] (cW ki ln bt rl cp cs ct cv 14 5 ja ea ma a1 a2 a3 a4 a5 a6 a7 a8 jb eb mb b1 b2 b3 b4 b5 b6 b7 b8 re fl g1 g2 g3 g4 g5 (dW rt la rs rg pd du ds me tt gr su gp mk rf m1 m2 m3 m4 m5 mr mf n1 n2 n3 n4 n5 nr nf E)) = some (some (iv (cAO b3 b4 b5 g1 g2 g3 mb re fl i u)), (cW ki ln bt rl cp cs ct cv 14 5 ja ea ma a1 a2 a3 a4 a5 a6 a7 a8 jb eb mb b1 b2 b3 b4 b5 b6 b7 b8 re fl g1 g2 g3 g4 g5 (dW rt la rs rg pd du ds me tt gr su gp mk rf m1 m2 m3 m4 m5 mr mf n1 n2 n3 n4 n5 nr nf E))) := by
  have main : ∀ Q : mm_R → Prop, Q (some (iv (cAO b3 b4 b5 g1 g2 g3 mb re fl i u)), (cW ki ln bt rl cp cs ct cv 14 5 ja ea ma a1 a2 a3 a4 a5 a6 a7 a8 jb eb mb b1 b2 b3 b4 b5 b6 b7 b8 re fl g1 g2 g3 g4 g5 (dW rt la rs rg pd du ds me tt gr su gp mk rf m1 m2 m3 m4 m5 mr mf n1 n2 n3 n4 n5 nr nf E))) → rn_X0_askOfOver (1000) (0, [(0, .ref 4), (1, iv (i)), (2, iv (u))], [], (cW ki ln bt rl cp cs ct cv 14 5 ja ea ma a1 a2 a3 a4 a5 a6 a7 a8 jb eb mb b1 b2 b3 b4 b5 b6 b7 b8 re fl g1 g2 g3 g4 g5 (dW rt la rs rg pd du ds me tt gr su gp mk rf m1 m2 m3 m4 m5 mr mf n1 n2 n3 n4 n5 nr nf E))) Q := by
    intro Q hQ
    refine r_al rfl rfl ?_
    refine r_il rfl rfl ?_
    refine r_v2s rfl rfl xg_4 rfl (c_isStandC1 hu hn) ?_
    refine r_zeq rfl rfl (bi_r _) (fun u1 => ?_) (fun u1 => ?_)
    · have e : cAO b3 b4 b5 g1 g2 g3 mb re fl i u = 0 := by unfold cAO; rw [bi_0 u1]; rfl
      rw [e] at hQ
      refine r_ic rfl ?_
      exact r_ret rfl rfl hQ
    · have u1 := bi_1 u1
      have ru := i3_t u1
      refine r_al rfl rfl ?_
      refine r_al rfl rfl ?_
      refine r_gf rfl rfl xg_4 rfl ?_
      refine r_gf rfl rfl xg_14 rfl ?_
      refine r_il rfl rfl ?_
      refine r_ia rfl xg_18 (by omega) (by omega) (by decide) ?_
      refine r_v2s rfl rfl xg_4 rfl (c_isFalC1 (ar4 hAs (by omega)).1) ?_
      refine r_zne rfl rfl (bi_r _) (fun u2 => ?_) (fun u2 => ?_)
      · have e : cAO b3 b4 b5 g1 g2 g3 mb re fl i u = mnI (cLR b3 b5 g1 g2 g3 re i) (nrm (cL g3 g2 re u)) := by unfold cAO; rw [u1, bi_1 u2]; rfl
        rw [e] at hQ
        refine r_al rfl rfl ?_
        refine r_il rfl rfl ?_
        refine r_v2s rfl rfl xg_4 rfl (c_lrC1 hAd hAs hn hi) ?_
        refine r_al rfl rfl ?_
        refine r_il rfl rfl ?_
        refine r_v2s rfl rfl xg_4 rfl (c_leftC1 (by omega)) ?_
        refine r_nrm ?_
        refine r_s2s rfl rfl rfl (c_minC cLR_r (nrm_r _)) ?_
        exact r_ret rfl rfl hQ
      · have e : cAO b3 b4 b5 g1 g2 g3 mb re fl i u = 0 := by unfold cAO; rw [u1, bi_0 u2]; rfl
        rw [e] at hQ
        refine r_ic rfl ?_
        exact r_ret rfl rfl hQ
  obtain ⟨r, h1, h2⟩ := rn_S (vs := [.ref 4, iv (i), iv (u)]) (Q := fun r => r = (some (iv (cAO b3 b4 b5 g1 g2 g3 mb re fl i u)), (cW ki ln bt rl cp cs ct cv 14 5 ja ea ma a1 a2 a3 a4 a5 a6 a7 a8 jb eb mb b1 b2 b3 b4 b5 b6 b7 b8 re fl g1 g2 g3 g4 g5 (dW rt la rs rg pd du ds me tt gr su gp mk rf m1 m2 m3 m4 m5 mr mf n1 n2 n3 n4 n5 nr nf E)))) rfl (rn_up (N := 1000) (M := mm_fuel) (by decide) (main (fun r => r = (some (iv (cAO b3 b4 b5 g1 g2 g3 mb re fl i u)), (cW ki ln bt rl cp cs ct cv 14 5 ja ea ma a1 a2 a3 a4 a5 a6 a7 a8 jb eb mb b1 b2 b3 b4 b5 b6 b7 b8 re fl g1 g2 g3 g4 g5 (dW rt la rs rg pd du ds me tt gr su gp mk rf m1 m2 m3 m4 m5 mr mf n1 n2 n3 n4 n5 nr nf E)))) rfl))
  have h1 : sX0_askOfOver [.ref 4, iv (i), iv (u)] (cW ki ln bt rl cp cs ct cv 14 5 ja ea ma a1 a2 a3 a4 a5 a6 a7 a8 jb eb mb b1 b2 b3 b4 b5 b6 b7 b8 re fl g1 g2 g3 g4 g5 (dW rt la rs rg pd du ds me tt gr su gp mk rf m1 m2 m3 m4 m5 mr mf n1 n2 n3 n4 n5 nr nf E)) = some r := h1
  rw [h1, h2]
theorem aaf_lp1 {n : Nat} (hn : n ≤ 16) (hAs : ARs b4 b5 b6 b7) (hd : -2147483648 ≤ d ∧ d ≤ 2147483647) (k : Q (some (iv (bi (cAA b4 b5 b6 re fl d n))), (cW ki ln bt rl cp cs ct cv 14 5 ja ea ma a1 a2 a3 a4 a5 a6 a7 a8 jb eb (n : Int) b1 b2 b3 b4 b5 b6 b7 b8 re fl g1 g2 g3 g4 g5 (dW rt la rs rg pd du ds me tt gr su gp mk rf m1 m2 m3 m4 m5 mr mf n1 n2 n3 n4 n5 nr nf E)))) : ∀ (m j : Nat), j + m = n → cAA b4 b5 b6 re fl d j = true → rn_X0_allAheadFell (10 + 100 * m + 100) (20, [(2, iv ((j : Int))), (0, .ref 4), (1, iv (d))], [], (cW ki ln bt rl cp cs ct cv 14 5 ja ea ma a1 a2 a3 a4 a5 a6 a7 a8 jb eb (n : Int) b1 b2 b3 b4 b5 b6 b7 b8 re fl g1 g2 g3 g4 g5 (dW rt la rs rg pd du ds me tt gr su gp mk rf m1 m2 m3 m4 m5 mr mf n1 n2 n3 n4 n5 nr nf E))) Q := by
  intro m
  induction m with
  | zero =>
    intro j hj ha
    have hj : j = n := by omega
    subst hj
    rw [ha] at k
    refine rn_up (N := 10 + 100) (by omega) ?_
    refine r_il rfl rfl ?_
    refine r_al rfl rfl ?_
    refine r_gf rfl rfl xg_4 rfl ?_
    refine r_gf rfl rfl xg_14 rfl ?_
    refine r_cge rfl rfl (by omega) (by omega) (fun u1 => ?_) (fun u1 => ?_)
    · refine r_ic rfl ?_
      exact r_retb rfl rfl (by omega) k
    · omega
  | succ m ih =>
    intro j hj ha
    obtain ⟨M, hM⟩ : ∃ M, M = 10 + 100 * m + 100 := ⟨_, rfl⟩
    rw [← hM] at ih
    refine rn_up (N := M + 100) (by omega) ?_
    refine r_il rfl rfl ?_
    refine r_al rfl rfl ?_
    refine r_gf rfl rfl xg_4 rfl ?_
    refine r_gf rfl rfl xg_14 rfl ?_
    refine r_cge rfl rfl (by omega) (by omega) (fun u1 => ?_) (fun u1 => ?_)
    · omega
    · refine r_al rfl rfl ?_
      refine r_gf rfl rfl xg_4 rfl ?_
      refine r_gf rfl rfl xg_14 rfl ?_
      refine r_il rfl rfl ?_
      refine r_ia rfl xg_20 (by omega) (by omega) (by decide) ?_
      have rj := ar4 hAs (show 0 ≤ (j : Int) ∧ (j : Int) ≤ 15 by omega)
      have K : rn_X0_allAheadFell (M + 60) (61, [(2, iv ((j : Int))), (0, .ref 4), (1, iv (d))], [iv (bi (decide ((b6 (Int.toNat (j : Int))).toInt = 0) || decide ((b6 (Int.toNat (j : Int))).toInt = 1)))], (cW ki ln bt rl cp cs ct cv 14 5 ja ea ma a1 a2 a3 a4 a5 a6 a7 a8 jb eb (n : Int) b1 b2 b3 b4 b5 b6 b7 b8 re fl g1 g2 g3 g4 g5 (dW rt la rs rg pd du ds me tt gr su gp mk rf m1 m2 m3 m4 m5 mr mf n1 n2 n3 n4 n5 nr nf E))) Q := by
        refine r_is (lv' := [(3, _), (2, _), (0, _), (1, _)]) rfl rfl rfl ?_
        refine r_il rfl rfl ?_
        refine r_zeq rfl rfl (bi_r _) (fun u2 => ?_) (fun u2 => ?_)
        · have u2 := bi_0 u2
          refine r_inc (lv' := [(2, _), (3, _), (0, _), (1, _)]) rfl rfl rfl rfl ?_
          refine r_goto rfl rfl ?_
          have e : cAh b4 b5 b6 re fl d j = false := by unfold cAh; rw [u2]; rfl
          have ha2 : cAA b4 b5 b6 re fl d (j + 1) = true := by show (cAA b4 b5 b6 re fl d j && !cAh b4 b5 b6 re fl d j) = true; rw [ha, e]; rfl
          refine rn_LE (a := [(2, iv ((j : Int) + 1)), (0, .ref 4), (1, iv (d))]) ⟨(List.forall_mem_cons.mpr ⟨List.mem_cons_self, (List.forall_mem_cons.mpr ⟨(List.mem_cons_of_mem _ (List.mem_cons_of_mem _ List.mem_cons_self)), (List.forall_mem_cons.mpr ⟨(List.mem_cons_of_mem _ (List.mem_cons_of_mem _ (List.mem_cons_of_mem _ List.mem_cons_self))), (fun _ h => absurd h List.not_mem_nil)⟩)⟩)⟩), (by show List.Nodup [2, 0, 1]; decide), (by show List.Nodup [2, 3, 0, 1]; decide)⟩ ?_
          exact rn_up (by omega) (ih (j + 1) (by omega) ha2)
        · have u2 := bi_1 u2
          refine r_al rfl rfl ?_
          refine r_gf rfl rfl xg_4 rfl ?_
          refine r_gf rfl rfl xg_14 rfl ?_
          refine r_il rfl rfl ?_
          refine r_ia rfl xg_19 (by omega) (by omega) (by decide) ?_
          refine r_il rfl rfl ?_
          refine r_cne rfl rfl (as_r _) hd (fun u3 => ?_) (fun u3 => ?_)
          · refine r_inc (lv' := [(2, _), (3, _), (0, _), (1, _)]) rfl rfl rfl rfl ?_
            refine r_goto rfl rfl ?_
            have e : cAh b4 b5 b6 re fl d j = false := by unfold cAh; rw [u2, decide_eq_false u3]; rfl
            have ha2 : cAA b4 b5 b6 re fl d (j + 1) = true := by show (cAA b4 b5 b6 re fl d j && !cAh b4 b5 b6 re fl d j) = true; rw [ha, e]; rfl
            refine rn_LE (a := [(2, iv ((j : Int) + 1)), (0, .ref 4), (1, iv (d))]) ⟨(List.forall_mem_cons.mpr ⟨List.mem_cons_self, (List.forall_mem_cons.mpr ⟨(List.mem_cons_of_mem _ (List.mem_cons_of_mem _ List.mem_cons_self)), (List.forall_mem_cons.mpr ⟨(List.mem_cons_of_mem _ (List.mem_cons_of_mem _ (List.mem_cons_of_mem _ List.mem_cons_self))), (fun _ h => absurd h List.not_mem_nil)⟩)⟩)⟩), (by show List.Nodup [2, 0, 1]; decide), (by show List.Nodup [2, 3, 0, 1]; decide)⟩ ?_
            exact rn_up (by omega) (ih (j + 1) (by omega) ha2)
          · refine r_al rfl rfl ?_
            refine r_il rfl rfl ?_
            refine r_v2s rfl rfl xg_4 rfl (c_isRelC1 (by omega)) ?_
            refine r_zne rfl rfl (bi_r _) (fun u4 => ?_) (fun u4 => ?_)
            · have u4 : zb (Int32.ofInt re) j = true := bi_1 u4
              refine r_inc (lv' := [(2, _), (3, _), (0, _), (1, _)]) rfl rfl rfl rfl ?_
              refine r_goto rfl rfl ?_
              have e : cAh b4 b5 b6 re fl d j = false := by unfold cAh; rw [u2, decide_eq_true u3, u4]; rfl
              have ha2 : cAA b4 b5 b6 re fl d (j + 1) = true := by show (cAA b4 b5 b6 re fl d j && !cAh b4 b5 b6 re fl d j) = true; rw [ha, e]; rfl
              refine rn_LE (a := [(2, iv ((j : Int) + 1)), (0, .ref 4), (1, iv (d))]) ⟨(List.forall_mem_cons.mpr ⟨List.mem_cons_self, (List.forall_mem_cons.mpr ⟨(List.mem_cons_of_mem _ (List.mem_cons_of_mem _ List.mem_cons_self)), (List.forall_mem_cons.mpr ⟨(List.mem_cons_of_mem _ (List.mem_cons_of_mem _ (List.mem_cons_of_mem _ List.mem_cons_self))), (fun _ h => absurd h List.not_mem_nil)⟩)⟩)⟩), (by show List.Nodup [2, 0, 1]; decide), (by show List.Nodup [2, 3, 0, 1]; decide)⟩ ?_
              exact rn_up (by omega) (ih (j + 1) (by omega) ha2)
            · have u4 : zb (Int32.ofInt re) j = false := bi_0 u4
              refine r_al rfl rfl ?_
              refine r_al rfl rfl ?_
              refine r_gf rfl rfl xg_4 rfl ?_
              refine r_gf rfl rfl xg_14 rfl ?_
              refine r_il rfl rfl ?_
              refine r_ia rfl xg_18 (by omega) (by omega) (by decide) ?_
              refine r_v2s rfl rfl xg_4 rfl (c_isFalC1 rj.1) ?_
              refine r_zne rfl rfl (bi_r _) (fun u5 => ?_) (fun u5 => ?_)
              · have u5 := bi_1 u5
                refine r_inc (lv' := [(2, _), (3, _), (0, _), (1, _)]) rfl rfl rfl rfl ?_
                refine r_goto rfl rfl ?_
                have e : cAh b4 b5 b6 re fl d j = false := by unfold cAh; rw [u2, decide_eq_true u3, u4, u5]; rfl
                have ha2 : cAA b4 b5 b6 re fl d (j + 1) = true := by show (cAA b4 b5 b6 re fl d j && !cAh b4 b5 b6 re fl d j) = true; rw [ha, e]; rfl
                refine rn_LE (a := [(2, iv ((j : Int) + 1)), (0, .ref 4), (1, iv (d))]) ⟨(List.forall_mem_cons.mpr ⟨List.mem_cons_self, (List.forall_mem_cons.mpr ⟨(List.mem_cons_of_mem _ (List.mem_cons_of_mem _ List.mem_cons_self)), (List.forall_mem_cons.mpr ⟨(List.mem_cons_of_mem _ (List.mem_cons_of_mem _ (List.mem_cons_of_mem _ List.mem_cons_self))), (fun _ h => absurd h List.not_mem_nil)⟩)⟩)⟩), (by show List.Nodup [2, 0, 1]; decide), (by show List.Nodup [2, 3, 0, 1]; decide)⟩ ?_
                exact rn_up (by omega) (ih (j + 1) (by omega) ha2)
              · have u5 := bi_0 u5
                have e : cAh b4 b5 b6 re fl d j = true := by unfold cAh; rw [u2, decide_eq_true u3, u4, u5]; rfl
                have e2 := cAA_f e m
                rw [show j + 1 + m = n by omega] at e2
                rw [e2] at k
                refine r_ic rfl ?_
                exact r_retb rfl rfl (by omega) k
      refine r_zeq rfl rfl (as_r _) (fun u6 => ?_) (fun u6 => ?_)
      · refine r_ic rfl ?_
        refine r_goto rfl rfl ?_
        rw [decide_eq_true u6] at K
        exact rn_up (N := M + 60) (by omega) K
      · refine r_al rfl rfl ?_
        refine r_gf rfl rfl xg_4 rfl ?_
        refine r_gf rfl rfl xg_14 rfl ?_
        refine r_il rfl rfl ?_
        refine r_ia rfl xg_20 (by omega) (by omega) (by decide) ?_
        refine r_ic rfl ?_
        refine r_cne rfl rfl (as_r _) (by decide) (fun u7 => ?_) (fun u7 => ?_)
        · refine r_ic rfl ?_
          rw [decide_eq_false u6, decide_eq_false u7] at K
          exact rn_up (N := M + 60) (by omega) K
        · refine r_ic rfl ?_
          refine r_goto rfl rfl ?_
          rw [decide_eq_false u6, decide_eq_true u7] at K
          exact rn_up (N := M + 60) (by omega) K
theorem c_aafC1 (hAd : ARd b1 b2 b3) (hAs : ARs b4 b5 b6 b7) (hn : 0 ≤ mb ∧ mb ≤ 16) (hd : 0 ≤ d ∧ d ≤ 9) : sX0_allAheadFell [.ref 4, iv d] (cW ki ln bt rl cp cs ct cv 14 5 ja ea ma a1 a2 a3 a4 a5 a6 a7 a8 jb eb mb b1 b2 b3 b4 b5 b6 b7 b8 re fl g1 g2 g3 g4 g5 (dW rt la rs rg pd du ds me tt gr su gp mk rf m1 m2 m3 m4 m5 mr mf n1 n2 n3 n4 n5 nr nf E)) = some (some (iv (bi (cAF b1 b4 b5 b6 mb re fl d))), (cW ki ln bt rl cp cs ct cv 14 5 ja ea ma a1 a2 a3 a4 a5 a6 a7 a8 jb eb mb b1 b2 b3 b4 b5 b6 b7 b8 re fl g1 g2 g3 g4 g5 (dW rt la rs rg pd du ds me tt gr su gp mk rf m1 m2 m3 m4 m5 mr mf n1 n2 n3 n4 n5 nr nf E))) := by
  obtain ⟨n, rfl⟩ := Int.eq_ofNat_of_zero_le hn.1
  have hn16 : n ≤ 16 := by omega
  obtain ⟨M, hM⟩ : ∃ M, M = 10 + 100 * 16 + 100 := ⟨_, rfl⟩
  have main : ∀ Q : mm_R → Prop, Q (some (iv (bi (cAF b1 b4 b5 b6 (n : Int) re fl d))), (cW ki ln bt rl cp cs ct cv 14 5 ja ea ma a1 a2 a3 a4 a5 a6 a7 a8 jb eb (n : Int) b1 b2 b3 b4 b5 b6 b7 b8 re fl g1 g2 g3 g4 g5 (dW rt la rs rg pd du ds me tt gr su gp mk rf m1 m2 m3 m4 m5 mr mf n1 n2 n3 n4 n5 nr nf E))) → rn_X0_allAheadFell (M + 60) (0, [(0, .ref 4), (1, iv (d))], [], (cW ki ln bt rl cp cs ct cv 14 5 ja ea ma a1 a2 a3 a4 a5 a6 a7 a8 jb eb (n : Int) b1 b2 b3 b4 b5 b6 b7 b8 re fl g1 g2 g3 g4 g5 (dW rt la rs rg pd du ds me tt gr su gp mk rf m1 m2 m3 m4 m5 mr mf n1 n2 n3 n4 n5 nr nf E))) Q := by
    intro Q hQ
    refine r_al rfl rfl ?_
    refine r_al rfl rfl ?_
    refine r_gf rfl rfl xg_4 rfl ?_
    refine r_gf rfl rfl xg_14 rfl ?_
    refine r_il rfl rfl ?_
    refine r_ia rfl xg_15 (by omega) (by omega) (by decide) ?_
    refine r_v2s rfl rfl xg_4 rfl (c_isFalC1 (ar1 hAd hd).1) ?_
    refine r_zne rfl rfl (bi_r _) (fun u1 => ?_) (fun u1 => ?_)
    · have e : cAF b1 b4 b5 b6 (n : Int) re fl d = cAA b4 b5 b6 re fl d n := by unfold cAF; rw [bi_1 u1]; rfl
      rw [e] at hQ
      refine r_ic rfl ?_
      refine r_is (lv' := [(2, _), (0, _), (1, _)]) rfl rfl rfl ?_
      exact rn_up (N := 10 + 100 * n + 100) (by omega) (aaf_lp1 hn16 hAs (by omega) hQ n 0 (by omega) rfl)
    · have e : cAF b1 b4 b5 b6 (n : Int) re fl d = false := by unfold cAF; rw [bi_0 u1]; rfl
      rw [e] at hQ
      refine r_ic rfl ?_
      exact r_retb rfl rfl (by omega) hQ
  obtain ⟨r, h1, h2⟩ := rn_S (vs := [.ref 4, iv d]) (Q := fun r => r = (some (iv (bi (cAF b1 b4 b5 b6 (n : Int) re fl d))), (cW ki ln bt rl cp cs ct cv 14 5 ja ea ma a1 a2 a3 a4 a5 a6 a7 a8 jb eb (n : Int) b1 b2 b3 b4 b5 b6 b7 b8 re fl g1 g2 g3 g4 g5 (dW rt la rs rg pd du ds me tt gr su gp mk rf m1 m2 m3 m4 m5 mr mf n1 n2 n3 n4 n5 nr nf E)))) rfl (rn_up (N := M + 60) (M := mm_fuel) (by rw [hM]; decide) (main (fun r => r = (some (iv (bi (cAF b1 b4 b5 b6 (n : Int) re fl d))), (cW ki ln bt rl cp cs ct cv 14 5 ja ea ma a1 a2 a3 a4 a5 a6 a7 a8 jb eb (n : Int) b1 b2 b3 b4 b5 b6 b7 b8 re fl g1 g2 g3 g4 g5 (dW rt la rs rg pd du ds me tt gr su gp mk rf m1 m2 m3 m4 m5 mr mf n1 n2 n3 n4 n5 nr nf E)))) rfl))
  have h1 : sX0_allAheadFell [.ref 4, iv d] (cW ki ln bt rl cp cs ct cv 14 5 ja ea ma a1 a2 a3 a4 a5 a6 a7 a8 jb eb (n : Int) b1 b2 b3 b4 b5 b6 b7 b8 re fl g1 g2 g3 g4 g5 (dW rt la rs rg pd du ds me tt gr su gp mk rf m1 m2 m3 m4 m5 mr mf n1 n2 n3 n4 n5 nr nf E)) = some r := h1
  rw [h1, h2]
theorem c_asC1 (hAd : ARd b1 b2 b3) (hAs : ARs b4 b5 b6 b7) (hn : 0 ≤ mb ∧ mb ≤ 16) (hi : 0 ≤ i ∧ i ≤ 15) : sX0_askOfStanding [.ref 4, iv (i)] (cW ki ln bt rl cp cs ct cv 14 5 ja ea ma a1 a2 a3 a4 a5 a6 a7 a8 jb eb mb b1 b2 b3 b4 b5 b6 b7 b8 re fl g1 g2 g3 g4 g5 (dW rt la rs rg pd du ds me tt gr su gp mk rf m1 m2 m3 m4 m5 mr mf n1 n2 n3 n4 n5 nr nf E)) = some (some (iv (cAS b1 b3 b4 b5 b6 b7 g1 g2 g3 mb re fl i)), (cW ki ln bt rl cp cs ct cv 14 5 ja ea ma a1 a2 a3 a4 a5 a6 a7 a8 jb eb mb b1 b2 b3 b4 b5 b6 b7 b8 re fl g1 g2 g3 g4 g5 (dW rt la rs rg pd du ds me tt gr su gp mk rf m1 m2 m3 m4 m5 mr mf n1 n2 n3 n4 n5 nr nf E))) := by
  have main : ∀ Q : mm_R → Prop, Q (some (iv (cAS b1 b3 b4 b5 b6 b7 g1 g2 g3 mb re fl i)), (cW ki ln bt rl cp cs ct cv 14 5 ja ea ma a1 a2 a3 a4 a5 a6 a7 a8 jb eb mb b1 b2 b3 b4 b5 b6 b7 b8 re fl g1 g2 g3 g4 g5 (dW rt la rs rg pd du ds me tt gr su gp mk rf m1 m2 m3 m4 m5 mr mf n1 n2 n3 n4 n5 nr nf E))) → rn_X0_askOfStanding (1000) (0, [(0, .ref 4), (1, iv (i))], [], (cW ki ln bt rl cp cs ct cv 14 5 ja ea ma a1 a2 a3 a4 a5 a6 a7 a8 jb eb mb b1 b2 b3 b4 b5 b6 b7 b8 re fl g1 g2 g3 g4 g5 (dW rt la rs rg pd du ds me tt gr su gp mk rf m1 m2 m3 m4 m5 mr mf n1 n2 n3 n4 n5 nr nf E))) Q := by
    intro Q hQ
    refine r_al rfl rfl ?_
    refine r_al rfl rfl ?_
    refine r_gf rfl rfl xg_4 rfl ?_
    refine r_gf rfl rfl xg_14 rfl ?_
    refine r_il rfl rfl ?_
    refine r_ia rfl xg_18 (by omega) (by omega) (by decide) ?_
    refine r_v2s rfl rfl xg_4 rfl (c_isFalC1 (ar4 hAs hi).1) ?_
    refine r_zeq rfl rfl (bi_r _) (fun u1 => ?_) (fun u1 => ?_)
    · have u1 := bi_0 u1
      refine r_al rfl rfl ?_
      refine r_gf rfl rfl xg_4 rfl ?_
      refine r_gf rfl rfl xg_14 rfl ?_
      refine r_il rfl rfl ?_
      refine r_ia rfl xg_20 (by omega) (by omega) (by decide) ?_
      refine r_ic rfl ?_
      refine r_cne rfl rfl (as_r _) (by decide) (fun u2 => ?_) (fun u2 => ?_)
      · refine r_al rfl rfl ?_
        refine r_gf rfl rfl xg_4 rfl ?_
        refine r_gf rfl rfl xg_14 rfl ?_
        refine r_il rfl rfl ?_
        refine r_ia rfl xg_20 (by omega) (by omega) (by decide) ?_
        refine r_ic rfl ?_
        refine r_cne rfl rfl (as_r _) (by decide) (fun u3 => ?_) (fun u3 => ?_)
        · have e : cAS b1 b3 b4 b5 b6 b7 g1 g2 g3 mb re fl i = cLR b3 b5 g1 g2 g3 re i := by unfold cAS; rw [u1, decide_eq_false u2, decide_eq_false u3]; rfl
          rw [e] at hQ
          refine r_al rfl rfl ?_
          refine r_il rfl rfl ?_
          refine r_v2s rfl rfl xg_4 rfl (c_lrC1 hAd hAs hn hi) ?_
          exact r_ret rfl rfl hQ
        · refine r_al rfl rfl ?_
          refine r_al rfl rfl ?_
          refine r_gf rfl rfl xg_4 rfl ?_
          refine r_gf rfl rfl xg_14 rfl ?_
          refine r_il rfl rfl ?_
          refine r_ia rfl xg_19 (by omega) (by omega) (by decide) ?_
          refine r_v2s rfl rfl xg_4 rfl (c_aafC1 hAd hAs hn (ar4 hAs hi).2) ?_
          refine r_zne rfl rfl (bi_r _) (fun u4 => ?_) (fun u4 => ?_)
          · have e : cAS b1 b3 b4 b5 b6 b7 g1 g2 g3 mb re fl i = cLR b3 b5 g1 g2 g3 re i := by unfold cAS; rw [u1, decide_eq_false u2, decide_eq_true u3, bi_1 u4]; rfl
            rw [e] at hQ
            refine r_al rfl rfl ?_
            refine r_il rfl rfl ?_
            refine r_v2s rfl rfl xg_4 rfl (c_lrC1 hAd hAs hn hi) ?_
            exact r_ret rfl rfl hQ
          · have e : cAS b1 b3 b4 b5 b6 b7 g1 g2 g3 mb re fl i = 0 := by unfold cAS; rw [u1, decide_eq_false u2, decide_eq_true u3, bi_0 u4]; rfl
            rw [e] at hQ
            refine r_ic rfl ?_
            exact r_ret rfl rfl hQ
      · have e : cAS b1 b3 b4 b5 b6 b7 g1 g2 g3 mb re fl i = cAO b3 b4 b5 g1 g2 g3 mb re fl i (b7 (Int.toNat i)).toInt := by unfold cAS; rw [u1, decide_eq_true u2]; rfl
        rw [e] at hQ
        refine r_al rfl rfl ?_
        refine r_il rfl rfl ?_
        refine r_al rfl rfl ?_
        refine r_gf rfl rfl xg_4 rfl ?_
        refine r_gf rfl rfl xg_14 rfl ?_
        refine r_il rfl rfl ?_
        refine r_ia rfl xg_21 (by omega) (by omega) (by decide) ?_
        refine r_v3s rfl rfl xg_4 rfl (c_aoC1 hAd hAs hn hi (as_r _)) ?_
        exact r_ret rfl rfl hQ
    · have e : cAS b1 b3 b4 b5 b6 b7 g1 g2 g3 mb re fl i = 0 := by unfold cAS; rw [bi_1 u1]; rfl
      rw [e] at hQ
      refine r_ic rfl ?_
      exact r_ret rfl rfl hQ
  obtain ⟨r, h1, h2⟩ := rn_S (vs := [.ref 4, iv (i)]) (Q := fun r => r = (some (iv (cAS b1 b3 b4 b5 b6 b7 g1 g2 g3 mb re fl i)), (cW ki ln bt rl cp cs ct cv 14 5 ja ea ma a1 a2 a3 a4 a5 a6 a7 a8 jb eb mb b1 b2 b3 b4 b5 b6 b7 b8 re fl g1 g2 g3 g4 g5 (dW rt la rs rg pd du ds me tt gr su gp mk rf m1 m2 m3 m4 m5 mr mf n1 n2 n3 n4 n5 nr nf E)))) rfl (rn_up (N := 1000) (M := mm_fuel) (by decide) (main (fun r => r = (some (iv (cAS b1 b3 b4 b5 b6 b7 g1 g2 g3 mb re fl i)), (cW ki ln bt rl cp cs ct cv 14 5 ja ea ma a1 a2 a3 a4 a5 a6 a7 a8 jb eb mb b1 b2 b3 b4 b5 b6 b7 b8 re fl g1 g2 g3 g4 g5 (dW rt la rs rg pd du ds me tt gr su gp mk rf m1 m2 m3 m4 m5 mr mf n1 n2 n3 n4 n5 nr nf E)))) rfl))
  have h1 : sX0_askOfStanding [.ref 4, iv (i)] (cW ki ln bt rl cp cs ct cv 14 5 ja ea ma a1 a2 a3 a4 a5 a6 a7 a8 jb eb mb b1 b2 b3 b4 b5 b6 b7 b8 re fl g1 g2 g3 g4 g5 (dW rt la rs rg pd du ds me tt gr su gp mk rf m1 m2 m3 m4 m5 mr mf n1 n2 n3 n4 n5 nr nf E)) = some r := h1
  rw [h1, h2]
end AC
