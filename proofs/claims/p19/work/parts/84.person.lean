/-! ===== person and has: both sides ===== -/
def mo (b : Int) : Int := bif decide (b = 0) then 9999 else bif decide (b = 1) then 10 else 1
theorem mo_r (b : Int) : 1 ≤ mo b ∧ mo b ≤ 9999 := by
  unfold mo
  cases decide (b = 0) <;> cases decide (b = 1) <;> decide
section PE
variable {ki : Int} {ln : Int} {bt : Nat → Int32} {rl : Value} {cp : Int} {cs : Int} {ct : Int} {cv : Int} {rr : Nat} {dr : Nat} {ja : Int} {ea : Int} {ma : Int} {a1 : Nat → Int32} {a2 : Nat → Int32} {a3 : Nat → Int32} {a4 : Nat → Int32} {a5 : Nat → Int32} {a6 : Nat → Int32} {a7 : Nat → Int32} {a8 : Nat → Int32} {jb : Int} {eb : Int} {mb : Int} {b1 : Nat → Int32} {b2 : Nat → Int32} {b3 : Nat → Int32} {b4 : Nat → Int32} {b5 : Nat → Int32} {b6 : Nat → Int32} {b7 : Nat → Int32} {b8 : Nat → Int32} {re : Int} {fl : Int} {g1 : Nat → Int32} {g2 : Nat → Int32} {g3 : Nat → Int32} {g4 : Nat → Int32} {g5 : Nat → Int32} {rt : Int} {la : Int} {rs : Int} {rg : Int} {pd : Nat → Int32} {du : Nat → Int32} {ds : Nat → Int32} {me : Nat → Int32} {tt : Nat → Int32} {gr : Nat → Int32} {su : Nat → Int32} {gp : Nat → Int32} {mk : Int64} {rf : Nat → Option Nat} {m1 : Nat → Int32} {m2 : Nat → Int32} {m3 : Nat → Int32} {m4 : Nat → Int32} {m5 : Nat → Int32} {mr : Int} {mf : Int} {n1 : Nat → Int32} {n2 : Nat → Int32} {n3 : Nat → Int32} {n4 : Nat → Int32} {n5 : Nat → Int32} {nr : Int} {nf : Int} {E : List va_E} {a b v : Int} {mw : List va_E} {Q : mm_R → Prop} {N : Nat}
abbrev rn_X11_mostOf (N : Nat) (c : mm_C) (Q : mm_R → Prop) : Prop := rn (mm_gf gLX11) (mm_pf pLX11) (mm_mv vX11_mostOf) (mm_mv zX11_mostOf) (mm_kc kLX11) mm_gs0 mm_rf0 mm_ro (some .int) 1 (mm_ins iX11_mostOf) N c Q
theorem c_mostOf (hb : -2147483648 ≤ b ∧ b ≤ 2147483647) : sX11_mostOf [iv (b)] mw = some (some (iv (mo b)), mw) := by
  have main : ∀ Q : mm_R → Prop, Q (some (iv (mo b)), mw) → rn_X11_mostOf (1000) (0, [(0, iv (b))], [], mw) Q := by
    intro Q hQ
    refine r_il rfl rfl ?_
    by_cases hz0 : b = 0
    · refine r_lks (off := 27) rfl hb (by rw [hz0]; rfl) rfl ?_
      have e : mo b = 9999 := by unfold mo; rw [decide_eq_true hz0]; rfl
      rw [e] at hQ
      refine r_si rfl (by decide) ?_
      exact r_ret rfl rfl hQ
    · by_cases hz1 : b = 1
      · refine r_lks (off := 31) rfl hb (by rw [hz1]; rfl) rfl ?_
        have e : mo b = 10 := by unfold mo; rw [decide_eq_false hz0, decide_eq_true hz1]; rfl
        rw [e] at hQ
        refine r_bi rfl (by decide) ?_
        exact r_ret rfl rfl hQ
      · refine r_lks (off := 34) rfl hb (by simp [Op.lookupswitch.offset]; first | omega | rw [if_neg (by omega), if_neg (by omega)]) rfl ?_
        have e : mo b = 1 := by unfold mo; rw [decide_eq_false hz0, decide_eq_false hz1]; rfl
        rw [e] at hQ
        refine r_ic rfl ?_
        exact r_ret rfl rfl hQ
  obtain ⟨r, h1, h2⟩ := rn_S (vs := [iv (b)]) (Q := fun r => r = (some (iv (mo b)), mw)) rfl (rn_up (N := 1000) (M := mm_fuel) (by decide) (main (fun r => r = (some (iv (mo b)), mw)) rfl))
  have h1 : sX11_mostOf [iv (b)] mw = some r := h1
  rw [h1, h2]
abbrev rn_X0_sayFallen (N : Nat) (c : mm_C) (Q : mm_R → Prop) : Prop := rn (mm_gf gLX0) (mm_pf pLX0) (mm_mv vX0_sayFallen) (mm_mv zX0_sayFallen) (mm_kc kLX0) mm_gs0 mm_rf0 mm_ro none 3 (mm_ins iX0_sayFallen) N c Q
theorem c_sayF0_0  : sX0_sayFallen [.ref 4, iv (a), iv (0)] (cW ki ln bt rl cp cs ct cv 5 14 ja ea ma a1 a2 a3 a4 a5 a6 a7 a8 jb eb mb b1 b2 b3 b4 b5 b6 b7 b8 re fl g1 g2 g3 g4 g5 (dW rt la rs rg pd du ds me tt gr su gp mk rf m1 m2 m3 m4 m5 mr mf n1 n2 n3 n4 n5 nr nf E)) = some (none, (cW ki ln bt rl cp cs ct cv 5 14 ja ea ma a1 a2 a3 a4 a5 a6 a7 a8 jb eb mb b1 b2 b3 b4 b5 b6 b7 b8 re (oAnd fl (oXor (oShl 1 a) (-1))) g1 g2 g3 g4 g5 (dW rt la rs rg pd du ds me tt gr su gp mk rf m1 m2 m3 m4 m5 mr mf n1 n2 n3 n4 n5 nr nf E))) := by
  have main : ∀ Q : mm_R → Prop, Q (none, (cW ki ln bt rl cp cs ct cv 5 14 ja ea ma a1 a2 a3 a4 a5 a6 a7 a8 jb eb mb b1 b2 b3 b4 b5 b6 b7 b8 re (oAnd fl (oXor (oShl 1 a) (-1))) g1 g2 g3 g4 g5 (dW rt la rs rg pd du ds me tt gr su gp mk rf m1 m2 m3 m4 m5 mr mf n1 n2 n3 n4 n5 nr nf E))) → rn_X0_sayFallen (1000) (0, [(0, .ref 4), (1, iv (a)), (2, iv (0))], [], (cW ki ln bt rl cp cs ct cv 5 14 ja ea ma a1 a2 a3 a4 a5 a6 a7 a8 jb eb mb b1 b2 b3 b4 b5 b6 b7 b8 re fl g1 g2 g3 g4 g5 (dW rt la rs rg pd du ds me tt gr su gp mk rf m1 m2 m3 m4 m5 mr mf n1 n2 n3 n4 n5 nr nf E))) Q := by
    intro Q hQ
    refine r_al rfl rfl ?_
    refine r_gf rfl rfl xg_4 rfl ?_
    refine r_il rfl rfl ?_
    refine r_zeq rfl rfl (by decide) (fun u1 => ?_) (fun u1 => ?_)
    · refine r_al rfl rfl ?_
      refine r_gf rfl rfl xg_4 rfl ?_
      refine r_gf rfl rfl xg_23 rfl ?_
      refine r_ic rfl ?_
      refine r_il rfl rfl ?_
      refine r_shl rfl ?_
      refine r_ic rfl ?_
      refine r_xor rfl ?_
      refine r_and rfl ?_
      refine r_pf rfl rfl xg_23 rfl xp_fl ?_
      exact r_retv rfl rfl hQ
    · exact absurd rfl u1
  obtain ⟨r, h1, h2⟩ := rn_S (vs := [.ref 4, iv (a), iv (0)]) (Q := fun r => r = (none, (cW ki ln bt rl cp cs ct cv 5 14 ja ea ma a1 a2 a3 a4 a5 a6 a7 a8 jb eb mb b1 b2 b3 b4 b5 b6 b7 b8 re (oAnd fl (oXor (oShl 1 a) (-1))) g1 g2 g3 g4 g5 (dW rt la rs rg pd du ds me tt gr su gp mk rf m1 m2 m3 m4 m5 mr mf n1 n2 n3 n4 n5 nr nf E)))) rfl (rn_up (N := 1000) (M := mm_fuel) (by decide) (main (fun r => r = (none, (cW ki ln bt rl cp cs ct cv 5 14 ja ea ma a1 a2 a3 a4 a5 a6 a7 a8 jb eb mb b1 b2 b3 b4 b5 b6 b7 b8 re (oAnd fl (oXor (oShl 1 a) (-1))) g1 g2 g3 g4 g5 (dW rt la rs rg pd du ds me tt gr su gp mk rf m1 m2 m3 m4 m5 mr mf n1 n2 n3 n4 n5 nr nf E)))) rfl))
  have h1 : sX0_sayFallen [.ref 4, iv (a), iv (0)] (cW ki ln bt rl cp cs ct cv 5 14 ja ea ma a1 a2 a3 a4 a5 a6 a7 a8 jb eb mb b1 b2 b3 b4 b5 b6 b7 b8 re fl g1 g2 g3 g4 g5 (dW rt la rs rg pd du ds me tt gr su gp mk rf m1 m2 m3 m4 m5 mr mf n1 n2 n3 n4 n5 nr nf E)) = some r := h1
  rw [h1, h2]
theorem c_sayF0_1  : sX0_sayFallen [.ref 4, iv (a), iv (1)] (cW ki ln bt rl cp cs ct cv 5 14 ja ea ma a1 a2 a3 a4 a5 a6 a7 a8 jb eb mb b1 b2 b3 b4 b5 b6 b7 b8 re fl g1 g2 g3 g4 g5 (dW rt la rs rg pd du ds me tt gr su gp mk rf m1 m2 m3 m4 m5 mr mf n1 n2 n3 n4 n5 nr nf E)) = some (none, (cW ki ln bt rl cp cs ct cv 5 14 ja ea ma a1 a2 a3 a4 a5 a6 a7 a8 jb eb mb b1 b2 b3 b4 b5 b6 b7 b8 re (oOr fl (oShl 1 a)) g1 g2 g3 g4 g5 (dW rt la rs rg pd du ds me tt gr su gp mk rf m1 m2 m3 m4 m5 mr mf n1 n2 n3 n4 n5 nr nf E))) := by
  have main : ∀ Q : mm_R → Prop, Q (none, (cW ki ln bt rl cp cs ct cv 5 14 ja ea ma a1 a2 a3 a4 a5 a6 a7 a8 jb eb mb b1 b2 b3 b4 b5 b6 b7 b8 re (oOr fl (oShl 1 a)) g1 g2 g3 g4 g5 (dW rt la rs rg pd du ds me tt gr su gp mk rf m1 m2 m3 m4 m5 mr mf n1 n2 n3 n4 n5 nr nf E))) → rn_X0_sayFallen (1000) (0, [(0, .ref 4), (1, iv (a)), (2, iv (1))], [], (cW ki ln bt rl cp cs ct cv 5 14 ja ea ma a1 a2 a3 a4 a5 a6 a7 a8 jb eb mb b1 b2 b3 b4 b5 b6 b7 b8 re fl g1 g2 g3 g4 g5 (dW rt la rs rg pd du ds me tt gr su gp mk rf m1 m2 m3 m4 m5 mr mf n1 n2 n3 n4 n5 nr nf E))) Q := by
    intro Q hQ
    refine r_al rfl rfl ?_
    refine r_gf rfl rfl xg_4 rfl ?_
    refine r_il rfl rfl ?_
    refine r_zeq rfl rfl (by decide) (fun u1 => ?_) (fun u1 => ?_)
    · exact absurd u1 (by decide)
    · refine r_al rfl rfl ?_
      refine r_gf rfl rfl xg_4 rfl ?_
      refine r_gf rfl rfl xg_23 rfl ?_
      refine r_ic rfl ?_
      refine r_il rfl rfl ?_
      refine r_shl rfl ?_
      refine r_or rfl ?_
      refine r_goto rfl rfl ?_
      refine r_pf rfl rfl xg_23 rfl xp_fl ?_
      exact r_retv rfl rfl hQ
  obtain ⟨r, h1, h2⟩ := rn_S (vs := [.ref 4, iv (a), iv (1)]) (Q := fun r => r = (none, (cW ki ln bt rl cp cs ct cv 5 14 ja ea ma a1 a2 a3 a4 a5 a6 a7 a8 jb eb mb b1 b2 b3 b4 b5 b6 b7 b8 re (oOr fl (oShl 1 a)) g1 g2 g3 g4 g5 (dW rt la rs rg pd du ds me tt gr su gp mk rf m1 m2 m3 m4 m5 mr mf n1 n2 n3 n4 n5 nr nf E)))) rfl (rn_up (N := 1000) (M := mm_fuel) (by decide) (main (fun r => r = (none, (cW ki ln bt rl cp cs ct cv 5 14 ja ea ma a1 a2 a3 a4 a5 a6 a7 a8 jb eb mb b1 b2 b3 b4 b5 b6 b7 b8 re (oOr fl (oShl 1 a)) g1 g2 g3 g4 g5 (dW rt la rs rg pd du ds me tt gr su gp mk rf m1 m2 m3 m4 m5 mr mf n1 n2 n3 n4 n5 nr nf E)))) rfl))
  have h1 : sX0_sayFallen [.ref 4, iv (a), iv (1)] (cW ki ln bt rl cp cs ct cv 5 14 ja ea ma a1 a2 a3 a4 a5 a6 a7 a8 jb eb mb b1 b2 b3 b4 b5 b6 b7 b8 re fl g1 g2 g3 g4 g5 (dW rt la rs rg pd du ds me tt gr su gp mk rf m1 m2 m3 m4 m5 mr mf n1 n2 n3 n4 n5 nr nf E)) = some r := h1
  rw [h1, h2]
theorem cVO_r {g5 tt : Nat → Int32} {fl a b : Int} : -2147483648 ≤ cVO g5 tt fl a b ∧ cVO g5 tt fl a b ≤ 2147483647 := by
  unfold cVO
  have h1 := as_r (g5 (Int.toNat a))
  have h2 := as_r (tt (Int.toNat a))
  have h3 := bi_r (zb (Int32.ofInt fl) a.toNat)
  cases i3 a 0 7 <;> cases decide (b = 0) <;> cases decide (b = 1) <;> cases decide (b = 2) <;> simp only [cond_true, cond_false] <;> first | assumption | decide
theorem cVO_n {g5 tt : Nat → Int32} {fl a b : Int} (h : i3 a 0 7 = false ∨ i3 b 0 2 = false) : cVO g5 tt fl a b = -1 := by
  unfold cVO
  rcases h with h | h
  · rw [h]; rfl
  · have h := i3_f h
    rw [decide_eq_false (show ¬ b = 0 by omega), decide_eq_false (show ¬ b = 1 by omega), decide_eq_false (show ¬ b = 2 by omega)]
    cases i3 a 0 7 <;> rfl
theorem cVO_p {g5 tt : Nat → Int32} {fl a b : Int} (h5 : ∀ p : Nat, p < 8 → 0 ≤ (g5 p).toInt) (ht : ∀ p : Nat, p < 8 → 0 ≤ (tt p).toInt) (h1 : i3 a 0 7 = true) (h2 : i3 b 0 2 = true) : 0 ≤ cVO g5 tt fl a b := by
  have r1 := i3_t h1
  have r2 := i3_t h2
  have k1 := h5 (Int.toNat a) (by omega)
  have k2 := ht (Int.toNat a) (by omega)
  have k3 := bi_01 (zb (Int32.ofInt fl) a.toNat)
  unfold cVO
  rw [h1]
  by_cases e0 : b = 0
  · rw [decide_eq_true e0]; exact k1
  · by_cases e1 : b = 1
    · rw [decide_eq_false e0, decide_eq_true e1]; exact k2
    · rw [decide_eq_false e0, decide_eq_false e1, decide_eq_true (show b = 2 by omega)]
      show 0 ≤ bi _
      omega
abbrev rn_X11_person (N : Nat) (c : mm_C) (Q : mm_R → Prop) : Prop := rn (mm_gf gLX11) (mm_pf pLX11) (mm_mv vX11_person) (mm_mv zX11_person) (mm_kc kLX11) mm_gs0 mm_rf0 mm_ro (some .int) 5 (mm_ins iX11_person) N c Q
theorem c_personB0 (ha : -2147483648 ≤ a ∧ a ≤ 2147483647) (hb : -2147483648 ≤ b ∧ b ≤ 2147483647) (hv : -2147483648 ≤ v ∧ v ≤ 2147483647) (h5 : ∀ p : Nat, p < 8 → 0 ≤ (g5 p).toInt) (ht : ∀ p : Nat, p < 8 → 0 ≤ (tt p).toInt) (hbad : (i3 a 0 7 && (i3 b 0 2 && i3 v 0 (mo b))) = false) : sX11_person [.ref 0, iv (a), iv (b), iv (v)] (cW ki ln bt rl cp cs ct cv 5 14 ja ea ma a1 a2 a3 a4 a5 a6 a7 a8 jb eb mb b1 b2 b3 b4 b5 b6 b7 b8 re fl g1 g2 g3 g4 g5 (dW rt la rs rg pd du ds me tt gr su gp mk rf m1 m2 m3 m4 m5 mr mf n1 n2 n3 n4 n5 nr nf E)) = some (some (iv (-1)), (cW ki ln bt rl cp cs ct cv 5 14 ja ea ma a1 a2 a3 a4 a5 a6 a7 a8 jb eb mb b1 b2 b3 b4 b5 b6 b7 b8 re fl g1 g2 g3 g4 g5 (dW rt la rs rg pd du ds me tt gr su gp mk rf m1 m2 m3 m4 m5 mr mf n1 n2 n3 n4 n5 nr nf E))) := by
  have main : ∀ Q : mm_R → Prop, Q (some (iv (-1)), (cW ki ln bt rl cp cs ct cv 5 14 ja ea ma a1 a2 a3 a4 a5 a6 a7 a8 jb eb mb b1 b2 b3 b4 b5 b6 b7 b8 re fl g1 g2 g3 g4 g5 (dW rt la rs rg pd du ds me tt gr su gp mk rf m1 m2 m3 m4 m5 mr mf n1 n2 n3 n4 n5 nr nf E))) → rn_X11_person (1000) (0, [(0, .ref 0), (1, iv (a)), (2, iv (b)), (3, iv (v))], [], (cW ki ln bt rl cp cs ct cv 5 14 ja ea ma a1 a2 a3 a4 a5 a6 a7 a8 jb eb mb b1 b2 b3 b4 b5 b6 b7 b8 re fl g1 g2 g3 g4 g5 (dW rt la rs rg pd du ds me tt gr su gp mk rf m1 m2 m3 m4 m5 mr mf n1 n2 n3 n4 n5 nr nf E))) Q := by
    intro Q hQ
    have hm := mo_r b
    have hc : -2147483648 ≤ cVO g5 tt fl a b ∧ cVO g5 tt fl a b ≤ 2147483647 := cVO_r
    refine r_al rfl rfl ?_
    refine r_il rfl rfl ?_
    refine r_il rfl rfl ?_
    refine r_v3s rfl rfl xg_0 rfl (c_valueOf0 ha hb) ?_
    refine r_isw (lv' := [(4, _), (0, _), (1, _), (2, _), (3, _)]) rfl rfl rfl ?_
    refine r_ilw rfl rfl ?_
    refine r_ic rfl ?_
    refine r_ceq rfl rfl hc (by decide) (fun u1 => ?_) (fun u1 => ?_)
    · refine r_ic rfl ?_
      exact r_ret rfl rfl hQ
    · refine r_il rfl rfl ?_
      refine r_zlt rfl rfl (by omega) (fun u2 => ?_) (fun u2 => ?_)
      · refine r_ic rfl ?_
        exact r_ret rfl rfl hQ
      · refine r_il rfl rfl ?_
        refine r_il rfl rfl ?_
        refine r_s1s rfl rfl rfl (c_mostOf hb) ?_
        refine r_cle rfl rfl hv (by omega) (fun u3 => ?_) (fun u3 => ?_)
        · exfalso
          cases h1 : i3 a 0 7 with
          | false => exact u1 (cVO_n (Or.inl h1))
          | true =>
            cases h2 : i3 b 0 2 with
            | false => exact u1 (cVO_n (Or.inr h2))
            | true =>
              have h3 : i3 v 0 (mo b) = true := by simp [i3]; omega
              rw [h1, h2, h3] at hbad
              cases hbad
        · refine r_ic rfl ?_
          exact r_ret rfl rfl hQ
  obtain ⟨r, h1, h2⟩ := rn_S (vs := [.ref 0, iv (a), iv (b), iv (v)]) (Q := fun r => r = (some (iv (-1)), (cW ki ln bt rl cp cs ct cv 5 14 ja ea ma a1 a2 a3 a4 a5 a6 a7 a8 jb eb mb b1 b2 b3 b4 b5 b6 b7 b8 re fl g1 g2 g3 g4 g5 (dW rt la rs rg pd du ds me tt gr su gp mk rf m1 m2 m3 m4 m5 mr mf n1 n2 n3 n4 n5 nr nf E)))) rfl (rn_up (N := 1000) (M := mm_fuel) (by decide) (main (fun r => r = (some (iv (-1)), (cW ki ln bt rl cp cs ct cv 5 14 ja ea ma a1 a2 a3 a4 a5 a6 a7 a8 jb eb mb b1 b2 b3 b4 b5 b6 b7 b8 re fl g1 g2 g3 g4 g5 (dW rt la rs rg pd du ds me tt gr su gp mk rf m1 m2 m3 m4 m5 mr mf n1 n2 n3 n4 n5 nr nf E)))) rfl))
  have h1 : sX11_person [.ref 0, iv (a), iv (b), iv (v)] (cW ki ln bt rl cp cs ct cv 5 14 ja ea ma a1 a2 a3 a4 a5 a6 a7 a8 jb eb mb b1 b2 b3 b4 b5 b6 b7 b8 re fl g1 g2 g3 g4 g5 (dW rt la rs rg pd du ds me tt gr su gp mk rf m1 m2 m3 m4 m5 mr mf n1 n2 n3 n4 n5 nr nf E)) = some r := h1
  rw [h1, h2]
theorem c_personG0_0 (ha : -2147483648 ≤ a ∧ a ≤ 2147483647) (hb : -2147483648 ≤ b ∧ b ≤ 2147483647) (hv : -2147483648 ≤ v ∧ v ≤ 2147483647) (h5 : ∀ p : Nat, p < 8 → 0 ≤ (g5 p).toInt) (ht : ∀ p : Nat, p < 8 → 0 ≤ (tt p).toInt) (hp : i3 a 0 7 = true) (hB : b = 0) (hV : i3 v 0 (mo b) = true) : sX11_person [.ref 0, iv (a), iv (b), iv (v)] (cW ki ln bt rl cp cs ct cv 5 14 ja ea ma a1 a2 a3 a4 a5 a6 a7 a8 jb eb mb b1 b2 b3 b4 b5 b6 b7 b8 re fl g1 g2 g3 g4 g5 (dW rt la rs rg pd du ds me tt gr su gp mk rf m1 m2 m3 m4 m5 mr mf n1 n2 n3 n4 n5 nr nf E)) = some (some (iv (cVO g5 tt fl a b)), (cW ki ln bt rl cp cs ct cv 5 14 ja ea ma a1 a2 a3 a4 a5 a6 a7 a8 jb eb mb b1 b2 b3 b4 b5 b6 b7 b8 re fl g1 g2 g3 g4 (upd g5 (Int.toNat a) (Int32.ofInt v)) (dW rt la rs rg pd du ds me tt gr su gp mk rf m1 m2 m3 m4 m5 mr mf n1 n2 n3 n4 n5 nr nf E))) := by
  have main : ∀ Q : mm_R → Prop, Q (some (iv (cVO g5 tt fl a b)), (cW ki ln bt rl cp cs ct cv 5 14 ja ea ma a1 a2 a3 a4 a5 a6 a7 a8 jb eb mb b1 b2 b3 b4 b5 b6 b7 b8 re fl g1 g2 g3 g4 (upd g5 (Int.toNat a) (Int32.ofInt v)) (dW rt la rs rg pd du ds me tt gr su gp mk rf m1 m2 m3 m4 m5 mr mf n1 n2 n3 n4 n5 nr nf E))) → rn_X11_person (1000) (0, [(0, .ref 0), (1, iv (a)), (2, iv (b)), (3, iv (v))], [], (cW ki ln bt rl cp cs ct cv 5 14 ja ea ma a1 a2 a3 a4 a5 a6 a7 a8 jb eb mb b1 b2 b3 b4 b5 b6 b7 b8 re fl g1 g2 g3 g4 g5 (dW rt la rs rg pd du ds me tt gr su gp mk rf m1 m2 m3 m4 m5 mr mf n1 n2 n3 n4 n5 nr nf E))) Q := by
    intro Q hQ
    have hm := mo_r b
    have hc : -2147483648 ≤ cVO g5 tt fl a b ∧ cVO g5 tt fl a b ≤ 2147483647 := cVO_r
    refine r_al rfl rfl ?_
    refine r_il rfl rfl ?_
    refine r_il rfl rfl ?_
    refine r_v3s rfl rfl xg_0 rfl (c_valueOf0 ha hb) ?_
    refine r_isw (lv' := [(4, _), (0, _), (1, _), (2, _), (3, _)]) rfl rfl rfl ?_
    refine r_ilw rfl rfl ?_
    refine r_ic rfl ?_
    refine r_ceq rfl rfl hc (by decide) (fun u1 => ?_) (fun u1 => ?_)
    · have := cVO_p (fl := fl) (b := b) h5 ht hp (by rw [hB]; decide)
      omega
    · have rp := i3_t hp
      have rv := i3_t hV
      refine r_il rfl rfl ?_
      refine r_zlt rfl rfl (by omega) (fun u2 => ?_) (fun u2 => ?_)
      · omega
      · refine r_il rfl rfl ?_
        refine r_il rfl rfl ?_
        refine r_s1s rfl rfl rfl (c_mostOf hb) ?_
        refine r_cle rfl rfl hv (by omega) (fun u3 => ?_) (fun u3 => ?_)
        · refine r_il rfl rfl ?_
          refine r_lks (off := 27) rfl hb (by rw [hB]; rfl) rfl ?_
          refine r_al rfl rfl ?_
          refine r_gf rfl rfl xg_0 rfl ?_
          refine r_gf rfl rfl xg_4 rfl ?_
          refine r_gf rfl rfl xg_23 rfl ?_
          refine r_il rfl rfl ?_
          refine r_il rfl rfl ?_
          refine r_ias rfl xg_28 (by omega) (by omega) (by decide) xs_28 ?_
          refine r_goto rfl rfl ?_
          refine r_ilw rfl rfl ?_
          exact r_ret rfl rfl hQ
        · omega
  obtain ⟨r, h1, h2⟩ := rn_S (vs := [.ref 0, iv (a), iv (b), iv (v)]) (Q := fun r => r = (some (iv (cVO g5 tt fl a b)), (cW ki ln bt rl cp cs ct cv 5 14 ja ea ma a1 a2 a3 a4 a5 a6 a7 a8 jb eb mb b1 b2 b3 b4 b5 b6 b7 b8 re fl g1 g2 g3 g4 (upd g5 (Int.toNat a) (Int32.ofInt v)) (dW rt la rs rg pd du ds me tt gr su gp mk rf m1 m2 m3 m4 m5 mr mf n1 n2 n3 n4 n5 nr nf E)))) rfl (rn_up (N := 1000) (M := mm_fuel) (by decide) (main (fun r => r = (some (iv (cVO g5 tt fl a b)), (cW ki ln bt rl cp cs ct cv 5 14 ja ea ma a1 a2 a3 a4 a5 a6 a7 a8 jb eb mb b1 b2 b3 b4 b5 b6 b7 b8 re fl g1 g2 g3 g4 (upd g5 (Int.toNat a) (Int32.ofInt v)) (dW rt la rs rg pd du ds me tt gr su gp mk rf m1 m2 m3 m4 m5 mr mf n1 n2 n3 n4 n5 nr nf E)))) rfl))
  have h1 : sX11_person [.ref 0, iv (a), iv (b), iv (v)] (cW ki ln bt rl cp cs ct cv 5 14 ja ea ma a1 a2 a3 a4 a5 a6 a7 a8 jb eb mb b1 b2 b3 b4 b5 b6 b7 b8 re fl g1 g2 g3 g4 g5 (dW rt la rs rg pd du ds me tt gr su gp mk rf m1 m2 m3 m4 m5 mr mf n1 n2 n3 n4 n5 nr nf E)) = some r := h1
  rw [h1, h2]
theorem c_personG0_1 (ha : -2147483648 ≤ a ∧ a ≤ 2147483647) (hb : -2147483648 ≤ b ∧ b ≤ 2147483647) (hv : -2147483648 ≤ v ∧ v ≤ 2147483647) (h5 : ∀ p : Nat, p < 8 → 0 ≤ (g5 p).toInt) (ht : ∀ p : Nat, p < 8 → 0 ≤ (tt p).toInt) (hp : i3 a 0 7 = true) (hB : b = 1) (hV : i3 v 0 (mo b) = true) : sX11_person [.ref 0, iv (a), iv (b), iv (v)] (cW ki ln bt rl cp cs ct cv 5 14 ja ea ma a1 a2 a3 a4 a5 a6 a7 a8 jb eb mb b1 b2 b3 b4 b5 b6 b7 b8 re fl g1 g2 g3 g4 g5 (dW rt la rs rg pd du ds me tt gr su gp mk rf m1 m2 m3 m4 m5 mr mf n1 n2 n3 n4 n5 nr nf E)) = some (some (iv (cVO g5 tt fl a b)), (cW ki ln bt rl cp cs ct cv 5 14 ja ea ma a1 a2 a3 a4 a5 a6 a7 a8 jb eb mb b1 b2 b3 b4 b5 b6 b7 b8 re fl g1 g2 g3 g4 g5 (dW rt la rs rg pd du ds me (upd tt (Int.toNat a) (Int32.ofInt v)) gr su gp mk rf m1 m2 m3 m4 m5 mr mf n1 n2 n3 n4 n5 nr nf E))) := by
  have main : ∀ Q : mm_R → Prop, Q (some (iv (cVO g5 tt fl a b)), (cW ki ln bt rl cp cs ct cv 5 14 ja ea ma a1 a2 a3 a4 a5 a6 a7 a8 jb eb mb b1 b2 b3 b4 b5 b6 b7 b8 re fl g1 g2 g3 g4 g5 (dW rt la rs rg pd du ds me (upd tt (Int.toNat a) (Int32.ofInt v)) gr su gp mk rf m1 m2 m3 m4 m5 mr mf n1 n2 n3 n4 n5 nr nf E))) → rn_X11_person (1000) (0, [(0, .ref 0), (1, iv (a)), (2, iv (b)), (3, iv (v))], [], (cW ki ln bt rl cp cs ct cv 5 14 ja ea ma a1 a2 a3 a4 a5 a6 a7 a8 jb eb mb b1 b2 b3 b4 b5 b6 b7 b8 re fl g1 g2 g3 g4 g5 (dW rt la rs rg pd du ds me tt gr su gp mk rf m1 m2 m3 m4 m5 mr mf n1 n2 n3 n4 n5 nr nf E))) Q := by
    intro Q hQ
    have hm := mo_r b
    have hc : -2147483648 ≤ cVO g5 tt fl a b ∧ cVO g5 tt fl a b ≤ 2147483647 := cVO_r
    refine r_al rfl rfl ?_
    refine r_il rfl rfl ?_
    refine r_il rfl rfl ?_
    refine r_v3s rfl rfl xg_0 rfl (c_valueOf0 ha hb) ?_
    refine r_isw (lv' := [(4, _), (0, _), (1, _), (2, _), (3, _)]) rfl rfl rfl ?_
    refine r_ilw rfl rfl ?_
    refine r_ic rfl ?_
    refine r_ceq rfl rfl hc (by decide) (fun u1 => ?_) (fun u1 => ?_)
    · have := cVO_p (fl := fl) (b := b) h5 ht hp (by rw [hB]; decide)
      omega
    · have rp := i3_t hp
      have rv := i3_t hV
      refine r_il rfl rfl ?_
      refine r_zlt rfl rfl (by omega) (fun u2 => ?_) (fun u2 => ?_)
      · omega
      · refine r_il rfl rfl ?_
        refine r_il rfl rfl ?_
        refine r_s1s rfl rfl rfl (c_mostOf hb) ?_
        refine r_cle rfl rfl hv (by omega) (fun u3 => ?_) (fun u3 => ?_)
        · refine r_il rfl rfl ?_
          refine r_lks (off := 43) rfl hb (by rw [hB]; rfl) rfl ?_
          refine r_al rfl rfl ?_
          refine r_gf rfl rfl xg_0 rfl ?_
          refine r_gf rfl rfl xg_36 rfl ?_
          refine r_il rfl rfl ?_
          refine r_il rfl rfl ?_
          refine r_ias rfl xg_37 (by omega) (by omega) (by decide) xs_37 ?_
          refine r_goto rfl rfl ?_
          refine r_ilw rfl rfl ?_
          exact r_ret rfl rfl hQ
        · omega
  obtain ⟨r, h1, h2⟩ := rn_S (vs := [.ref 0, iv (a), iv (b), iv (v)]) (Q := fun r => r = (some (iv (cVO g5 tt fl a b)), (cW ki ln bt rl cp cs ct cv 5 14 ja ea ma a1 a2 a3 a4 a5 a6 a7 a8 jb eb mb b1 b2 b3 b4 b5 b6 b7 b8 re fl g1 g2 g3 g4 g5 (dW rt la rs rg pd du ds me (upd tt (Int.toNat a) (Int32.ofInt v)) gr su gp mk rf m1 m2 m3 m4 m5 mr mf n1 n2 n3 n4 n5 nr nf E)))) rfl (rn_up (N := 1000) (M := mm_fuel) (by decide) (main (fun r => r = (some (iv (cVO g5 tt fl a b)), (cW ki ln bt rl cp cs ct cv 5 14 ja ea ma a1 a2 a3 a4 a5 a6 a7 a8 jb eb mb b1 b2 b3 b4 b5 b6 b7 b8 re fl g1 g2 g3 g4 g5 (dW rt la rs rg pd du ds me (upd tt (Int.toNat a) (Int32.ofInt v)) gr su gp mk rf m1 m2 m3 m4 m5 mr mf n1 n2 n3 n4 n5 nr nf E)))) rfl))
  have h1 : sX11_person [.ref 0, iv (a), iv (b), iv (v)] (cW ki ln bt rl cp cs ct cv 5 14 ja ea ma a1 a2 a3 a4 a5 a6 a7 a8 jb eb mb b1 b2 b3 b4 b5 b6 b7 b8 re fl g1 g2 g3 g4 g5 (dW rt la rs rg pd du ds me tt gr su gp mk rf m1 m2 m3 m4 m5 mr mf n1 n2 n3 n4 n5 nr nf E)) = some r := h1
  rw [h1, h2]
theorem c_personG0_2 (ha : -2147483648 ≤ a ∧ a ≤ 2147483647) (hb : -2147483648 ≤ b ∧ b ≤ 2147483647) (hv : -2147483648 ≤ v ∧ v ≤ 2147483647) (h5 : ∀ p : Nat, p < 8 → 0 ≤ (g5 p).toInt) (ht : ∀ p : Nat, p < 8 → 0 ≤ (tt p).toInt) (hp : i3 a 0 7 = true) (hB : b = 2) (hV : i3 v 0 (mo b) = true) (h01 : v = 0) : sX11_person [.ref 0, iv (a), iv (b), iv (v)] (cW ki ln bt rl cp cs ct cv 5 14 ja ea ma a1 a2 a3 a4 a5 a6 a7 a8 jb eb mb b1 b2 b3 b4 b5 b6 b7 b8 re fl g1 g2 g3 g4 g5 (dW rt la rs rg pd du ds me tt gr su gp mk rf m1 m2 m3 m4 m5 mr mf n1 n2 n3 n4 n5 nr nf E)) = some (some (iv (cVO g5 tt fl a b)), (cW ki ln bt rl cp cs ct cv 5 14 ja ea ma a1 a2 a3 a4 a5 a6 a7 a8 jb eb mb b1 b2 b3 b4 b5 b6 b7 b8 re (oAnd fl (oXor (oShl 1 a) (-1))) g1 g2 g3 g4 g5 (dW rt la rs rg pd du ds me tt gr su gp mk rf m1 m2 m3 m4 m5 mr mf n1 n2 n3 n4 n5 nr nf E))) := by
  have main : ∀ Q : mm_R → Prop, Q (some (iv (cVO g5 tt fl a b)), (cW ki ln bt rl cp cs ct cv 5 14 ja ea ma a1 a2 a3 a4 a5 a6 a7 a8 jb eb mb b1 b2 b3 b4 b5 b6 b7 b8 re (oAnd fl (oXor (oShl 1 a) (-1))) g1 g2 g3 g4 g5 (dW rt la rs rg pd du ds me tt gr su gp mk rf m1 m2 m3 m4 m5 mr mf n1 n2 n3 n4 n5 nr nf E))) → rn_X11_person (1000) (0, [(0, .ref 0), (1, iv (a)), (2, iv (b)), (3, iv (v))], [], (cW ki ln bt rl cp cs ct cv 5 14 ja ea ma a1 a2 a3 a4 a5 a6 a7 a8 jb eb mb b1 b2 b3 b4 b5 b6 b7 b8 re fl g1 g2 g3 g4 g5 (dW rt la rs rg pd du ds me tt gr su gp mk rf m1 m2 m3 m4 m5 mr mf n1 n2 n3 n4 n5 nr nf E))) Q := by
    intro Q hQ
    have hm := mo_r b
    have hc : -2147483648 ≤ cVO g5 tt fl a b ∧ cVO g5 tt fl a b ≤ 2147483647 := cVO_r
    refine r_al rfl rfl ?_
    refine r_il rfl rfl ?_
    refine r_il rfl rfl ?_
    refine r_v3s rfl rfl xg_0 rfl (c_valueOf0 ha hb) ?_
    refine r_isw (lv' := [(4, _), (0, _), (1, _), (2, _), (3, _)]) rfl rfl rfl ?_
    refine r_ilw rfl rfl ?_
    refine r_ic rfl ?_
    refine r_ceq rfl rfl hc (by decide) (fun u1 => ?_) (fun u1 => ?_)
    · have := cVO_p (fl := fl) (b := b) h5 ht hp (by rw [hB]; decide)
      omega
    · have rp := i3_t hp
      have rv := i3_t hV
      refine r_il rfl rfl ?_
      refine r_zlt rfl rfl (by omega) (fun u2 => ?_) (fun u2 => ?_)
      · omega
      · refine r_il rfl rfl ?_
        refine r_il rfl rfl ?_
        refine r_s1s rfl rfl rfl (c_mostOf hb) ?_
        refine r_cle rfl rfl hv (by omega) (fun u3 => ?_) (fun u3 => ?_)
        · refine r_il rfl rfl ?_
          refine r_lks (off := 56) rfl hb (by rw [hB]; rfl) rfl ?_
          refine r_al rfl rfl ?_
          refine r_gf rfl rfl xg_0 rfl ?_
          refine r_il rfl rfl ?_
          refine r_il rfl rfl ?_
          refine r_ic rfl ?_
          refine r_cne rfl rfl hv (by decide) (fun u4 => ?_) (fun u4 => ?_)
          · refine r_ic rfl ?_
            refine r_v3n rfl rfl xg_4 rfl c_sayF0_0 ?_
            refine r_ilw rfl rfl ?_
            exact r_ret rfl rfl hQ
          · omega
        · omega
  obtain ⟨r, h1, h2⟩ := rn_S (vs := [.ref 0, iv (a), iv (b), iv (v)]) (Q := fun r => r = (some (iv (cVO g5 tt fl a b)), (cW ki ln bt rl cp cs ct cv 5 14 ja ea ma a1 a2 a3 a4 a5 a6 a7 a8 jb eb mb b1 b2 b3 b4 b5 b6 b7 b8 re (oAnd fl (oXor (oShl 1 a) (-1))) g1 g2 g3 g4 g5 (dW rt la rs rg pd du ds me tt gr su gp mk rf m1 m2 m3 m4 m5 mr mf n1 n2 n3 n4 n5 nr nf E)))) rfl (rn_up (N := 1000) (M := mm_fuel) (by decide) (main (fun r => r = (some (iv (cVO g5 tt fl a b)), (cW ki ln bt rl cp cs ct cv 5 14 ja ea ma a1 a2 a3 a4 a5 a6 a7 a8 jb eb mb b1 b2 b3 b4 b5 b6 b7 b8 re (oAnd fl (oXor (oShl 1 a) (-1))) g1 g2 g3 g4 g5 (dW rt la rs rg pd du ds me tt gr su gp mk rf m1 m2 m3 m4 m5 mr mf n1 n2 n3 n4 n5 nr nf E)))) rfl))
  have h1 : sX11_person [.ref 0, iv (a), iv (b), iv (v)] (cW ki ln bt rl cp cs ct cv 5 14 ja ea ma a1 a2 a3 a4 a5 a6 a7 a8 jb eb mb b1 b2 b3 b4 b5 b6 b7 b8 re fl g1 g2 g3 g4 g5 (dW rt la rs rg pd du ds me tt gr su gp mk rf m1 m2 m3 m4 m5 mr mf n1 n2 n3 n4 n5 nr nf E)) = some r := h1
  rw [h1, h2]
theorem c_personG0_3 (ha : -2147483648 ≤ a ∧ a ≤ 2147483647) (hb : -2147483648 ≤ b ∧ b ≤ 2147483647) (hv : -2147483648 ≤ v ∧ v ≤ 2147483647) (h5 : ∀ p : Nat, p < 8 → 0 ≤ (g5 p).toInt) (ht : ∀ p : Nat, p < 8 → 0 ≤ (tt p).toInt) (hp : i3 a 0 7 = true) (hB : b = 2) (hV : i3 v 0 (mo b) = true) (h01 : v = 1) : sX11_person [.ref 0, iv (a), iv (b), iv (v)] (cW ki ln bt rl cp cs ct cv 5 14 ja ea ma a1 a2 a3 a4 a5 a6 a7 a8 jb eb mb b1 b2 b3 b4 b5 b6 b7 b8 re fl g1 g2 g3 g4 g5 (dW rt la rs rg pd du ds me tt gr su gp mk rf m1 m2 m3 m4 m5 mr mf n1 n2 n3 n4 n5 nr nf E)) = some (some (iv (cVO g5 tt fl a b)), (cW ki ln bt rl cp cs ct cv 5 14 ja ea ma a1 a2 a3 a4 a5 a6 a7 a8 jb eb mb b1 b2 b3 b4 b5 b6 b7 b8 re (oOr fl (oShl 1 a)) g1 g2 g3 g4 g5 (dW rt la rs rg pd du ds me tt gr su gp mk rf m1 m2 m3 m4 m5 mr mf n1 n2 n3 n4 n5 nr nf E))) := by
  have main : ∀ Q : mm_R → Prop, Q (some (iv (cVO g5 tt fl a b)), (cW ki ln bt rl cp cs ct cv 5 14 ja ea ma a1 a2 a3 a4 a5 a6 a7 a8 jb eb mb b1 b2 b3 b4 b5 b6 b7 b8 re (oOr fl (oShl 1 a)) g1 g2 g3 g4 g5 (dW rt la rs rg pd du ds me tt gr su gp mk rf m1 m2 m3 m4 m5 mr mf n1 n2 n3 n4 n5 nr nf E))) → rn_X11_person (1000) (0, [(0, .ref 0), (1, iv (a)), (2, iv (b)), (3, iv (v))], [], (cW ki ln bt rl cp cs ct cv 5 14 ja ea ma a1 a2 a3 a4 a5 a6 a7 a8 jb eb mb b1 b2 b3 b4 b5 b6 b7 b8 re fl g1 g2 g3 g4 g5 (dW rt la rs rg pd du ds me tt gr su gp mk rf m1 m2 m3 m4 m5 mr mf n1 n2 n3 n4 n5 nr nf E))) Q := by
    intro Q hQ
    have hm := mo_r b
    have hc : -2147483648 ≤ cVO g5 tt fl a b ∧ cVO g5 tt fl a b ≤ 2147483647 := cVO_r
    refine r_al rfl rfl ?_
    refine r_il rfl rfl ?_
    refine r_il rfl rfl ?_
    refine r_v3s rfl rfl xg_0 rfl (c_valueOf0 ha hb) ?_
    refine r_isw (lv' := [(4, _), (0, _), (1, _), (2, _), (3, _)]) rfl rfl rfl ?_
    refine r_ilw rfl rfl ?_
    refine r_ic rfl ?_
    refine r_ceq rfl rfl hc (by decide) (fun u1 => ?_) (fun u1 => ?_)
    · have := cVO_p (fl := fl) (b := b) h5 ht hp (by rw [hB]; decide)
      omega
    · have rp := i3_t hp
      have rv := i3_t hV
      refine r_il rfl rfl ?_
      refine r_zlt rfl rfl (by omega) (fun u2 => ?_) (fun u2 => ?_)
      · omega
      · refine r_il rfl rfl ?_
        refine r_il rfl rfl ?_
        refine r_s1s rfl rfl rfl (c_mostOf hb) ?_
        refine r_cle rfl rfl hv (by omega) (fun u3 => ?_) (fun u3 => ?_)
        · refine r_il rfl rfl ?_
          refine r_lks (off := 56) rfl hb (by rw [hB]; rfl) rfl ?_
          refine r_al rfl rfl ?_
          refine r_gf rfl rfl xg_0 rfl ?_
          refine r_il rfl rfl ?_
          refine r_il rfl rfl ?_
          refine r_ic rfl ?_
          refine r_cne rfl rfl hv (by decide) (fun u4 => ?_) (fun u4 => ?_)
          · exact absurd h01 u4
          · refine r_ic rfl ?_
            refine r_goto rfl rfl ?_
            refine r_v3n rfl rfl xg_4 rfl c_sayF0_1 ?_
            refine r_ilw rfl rfl ?_
            exact r_ret rfl rfl hQ
        · omega
  obtain ⟨r, h1, h2⟩ := rn_S (vs := [.ref 0, iv (a), iv (b), iv (v)]) (Q := fun r => r = (some (iv (cVO g5 tt fl a b)), (cW ki ln bt rl cp cs ct cv 5 14 ja ea ma a1 a2 a3 a4 a5 a6 a7 a8 jb eb mb b1 b2 b3 b4 b5 b6 b7 b8 re (oOr fl (oShl 1 a)) g1 g2 g3 g4 g5 (dW rt la rs rg pd du ds me tt gr su gp mk rf m1 m2 m3 m4 m5 mr mf n1 n2 n3 n4 n5 nr nf E)))) rfl (rn_up (N := 1000) (M := mm_fuel) (by decide) (main (fun r => r = (some (iv (cVO g5 tt fl a b)), (cW ki ln bt rl cp cs ct cv 5 14 ja ea ma a1 a2 a3 a4 a5 a6 a7 a8 jb eb mb b1 b2 b3 b4 b5 b6 b7 b8 re (oOr fl (oShl 1 a)) g1 g2 g3 g4 g5 (dW rt la rs rg pd du ds me tt gr su gp mk rf m1 m2 m3 m4 m5 mr mf n1 n2 n3 n4 n5 nr nf E)))) rfl))
  have h1 : sX11_person [.ref 0, iv (a), iv (b), iv (v)] (cW ki ln bt rl cp cs ct cv 5 14 ja ea ma a1 a2 a3 a4 a5 a6 a7 a8 jb eb mb b1 b2 b3 b4 b5 b6 b7 b8 re fl g1 g2 g3 g4 g5 (dW rt la rs rg pd du ds me tt gr su gp mk rf m1 m2 m3 m4 m5 mr mf n1 n2 n3 n4 n5 nr nf E)) = some r := h1
  rw [h1, h2]
theorem c_sayF1_0  : sX0_sayFallen [.ref 4, iv (a), iv (0)] (cW ki ln bt rl cp cs ct cv 14 5 ja ea ma a1 a2 a3 a4 a5 a6 a7 a8 jb eb mb b1 b2 b3 b4 b5 b6 b7 b8 re fl g1 g2 g3 g4 g5 (dW rt la rs rg pd du ds me tt gr su gp mk rf m1 m2 m3 m4 m5 mr mf n1 n2 n3 n4 n5 nr nf E)) = some (none, (cW ki ln bt rl cp cs ct cv 14 5 ja ea ma a1 a2 a3 a4 a5 a6 a7 a8 jb eb mb b1 b2 b3 b4 b5 b6 b7 b8 re (oAnd fl (oXor (oShl 1 a) (-1))) g1 g2 g3 g4 g5 (dW rt la rs rg pd du ds me tt gr su gp mk rf m1 m2 m3 m4 m5 mr mf n1 n2 n3 n4 n5 nr nf E))) := by
  have main : ∀ Q : mm_R → Prop, Q (none, (cW ki ln bt rl cp cs ct cv 14 5 ja ea ma a1 a2 a3 a4 a5 a6 a7 a8 jb eb mb b1 b2 b3 b4 b5 b6 b7 b8 re (oAnd fl (oXor (oShl 1 a) (-1))) g1 g2 g3 g4 g5 (dW rt la rs rg pd du ds me tt gr su gp mk rf m1 m2 m3 m4 m5 mr mf n1 n2 n3 n4 n5 nr nf E))) → rn_X0_sayFallen (1000) (0, [(0, .ref 4), (1, iv (a)), (2, iv (0))], [], (cW ki ln bt rl cp cs ct cv 14 5 ja ea ma a1 a2 a3 a4 a5 a6 a7 a8 jb eb mb b1 b2 b3 b4 b5 b6 b7 b8 re fl g1 g2 g3 g4 g5 (dW rt la rs rg pd du ds me tt gr su gp mk rf m1 m2 m3 m4 m5 mr mf n1 n2 n3 n4 n5 nr nf E))) Q := by
    intro Q hQ
    refine r_al rfl rfl ?_
    refine r_gf rfl rfl xg_4 rfl ?_
    refine r_il rfl rfl ?_
    refine r_zeq rfl rfl (by decide) (fun u1 => ?_) (fun u1 => ?_)
    · refine r_al rfl rfl ?_
      refine r_gf rfl rfl xg_4 rfl ?_
      refine r_gf rfl rfl xg_23 rfl ?_
      refine r_ic rfl ?_
      refine r_il rfl rfl ?_
      refine r_shl rfl ?_
      refine r_ic rfl ?_
      refine r_xor rfl ?_
      refine r_and rfl ?_
      refine r_pf rfl rfl xg_23 rfl xp_fl ?_
      exact r_retv rfl rfl hQ
    · exact absurd rfl u1
  obtain ⟨r, h1, h2⟩ := rn_S (vs := [.ref 4, iv (a), iv (0)]) (Q := fun r => r = (none, (cW ki ln bt rl cp cs ct cv 14 5 ja ea ma a1 a2 a3 a4 a5 a6 a7 a8 jb eb mb b1 b2 b3 b4 b5 b6 b7 b8 re (oAnd fl (oXor (oShl 1 a) (-1))) g1 g2 g3 g4 g5 (dW rt la rs rg pd du ds me tt gr su gp mk rf m1 m2 m3 m4 m5 mr mf n1 n2 n3 n4 n5 nr nf E)))) rfl (rn_up (N := 1000) (M := mm_fuel) (by decide) (main (fun r => r = (none, (cW ki ln bt rl cp cs ct cv 14 5 ja ea ma a1 a2 a3 a4 a5 a6 a7 a8 jb eb mb b1 b2 b3 b4 b5 b6 b7 b8 re (oAnd fl (oXor (oShl 1 a) (-1))) g1 g2 g3 g4 g5 (dW rt la rs rg pd du ds me tt gr su gp mk rf m1 m2 m3 m4 m5 mr mf n1 n2 n3 n4 n5 nr nf E)))) rfl))
  have h1 : sX0_sayFallen [.ref 4, iv (a), iv (0)] (cW ki ln bt rl cp cs ct cv 14 5 ja ea ma a1 a2 a3 a4 a5 a6 a7 a8 jb eb mb b1 b2 b3 b4 b5 b6 b7 b8 re fl g1 g2 g3 g4 g5 (dW rt la rs rg pd du ds me tt gr su gp mk rf m1 m2 m3 m4 m5 mr mf n1 n2 n3 n4 n5 nr nf E)) = some r := h1
  rw [h1, h2]
theorem c_sayF1_1  : sX0_sayFallen [.ref 4, iv (a), iv (1)] (cW ki ln bt rl cp cs ct cv 14 5 ja ea ma a1 a2 a3 a4 a5 a6 a7 a8 jb eb mb b1 b2 b3 b4 b5 b6 b7 b8 re fl g1 g2 g3 g4 g5 (dW rt la rs rg pd du ds me tt gr su gp mk rf m1 m2 m3 m4 m5 mr mf n1 n2 n3 n4 n5 nr nf E)) = some (none, (cW ki ln bt rl cp cs ct cv 14 5 ja ea ma a1 a2 a3 a4 a5 a6 a7 a8 jb eb mb b1 b2 b3 b4 b5 b6 b7 b8 re (oOr fl (oShl 1 a)) g1 g2 g3 g4 g5 (dW rt la rs rg pd du ds me tt gr su gp mk rf m1 m2 m3 m4 m5 mr mf n1 n2 n3 n4 n5 nr nf E))) := by
  have main : ∀ Q : mm_R → Prop, Q (none, (cW ki ln bt rl cp cs ct cv 14 5 ja ea ma a1 a2 a3 a4 a5 a6 a7 a8 jb eb mb b1 b2 b3 b4 b5 b6 b7 b8 re (oOr fl (oShl 1 a)) g1 g2 g3 g4 g5 (dW rt la rs rg pd du ds me tt gr su gp mk rf m1 m2 m3 m4 m5 mr mf n1 n2 n3 n4 n5 nr nf E))) → rn_X0_sayFallen (1000) (0, [(0, .ref 4), (1, iv (a)), (2, iv (1))], [], (cW ki ln bt rl cp cs ct cv 14 5 ja ea ma a1 a2 a3 a4 a5 a6 a7 a8 jb eb mb b1 b2 b3 b4 b5 b6 b7 b8 re fl g1 g2 g3 g4 g5 (dW rt la rs rg pd du ds me tt gr su gp mk rf m1 m2 m3 m4 m5 mr mf n1 n2 n3 n4 n5 nr nf E))) Q := by
    intro Q hQ
    refine r_al rfl rfl ?_
    refine r_gf rfl rfl xg_4 rfl ?_
    refine r_il rfl rfl ?_
    refine r_zeq rfl rfl (by decide) (fun u1 => ?_) (fun u1 => ?_)
    · exact absurd u1 (by decide)
    · refine r_al rfl rfl ?_
      refine r_gf rfl rfl xg_4 rfl ?_
      refine r_gf rfl rfl xg_23 rfl ?_
      refine r_ic rfl ?_
      refine r_il rfl rfl ?_
      refine r_shl rfl ?_
      refine r_or rfl ?_
      refine r_goto rfl rfl ?_
      refine r_pf rfl rfl xg_23 rfl xp_fl ?_
      exact r_retv rfl rfl hQ
  obtain ⟨r, h1, h2⟩ := rn_S (vs := [.ref 4, iv (a), iv (1)]) (Q := fun r => r = (none, (cW ki ln bt rl cp cs ct cv 14 5 ja ea ma a1 a2 a3 a4 a5 a6 a7 a8 jb eb mb b1 b2 b3 b4 b5 b6 b7 b8 re (oOr fl (oShl 1 a)) g1 g2 g3 g4 g5 (dW rt la rs rg pd du ds me tt gr su gp mk rf m1 m2 m3 m4 m5 mr mf n1 n2 n3 n4 n5 nr nf E)))) rfl (rn_up (N := 1000) (M := mm_fuel) (by decide) (main (fun r => r = (none, (cW ki ln bt rl cp cs ct cv 14 5 ja ea ma a1 a2 a3 a4 a5 a6 a7 a8 jb eb mb b1 b2 b3 b4 b5 b6 b7 b8 re (oOr fl (oShl 1 a)) g1 g2 g3 g4 g5 (dW rt la rs rg pd du ds me tt gr su gp mk rf m1 m2 m3 m4 m5 mr mf n1 n2 n3 n4 n5 nr nf E)))) rfl))
  have h1 : sX0_sayFallen [.ref 4, iv (a), iv (1)] (cW ki ln bt rl cp cs ct cv 14 5 ja ea ma a1 a2 a3 a4 a5 a6 a7 a8 jb eb mb b1 b2 b3 b4 b5 b6 b7 b8 re fl g1 g2 g3 g4 g5 (dW rt la rs rg pd du ds me tt gr su gp mk rf m1 m2 m3 m4 m5 mr mf n1 n2 n3 n4 n5 nr nf E)) = some r := h1
  rw [h1, h2]
theorem c_personB1 (ha : -2147483648 ≤ a ∧ a ≤ 2147483647) (hb : -2147483648 ≤ b ∧ b ≤ 2147483647) (hv : -2147483648 ≤ v ∧ v ≤ 2147483647) (h5 : ∀ p : Nat, p < 8 → 0 ≤ (g5 p).toInt) (ht : ∀ p : Nat, p < 8 → 0 ≤ (tt p).toInt) (hbad : (i3 a 0 7 && (i3 b 0 2 && i3 v 0 (mo b))) = false) : sX11_person [.ref 0, iv (a), iv (b), iv (v)] (cW ki ln bt rl cp cs ct cv 14 5 ja ea ma a1 a2 a3 a4 a5 a6 a7 a8 jb eb mb b1 b2 b3 b4 b5 b6 b7 b8 re fl g1 g2 g3 g4 g5 (dW rt la rs rg pd du ds me tt gr su gp mk rf m1 m2 m3 m4 m5 mr mf n1 n2 n3 n4 n5 nr nf E)) = some (some (iv (-1)), (cW ki ln bt rl cp cs ct cv 14 5 ja ea ma a1 a2 a3 a4 a5 a6 a7 a8 jb eb mb b1 b2 b3 b4 b5 b6 b7 b8 re fl g1 g2 g3 g4 g5 (dW rt la rs rg pd du ds me tt gr su gp mk rf m1 m2 m3 m4 m5 mr mf n1 n2 n3 n4 n5 nr nf E))) := by
  have main : ∀ Q : mm_R → Prop, Q (some (iv (-1)), (cW ki ln bt rl cp cs ct cv 14 5 ja ea ma a1 a2 a3 a4 a5 a6 a7 a8 jb eb mb b1 b2 b3 b4 b5 b6 b7 b8 re fl g1 g2 g3 g4 g5 (dW rt la rs rg pd du ds me tt gr su gp mk rf m1 m2 m3 m4 m5 mr mf n1 n2 n3 n4 n5 nr nf E))) → rn_X11_person (1000) (0, [(0, .ref 0), (1, iv (a)), (2, iv (b)), (3, iv (v))], [], (cW ki ln bt rl cp cs ct cv 14 5 ja ea ma a1 a2 a3 a4 a5 a6 a7 a8 jb eb mb b1 b2 b3 b4 b5 b6 b7 b8 re fl g1 g2 g3 g4 g5 (dW rt la rs rg pd du ds me tt gr su gp mk rf m1 m2 m3 m4 m5 mr mf n1 n2 n3 n4 n5 nr nf E))) Q := by
    intro Q hQ
    have hm := mo_r b
    have hc : -2147483648 ≤ cVO g5 tt fl a b ∧ cVO g5 tt fl a b ≤ 2147483647 := cVO_r
    refine r_al rfl rfl ?_
    refine r_il rfl rfl ?_
    refine r_il rfl rfl ?_
    refine r_v3s rfl rfl xg_0 rfl (c_valueOf1 ha hb) ?_
    refine r_isw (lv' := [(4, _), (0, _), (1, _), (2, _), (3, _)]) rfl rfl rfl ?_
    refine r_ilw rfl rfl ?_
    refine r_ic rfl ?_
    refine r_ceq rfl rfl hc (by decide) (fun u1 => ?_) (fun u1 => ?_)
    · refine r_ic rfl ?_
      exact r_ret rfl rfl hQ
    · refine r_il rfl rfl ?_
      refine r_zlt rfl rfl (by omega) (fun u2 => ?_) (fun u2 => ?_)
      · refine r_ic rfl ?_
        exact r_ret rfl rfl hQ
      · refine r_il rfl rfl ?_
        refine r_il rfl rfl ?_
        refine r_s1s rfl rfl rfl (c_mostOf hb) ?_
        refine r_cle rfl rfl hv (by omega) (fun u3 => ?_) (fun u3 => ?_)
        · exfalso
          cases h1 : i3 a 0 7 with
          | false => exact u1 (cVO_n (Or.inl h1))
          | true =>
            cases h2 : i3 b 0 2 with
            | false => exact u1 (cVO_n (Or.inr h2))
            | true =>
              have h3 : i3 v 0 (mo b) = true := by simp [i3]; omega
              rw [h1, h2, h3] at hbad
              cases hbad
        · refine r_ic rfl ?_
          exact r_ret rfl rfl hQ
  obtain ⟨r, h1, h2⟩ := rn_S (vs := [.ref 0, iv (a), iv (b), iv (v)]) (Q := fun r => r = (some (iv (-1)), (cW ki ln bt rl cp cs ct cv 14 5 ja ea ma a1 a2 a3 a4 a5 a6 a7 a8 jb eb mb b1 b2 b3 b4 b5 b6 b7 b8 re fl g1 g2 g3 g4 g5 (dW rt la rs rg pd du ds me tt gr su gp mk rf m1 m2 m3 m4 m5 mr mf n1 n2 n3 n4 n5 nr nf E)))) rfl (rn_up (N := 1000) (M := mm_fuel) (by decide) (main (fun r => r = (some (iv (-1)), (cW ki ln bt rl cp cs ct cv 14 5 ja ea ma a1 a2 a3 a4 a5 a6 a7 a8 jb eb mb b1 b2 b3 b4 b5 b6 b7 b8 re fl g1 g2 g3 g4 g5 (dW rt la rs rg pd du ds me tt gr su gp mk rf m1 m2 m3 m4 m5 mr mf n1 n2 n3 n4 n5 nr nf E)))) rfl))
  have h1 : sX11_person [.ref 0, iv (a), iv (b), iv (v)] (cW ki ln bt rl cp cs ct cv 14 5 ja ea ma a1 a2 a3 a4 a5 a6 a7 a8 jb eb mb b1 b2 b3 b4 b5 b6 b7 b8 re fl g1 g2 g3 g4 g5 (dW rt la rs rg pd du ds me tt gr su gp mk rf m1 m2 m3 m4 m5 mr mf n1 n2 n3 n4 n5 nr nf E)) = some r := h1
  rw [h1, h2]
theorem c_personG1_0 (ha : -2147483648 ≤ a ∧ a ≤ 2147483647) (hb : -2147483648 ≤ b ∧ b ≤ 2147483647) (hv : -2147483648 ≤ v ∧ v ≤ 2147483647) (h5 : ∀ p : Nat, p < 8 → 0 ≤ (g5 p).toInt) (ht : ∀ p : Nat, p < 8 → 0 ≤ (tt p).toInt) (hp : i3 a 0 7 = true) (hB : b = 0) (hV : i3 v 0 (mo b) = true) : sX11_person [.ref 0, iv (a), iv (b), iv (v)] (cW ki ln bt rl cp cs ct cv 14 5 ja ea ma a1 a2 a3 a4 a5 a6 a7 a8 jb eb mb b1 b2 b3 b4 b5 b6 b7 b8 re fl g1 g2 g3 g4 g5 (dW rt la rs rg pd du ds me tt gr su gp mk rf m1 m2 m3 m4 m5 mr mf n1 n2 n3 n4 n5 nr nf E)) = some (some (iv (cVO g5 tt fl a b)), (cW ki ln bt rl cp cs ct cv 14 5 ja ea ma a1 a2 a3 a4 a5 a6 a7 a8 jb eb mb b1 b2 b3 b4 b5 b6 b7 b8 re fl g1 g2 g3 g4 (upd g5 (Int.toNat a) (Int32.ofInt v)) (dW rt la rs rg pd du ds me tt gr su gp mk rf m1 m2 m3 m4 m5 mr mf n1 n2 n3 n4 n5 nr nf E))) := by
  have main : ∀ Q : mm_R → Prop, Q (some (iv (cVO g5 tt fl a b)), (cW ki ln bt rl cp cs ct cv 14 5 ja ea ma a1 a2 a3 a4 a5 a6 a7 a8 jb eb mb b1 b2 b3 b4 b5 b6 b7 b8 re fl g1 g2 g3 g4 (upd g5 (Int.toNat a) (Int32.ofInt v)) (dW rt la rs rg pd du ds me tt gr su gp mk rf m1 m2 m3 m4 m5 mr mf n1 n2 n3 n4 n5 nr nf E))) → rn_X11_person (1000) (0, [(0, .ref 0), (1, iv (a)), (2, iv (b)), (3, iv (v))], [], (cW ki ln bt rl cp cs ct cv 14 5 ja ea ma a1 a2 a3 a4 a5 a6 a7 a8 jb eb mb b1 b2 b3 b4 b5 b6 b7 b8 re fl g1 g2 g3 g4 g5 (dW rt la rs rg pd du ds me tt gr su gp mk rf m1 m2 m3 m4 m5 mr mf n1 n2 n3 n4 n5 nr nf E))) Q := by
    intro Q hQ
    have hm := mo_r b
    have hc : -2147483648 ≤ cVO g5 tt fl a b ∧ cVO g5 tt fl a b ≤ 2147483647 := cVO_r
    refine r_al rfl rfl ?_
    refine r_il rfl rfl ?_
    refine r_il rfl rfl ?_
    refine r_v3s rfl rfl xg_0 rfl (c_valueOf1 ha hb) ?_
    refine r_isw (lv' := [(4, _), (0, _), (1, _), (2, _), (3, _)]) rfl rfl rfl ?_
    refine r_ilw rfl rfl ?_
    refine r_ic rfl ?_
    refine r_ceq rfl rfl hc (by decide) (fun u1 => ?_) (fun u1 => ?_)
    · have := cVO_p (fl := fl) (b := b) h5 ht hp (by rw [hB]; decide)
      omega
    · have rp := i3_t hp
      have rv := i3_t hV
      refine r_il rfl rfl ?_
      refine r_zlt rfl rfl (by omega) (fun u2 => ?_) (fun u2 => ?_)
      · omega
      · refine r_il rfl rfl ?_
        refine r_il rfl rfl ?_
        refine r_s1s rfl rfl rfl (c_mostOf hb) ?_
        refine r_cle rfl rfl hv (by omega) (fun u3 => ?_) (fun u3 => ?_)
        · refine r_il rfl rfl ?_
          refine r_lks (off := 27) rfl hb (by rw [hB]; rfl) rfl ?_
          refine r_al rfl rfl ?_
          refine r_gf rfl rfl xg_0 rfl ?_
          refine r_gf rfl rfl xg_4 rfl ?_
          refine r_gf rfl rfl xg_23 rfl ?_
          refine r_il rfl rfl ?_
          refine r_il rfl rfl ?_
          refine r_ias rfl xg_28 (by omega) (by omega) (by decide) xs_28 ?_
          refine r_goto rfl rfl ?_
          refine r_ilw rfl rfl ?_
          exact r_ret rfl rfl hQ
        · omega
  obtain ⟨r, h1, h2⟩ := rn_S (vs := [.ref 0, iv (a), iv (b), iv (v)]) (Q := fun r => r = (some (iv (cVO g5 tt fl a b)), (cW ki ln bt rl cp cs ct cv 14 5 ja ea ma a1 a2 a3 a4 a5 a6 a7 a8 jb eb mb b1 b2 b3 b4 b5 b6 b7 b8 re fl g1 g2 g3 g4 (upd g5 (Int.toNat a) (Int32.ofInt v)) (dW rt la rs rg pd du ds me tt gr su gp mk rf m1 m2 m3 m4 m5 mr mf n1 n2 n3 n4 n5 nr nf E)))) rfl (rn_up (N := 1000) (M := mm_fuel) (by decide) (main (fun r => r = (some (iv (cVO g5 tt fl a b)), (cW ki ln bt rl cp cs ct cv 14 5 ja ea ma a1 a2 a3 a4 a5 a6 a7 a8 jb eb mb b1 b2 b3 b4 b5 b6 b7 b8 re fl g1 g2 g3 g4 (upd g5 (Int.toNat a) (Int32.ofInt v)) (dW rt la rs rg pd du ds me tt gr su gp mk rf m1 m2 m3 m4 m5 mr mf n1 n2 n3 n4 n5 nr nf E)))) rfl))
  have h1 : sX11_person [.ref 0, iv (a), iv (b), iv (v)] (cW ki ln bt rl cp cs ct cv 14 5 ja ea ma a1 a2 a3 a4 a5 a6 a7 a8 jb eb mb b1 b2 b3 b4 b5 b6 b7 b8 re fl g1 g2 g3 g4 g5 (dW rt la rs rg pd du ds me tt gr su gp mk rf m1 m2 m3 m4 m5 mr mf n1 n2 n3 n4 n5 nr nf E)) = some r := h1
  rw [h1, h2]
theorem c_personG1_1 (ha : -2147483648 ≤ a ∧ a ≤ 2147483647) (hb : -2147483648 ≤ b ∧ b ≤ 2147483647) (hv : -2147483648 ≤ v ∧ v ≤ 2147483647) (h5 : ∀ p : Nat, p < 8 → 0 ≤ (g5 p).toInt) (ht : ∀ p : Nat, p < 8 → 0 ≤ (tt p).toInt) (hp : i3 a 0 7 = true) (hB : b = 1) (hV : i3 v 0 (mo b) = true) : sX11_person [.ref 0, iv (a), iv (b), iv (v)] (cW ki ln bt rl cp cs ct cv 14 5 ja ea ma a1 a2 a3 a4 a5 a6 a7 a8 jb eb mb b1 b2 b3 b4 b5 b6 b7 b8 re fl g1 g2 g3 g4 g5 (dW rt la rs rg pd du ds me tt gr su gp mk rf m1 m2 m3 m4 m5 mr mf n1 n2 n3 n4 n5 nr nf E)) = some (some (iv (cVO g5 tt fl a b)), (cW ki ln bt rl cp cs ct cv 14 5 ja ea ma a1 a2 a3 a4 a5 a6 a7 a8 jb eb mb b1 b2 b3 b4 b5 b6 b7 b8 re fl g1 g2 g3 g4 g5 (dW rt la rs rg pd du ds me (upd tt (Int.toNat a) (Int32.ofInt v)) gr su gp mk rf m1 m2 m3 m4 m5 mr mf n1 n2 n3 n4 n5 nr nf E))) := by
  have main : ∀ Q : mm_R → Prop, Q (some (iv (cVO g5 tt fl a b)), (cW ki ln bt rl cp cs ct cv 14 5 ja ea ma a1 a2 a3 a4 a5 a6 a7 a8 jb eb mb b1 b2 b3 b4 b5 b6 b7 b8 re fl g1 g2 g3 g4 g5 (dW rt la rs rg pd du ds me (upd tt (Int.toNat a) (Int32.ofInt v)) gr su gp mk rf m1 m2 m3 m4 m5 mr mf n1 n2 n3 n4 n5 nr nf E))) → rn_X11_person (1000) (0, [(0, .ref 0), (1, iv (a)), (2, iv (b)), (3, iv (v))], [], (cW ki ln bt rl cp cs ct cv 14 5 ja ea ma a1 a2 a3 a4 a5 a6 a7 a8 jb eb mb b1 b2 b3 b4 b5 b6 b7 b8 re fl g1 g2 g3 g4 g5 (dW rt la rs rg pd du ds me tt gr su gp mk rf m1 m2 m3 m4 m5 mr mf n1 n2 n3 n4 n5 nr nf E))) Q := by
    intro Q hQ
    have hm := mo_r b
    have hc : -2147483648 ≤ cVO g5 tt fl a b ∧ cVO g5 tt fl a b ≤ 2147483647 := cVO_r
    refine r_al rfl rfl ?_
    refine r_il rfl rfl ?_
    refine r_il rfl rfl ?_
    refine r_v3s rfl rfl xg_0 rfl (c_valueOf1 ha hb) ?_
    refine r_isw (lv' := [(4, _), (0, _), (1, _), (2, _), (3, _)]) rfl rfl rfl ?_
    refine r_ilw rfl rfl ?_
    refine r_ic rfl ?_
    refine r_ceq rfl rfl hc (by decide) (fun u1 => ?_) (fun u1 => ?_)
    · have := cVO_p (fl := fl) (b := b) h5 ht hp (by rw [hB]; decide)
      omega
    · have rp := i3_t hp
      have rv := i3_t hV
      refine r_il rfl rfl ?_
      refine r_zlt rfl rfl (by omega) (fun u2 => ?_) (fun u2 => ?_)
      · omega
      · refine r_il rfl rfl ?_
        refine r_il rfl rfl ?_
        refine r_s1s rfl rfl rfl (c_mostOf hb) ?_
        refine r_cle rfl rfl hv (by omega) (fun u3 => ?_) (fun u3 => ?_)
        · refine r_il rfl rfl ?_
          refine r_lks (off := 43) rfl hb (by rw [hB]; rfl) rfl ?_
          refine r_al rfl rfl ?_
          refine r_gf rfl rfl xg_0 rfl ?_
          refine r_gf rfl rfl xg_36 rfl ?_
          refine r_il rfl rfl ?_
          refine r_il rfl rfl ?_
          refine r_ias rfl xg_37 (by omega) (by omega) (by decide) xs_37 ?_
          refine r_goto rfl rfl ?_
          refine r_ilw rfl rfl ?_
          exact r_ret rfl rfl hQ
        · omega
  obtain ⟨r, h1, h2⟩ := rn_S (vs := [.ref 0, iv (a), iv (b), iv (v)]) (Q := fun r => r = (some (iv (cVO g5 tt fl a b)), (cW ki ln bt rl cp cs ct cv 14 5 ja ea ma a1 a2 a3 a4 a5 a6 a7 a8 jb eb mb b1 b2 b3 b4 b5 b6 b7 b8 re fl g1 g2 g3 g4 g5 (dW rt la rs rg pd du ds me (upd tt (Int.toNat a) (Int32.ofInt v)) gr su gp mk rf m1 m2 m3 m4 m5 mr mf n1 n2 n3 n4 n5 nr nf E)))) rfl (rn_up (N := 1000) (M := mm_fuel) (by decide) (main (fun r => r = (some (iv (cVO g5 tt fl a b)), (cW ki ln bt rl cp cs ct cv 14 5 ja ea ma a1 a2 a3 a4 a5 a6 a7 a8 jb eb mb b1 b2 b3 b4 b5 b6 b7 b8 re fl g1 g2 g3 g4 g5 (dW rt la rs rg pd du ds me (upd tt (Int.toNat a) (Int32.ofInt v)) gr su gp mk rf m1 m2 m3 m4 m5 mr mf n1 n2 n3 n4 n5 nr nf E)))) rfl))
  have h1 : sX11_person [.ref 0, iv (a), iv (b), iv (v)] (cW ki ln bt rl cp cs ct cv 14 5 ja ea ma a1 a2 a3 a4 a5 a6 a7 a8 jb eb mb b1 b2 b3 b4 b5 b6 b7 b8 re fl g1 g2 g3 g4 g5 (dW rt la rs rg pd du ds me tt gr su gp mk rf m1 m2 m3 m4 m5 mr mf n1 n2 n3 n4 n5 nr nf E)) = some r := h1
  rw [h1, h2]
theorem c_personG1_2 (ha : -2147483648 ≤ a ∧ a ≤ 2147483647) (hb : -2147483648 ≤ b ∧ b ≤ 2147483647) (hv : -2147483648 ≤ v ∧ v ≤ 2147483647) (h5 : ∀ p : Nat, p < 8 → 0 ≤ (g5 p).toInt) (ht : ∀ p : Nat, p < 8 → 0 ≤ (tt p).toInt) (hp : i3 a 0 7 = true) (hB : b = 2) (hV : i3 v 0 (mo b) = true) (h01 : v = 0) : sX11_person [.ref 0, iv (a), iv (b), iv (v)] (cW ki ln bt rl cp cs ct cv 14 5 ja ea ma a1 a2 a3 a4 a5 a6 a7 a8 jb eb mb b1 b2 b3 b4 b5 b6 b7 b8 re fl g1 g2 g3 g4 g5 (dW rt la rs rg pd du ds me tt gr su gp mk rf m1 m2 m3 m4 m5 mr mf n1 n2 n3 n4 n5 nr nf E)) = some (some (iv (cVO g5 tt fl a b)), (cW ki ln bt rl cp cs ct cv 14 5 ja ea ma a1 a2 a3 a4 a5 a6 a7 a8 jb eb mb b1 b2 b3 b4 b5 b6 b7 b8 re (oAnd fl (oXor (oShl 1 a) (-1))) g1 g2 g3 g4 g5 (dW rt la rs rg pd du ds me tt gr su gp mk rf m1 m2 m3 m4 m5 mr mf n1 n2 n3 n4 n5 nr nf E))) := by
  have main : ∀ Q : mm_R → Prop, Q (some (iv (cVO g5 tt fl a b)), (cW ki ln bt rl cp cs ct cv 14 5 ja ea ma a1 a2 a3 a4 a5 a6 a7 a8 jb eb mb b1 b2 b3 b4 b5 b6 b7 b8 re (oAnd fl (oXor (oShl 1 a) (-1))) g1 g2 g3 g4 g5 (dW rt la rs rg pd du ds me tt gr su gp mk rf m1 m2 m3 m4 m5 mr mf n1 n2 n3 n4 n5 nr nf E))) → rn_X11_person (1000) (0, [(0, .ref 0), (1, iv (a)), (2, iv (b)), (3, iv (v))], [], (cW ki ln bt rl cp cs ct cv 14 5 ja ea ma a1 a2 a3 a4 a5 a6 a7 a8 jb eb mb b1 b2 b3 b4 b5 b6 b7 b8 re fl g1 g2 g3 g4 g5 (dW rt la rs rg pd du ds me tt gr su gp mk rf m1 m2 m3 m4 m5 mr mf n1 n2 n3 n4 n5 nr nf E))) Q := by
    intro Q hQ
    have hm := mo_r b
    have hc : -2147483648 ≤ cVO g5 tt fl a b ∧ cVO g5 tt fl a b ≤ 2147483647 := cVO_r
    refine r_al rfl rfl ?_
    refine r_il rfl rfl ?_
    refine r_il rfl rfl ?_
    refine r_v3s rfl rfl xg_0 rfl (c_valueOf1 ha hb) ?_
    refine r_isw (lv' := [(4, _), (0, _), (1, _), (2, _), (3, _)]) rfl rfl rfl ?_
    refine r_ilw rfl rfl ?_
    refine r_ic rfl ?_
    refine r_ceq rfl rfl hc (by decide) (fun u1 => ?_) (fun u1 => ?_)
    · have := cVO_p (fl := fl) (b := b) h5 ht hp (by rw [hB]; decide)
      omega
    · have rp := i3_t hp
      have rv := i3_t hV
      refine r_il rfl rfl ?_
      refine r_zlt rfl rfl (by omega) (fun u2 => ?_) (fun u2 => ?_)
      · omega
      · refine r_il rfl rfl ?_
        refine r_il rfl rfl ?_
        refine r_s1s rfl rfl rfl (c_mostOf hb) ?_
        refine r_cle rfl rfl hv (by omega) (fun u3 => ?_) (fun u3 => ?_)
        · refine r_il rfl rfl ?_
          refine r_lks (off := 56) rfl hb (by rw [hB]; rfl) rfl ?_
          refine r_al rfl rfl ?_
          refine r_gf rfl rfl xg_0 rfl ?_
          refine r_il rfl rfl ?_
          refine r_il rfl rfl ?_
          refine r_ic rfl ?_
          refine r_cne rfl rfl hv (by decide) (fun u4 => ?_) (fun u4 => ?_)
          · refine r_ic rfl ?_
            refine r_v3n rfl rfl xg_4 rfl c_sayF1_0 ?_
            refine r_ilw rfl rfl ?_
            exact r_ret rfl rfl hQ
          · omega
        · omega
  obtain ⟨r, h1, h2⟩ := rn_S (vs := [.ref 0, iv (a), iv (b), iv (v)]) (Q := fun r => r = (some (iv (cVO g5 tt fl a b)), (cW ki ln bt rl cp cs ct cv 14 5 ja ea ma a1 a2 a3 a4 a5 a6 a7 a8 jb eb mb b1 b2 b3 b4 b5 b6 b7 b8 re (oAnd fl (oXor (oShl 1 a) (-1))) g1 g2 g3 g4 g5 (dW rt la rs rg pd du ds me tt gr su gp mk rf m1 m2 m3 m4 m5 mr mf n1 n2 n3 n4 n5 nr nf E)))) rfl (rn_up (N := 1000) (M := mm_fuel) (by decide) (main (fun r => r = (some (iv (cVO g5 tt fl a b)), (cW ki ln bt rl cp cs ct cv 14 5 ja ea ma a1 a2 a3 a4 a5 a6 a7 a8 jb eb mb b1 b2 b3 b4 b5 b6 b7 b8 re (oAnd fl (oXor (oShl 1 a) (-1))) g1 g2 g3 g4 g5 (dW rt la rs rg pd du ds me tt gr su gp mk rf m1 m2 m3 m4 m5 mr mf n1 n2 n3 n4 n5 nr nf E)))) rfl))
  have h1 : sX11_person [.ref 0, iv (a), iv (b), iv (v)] (cW ki ln bt rl cp cs ct cv 14 5 ja ea ma a1 a2 a3 a4 a5 a6 a7 a8 jb eb mb b1 b2 b3 b4 b5 b6 b7 b8 re fl g1 g2 g3 g4 g5 (dW rt la rs rg pd du ds me tt gr su gp mk rf m1 m2 m3 m4 m5 mr mf n1 n2 n3 n4 n5 nr nf E)) = some r := h1
  rw [h1, h2]
theorem c_personG1_3 (ha : -2147483648 ≤ a ∧ a ≤ 2147483647) (hb : -2147483648 ≤ b ∧ b ≤ 2147483647) (hv : -2147483648 ≤ v ∧ v ≤ 2147483647) (h5 : ∀ p : Nat, p < 8 → 0 ≤ (g5 p).toInt) (ht : ∀ p : Nat, p < 8 → 0 ≤ (tt p).toInt) (hp : i3 a 0 7 = true) (hB : b = 2) (hV : i3 v 0 (mo b) = true) (h01 : v = 1) : sX11_person [.ref 0, iv (a), iv (b), iv (v)] (cW ki ln bt rl cp cs ct cv 14 5 ja ea ma a1 a2 a3 a4 a5 a6 a7 a8 jb eb mb b1 b2 b3 b4 b5 b6 b7 b8 re fl g1 g2 g3 g4 g5 (dW rt la rs rg pd du ds me tt gr su gp mk rf m1 m2 m3 m4 m5 mr mf n1 n2 n3 n4 n5 nr nf E)) = some (some (iv (cVO g5 tt fl a b)), (cW ki ln bt rl cp cs ct cv 14 5 ja ea ma a1 a2 a3 a4 a5 a6 a7 a8 jb eb mb b1 b2 b3 b4 b5 b6 b7 b8 re (oOr fl (oShl 1 a)) g1 g2 g3 g4 g5 (dW rt la rs rg pd du ds me tt gr su gp mk rf m1 m2 m3 m4 m5 mr mf n1 n2 n3 n4 n5 nr nf E))) := by
  have main : ∀ Q : mm_R → Prop, Q (some (iv (cVO g5 tt fl a b)), (cW ki ln bt rl cp cs ct cv 14 5 ja ea ma a1 a2 a3 a4 a5 a6 a7 a8 jb eb mb b1 b2 b3 b4 b5 b6 b7 b8 re (oOr fl (oShl 1 a)) g1 g2 g3 g4 g5 (dW rt la rs rg pd du ds me tt gr su gp mk rf m1 m2 m3 m4 m5 mr mf n1 n2 n3 n4 n5 nr nf E))) → rn_X11_person (1000) (0, [(0, .ref 0), (1, iv (a)), (2, iv (b)), (3, iv (v))], [], (cW ki ln bt rl cp cs ct cv 14 5 ja ea ma a1 a2 a3 a4 a5 a6 a7 a8 jb eb mb b1 b2 b3 b4 b5 b6 b7 b8 re fl g1 g2 g3 g4 g5 (dW rt la rs rg pd du ds me tt gr su gp mk rf m1 m2 m3 m4 m5 mr mf n1 n2 n3 n4 n5 nr nf E))) Q := by
    intro Q hQ
    have hm := mo_r b
    have hc : -2147483648 ≤ cVO g5 tt fl a b ∧ cVO g5 tt fl a b ≤ 2147483647 := cVO_r
    refine r_al rfl rfl ?_
    refine r_il rfl rfl ?_
    refine r_il rfl rfl ?_
    refine r_v3s rfl rfl xg_0 rfl (c_valueOf1 ha hb) ?_
    refine r_isw (lv' := [(4, _), (0, _), (1, _), (2, _), (3, _)]) rfl rfl rfl ?_
    refine r_ilw rfl rfl ?_
    refine r_ic rfl ?_
    refine r_ceq rfl rfl hc (by decide) (fun u1 => ?_) (fun u1 => ?_)
    · have := cVO_p (fl := fl) (b := b) h5 ht hp (by rw [hB]; decide)
      omega
    · have rp := i3_t hp
      have rv := i3_t hV
      refine r_il rfl rfl ?_
      refine r_zlt rfl rfl (by omega) (fun u2 => ?_) (fun u2 => ?_)
      · omega
      · refine r_il rfl rfl ?_
        refine r_il rfl rfl ?_
        refine r_s1s rfl rfl rfl (c_mostOf hb) ?_
        refine r_cle rfl rfl hv (by omega) (fun u3 => ?_) (fun u3 => ?_)
        · refine r_il rfl rfl ?_
          refine r_lks (off := 56) rfl hb (by rw [hB]; rfl) rfl ?_
          refine r_al rfl rfl ?_
          refine r_gf rfl rfl xg_0 rfl ?_
          refine r_il rfl rfl ?_
          refine r_il rfl rfl ?_
          refine r_ic rfl ?_
          refine r_cne rfl rfl hv (by decide) (fun u4 => ?_) (fun u4 => ?_)
          · exact absurd h01 u4
          · refine r_ic rfl ?_
            refine r_goto rfl rfl ?_
            refine r_v3n rfl rfl xg_4 rfl c_sayF1_1 ?_
            refine r_ilw rfl rfl ?_
            exact r_ret rfl rfl hQ
        · omega
  obtain ⟨r, h1, h2⟩ := rn_S (vs := [.ref 0, iv (a), iv (b), iv (v)]) (Q := fun r => r = (some (iv (cVO g5 tt fl a b)), (cW ki ln bt rl cp cs ct cv 14 5 ja ea ma a1 a2 a3 a4 a5 a6 a7 a8 jb eb mb b1 b2 b3 b4 b5 b6 b7 b8 re (oOr fl (oShl 1 a)) g1 g2 g3 g4 g5 (dW rt la rs rg pd du ds me tt gr su gp mk rf m1 m2 m3 m4 m5 mr mf n1 n2 n3 n4 n5 nr nf E)))) rfl (rn_up (N := 1000) (M := mm_fuel) (by decide) (main (fun r => r = (some (iv (cVO g5 tt fl a b)), (cW ki ln bt rl cp cs ct cv 14 5 ja ea ma a1 a2 a3 a4 a5 a6 a7 a8 jb eb mb b1 b2 b3 b4 b5 b6 b7 b8 re (oOr fl (oShl 1 a)) g1 g2 g3 g4 g5 (dW rt la rs rg pd du ds me tt gr su gp mk rf m1 m2 m3 m4 m5 mr mf n1 n2 n3 n4 n5 nr nf E)))) rfl))
  have h1 : sX11_person [.ref 0, iv (a), iv (b), iv (v)] (cW ki ln bt rl cp cs ct cv 14 5 ja ea ma a1 a2 a3 a4 a5 a6 a7 a8 jb eb mb b1 b2 b3 b4 b5 b6 b7 b8 re fl g1 g2 g3 g4 g5 (dW rt la rs rg pd du ds me tt gr su gp mk rf m1 m2 m3 m4 m5 mr mf n1 n2 n3 n4 n5 nr nf E)) = some r := h1
  rw [h1, h2]
end PE
