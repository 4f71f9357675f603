/-! ===== price: marks and trace grow alike ===== -/
section PC
variable {ki : Int} {ln : Int} {bt : Nat → Int32} {rl : Value} {cp : Int} {cs : Int} {ct : Int} {cv : Int} {rr : Nat} {dr : Nat} {ja : Int} {ea : Int} {ma : Int} {a1 : Nat → Int32} {a2 : Nat → Int32} {a3 : Nat → Int32} {a4 : Nat → Int32} {a5 : Nat → Int32} {a6 : Nat → Int32} {a7 : Nat → Int32} {a8 : Nat → Int32} {jb : Int} {eb : Int} {mb : Int} {b1 : Nat → Int32} {b2 : Nat → Int32} {b3 : Nat → Int32} {b4 : Nat → Int32} {b5 : Nat → Int32} {b6 : Nat → Int32} {b7 : Nat → Int32} {b8 : Nat → Int32} {re : Int} {fl : Int} {g1 : Nat → Int32} {g2 : Nat → Int32} {g3 : Nat → Int32} {g4 : Nat → Int32} {g5 : Nat → Int32} {rt : Int} {la : Int} {rs : Int} {rg : Int} {pd : Nat → Int32} {du : Nat → Int32} {ds : Nat → Int32} {me : Nat → Int32} {tt : Nat → Int32} {gr : Nat → Int32} {su : Nat → Int32} {gp : Nat → Int32} {mk : Int64} {rf : Nat → Option Nat} {m1 : Nat → Int32} {m2 : Nat → Int32} {m3 : Nat → Int32} {m4 : Nat → Int32} {m5 : Nat → Int32} {mr : Int} {mf : Int} {n1 : Nat → Int32} {n2 : Nat → Int32} {n3 : Nat → Int32} {n4 : Nat → Int32} {n5 : Nat → Int32} {nr : Int} {nf : Int} {E : List va_E} {a b i k : Int} {mw : List va_E} {Q : mm_R → Prop} {N : Nat}
theorem xout (hE : E.length = 11) {k : Nat} (hk : 67 ≤ k) : (cW ki ln bt rl cp cs ct cv rr dr ja ea ma a1 a2 a3 a4 a5 a6 a7 a8 jb eb mb b1 b2 b3 b4 b5 b6 b7 b8 re fl g1 g2 g3 g4 g5 (dW rt la rs rg pd du ds me tt gr su gp mk rf m1 m2 m3 m4 m5 mr mf n1 n2 n3 n4 n5 nr nf E))[k]? = none := List.getElem?_eq_none (by show E.length + 56 ≤ k; omega)
abbrev rn_X4_isKind (N : Nat) (c : mm_C) (Q : mm_R → Prop) : Prop := rn (mm_gf gLX4) (mm_pf pLX4) (mm_mv vX4_isKind) (mm_mv zX4_isKind) (mm_kc kLX4) gsX4 mm_rf0 mm_ro (some .boolean) 1 (mm_ins iX4_isKind) N c Q
theorem c_isKind (ha : -2147483648 ≤ a ∧ a ≤ 2147483647) : sX4_isKind [iv (a)] mw = some (some (iv (bi (i3 a 0 6))), mw) := by
  have main : ∀ Q : mm_R → Prop, Q (some (iv (bi (i3 a 0 6))), mw) → rn_X4_isKind (1000) (0, [(0, iv (a))], [], mw) Q := by
    intro Q hQ
    refine r_il rfl rfl ?_
    refine r_zlt rfl rfl (by omega) (fun u1 => ?_) (fun u1 => ?_)
    · have e : i3 a 0 6 = false := by simp [i3]; omega
      rw [e] at hQ
      refine r_ic rfl ?_
      exact r_retb rfl rfl (by omega) hQ
    · refine r_il rfl rfl ?_
      refine r_bi rfl (by decide) ?_
      refine r_cge rfl rfl (by omega) (by omega) (fun u2 => ?_) (fun u2 => ?_)
      · have e : i3 a 0 6 = false := by simp [i3]; omega
        rw [e] at hQ
        refine r_ic rfl ?_
        exact r_retb rfl rfl (by omega) hQ
      · have e : i3 a 0 6 = true := by simp [i3]; omega
        rw [e] at hQ
        refine r_ic rfl ?_
        refine r_goto rfl rfl ?_
        exact r_retb rfl rfl (by omega) hQ
  obtain ⟨r, h1, h2⟩ := rn_S (vs := [iv (a)]) (Q := fun r => r = (some (iv (bi (i3 a 0 6))), mw)) rfl (rn_up (N := 1000) (M := mm_fuel) (by decide) (main (fun r => r = (some (iv (bi (i3 a 0 6))), mw)) rfl))
  have h1 : sX4_isKind [iv (a)] mw = some r := h1
  rw [h1, h2]
theorem xor_r (a b : Int) : -2147483648 ≤ oXor a b ∧ oXor a b ≤ 2147483647 := ⟨as_lo _, as_hi _⟩
abbrev rn_J9_floorDiv_7cf53 (N : Nat) (c : mm_C) (Q : mm_R → Prop) : Prop := rn (mm_gf gLJ9) (mm_pf pLJ9) (mm_mv vJ9_floorDiv_7cf53) (mm_mv zJ9_floorDiv_7cf53) (mm_kc kLJ9) mm_gs0 mm_rf0 mm_ro (some .int) 3 (mm_ins iJ9_floorDiv_7cf53) N c Q
theorem c_floorDiv2  : ∃ z : Int, sJ9_floorDiv_7cf53 [iv (a), iv (2)] mw = some (some (iv z), mw) := by
  have main : ∀ Q : mm_R → Prop, (∀ z : Int, Q (some (iv z), mw)) → rn_J9_floorDiv_7cf53 (300) (0, [(0, iv (a)), (1, iv (2))], [], mw) Q := by
    intro Q hQ
    rw [iv_nrm a]
    refine r_il rfl rfl ?_
    refine r_il rfl rfl ?_
    refine r_odiv rfl (by decide) ?_
    refine r_is (lv' := [(2, _), (0, _), (1, _)]) rfl rfl rfl ?_
    refine r_il rfl rfl ?_
    refine r_il rfl rfl ?_
    refine r_xor rfl ?_
    refine r_zge rfl rfl (xor_r _ _) (fun u1 => ?_) (fun u1 => ?_)
    · refine r_il rfl rfl ?_
      exact r_ret rfl rfl (hQ _)
    · refine r_il rfl rfl ?_
      refine r_il rfl rfl ?_
      refine r_mul rfl ?_
      refine r_nrm ?_
      refine r_il rfl rfl ?_
      refine r_ceq rfl rfl (nrm_r _) (nrm_r _) (fun u2 => ?_) (fun u2 => ?_)
      · refine r_il rfl rfl ?_
        exact r_ret rfl rfl (hQ _)
      · refine r_il rfl rfl ?_
        refine r_ic rfl ?_
        refine r_sub rfl ?_
        exact r_ret rfl rfl (hQ _)
  obtain ⟨r, h1, z, h2⟩ := rn_S (vs := [iv (a), iv (2)]) (Q := fun r => ∃ z : Int, r = (some (iv z), mw)) rfl (rn_up (N := 300) (M := mm_fuel) (by decide) (main (fun r => ∃ z : Int, r = (some (iv z), mw)) (fun z => ⟨z, rfl⟩)))
  have h1 : sJ9_floorDiv_7cf53 [iv (a), iv (2)] mw = some r := h1
  exact ⟨z, by rw [h1, h2]⟩
theorem c_floorDiv3  : ∃ z : Int, sJ9_floorDiv_7cf53 [iv (a), iv (3)] mw = some (some (iv z), mw) := by
  have main : ∀ Q : mm_R → Prop, (∀ z : Int, Q (some (iv z), mw)) → rn_J9_floorDiv_7cf53 (300) (0, [(0, iv (a)), (1, iv (3))], [], mw) Q := by
    intro Q hQ
    rw [iv_nrm a]
    refine r_il rfl rfl ?_
    refine r_il rfl rfl ?_
    refine r_odiv rfl (by decide) ?_
    refine r_is (lv' := [(2, _), (0, _), (1, _)]) rfl rfl rfl ?_
    refine r_il rfl rfl ?_
    refine r_il rfl rfl ?_
    refine r_xor rfl ?_
    refine r_zge rfl rfl (xor_r _ _) (fun u1 => ?_) (fun u1 => ?_)
    · refine r_il rfl rfl ?_
      exact r_ret rfl rfl (hQ _)
    · refine r_il rfl rfl ?_
      refine r_il rfl rfl ?_
      refine r_mul rfl ?_
      refine r_nrm ?_
      refine r_il rfl rfl ?_
      refine r_ceq rfl rfl (nrm_r _) (nrm_r _) (fun u2 => ?_) (fun u2 => ?_)
      · refine r_il rfl rfl ?_
        exact r_ret rfl rfl (hQ _)
      · refine r_il rfl rfl ?_
        refine r_ic rfl ?_
        refine r_sub rfl ?_
        exact r_ret rfl rfl (hQ _)
  obtain ⟨r, h1, z, h2⟩ := rn_S (vs := [iv (a), iv (3)]) (Q := fun r => ∃ z : Int, r = (some (iv z), mw)) rfl (rn_up (N := 300) (M := mm_fuel) (by decide) (main (fun r => ∃ z : Int, r = (some (iv z), mw)) (fun z => ⟨z, rfl⟩)))
  have h1 : sJ9_floorDiv_7cf53 [iv (a), iv (3)] mw = some r := h1
  exact ⟨z, by rw [h1, h2]⟩
abbrev rn_J9_max_7cf53 (N : Nat) (c : mm_C) (Q : mm_R → Prop) : Prop := rn (mm_gf gLJ9) (mm_pf pLJ9) (mm_mv vJ9_max_7cf53) (mm_mv zJ9_max_7cf53) (mm_kc kLJ9) mm_gs0 mm_rf0 mm_ro (some .int) 2 (mm_ins iJ9_max_7cf53) N c Q
theorem c_maxE  : ∃ z : Int, sJ9_max_7cf53 [iv (a), iv (b)] mw = some (some (iv z), mw) := by
  have main : ∀ Q : mm_R → Prop, (∀ z : Int, Q (some (iv z), mw)) → rn_J9_max_7cf53 (300) (0, [(0, iv (a)), (1, iv (b))], [], mw) Q := by
    intro Q hQ
    rw [iv_nrm a, iv_nrm b]
    refine r_il rfl rfl ?_
    refine r_il rfl rfl ?_
    refine r_clt rfl rfl (nrm_r _) (nrm_r _) (fun u1 => ?_) (fun u1 => ?_)
    · refine r_il rfl rfl ?_
      exact r_ret rfl rfl (hQ _)
    · refine r_il rfl rfl ?_
      refine r_goto rfl rfl ?_
      exact r_ret rfl rfl (hQ _)
  obtain ⟨r, h1, z, h2⟩ := rn_S (vs := [iv (a), iv (b)]) (Q := fun r => ∃ z : Int, r = (some (iv z), mw)) rfl (rn_up (N := 300) (M := mm_fuel) (by decide) (main (fun r => ∃ z : Int, r = (some (iv z), mw)) (fun z => ⟨z, rfl⟩)))
  have h1 : sJ9_max_7cf53 [iv (a), iv (b)] mw = some r := h1
  exact ⟨z, by rw [h1, h2]⟩
abbrev rn_X4_askBody_3 (N : Nat) (c : mm_C) (Q : mm_R → Prop) : Prop := rn (mm_gf gLX4) (mm_pf pLX4) (mm_mv vX4_askBody_3) (mm_mv zX4_askBody_3) (mm_kc kLX4) gsX4 mm_rf0 mm_ro (some .int) 5 (mm_ins iX4_askBody) N c Q
theorem c_body0_3_n (hE : E.length = 11) (hi : 0 ≤ i ∧ i ≤ 15) (hAs : ARs a4 a5 a6 a7) : ∃ z : Int, sX4_askBody_3 [.ref 42, iv ((-1)), iv (i), iv (3)] (cW ki ln bt rl cp cs ct cv 5 14 ja ea ma a1 a2 a3 a4 a5 a6 a7 a8 jb eb mb b1 b2 b3 b4 b5 b6 b7 b8 re fl g1 g2 g3 g4 g5 (dW rt la rs rg pd du ds me tt gr su gp mk rf m1 m2 m3 m4 m5 mr mf n1 n2 n3 n4 n5 nr nf E)) = some (some (iv z), (cW ki ln bt rl cp cs ct cv 5 14 ja ea ma a1 a2 a3 a4 a5 a6 a7 a8 jb eb mb b1 b2 b3 b4 b5 b6 b7 b8 re fl g1 g2 g3 g4 g5 (dW rt la rs rg pd du ds me tt gr su gp mk rf m1 m2 m3 m4 m5 mr mf n1 n2 n3 n4 n5 nr nf E))) := by
  have main : ∀ Q : mm_R → Prop, (∀ z : Int, Q (some (iv z), (cW ki ln bt rl cp cs ct cv 5 14 ja ea ma a1 a2 a3 a4 a5 a6 a7 a8 jb eb mb b1 b2 b3 b4 b5 b6 b7 b8 re fl g1 g2 g3 g4 g5 (dW rt la rs rg pd du ds me tt gr su gp mk rf m1 m2 m3 m4 m5 mr mf n1 n2 n3 n4 n5 nr nf E)))) → rn_X4_askBody_3 300 (0, [(0, .ref 42), (1, iv ((-1))), (2, iv (i)), (3, iv (3))], [], (cW ki ln bt rl cp cs ct cv 5 14 ja ea ma a1 a2 a3 a4 a5 a6 a7 a8 jb eb mb b1 b2 b3 b4 b5 b6 b7 b8 re fl g1 g2 g3 g4 g5 (dW rt la rs rg pd du ds me tt gr su gp mk rf m1 m2 m3 m4 m5 mr mf n1 n2 n3 n4 n5 nr nf E))) Q := by
    intro Q hQ
    refine r_il rfl rfl ?_
    refine r_s1s rfl rfl rfl (c_isKind (by decide)) ?_
    refine r_zeq rfl rfl (bi_r _) (fun u1 => ?_) (fun u1 => ?_)
    · refine r_ic rfl ?_
      exact r_ret rfl rfl (hQ _)
    · exact absurd rfl u1
  obtain ⟨r, h1, z, h2⟩ := rn_S (vs := [.ref 42, iv ((-1)), iv (i), iv (3)]) (Q := fun r => ∃ z : Int, r = (some (iv z), (cW ki ln bt rl cp cs ct cv 5 14 ja ea ma a1 a2 a3 a4 a5 a6 a7 a8 jb eb mb b1 b2 b3 b4 b5 b6 b7 b8 re fl g1 g2 g3 g4 g5 (dW rt la rs rg pd du ds me tt gr su gp mk rf m1 m2 m3 m4 m5 mr mf n1 n2 n3 n4 n5 nr nf E)))) rfl (rn_up (N := 300) (M := mm_fuel) (by decide) (main (fun r => ∃ z : Int, r = (some (iv z), (cW ki ln bt rl cp cs ct cv 5 14 ja ea ma a1 a2 a3 a4 a5 a6 a7 a8 jb eb mb b1 b2 b3 b4 b5 b6 b7 b8 re fl g1 g2 g3 g4 g5 (dW rt la rs rg pd du ds me tt gr su gp mk rf m1 m2 m3 m4 m5 mr mf n1 n2 n3 n4 n5 nr nf E)))) (fun z => ⟨z, rfl⟩)))
  have h1 : sX4_askBody_3 [.ref 42, iv ((-1)), iv (i), iv (3)] (cW ki ln bt rl cp cs ct cv 5 14 ja ea ma a1 a2 a3 a4 a5 a6 a7 a8 jb eb mb b1 b2 b3 b4 b5 b6 b7 b8 re fl g1 g2 g3 g4 g5 (dW rt la rs rg pd du ds me tt gr su gp mk rf m1 m2 m3 m4 m5 mr mf n1 n2 n3 n4 n5 nr nf E)) = some r := h1
  exact ⟨z, by rw [h1, h2]⟩
abbrev rn_X4_askBody_2 (N : Nat) (c : mm_C) (Q : mm_R → Prop) : Prop := rn (mm_gf gLX4) (mm_pf pLX4) (mm_mv vX4_askBody_2) (mm_mv zX4_askBody_2) (mm_kc kLX4) gsX4 mm_rf0 mm_ro (some .int) 5 (mm_ins iX4_askBody) N c Q
theorem c_body0_2_n (hE : E.length = 11) (hi : 0 ≤ i ∧ i ≤ 15) (hAs : ARs a4 a5 a6 a7) : ∃ z : Int, sX4_askBody_2 [.ref 42, iv ((-1)), iv (i), iv (2)] (cW ki ln bt rl cp cs ct cv 5 14 ja ea ma a1 a2 a3 a4 a5 a6 a7 a8 jb eb mb b1 b2 b3 b4 b5 b6 b7 b8 re fl g1 g2 g3 g4 g5 (dW rt la rs rg pd du ds me tt gr su gp mk rf m1 m2 m3 m4 m5 mr mf n1 n2 n3 n4 n5 nr nf E)) = some (some (iv z), (cW ki ln bt rl cp cs ct cv 5 14 ja ea ma a1 a2 a3 a4 a5 a6 a7 a8 jb eb mb b1 b2 b3 b4 b5 b6 b7 b8 re fl g1 g2 g3 g4 g5 (dW rt la rs rg pd du ds me tt gr su gp mk rf m1 m2 m3 m4 m5 mr mf n1 n2 n3 n4 n5 nr nf E))) := by
  have main : ∀ Q : mm_R → Prop, (∀ z : Int, Q (some (iv z), (cW ki ln bt rl cp cs ct cv 5 14 ja ea ma a1 a2 a3 a4 a5 a6 a7 a8 jb eb mb b1 b2 b3 b4 b5 b6 b7 b8 re fl g1 g2 g3 g4 g5 (dW rt la rs rg pd du ds me tt gr su gp mk rf m1 m2 m3 m4 m5 mr mf n1 n2 n3 n4 n5 nr nf E)))) → rn_X4_askBody_2 300 (0, [(0, .ref 42), (1, iv ((-1))), (2, iv (i)), (3, iv (2))], [], (cW ki ln bt rl cp cs ct cv 5 14 ja ea ma a1 a2 a3 a4 a5 a6 a7 a8 jb eb mb b1 b2 b3 b4 b5 b6 b7 b8 re fl g1 g2 g3 g4 g5 (dW rt la rs rg pd du ds me tt gr su gp mk rf m1 m2 m3 m4 m5 mr mf n1 n2 n3 n4 n5 nr nf E))) Q := by
    intro Q hQ
    refine r_il rfl rfl ?_
    refine r_s1s rfl rfl rfl (c_isKind (by decide)) ?_
    refine r_zeq rfl rfl (bi_r _) (fun u1 => ?_) (fun u1 => ?_)
    · refine r_ic rfl ?_
      exact r_ret rfl rfl (hQ _)
    · exact absurd rfl u1
  obtain ⟨r, h1, z, h2⟩ := rn_S (vs := [.ref 42, iv ((-1)), iv (i), iv (2)]) (Q := fun r => ∃ z : Int, r = (some (iv z), (cW ki ln bt rl cp cs ct cv 5 14 ja ea ma a1 a2 a3 a4 a5 a6 a7 a8 jb eb mb b1 b2 b3 b4 b5 b6 b7 b8 re fl g1 g2 g3 g4 g5 (dW rt la rs rg pd du ds me tt gr su gp mk rf m1 m2 m3 m4 m5 mr mf n1 n2 n3 n4 n5 nr nf E)))) rfl (rn_up (N := 300) (M := mm_fuel) (by decide) (main (fun r => ∃ z : Int, r = (some (iv z), (cW ki ln bt rl cp cs ct cv 5 14 ja ea ma a1 a2 a3 a4 a5 a6 a7 a8 jb eb mb b1 b2 b3 b4 b5 b6 b7 b8 re fl g1 g2 g3 g4 g5 (dW rt la rs rg pd du ds me tt gr su gp mk rf m1 m2 m3 m4 m5 mr mf n1 n2 n3 n4 n5 nr nf E)))) (fun z => ⟨z, rfl⟩)))
  have h1 : sX4_askBody_2 [.ref 42, iv ((-1)), iv (i), iv (2)] (cW ki ln bt rl cp cs ct cv 5 14 ja ea ma a1 a2 a3 a4 a5 a6 a7 a8 jb eb mb b1 b2 b3 b4 b5 b6 b7 b8 re fl g1 g2 g3 g4 g5 (dW rt la rs rg pd du ds me tt gr su gp mk rf m1 m2 m3 m4 m5 mr mf n1 n2 n3 n4 n5 nr nf E)) = some r := h1
  exact ⟨z, by rw [h1, h2]⟩
theorem c_body0_2_0 (hE : E.length = 11) (hi : 0 ≤ i ∧ i ≤ 15) (hAs : ARs a4 a5 a6 a7) : ∃ z : Int, sX4_askBody_2 [.ref 42, iv (0), iv (i), iv (2)] (cW ki ln bt rl cp cs ct cv 5 14 ja ea ma a1 a2 a3 a4 a5 a6 a7 a8 jb eb mb b1 b2 b3 b4 b5 b6 b7 b8 re fl g1 g2 g3 g4 g5 (dW rt la rs rg pd du ds me tt gr su gp mk rf m1 m2 m3 m4 m5 mr mf n1 n2 n3 n4 n5 nr nf E)) = some (some (iv z), (cW ki ln bt rl cp cs ct cv 5 14 ja ea ma a1 a2 a3 a4 a5 a6 a7 a8 jb eb mb b1 b2 b3 b4 b5 b6 b7 b8 re fl g1 g2 g3 g4 g5 (dW rt la rs rg pd du ds me tt gr su gp (mk + (Int32.ofInt (mm_mrk (Int.toNat 0)).toInt).toInt64) rf m1 m2 m3 m4 m5 mr mf n1 n2 n3 n4 n5 nr nf E))) := by
  have main : ∀ Q : mm_R → Prop, (∀ z : Int, Q (some (iv z), (cW ki ln bt rl cp cs ct cv 5 14 ja ea ma a1 a2 a3 a4 a5 a6 a7 a8 jb eb mb b1 b2 b3 b4 b5 b6 b7 b8 re fl g1 g2 g3 g4 g5 (dW rt la rs rg pd du ds me tt gr su gp (mk + (Int32.ofInt (mm_mrk (Int.toNat 0)).toInt).toInt64) rf m1 m2 m3 m4 m5 mr mf n1 n2 n3 n4 n5 nr nf E)))) → rn_X4_askBody_2 300 (0, [(0, .ref 42), (1, iv (0)), (2, iv (i)), (3, iv (2))], [], (cW ki ln bt rl cp cs ct cv 5 14 ja ea ma a1 a2 a3 a4 a5 a6 a7 a8 jb eb mb b1 b2 b3 b4 b5 b6 b7 b8 re fl g1 g2 g3 g4 g5 (dW rt la rs rg pd du ds me tt gr su gp mk rf m1 m2 m3 m4 m5 mr mf n1 n2 n3 n4 n5 nr nf E))) Q := by
    intro Q hQ
    refine r_il rfl rfl ?_
    refine r_s1s rfl rfl rfl (c_isKind (by decide)) ?_
    refine r_zeq rfl rfl (bi_r _) (fun u1 => ?_) (fun u1 => ?_)
    · exact absurd u1 (by decide)
    · refine r_il rfl rfl ?_
      refine r_ic rfl ?_
      refine r_cle rfl rfl (by decide) (by decide) (fun u2 => ?_) (fun u2 => ?_)
      · refine r_al rfl rfl ?_
        refine r_dup rfl rfl ?_
        refine r_gf rfl rfl xg_42 rfl ?_
        refine r_gs rfl rfl ?_
        refine r_il rfl rfl ?_
        refine r_iao rfl (xout hE (by decide)) rfl (by decide) (by decide) (by decide) ?_
        refine r_i2l rfl ?_
        refine r_ladd rfl ?_
        refine r_pfl rfl rfl xg_42 rfl xp_mk ?_
        refine r_al rfl rfl ?_
        refine r_gs rfl rfl ?_
        refine r_il rfl rfl ?_
        refine r_iao rfl (xout hE (by decide)) rfl (by decide) (by decide) (by decide) ?_
        obtain ⟨y, hy⟩ := c_body0_3_n (mk := (mk + (Int32.ofInt (mm_mrk (Int.toNat 0)).toInt).toInt64)) (E := E) (i := i) (ki := ki) (ln := ln) (bt := bt) (rl := rl) (cp := cp) (cs := cs) (ct := ct) (cv := cv) (ja := ja) (ea := ea) (ma := ma) (a1 := a1) (a2 := a2) (a3 := a3) (a4 := a4) (a5 := a5) (a6 := a6) (a7 := a7) (a8 := a8) (jb := jb) (eb := eb) (mb := mb) (b1 := b1) (b2 := b2) (b3 := b3) (b4 := b4) (b5 := b5) (b6 := b6) (b7 := b7) (b8 := b8) (re := re) (fl := fl) (g1 := g1) (g2 := g2) (g3 := g3) (g4 := g4) (g5 := g5) (rt := rt) (la := la) (rs := rs) (rg := rg) (pd := pd) (du := du) (ds := ds) (me := me) (tt := tt) (gr := gr) (su := su) (gp := gp) (rf := rf) (m1 := m1) (m2 := m2) (m3 := m3) (m4 := m4) (m5 := m5) (mr := mr) (mf := mf) (n1 := n1) (n2 := n2) (n3 := n3) (n4 := n4) (n5 := n5) (nr := nr) (nf := nf) hE hi hAs
        refine r_il rfl rfl ?_
        refine r_il rfl rfl ?_
        refine r_ic rfl ?_
        refine r_add rfl ?_
        refine r_v4s rfl rfl xg_42 rfl hy ?_
        refine r_isw (lv' := [(4, _), (0, _), (1, _), (2, _), (3, _)]) rfl rfl rfl ?_
        refine r_il rfl rfl ?_
        refine r_ts (off := 39) rfl (by decide) rfl rfl ?_
        refine r_al rfl rfl ?_
        refine r_gf rfl rfl xg_42 rfl ?_
        refine r_il rfl rfl ?_
        refine r_v2s rfl rfl xg_4 rfl (c_leftC0 hi) ?_
        exact r_ret rfl rfl (hQ _)
      · exact absurd u2 (by decide)
  obtain ⟨r, h1, z, h2⟩ := rn_S (vs := [.ref 42, iv (0), iv (i), iv (2)]) (Q := fun r => ∃ z : Int, r = (some (iv z), (cW ki ln bt rl cp cs ct cv 5 14 ja ea ma a1 a2 a3 a4 a5 a6 a7 a8 jb eb mb b1 b2 b3 b4 b5 b6 b7 b8 re fl g1 g2 g3 g4 g5 (dW rt la rs rg pd du ds me tt gr su gp (mk + (Int32.ofInt (mm_mrk (Int.toNat 0)).toInt).toInt64) rf m1 m2 m3 m4 m5 mr mf n1 n2 n3 n4 n5 nr nf E)))) rfl (rn_up (N := 300) (M := mm_fuel) (by decide) (main (fun r => ∃ z : Int, r = (some (iv z), (cW ki ln bt rl cp cs ct cv 5 14 ja ea ma a1 a2 a3 a4 a5 a6 a7 a8 jb eb mb b1 b2 b3 b4 b5 b6 b7 b8 re fl g1 g2 g3 g4 g5 (dW rt la rs rg pd du ds me tt gr su gp (mk + (Int32.ofInt (mm_mrk (Int.toNat 0)).toInt).toInt64) rf m1 m2 m3 m4 m5 mr mf n1 n2 n3 n4 n5 nr nf E)))) (fun z => ⟨z, rfl⟩)))
  have h1 : sX4_askBody_2 [.ref 42, iv (0), iv (i), iv (2)] (cW ki ln bt rl cp cs ct cv 5 14 ja ea ma a1 a2 a3 a4 a5 a6 a7 a8 jb eb mb b1 b2 b3 b4 b5 b6 b7 b8 re fl g1 g2 g3 g4 g5 (dW rt la rs rg pd du ds me tt gr su gp mk rf m1 m2 m3 m4 m5 mr mf n1 n2 n3 n4 n5 nr nf E)) = some r := h1
  exact ⟨z, by rw [h1, h2]⟩
abbrev rn_X4_askBody_1 (N : Nat) (c : mm_C) (Q : mm_R → Prop) : Prop := rn (mm_gf gLX4) (mm_pf pLX4) (mm_mv vX4_askBody_1) (mm_mv zX4_askBody_1) (mm_kc kLX4) gsX4 mm_rf0 mm_ro (some .int) 5 (mm_ins iX4_askBody) N c Q
theorem c_body0_1_n (hE : E.length = 11) (hi : 0 ≤ i ∧ i ≤ 15) (hAs : ARs a4 a5 a6 a7) : ∃ z : Int, sX4_askBody_1 [.ref 42, iv ((-1)), iv (i), iv (1)] (cW ki ln bt rl cp cs ct cv 5 14 ja ea ma a1 a2 a3 a4 a5 a6 a7 a8 jb eb mb b1 b2 b3 b4 b5 b6 b7 b8 re fl g1 g2 g3 g4 g5 (dW rt la rs rg pd du ds me tt gr su gp mk rf m1 m2 m3 m4 m5 mr mf n1 n2 n3 n4 n5 nr nf E)) = some (some (iv z), (cW ki ln bt rl cp cs ct cv 5 14 ja ea ma a1 a2 a3 a4 a5 a6 a7 a8 jb eb mb b1 b2 b3 b4 b5 b6 b7 b8 re fl g1 g2 g3 g4 g5 (dW rt la rs rg pd du ds me tt gr su gp mk rf m1 m2 m3 m4 m5 mr mf n1 n2 n3 n4 n5 nr nf E))) := by
  have main : ∀ Q : mm_R → Prop, (∀ z : Int, Q (some (iv z), (cW ki ln bt rl cp cs ct cv 5 14 ja ea ma a1 a2 a3 a4 a5 a6 a7 a8 jb eb mb b1 b2 b3 b4 b5 b6 b7 b8 re fl g1 g2 g3 g4 g5 (dW rt la rs rg pd du ds me tt gr su gp mk rf m1 m2 m3 m4 m5 mr mf n1 n2 n3 n4 n5 nr nf E)))) → rn_X4_askBody_1 300 (0, [(0, .ref 42), (1, iv ((-1))), (2, iv (i)), (3, iv (1))], [], (cW ki ln bt rl cp cs ct cv 5 14 ja ea ma a1 a2 a3 a4 a5 a6 a7 a8 jb eb mb b1 b2 b3 b4 b5 b6 b7 b8 re fl g1 g2 g3 g4 g5 (dW rt la rs rg pd du ds me tt gr su gp mk rf m1 m2 m3 m4 m5 mr mf n1 n2 n3 n4 n5 nr nf E))) Q := by
    intro Q hQ
    refine r_il rfl rfl ?_
    refine r_s1s rfl rfl rfl (c_isKind (by decide)) ?_
    refine r_zeq rfl rfl (bi_r _) (fun u1 => ?_) (fun u1 => ?_)
    · refine r_ic rfl ?_
      exact r_ret rfl rfl (hQ _)
    · exact absurd rfl u1
  obtain ⟨r, h1, z, h2⟩ := rn_S (vs := [.ref 42, iv ((-1)), iv (i), iv (1)]) (Q := fun r => ∃ z : Int, r = (some (iv z), (cW ki ln bt rl cp cs ct cv 5 14 ja ea ma a1 a2 a3 a4 a5 a6 a7 a8 jb eb mb b1 b2 b3 b4 b5 b6 b7 b8 re fl g1 g2 g3 g4 g5 (dW rt la rs rg pd du ds me tt gr su gp mk rf m1 m2 m3 m4 m5 mr mf n1 n2 n3 n4 n5 nr nf E)))) rfl (rn_up (N := 300) (M := mm_fuel) (by decide) (main (fun r => ∃ z : Int, r = (some (iv z), (cW ki ln bt rl cp cs ct cv 5 14 ja ea ma a1 a2 a3 a4 a5 a6 a7 a8 jb eb mb b1 b2 b3 b4 b5 b6 b7 b8 re fl g1 g2 g3 g4 g5 (dW rt la rs rg pd du ds me tt gr su gp mk rf m1 m2 m3 m4 m5 mr mf n1 n2 n3 n4 n5 nr nf E)))) (fun z => ⟨z, rfl⟩)))
  have h1 : sX4_askBody_1 [.ref 42, iv ((-1)), iv (i), iv (1)] (cW ki ln bt rl cp cs ct cv 5 14 ja ea ma a1 a2 a3 a4 a5 a6 a7 a8 jb eb mb b1 b2 b3 b4 b5 b6 b7 b8 re fl g1 g2 g3 g4 g5 (dW rt la rs rg pd du ds me tt gr su gp mk rf m1 m2 m3 m4 m5 mr mf n1 n2 n3 n4 n5 nr nf E)) = some r := h1
  exact ⟨z, by rw [h1, h2]⟩
theorem c_body0_1_0 (hE : E.length = 11) (hi : 0 ≤ i ∧ i ≤ 15) (hAs : ARs a4 a5 a6 a7) : ∃ z : Int, sX4_askBody_1 [.ref 42, iv (0), iv (i), iv (1)] (cW ki ln bt rl cp cs ct cv 5 14 ja ea ma a1 a2 a3 a4 a5 a6 a7 a8 jb eb mb b1 b2 b3 b4 b5 b6 b7 b8 re fl g1 g2 g3 g4 g5 (dW rt la rs rg pd du ds me tt gr su gp mk rf m1 m2 m3 m4 m5 mr mf n1 n2 n3 n4 n5 nr nf E)) = some (some (iv z), (cW ki ln bt rl cp cs ct cv 5 14 ja ea ma a1 a2 a3 a4 a5 a6 a7 a8 jb eb mb b1 b2 b3 b4 b5 b6 b7 b8 re fl g1 g2 g3 g4 g5 (dW rt la rs rg pd du ds me tt gr su gp (mk + (Int32.ofInt (mm_mrk (Int.toNat 0)).toInt).toInt64) rf m1 m2 m3 m4 m5 mr mf n1 n2 n3 n4 n5 nr nf E))) := by
  have main : ∀ Q : mm_R → Prop, (∀ z : Int, Q (some (iv z), (cW ki ln bt rl cp cs ct cv 5 14 ja ea ma a1 a2 a3 a4 a5 a6 a7 a8 jb eb mb b1 b2 b3 b4 b5 b6 b7 b8 re fl g1 g2 g3 g4 g5 (dW rt la rs rg pd du ds me tt gr su gp (mk + (Int32.ofInt (mm_mrk (Int.toNat 0)).toInt).toInt64) rf m1 m2 m3 m4 m5 mr mf n1 n2 n3 n4 n5 nr nf E)))) → rn_X4_askBody_1 300 (0, [(0, .ref 42), (1, iv (0)), (2, iv (i)), (3, iv (1))], [], (cW ki ln bt rl cp cs ct cv 5 14 ja ea ma a1 a2 a3 a4 a5 a6 a7 a8 jb eb mb b1 b2 b3 b4 b5 b6 b7 b8 re fl g1 g2 g3 g4 g5 (dW rt la rs rg pd du ds me tt gr su gp mk rf m1 m2 m3 m4 m5 mr mf n1 n2 n3 n4 n5 nr nf E))) Q := by
    intro Q hQ
    refine r_il rfl rfl ?_
    refine r_s1s rfl rfl rfl (c_isKind (by decide)) ?_
    refine r_zeq rfl rfl (bi_r _) (fun u1 => ?_) (fun u1 => ?_)
    · exact absurd u1 (by decide)
    · refine r_il rfl rfl ?_
      refine r_ic rfl ?_
      refine r_cle rfl rfl (by decide) (by decide) (fun u2 => ?_) (fun u2 => ?_)
      · refine r_al rfl rfl ?_
        refine r_dup rfl rfl ?_
        refine r_gf rfl rfl xg_42 rfl ?_
        refine r_gs rfl rfl ?_
        refine r_il rfl rfl ?_
        refine r_iao rfl (xout hE (by decide)) rfl (by decide) (by decide) (by decide) ?_
        refine r_i2l rfl ?_
        refine r_ladd rfl ?_
        refine r_pfl rfl rfl xg_42 rfl xp_mk ?_
        refine r_al rfl rfl ?_
        refine r_gs rfl rfl ?_
        refine r_il rfl rfl ?_
        refine r_iao rfl (xout hE (by decide)) rfl (by decide) (by decide) (by decide) ?_
        obtain ⟨y, hy⟩ := c_body0_2_n (mk := (mk + (Int32.ofInt (mm_mrk (Int.toNat 0)).toInt).toInt64)) (E := E) (i := i) (ki := ki) (ln := ln) (bt := bt) (rl := rl) (cp := cp) (cs := cs) (ct := ct) (cv := cv) (ja := ja) (ea := ea) (ma := ma) (a1 := a1) (a2 := a2) (a3 := a3) (a4 := a4) (a5 := a5) (a6 := a6) (a7 := a7) (a8 := a8) (jb := jb) (eb := eb) (mb := mb) (b1 := b1) (b2 := b2) (b3 := b3) (b4 := b4) (b5 := b5) (b6 := b6) (b7 := b7) (b8 := b8) (re := re) (fl := fl) (g1 := g1) (g2 := g2) (g3 := g3) (g4 := g4) (g5 := g5) (rt := rt) (la := la) (rs := rs) (rg := rg) (pd := pd) (du := du) (ds := ds) (me := me) (tt := tt) (gr := gr) (su := su) (gp := gp) (rf := rf) (m1 := m1) (m2 := m2) (m3 := m3) (m4 := m4) (m5 := m5) (mr := mr) (mf := mf) (n1 := n1) (n2 := n2) (n3 := n3) (n4 := n4) (n5 := n5) (nr := nr) (nf := nf) hE hi hAs
        refine r_il rfl rfl ?_
        refine r_il rfl rfl ?_
        refine r_ic rfl ?_
        refine r_add rfl ?_
        refine r_v4s rfl rfl xg_42 rfl hy ?_
        refine r_isw (lv' := [(4, _), (0, _), (1, _), (2, _), (3, _)]) rfl rfl rfl ?_
        refine r_il rfl rfl ?_
        refine r_ts (off := 39) rfl (by decide) rfl rfl ?_
        refine r_al rfl rfl ?_
        refine r_gf rfl rfl xg_42 rfl ?_
        refine r_il rfl rfl ?_
        refine r_v2s rfl rfl xg_4 rfl (c_leftC0 hi) ?_
        exact r_ret rfl rfl (hQ _)
      · exact absurd u2 (by decide)
  obtain ⟨r, h1, z, h2⟩ := rn_S (vs := [.ref 42, iv (0), iv (i), iv (1)]) (Q := fun r => ∃ z : Int, r = (some (iv z), (cW ki ln bt rl cp cs ct cv 5 14 ja ea ma a1 a2 a3 a4 a5 a6 a7 a8 jb eb mb b1 b2 b3 b4 b5 b6 b7 b8 re fl g1 g2 g3 g4 g5 (dW rt la rs rg pd du ds me tt gr su gp (mk + (Int32.ofInt (mm_mrk (Int.toNat 0)).toInt).toInt64) rf m1 m2 m3 m4 m5 mr mf n1 n2 n3 n4 n5 nr nf E)))) rfl (rn_up (N := 300) (M := mm_fuel) (by decide) (main (fun r => ∃ z : Int, r = (some (iv z), (cW ki ln bt rl cp cs ct cv 5 14 ja ea ma a1 a2 a3 a4 a5 a6 a7 a8 jb eb mb b1 b2 b3 b4 b5 b6 b7 b8 re fl g1 g2 g3 g4 g5 (dW rt la rs rg pd du ds me tt gr su gp (mk + (Int32.ofInt (mm_mrk (Int.toNat 0)).toInt).toInt64) rf m1 m2 m3 m4 m5 mr mf n1 n2 n3 n4 n5 nr nf E)))) (fun z => ⟨z, rfl⟩)))
  have h1 : sX4_askBody_1 [.ref 42, iv (0), iv (i), iv (1)] (cW ki ln bt rl cp cs ct cv 5 14 ja ea ma a1 a2 a3 a4 a5 a6 a7 a8 jb eb mb b1 b2 b3 b4 b5 b6 b7 b8 re fl g1 g2 g3 g4 g5 (dW rt la rs rg pd du ds me tt gr su gp mk rf m1 m2 m3 m4 m5 mr mf n1 n2 n3 n4 n5 nr nf E)) = some r := h1
  exact ⟨z, by rw [h1, h2]⟩
theorem c_body0_1_3 (hE : E.length = 11) (hi : 0 ≤ i ∧ i ≤ 15) (hAs : ARs a4 a5 a6 a7) : ∃ z : Int, sX4_askBody_1 [.ref 42, iv (3), iv (i), iv (1)] (cW ki ln bt rl cp cs ct cv 5 14 ja ea ma a1 a2 a3 a4 a5 a6 a7 a8 jb eb mb b1 b2 b3 b4 b5 b6 b7 b8 re fl g1 g2 g3 g4 g5 (dW rt la rs rg pd du ds me tt gr su gp mk rf m1 m2 m3 m4 m5 mr mf n1 n2 n3 n4 n5 nr nf E)) = some (some (iv z), (cW ki ln bt rl cp cs ct cv 5 14 ja ea ma a1 a2 a3 a4 a5 a6 a7 a8 jb eb mb b1 b2 b3 b4 b5 b6 b7 b8 re fl g1 g2 g3 g4 g5 (dW rt la rs rg pd du ds me tt gr su gp ((mk + (Int32.ofInt (mm_mrk (Int.toNat 3)).toInt).toInt64) + (Int32.ofInt (mm_mrk (Int.toNat 0)).toInt).toInt64) rf m1 m2 m3 m4 m5 mr mf n1 n2 n3 n4 n5 nr nf E))) := by
  have main : ∀ Q : mm_R → Prop, (∀ z : Int, Q (some (iv z), (cW ki ln bt rl cp cs ct cv 5 14 ja ea ma a1 a2 a3 a4 a5 a6 a7 a8 jb eb mb b1 b2 b3 b4 b5 b6 b7 b8 re fl g1 g2 g3 g4 g5 (dW rt la rs rg pd du ds me tt gr su gp ((mk + (Int32.ofInt (mm_mrk (Int.toNat 3)).toInt).toInt64) + (Int32.ofInt (mm_mrk (Int.toNat 0)).toInt).toInt64) rf m1 m2 m3 m4 m5 mr mf n1 n2 n3 n4 n5 nr nf E)))) → rn_X4_askBody_1 300 (0, [(0, .ref 42), (1, iv (3)), (2, iv (i)), (3, iv (1))], [], (cW ki ln bt rl cp cs ct cv 5 14 ja ea ma a1 a2 a3 a4 a5 a6 a7 a8 jb eb mb b1 b2 b3 b4 b5 b6 b7 b8 re fl g1 g2 g3 g4 g5 (dW rt la rs rg pd du ds me tt gr su gp mk rf m1 m2 m3 m4 m5 mr mf n1 n2 n3 n4 n5 nr nf E))) Q := by
    intro Q hQ
    refine r_il rfl rfl ?_
    refine r_s1s rfl rfl rfl (c_isKind (by decide)) ?_
    refine r_zeq rfl rfl (bi_r _) (fun u1 => ?_) (fun u1 => ?_)
    · exact absurd u1 (by decide)
    · refine r_il rfl rfl ?_
      refine r_ic rfl ?_
      refine r_cle rfl rfl (by decide) (by decide) (fun u2 => ?_) (fun u2 => ?_)
      · refine r_al rfl rfl ?_
        refine r_dup rfl rfl ?_
        refine r_gf rfl rfl xg_42 rfl ?_
        refine r_gs rfl rfl ?_
        refine r_il rfl rfl ?_
        refine r_iao rfl (xout hE (by decide)) rfl (by decide) (by decide) (by decide) ?_
        refine r_i2l rfl ?_
        refine r_ladd rfl ?_
        refine r_pfl rfl rfl xg_42 rfl xp_mk ?_
        refine r_al rfl rfl ?_
        refine r_gs rfl rfl ?_
        refine r_il rfl rfl ?_
        refine r_iao rfl (xout hE (by decide)) rfl (by decide) (by decide) (by decide) ?_
        obtain ⟨y, hy⟩ := c_body0_2_0 (mk := (mk + (Int32.ofInt (mm_mrk (Int.toNat 3)).toInt).toInt64)) (E := E) (i := i) (ki := ki) (ln := ln) (bt := bt) (rl := rl) (cp := cp) (cs := cs) (ct := ct) (cv := cv) (ja := ja) (ea := ea) (ma := ma) (a1 := a1) (a2 := a2) (a3 := a3) (a4 := a4) (a5 := a5) (a6 := a6) (a7 := a7) (a8 := a8) (jb := jb) (eb := eb) (mb := mb) (b1 := b1) (b2 := b2) (b3 := b3) (b4 := b4) (b5 := b5) (b6 := b6) (b7 := b7) (b8 := b8) (re := re) (fl := fl) (g1 := g1) (g2 := g2) (g3 := g3) (g4 := g4) (g5 := g5) (rt := rt) (la := la) (rs := rs) (rg := rg) (pd := pd) (du := du) (ds := ds) (me := me) (tt := tt) (gr := gr) (su := su) (gp := gp) (rf := rf) (m1 := m1) (m2 := m2) (m3 := m3) (m4 := m4) (m5 := m5) (mr := mr) (mf := mf) (n1 := n1) (n2 := n2) (n3 := n3) (n4 := n4) (n5 := n5) (nr := nr) (nf := nf) hE hi hAs
        refine r_il rfl rfl ?_
        refine r_il rfl rfl ?_
        refine r_ic rfl ?_
        refine r_add rfl ?_
        refine r_v4s rfl rfl xg_42 rfl hy ?_
        refine r_isw (lv' := [(4, _), (0, _), (1, _), (2, _), (3, _)]) rfl rfl rfl ?_
        refine r_il rfl rfl ?_
        refine r_ts (off := 78) rfl (by decide) rfl rfl ?_
        refine r_ilw rfl rfl ?_
        refine r_ic rfl ?_
        obtain ⟨z, hz⟩ := c_floorDiv3 (a := y) (mw := (cW ki ln bt rl cp cs ct cv 5 14 ja ea ma a1 a2 a3 a4 a5 a6 a7 a8 jb eb mb b1 b2 b3 b4 b5 b6 b7 b8 re fl g1 g2 g3 g4 g5 (dW rt la rs rg pd du ds me tt gr su gp ((mk + (Int32.ofInt (mm_mrk (Int.toNat 3)).toInt).toInt64) + (Int32.ofInt (mm_mrk (Int.toNat 0)).toInt).toInt64) rf m1 m2 m3 m4 m5 mr mf n1 n2 n3 n4 n5 nr nf E)))
        refine r_s2s rfl rfl rfl hz ?_
        exact r_ret rfl rfl (hQ _)
      · exact absurd u2 (by decide)
  obtain ⟨r, h1, z, h2⟩ := rn_S (vs := [.ref 42, iv (3), iv (i), iv (1)]) (Q := fun r => ∃ z : Int, r = (some (iv z), (cW ki ln bt rl cp cs ct cv 5 14 ja ea ma a1 a2 a3 a4 a5 a6 a7 a8 jb eb mb b1 b2 b3 b4 b5 b6 b7 b8 re fl g1 g2 g3 g4 g5 (dW rt la rs rg pd du ds me tt gr su gp ((mk + (Int32.ofInt (mm_mrk (Int.toNat 3)).toInt).toInt64) + (Int32.ofInt (mm_mrk (Int.toNat 0)).toInt).toInt64) rf m1 m2 m3 m4 m5 mr mf n1 n2 n3 n4 n5 nr nf E)))) rfl (rn_up (N := 300) (M := mm_fuel) (by decide) (main (fun r => ∃ z : Int, r = (some (iv z), (cW ki ln bt rl cp cs ct cv 5 14 ja ea ma a1 a2 a3 a4 a5 a6 a7 a8 jb eb mb b1 b2 b3 b4 b5 b6 b7 b8 re fl g1 g2 g3 g4 g5 (dW rt la rs rg pd du ds me tt gr su gp ((mk + (Int32.ofInt (mm_mrk (Int.toNat 3)).toInt).toInt64) + (Int32.ofInt (mm_mrk (Int.toNat 0)).toInt).toInt64) rf m1 m2 m3 m4 m5 mr mf n1 n2 n3 n4 n5 nr nf E)))) (fun z => ⟨z, rfl⟩)))
  have h1 : sX4_askBody_1 [.ref 42, iv (3), iv (i), iv (1)] (cW ki ln bt rl cp cs ct cv 5 14 ja ea ma a1 a2 a3 a4 a5 a6 a7 a8 jb eb mb b1 b2 b3 b4 b5 b6 b7 b8 re fl g1 g2 g3 g4 g5 (dW rt la rs rg pd du ds me tt gr su gp mk rf m1 m2 m3 m4 m5 mr mf n1 n2 n3 n4 n5 nr nf E)) = some r := h1
  exact ⟨z, by rw [h1, h2]⟩
theorem c_body0_1_5 (hE : E.length = 11) (hi : 0 ≤ i ∧ i ≤ 15) (hAs : ARs a4 a5 a6 a7) : ∃ z : Int, sX4_askBody_1 [.ref 42, iv (5), iv (i), iv (1)] (cW ki ln bt rl cp cs ct cv 5 14 ja ea ma a1 a2 a3 a4 a5 a6 a7 a8 jb eb mb b1 b2 b3 b4 b5 b6 b7 b8 re fl g1 g2 g3 g4 g5 (dW rt la rs rg pd du ds me tt gr su gp mk rf m1 m2 m3 m4 m5 mr mf n1 n2 n3 n4 n5 nr nf E)) = some (some (iv z), (cW ki ln bt rl cp cs ct cv 5 14 ja ea ma a1 a2 a3 a4 a5 a6 a7 a8 jb eb mb b1 b2 b3 b4 b5 b6 b7 b8 re fl g1 g2 g3 g4 g5 (dW rt la rs rg pd du ds me tt gr su gp ((mk + (Int32.ofInt (mm_mrk (Int.toNat 5)).toInt).toInt64) + (Int32.ofInt (mm_mrk (Int.toNat 0)).toInt).toInt64) rf m1 m2 m3 m4 m5 mr mf n1 n2 n3 n4 n5 nr nf E))) := by
  have main : ∀ Q : mm_R → Prop, (∀ z : Int, Q (some (iv z), (cW ki ln bt rl cp cs ct cv 5 14 ja ea ma a1 a2 a3 a4 a5 a6 a7 a8 jb eb mb b1 b2 b3 b4 b5 b6 b7 b8 re fl g1 g2 g3 g4 g5 (dW rt la rs rg pd du ds me tt gr su gp ((mk + (Int32.ofInt (mm_mrk (Int.toNat 5)).toInt).toInt64) + (Int32.ofInt (mm_mrk (Int.toNat 0)).toInt).toInt64) rf m1 m2 m3 m4 m5 mr mf n1 n2 n3 n4 n5 nr nf E)))) → rn_X4_askBody_1 300 (0, [(0, .ref 42), (1, iv (5)), (2, iv (i)), (3, iv (1))], [], (cW ki ln bt rl cp cs ct cv 5 14 ja ea ma a1 a2 a3 a4 a5 a6 a7 a8 jb eb mb b1 b2 b3 b4 b5 b6 b7 b8 re fl g1 g2 g3 g4 g5 (dW rt la rs rg pd du ds me tt gr su gp mk rf m1 m2 m3 m4 m5 mr mf n1 n2 n3 n4 n5 nr nf E))) Q := by
    intro Q hQ
    refine r_il rfl rfl ?_
    refine r_s1s rfl rfl rfl (c_isKind (by decide)) ?_
    refine r_zeq rfl rfl (bi_r _) (fun u1 => ?_) (fun u1 => ?_)
    · exact absurd u1 (by decide)
    · refine r_il rfl rfl ?_
      refine r_ic rfl ?_
      refine r_cle rfl rfl (by decide) (by decide) (fun u2 => ?_) (fun u2 => ?_)
      · refine r_al rfl rfl ?_
        refine r_dup rfl rfl ?_
        refine r_gf rfl rfl xg_42 rfl ?_
        refine r_gs rfl rfl ?_
        refine r_il rfl rfl ?_
        refine r_iao rfl (xout hE (by decide)) rfl (by decide) (by decide) (by decide) ?_
        refine r_i2l rfl ?_
        refine r_ladd rfl ?_
        refine r_pfl rfl rfl xg_42 rfl xp_mk ?_
        refine r_al rfl rfl ?_
        refine r_gs rfl rfl ?_
        refine r_il rfl rfl ?_
        refine r_iao rfl (xout hE (by decide)) rfl (by decide) (by decide) (by decide) ?_
        obtain ⟨y, hy⟩ := c_body0_2_0 (mk := (mk + (Int32.ofInt (mm_mrk (Int.toNat 5)).toInt).toInt64)) (E := E) (i := i) (ki := ki) (ln := ln) (bt := bt) (rl := rl) (cp := cp) (cs := cs) (ct := ct) (cv := cv) (ja := ja) (ea := ea) (ma := ma) (a1 := a1) (a2 := a2) (a3 := a3) (a4 := a4) (a5 := a5) (a6 := a6) (a7 := a7) (a8 := a8) (jb := jb) (eb := eb) (mb := mb) (b1 := b1) (b2 := b2) (b3 := b3) (b4 := b4) (b5 := b5) (b6 := b6) (b7 := b7) (b8 := b8) (re := re) (fl := fl) (g1 := g1) (g2 := g2) (g3 := g3) (g4 := g4) (g5 := g5) (rt := rt) (la := la) (rs := rs) (rg := rg) (pd := pd) (du := du) (ds := ds) (me := me) (tt := tt) (gr := gr) (su := su) (gp := gp) (rf := rf) (m1 := m1) (m2 := m2) (m3 := m3) (m4 := m4) (m5 := m5) (mr := mr) (mf := mf) (n1 := n1) (n2 := n2) (n3 := n3) (n4 := n4) (n5 := n5) (nr := nr) (nf := nf) hE hi hAs
        refine r_il rfl rfl ?_
        refine r_il rfl rfl ?_
        refine r_ic rfl ?_
        refine r_add rfl ?_
        refine r_v4s rfl rfl xg_42 rfl hy ?_
        refine r_isw (lv' := [(4, _), (0, _), (1, _), (2, _), (3, _)]) rfl rfl rfl ?_
        refine r_il rfl rfl ?_
        refine r_ts (off := 90) rfl (by decide) rfl rfl ?_
        have hs := (hAs (Int.toNat i) (by omega)).1
        unfold i7 at hs
        refine r_ilw rfl rfl ?_
        refine r_al rfl rfl ?_
        refine r_gf rfl rfl xg_42 rfl ?_
        refine r_gf rfl rfl xg_4 rfl ?_
        refine r_gf rfl rfl xg_23 rfl ?_
        refine r_al rfl rfl ?_
        refine r_gf rfl rfl xg_42 rfl ?_
        refine r_gf rfl rfl xg_4 rfl ?_
        refine r_gf rfl rfl xg_5 rfl ?_
        refine r_il rfl rfl ?_
        refine r_ia rfl xg_9 (by omega) (by omega) (by decide) ?_
        refine r_ia rfl xg_28 (by omega) (by omega) (by decide) ?_
        refine r_bi rfl (by decide) ?_
        refine r_odiv rfl (by decide) ?_
        refine r_add rfl ?_
        exact r_ret rfl rfl (hQ _)
      · exact absurd u2 (by decide)
  obtain ⟨r, h1, z, h2⟩ := rn_S (vs := [.ref 42, iv (5), iv (i), iv (1)]) (Q := fun r => ∃ z : Int, r = (some (iv z), (cW ki ln bt rl cp cs ct cv 5 14 ja ea ma a1 a2 a3 a4 a5 a6 a7 a8 jb eb mb b1 b2 b3 b4 b5 b6 b7 b8 re fl g1 g2 g3 g4 g5 (dW rt la rs rg pd du ds me tt gr su gp ((mk + (Int32.ofInt (mm_mrk (Int.toNat 5)).toInt).toInt64) + (Int32.ofInt (mm_mrk (Int.toNat 0)).toInt).toInt64) rf m1 m2 m3 m4 m5 mr mf n1 n2 n3 n4 n5 nr nf E)))) rfl (rn_up (N := 300) (M := mm_fuel) (by decide) (main (fun r => ∃ z : Int, r = (some (iv z), (cW ki ln bt rl cp cs ct cv 5 14 ja ea ma a1 a2 a3 a4 a5 a6 a7 a8 jb eb mb b1 b2 b3 b4 b5 b6 b7 b8 re fl g1 g2 g3 g4 g5 (dW rt la rs rg pd du ds me tt gr su gp ((mk + (Int32.ofInt (mm_mrk (Int.toNat 5)).toInt).toInt64) + (Int32.ofInt (mm_mrk (Int.toNat 0)).toInt).toInt64) rf m1 m2 m3 m4 m5 mr mf n1 n2 n3 n4 n5 nr nf E)))) (fun z => ⟨z, rfl⟩)))
  have h1 : sX4_askBody_1 [.ref 42, iv (5), iv (i), iv (1)] (cW ki ln bt rl cp cs ct cv 5 14 ja ea ma a1 a2 a3 a4 a5 a6 a7 a8 jb eb mb b1 b2 b3 b4 b5 b6 b7 b8 re fl g1 g2 g3 g4 g5 (dW rt la rs rg pd du ds me tt gr su gp mk rf m1 m2 m3 m4 m5 mr mf n1 n2 n3 n4 n5 nr nf E)) = some r := h1
  exact ⟨z, by rw [h1, h2]⟩
abbrev rn_X4_askBody_0 (N : Nat) (c : mm_C) (Q : mm_R → Prop) : Prop := rn (mm_gf gLX4) (mm_pf pLX4) (mm_mv vX4_askBody_0) (mm_mv zX4_askBody_0) (mm_kc kLX4) gsX4 mm_rf0 mm_ro (some .int) 5 (mm_ins iX4_askBody) N c Q
theorem c_body0_0_0 (hE : E.length = 11) (hi : 0 ≤ i ∧ i ≤ 15) (hAs : ARs a4 a5 a6 a7) : ∃ z : Int, sX4_askBody_0 [.ref 42, iv (0), iv (i), iv (0)] (cW ki ln bt rl cp cs ct cv 5 14 ja ea ma a1 a2 a3 a4 a5 a6 a7 a8 jb eb mb b1 b2 b3 b4 b5 b6 b7 b8 re fl g1 g2 g3 g4 g5 (dW rt la rs rg pd du ds me tt gr su gp mk rf m1 m2 m3 m4 m5 mr mf n1 n2 n3 n4 n5 nr nf E)) = some (some (iv z), (cW ki ln bt rl cp cs ct cv 5 14 ja ea ma a1 a2 a3 a4 a5 a6 a7 a8 jb eb mb b1 b2 b3 b4 b5 b6 b7 b8 re fl g1 g2 g3 g4 g5 (dW rt la rs rg pd du ds me tt gr su gp (mk + (Int32.ofInt (mm_mrk (Int.toNat 0)).toInt).toInt64) rf m1 m2 m3 m4 m5 mr mf n1 n2 n3 n4 n5 nr nf E))) := by
  have main : ∀ Q : mm_R → Prop, (∀ z : Int, Q (some (iv z), (cW ki ln bt rl cp cs ct cv 5 14 ja ea ma a1 a2 a3 a4 a5 a6 a7 a8 jb eb mb b1 b2 b3 b4 b5 b6 b7 b8 re fl g1 g2 g3 g4 g5 (dW rt la rs rg pd du ds me tt gr su gp (mk + (Int32.ofInt (mm_mrk (Int.toNat 0)).toInt).toInt64) rf m1 m2 m3 m4 m5 mr mf n1 n2 n3 n4 n5 nr nf E)))) → rn_X4_askBody_0 300 (0, [(0, .ref 42), (1, iv (0)), (2, iv (i)), (3, iv (0))], [], (cW ki ln bt rl cp cs ct cv 5 14 ja ea ma a1 a2 a3 a4 a5 a6 a7 a8 jb eb mb b1 b2 b3 b4 b5 b6 b7 b8 re fl g1 g2 g3 g4 g5 (dW rt la rs rg pd du ds me tt gr su gp mk rf m1 m2 m3 m4 m5 mr mf n1 n2 n3 n4 n5 nr nf E))) Q := by
    intro Q hQ
    refine r_il rfl rfl ?_
    refine r_s1s rfl rfl rfl (c_isKind (by decide)) ?_
    refine r_zeq rfl rfl (bi_r _) (fun u1 => ?_) (fun u1 => ?_)
    · exact absurd u1 (by decide)
    · refine r_il rfl rfl ?_
      refine r_ic rfl ?_
      refine r_cle rfl rfl (by decide) (by decide) (fun u2 => ?_) (fun u2 => ?_)
      · refine r_al rfl rfl ?_
        refine r_dup rfl rfl ?_
        refine r_gf rfl rfl xg_42 rfl ?_
        refine r_gs rfl rfl ?_
        refine r_il rfl rfl ?_
        refine r_iao rfl (xout hE (by decide)) rfl (by decide) (by decide) (by decide) ?_
        refine r_i2l rfl ?_
        refine r_ladd rfl ?_
        refine r_pfl rfl rfl xg_42 rfl xp_mk ?_
        refine r_al rfl rfl ?_
        refine r_gs rfl rfl ?_
        refine r_il rfl rfl ?_
        refine r_iao rfl (xout hE (by decide)) rfl (by decide) (by decide) (by decide) ?_
        obtain ⟨y, hy⟩ := c_body0_1_n (mk := (mk + (Int32.ofInt (mm_mrk (Int.toNat 0)).toInt).toInt64)) (E := E) (i := i) (ki := ki) (ln := ln) (bt := bt) (rl := rl) (cp := cp) (cs := cs) (ct := ct) (cv := cv) (ja := ja) (ea := ea) (ma := ma) (a1 := a1) (a2 := a2) (a3 := a3) (a4 := a4) (a5 := a5) (a6 := a6) (a7 := a7) (a8 := a8) (jb := jb) (eb := eb) (mb := mb) (b1 := b1) (b2 := b2) (b3 := b3) (b4 := b4) (b5 := b5) (b6 := b6) (b7 := b7) (b8 := b8) (re := re) (fl := fl) (g1 := g1) (g2 := g2) (g3 := g3) (g4 := g4) (g5 := g5) (rt := rt) (la := la) (rs := rs) (rg := rg) (pd := pd) (du := du) (ds := ds) (me := me) (tt := tt) (gr := gr) (su := su) (gp := gp) (rf := rf) (m1 := m1) (m2 := m2) (m3 := m3) (m4 := m4) (m5 := m5) (mr := mr) (mf := mf) (n1 := n1) (n2 := n2) (n3 := n3) (n4 := n4) (n5 := n5) (nr := nr) (nf := nf) hE hi hAs
        refine r_il rfl rfl ?_
        refine r_il rfl rfl ?_
        refine r_ic rfl ?_
        refine r_add rfl ?_
        refine r_v4s rfl rfl xg_42 rfl hy ?_
        refine r_isw (lv' := [(4, _), (0, _), (1, _), (2, _), (3, _)]) rfl rfl rfl ?_
        refine r_il rfl rfl ?_
        refine r_ts (off := 39) rfl (by decide) rfl rfl ?_
        refine r_al rfl rfl ?_
        refine r_gf rfl rfl xg_42 rfl ?_
        refine r_il rfl rfl ?_
        refine r_v2s rfl rfl xg_4 rfl (c_leftC0 hi) ?_
        exact r_ret rfl rfl (hQ _)
      · exact absurd u2 (by decide)
  obtain ⟨r, h1, z, h2⟩ := rn_S (vs := [.ref 42, iv (0), iv (i), iv (0)]) (Q := fun r => ∃ z : Int, r = (some (iv z), (cW ki ln bt rl cp cs ct cv 5 14 ja ea ma a1 a2 a3 a4 a5 a6 a7 a8 jb eb mb b1 b2 b3 b4 b5 b6 b7 b8 re fl g1 g2 g3 g4 g5 (dW rt la rs rg pd du ds me tt gr su gp (mk + (Int32.ofInt (mm_mrk (Int.toNat 0)).toInt).toInt64) rf m1 m2 m3 m4 m5 mr mf n1 n2 n3 n4 n5 nr nf E)))) rfl (rn_up (N := 300) (M := mm_fuel) (by decide) (main (fun r => ∃ z : Int, r = (some (iv z), (cW ki ln bt rl cp cs ct cv 5 14 ja ea ma a1 a2 a3 a4 a5 a6 a7 a8 jb eb mb b1 b2 b3 b4 b5 b6 b7 b8 re fl g1 g2 g3 g4 g5 (dW rt la rs rg pd du ds me tt gr su gp (mk + (Int32.ofInt (mm_mrk (Int.toNat 0)).toInt).toInt64) rf m1 m2 m3 m4 m5 mr mf n1 n2 n3 n4 n5 nr nf E)))) (fun z => ⟨z, rfl⟩)))
  have h1 : sX4_askBody_0 [.ref 42, iv (0), iv (i), iv (0)] (cW ki ln bt rl cp cs ct cv 5 14 ja ea ma a1 a2 a3 a4 a5 a6 a7 a8 jb eb mb b1 b2 b3 b4 b5 b6 b7 b8 re fl g1 g2 g3 g4 g5 (dW rt la rs rg pd du ds me tt gr su gp mk rf m1 m2 m3 m4 m5 mr mf n1 n2 n3 n4 n5 nr nf E)) = some r := h1
  exact ⟨z, by rw [h1, h2]⟩
theorem c_body0_0_1 (hE : E.length = 11) (hi : 0 ≤ i ∧ i ≤ 15) (hAs : ARs a4 a5 a6 a7) : ∃ z : Int, sX4_askBody_0 [.ref 42, iv (1), iv (i), iv (0)] (cW ki ln bt rl cp cs ct cv 5 14 ja ea ma a1 a2 a3 a4 a5 a6 a7 a8 jb eb mb b1 b2 b3 b4 b5 b6 b7 b8 re fl g1 g2 g3 g4 g5 (dW rt la rs rg pd du ds me tt gr su gp mk rf m1 m2 m3 m4 m5 mr mf n1 n2 n3 n4 n5 nr nf E)) = some (some (iv z), (cW ki ln bt rl cp cs ct cv 5 14 ja ea ma a1 a2 a3 a4 a5 a6 a7 a8 jb eb mb b1 b2 b3 b4 b5 b6 b7 b8 re fl g1 g2 g3 g4 g5 (dW rt la rs rg pd du ds me tt gr su gp ((mk + (Int32.ofInt (mm_mrk (Int.toNat 1)).toInt).toInt64) + (Int32.ofInt (mm_mrk (Int.toNat 0)).toInt).toInt64) rf m1 m2 m3 m4 m5 mr mf n1 n2 n3 n4 n5 nr nf E))) := by
  have main : ∀ Q : mm_R → Prop, (∀ z : Int, Q (some (iv z), (cW ki ln bt rl cp cs ct cv 5 14 ja ea ma a1 a2 a3 a4 a5 a6 a7 a8 jb eb mb b1 b2 b3 b4 b5 b6 b7 b8 re fl g1 g2 g3 g4 g5 (dW rt la rs rg pd du ds me tt gr su gp ((mk + (Int32.ofInt (mm_mrk (Int.toNat 1)).toInt).toInt64) + (Int32.ofInt (mm_mrk (Int.toNat 0)).toInt).toInt64) rf m1 m2 m3 m4 m5 mr mf n1 n2 n3 n4 n5 nr nf E)))) → rn_X4_askBody_0 300 (0, [(0, .ref 42), (1, iv (1)), (2, iv (i)), (3, iv (0))], [], (cW ki ln bt rl cp cs ct cv 5 14 ja ea ma a1 a2 a3 a4 a5 a6 a7 a8 jb eb mb b1 b2 b3 b4 b5 b6 b7 b8 re fl g1 g2 g3 g4 g5 (dW rt la rs rg pd du ds me tt gr su gp mk rf m1 m2 m3 m4 m5 mr mf n1 n2 n3 n4 n5 nr nf E))) Q := by
    intro Q hQ
    refine r_il rfl rfl ?_
    refine r_s1s rfl rfl rfl (c_isKind (by decide)) ?_
    refine r_zeq rfl rfl (bi_r _) (fun u1 => ?_) (fun u1 => ?_)
    · exact absurd u1 (by decide)
    · refine r_il rfl rfl ?_
      refine r_ic rfl ?_
      refine r_cle rfl rfl (by decide) (by decide) (fun u2 => ?_) (fun u2 => ?_)
      · refine r_al rfl rfl ?_
        refine r_dup rfl rfl ?_
        refine r_gf rfl rfl xg_42 rfl ?_
        refine r_gs rfl rfl ?_
        refine r_il rfl rfl ?_
        refine r_iao rfl (xout hE (by decide)) rfl (by decide) (by decide) (by decide) ?_
        refine r_i2l rfl ?_
        refine r_ladd rfl ?_
        refine r_pfl rfl rfl xg_42 rfl xp_mk ?_
        refine r_al rfl rfl ?_
        refine r_gs rfl rfl ?_
        refine r_il rfl rfl ?_
        refine r_iao rfl (xout hE (by decide)) rfl (by decide) (by decide) (by decide) ?_
        obtain ⟨y, hy⟩ := c_body0_1_0 (mk := (mk + (Int32.ofInt (mm_mrk (Int.toNat 1)).toInt).toInt64)) (E := E) (i := i) (ki := ki) (ln := ln) (bt := bt) (rl := rl) (cp := cp) (cs := cs) (ct := ct) (cv := cv) (ja := ja) (ea := ea) (ma := ma) (a1 := a1) (a2 := a2) (a3 := a3) (a4 := a4) (a5 := a5) (a6 := a6) (a7 := a7) (a8 := a8) (jb := jb) (eb := eb) (mb := mb) (b1 := b1) (b2 := b2) (b3 := b3) (b4 := b4) (b5 := b5) (b6 := b6) (b7 := b7) (b8 := b8) (re := re) (fl := fl) (g1 := g1) (g2 := g2) (g3 := g3) (g4 := g4) (g5 := g5) (rt := rt) (la := la) (rs := rs) (rg := rg) (pd := pd) (du := du) (ds := ds) (me := me) (tt := tt) (gr := gr) (su := su) (gp := gp) (rf := rf) (m1 := m1) (m2 := m2) (m3 := m3) (m4 := m4) (m5 := m5) (mr := mr) (mf := mf) (n1 := n1) (n2 := n2) (n3 := n3) (n4 := n4) (n5 := n5) (nr := nr) (nf := nf) hE hi hAs
        refine r_il rfl rfl ?_
        refine r_il rfl rfl ?_
        refine r_ic rfl ?_
        refine r_add rfl ?_
        refine r_v4s rfl rfl xg_42 rfl hy ?_
        refine r_isw (lv' := [(4, _), (0, _), (1, _), (2, _), (3, _)]) rfl rfl rfl ?_
        refine r_il rfl rfl ?_
        refine r_ts (off := 48) rfl (by decide) rfl rfl ?_
        refine r_ilw rfl rfl ?_
        refine r_al rfl rfl ?_
        refine r_gf rfl rfl xg_42 rfl ?_
        refine r_al rfl rfl ?_
        refine r_gf rfl rfl xg_42 rfl ?_
        refine r_gf rfl rfl xg_4 rfl ?_
        refine r_gf rfl rfl xg_5 rfl ?_
        refine r_il rfl rfl ?_
        refine r_ia rfl xg_10 (by omega) (by omega) (by decide) ?_
        refine r_v2s rfl rfl xg_4 rfl (c_restC0 (by have := (hAs (Int.toNat i) (by omega)).2.1; unfold i7 at this; omega)) ?_
        refine r_add rfl ?_
        exact r_ret rfl rfl (hQ _)
      · exact absurd u2 (by decide)
  obtain ⟨r, h1, z, h2⟩ := rn_S (vs := [.ref 42, iv (1), iv (i), iv (0)]) (Q := fun r => ∃ z : Int, r = (some (iv z), (cW ki ln bt rl cp cs ct cv 5 14 ja ea ma a1 a2 a3 a4 a5 a6 a7 a8 jb eb mb b1 b2 b3 b4 b5 b6 b7 b8 re fl g1 g2 g3 g4 g5 (dW rt la rs rg pd du ds me tt gr su gp ((mk + (Int32.ofInt (mm_mrk (Int.toNat 1)).toInt).toInt64) + (Int32.ofInt (mm_mrk (Int.toNat 0)).toInt).toInt64) rf m1 m2 m3 m4 m5 mr mf n1 n2 n3 n4 n5 nr nf E)))) rfl (rn_up (N := 300) (M := mm_fuel) (by decide) (main (fun r => ∃ z : Int, r = (some (iv z), (cW ki ln bt rl cp cs ct cv 5 14 ja ea ma a1 a2 a3 a4 a5 a6 a7 a8 jb eb mb b1 b2 b3 b4 b5 b6 b7 b8 re fl g1 g2 g3 g4 g5 (dW rt la rs rg pd du ds me tt gr su gp ((mk + (Int32.ofInt (mm_mrk (Int.toNat 1)).toInt).toInt64) + (Int32.ofInt (mm_mrk (Int.toNat 0)).toInt).toInt64) rf m1 m2 m3 m4 m5 mr mf n1 n2 n3 n4 n5 nr nf E)))) (fun z => ⟨z, rfl⟩)))
  have h1 : sX4_askBody_0 [.ref 42, iv (1), iv (i), iv (0)] (cW ki ln bt rl cp cs ct cv 5 14 ja ea ma a1 a2 a3 a4 a5 a6 a7 a8 jb eb mb b1 b2 b3 b4 b5 b6 b7 b8 re fl g1 g2 g3 g4 g5 (dW rt la rs rg pd du ds me tt gr su gp mk rf m1 m2 m3 m4 m5 mr mf n1 n2 n3 n4 n5 nr nf E)) = some r := h1
  exact ⟨z, by rw [h1, h2]⟩
theorem c_body0_0_2 (hE : E.length = 11) (hi : 0 ≤ i ∧ i ≤ 15) (hAs : ARs a4 a5 a6 a7) : ∃ z : Int, sX4_askBody_0 [.ref 42, iv (2), iv (i), iv (0)] (cW ki ln bt rl cp cs ct cv 5 14 ja ea ma a1 a2 a3 a4 a5 a6 a7 a8 jb eb mb b1 b2 b3 b4 b5 b6 b7 b8 re fl g1 g2 g3 g4 g5 (dW rt la rs rg pd du ds me tt gr su gp mk rf m1 m2 m3 m4 m5 mr mf n1 n2 n3 n4 n5 nr nf E)) = some (some (iv z), (cW ki ln bt rl cp cs ct cv 5 14 ja ea ma a1 a2 a3 a4 a5 a6 a7 a8 jb eb mb b1 b2 b3 b4 b5 b6 b7 b8 re fl g1 g2 g3 g4 g5 (dW rt la rs rg pd du ds me tt gr su gp ((mk + (Int32.ofInt (mm_mrk (Int.toNat 2)).toInt).toInt64) + (Int32.ofInt (mm_mrk (Int.toNat 0)).toInt).toInt64) rf m1 m2 m3 m4 m5 mr mf n1 n2 n3 n4 n5 nr nf E))) := by
  have main : ∀ Q : mm_R → Prop, (∀ z : Int, Q (some (iv z), (cW ki ln bt rl cp cs ct cv 5 14 ja ea ma a1 a2 a3 a4 a5 a6 a7 a8 jb eb mb b1 b2 b3 b4 b5 b6 b7 b8 re fl g1 g2 g3 g4 g5 (dW rt la rs rg pd du ds me tt gr su gp ((mk + (Int32.ofInt (mm_mrk (Int.toNat 2)).toInt).toInt64) + (Int32.ofInt (mm_mrk (Int.toNat 0)).toInt).toInt64) rf m1 m2 m3 m4 m5 mr mf n1 n2 n3 n4 n5 nr nf E)))) → rn_X4_askBody_0 300 (0, [(0, .ref 42), (1, iv (2)), (2, iv (i)), (3, iv (0))], [], (cW ki ln bt rl cp cs ct cv 5 14 ja ea ma a1 a2 a3 a4 a5 a6 a7 a8 jb eb mb b1 b2 b3 b4 b5 b6 b7 b8 re fl g1 g2 g3 g4 g5 (dW rt la rs rg pd du ds me tt gr su gp mk rf m1 m2 m3 m4 m5 mr mf n1 n2 n3 n4 n5 nr nf E))) Q := by
    intro Q hQ
    refine r_il rfl rfl ?_
    refine r_s1s rfl rfl rfl (c_isKind (by decide)) ?_
    refine r_zeq rfl rfl (bi_r _) (fun u1 => ?_) (fun u1 => ?_)
    · exact absurd u1 (by decide)
    · refine r_il rfl rfl ?_
      refine r_ic rfl ?_
      refine r_cle rfl rfl (by decide) (by decide) (fun u2 => ?_) (fun u2 => ?_)
      · refine r_al rfl rfl ?_
        refine r_dup rfl rfl ?_
        refine r_gf rfl rfl xg_42 rfl ?_
        refine r_gs rfl rfl ?_
        refine r_il rfl rfl ?_
        refine r_iao rfl (xout hE (by decide)) rfl (by decide) (by decide) (by decide) ?_
        refine r_i2l rfl ?_
        refine r_ladd rfl ?_
        refine r_pfl rfl rfl xg_42 rfl xp_mk ?_
        refine r_al rfl rfl ?_
        refine r_gs rfl rfl ?_
        refine r_il rfl rfl ?_
        refine r_iao rfl (xout hE (by decide)) rfl (by decide) (by decide) (by decide) ?_
        obtain ⟨y, hy⟩ := c_body0_1_0 (mk := (mk + (Int32.ofInt (mm_mrk (Int.toNat 2)).toInt).toInt64)) (E := E) (i := i) (ki := ki) (ln := ln) (bt := bt) (rl := rl) (cp := cp) (cs := cs) (ct := ct) (cv := cv) (ja := ja) (ea := ea) (ma := ma) (a1 := a1) (a2 := a2) (a3 := a3) (a4 := a4) (a5 := a5) (a6 := a6) (a7 := a7) (a8 := a8) (jb := jb) (eb := eb) (mb := mb) (b1 := b1) (b2 := b2) (b3 := b3) (b4 := b4) (b5 := b5) (b6 := b6) (b7 := b7) (b8 := b8) (re := re) (fl := fl) (g1 := g1) (g2 := g2) (g3 := g3) (g4 := g4) (g5 := g5) (rt := rt) (la := la) (rs := rs) (rg := rg) (pd := pd) (du := du) (ds := ds) (me := me) (tt := tt) (gr := gr) (su := su) (gp := gp) (rf := rf) (m1 := m1) (m2 := m2) (m3 := m3) (m4 := m4) (m5 := m5) (mr := mr) (mf := mf) (n1 := n1) (n2 := n2) (n3 := n3) (n4 := n4) (n5 := n5) (nr := nr) (nf := nf) hE hi hAs
        refine r_il rfl rfl ?_
        refine r_il rfl rfl ?_
        refine r_ic rfl ?_
        refine r_add rfl ?_
        refine r_v4s rfl rfl xg_42 rfl hy ?_
        refine r_isw (lv' := [(4, _), (0, _), (1, _), (2, _), (3, _)]) rfl rfl rfl ?_
        refine r_il rfl rfl ?_
        refine r_ts (off := 71) rfl (by decide) rfl rfl ?_
        refine r_ilw rfl rfl ?_
        refine r_ic rfl ?_
        obtain ⟨z, hz⟩ := c_floorDiv2 (a := y) (mw := (cW ki ln bt rl cp cs ct cv 5 14 ja ea ma a1 a2 a3 a4 a5 a6 a7 a8 jb eb mb b1 b2 b3 b4 b5 b6 b7 b8 re fl g1 g2 g3 g4 g5 (dW rt la rs rg pd du ds me tt gr su gp ((mk + (Int32.ofInt (mm_mrk (Int.toNat 2)).toInt).toInt64) + (Int32.ofInt (mm_mrk (Int.toNat 0)).toInt).toInt64) rf m1 m2 m3 m4 m5 mr mf n1 n2 n3 n4 n5 nr nf E)))
        refine r_s2s rfl rfl rfl hz ?_
        exact r_ret rfl rfl (hQ _)
      · exact absurd u2 (by decide)
  obtain ⟨r, h1, z, h2⟩ := rn_S (vs := [.ref 42, iv (2), iv (i), iv (0)]) (Q := fun r => ∃ z : Int, r = (some (iv z), (cW ki ln bt rl cp cs ct cv 5 14 ja ea ma a1 a2 a3 a4 a5 a6 a7 a8 jb eb mb b1 b2 b3 b4 b5 b6 b7 b8 re fl g1 g2 g3 g4 g5 (dW rt la rs rg pd du ds me tt gr su gp ((mk + (Int32.ofInt (mm_mrk (Int.toNat 2)).toInt).toInt64) + (Int32.ofInt (mm_mrk (Int.toNat 0)).toInt).toInt64) rf m1 m2 m3 m4 m5 mr mf n1 n2 n3 n4 n5 nr nf E)))) rfl (rn_up (N := 300) (M := mm_fuel) (by decide) (main (fun r => ∃ z : Int, r = (some (iv z), (cW ki ln bt rl cp cs ct cv 5 14 ja ea ma a1 a2 a3 a4 a5 a6 a7 a8 jb eb mb b1 b2 b3 b4 b5 b6 b7 b8 re fl g1 g2 g3 g4 g5 (dW rt la rs rg pd du ds me tt gr su gp ((mk + (Int32.ofInt (mm_mrk (Int.toNat 2)).toInt).toInt64) + (Int32.ofInt (mm_mrk (Int.toNat 0)).toInt).toInt64) rf m1 m2 m3 m4 m5 mr mf n1 n2 n3 n4 n5 nr nf E)))) (fun z => ⟨z, rfl⟩)))
  have h1 : sX4_askBody_0 [.ref 42, iv (2), iv (i), iv (0)] (cW ki ln bt rl cp cs ct cv 5 14 ja ea ma a1 a2 a3 a4 a5 a6 a7 a8 jb eb mb b1 b2 b3 b4 b5 b6 b7 b8 re fl g1 g2 g3 g4 g5 (dW rt la rs rg pd du ds me tt gr su gp mk rf m1 m2 m3 m4 m5 mr mf n1 n2 n3 n4 n5 nr nf E)) = some r := h1
  exact ⟨z, by rw [h1, h2]⟩
theorem c_body0_0_3 (hE : E.length = 11) (hi : 0 ≤ i ∧ i ≤ 15) (hAs : ARs a4 a5 a6 a7) : ∃ z : Int, sX4_askBody_0 [.ref 42, iv (3), iv (i), iv (0)] (cW ki ln bt rl cp cs ct cv 5 14 ja ea ma a1 a2 a3 a4 a5 a6 a7 a8 jb eb mb b1 b2 b3 b4 b5 b6 b7 b8 re fl g1 g2 g3 g4 g5 (dW rt la rs rg pd du ds me tt gr su gp mk rf m1 m2 m3 m4 m5 mr mf n1 n2 n3 n4 n5 nr nf E)) = some (some (iv z), (cW ki ln bt rl cp cs ct cv 5 14 ja ea ma a1 a2 a3 a4 a5 a6 a7 a8 jb eb mb b1 b2 b3 b4 b5 b6 b7 b8 re fl g1 g2 g3 g4 g5 (dW rt la rs rg pd du ds me tt gr su gp ((mk + (Int32.ofInt (mm_mrk (Int.toNat 3)).toInt).toInt64) + (Int32.ofInt (mm_mrk (Int.toNat 0)).toInt).toInt64) rf m1 m2 m3 m4 m5 mr mf n1 n2 n3 n4 n5 nr nf E))) := by
  have main : ∀ Q : mm_R → Prop, (∀ z : Int, Q (some (iv z), (cW ki ln bt rl cp cs ct cv 5 14 ja ea ma a1 a2 a3 a4 a5 a6 a7 a8 jb eb mb b1 b2 b3 b4 b5 b6 b7 b8 re fl g1 g2 g3 g4 g5 (dW rt la rs rg pd du ds me tt gr su gp ((mk + (Int32.ofInt (mm_mrk (Int.toNat 3)).toInt).toInt64) + (Int32.ofInt (mm_mrk (Int.toNat 0)).toInt).toInt64) rf m1 m2 m3 m4 m5 mr mf n1 n2 n3 n4 n5 nr nf E)))) → rn_X4_askBody_0 300 (0, [(0, .ref 42), (1, iv (3)), (2, iv (i)), (3, iv (0))], [], (cW ki ln bt rl cp cs ct cv 5 14 ja ea ma a1 a2 a3 a4 a5 a6 a7 a8 jb eb mb b1 b2 b3 b4 b5 b6 b7 b8 re fl g1 g2 g3 g4 g5 (dW rt la rs rg pd du ds me tt gr su gp mk rf m1 m2 m3 m4 m5 mr mf n1 n2 n3 n4 n5 nr nf E))) Q := by
    intro Q hQ
    refine r_il rfl rfl ?_
    refine r_s1s rfl rfl rfl (c_isKind (by decide)) ?_
    refine r_zeq rfl rfl (bi_r _) (fun u1 => ?_) (fun u1 => ?_)
    · exact absurd u1 (by decide)
    · refine r_il rfl rfl ?_
      refine r_ic rfl ?_
      refine r_cle rfl rfl (by decide) (by decide) (fun u2 => ?_) (fun u2 => ?_)
      · refine r_al rfl rfl ?_
        refine r_dup rfl rfl ?_
        refine r_gf rfl rfl xg_42 rfl ?_
        refine r_gs rfl rfl ?_
        refine r_il rfl rfl ?_
        refine r_iao rfl (xout hE (by decide)) rfl (by decide) (by decide) (by decide) ?_
        refine r_i2l rfl ?_
        refine r_ladd rfl ?_
        refine r_pfl rfl rfl xg_42 rfl xp_mk ?_
        refine r_al rfl rfl ?_
        refine r_gs rfl rfl ?_
        refine r_il rfl rfl ?_
        refine r_iao rfl (xout hE (by decide)) rfl (by decide) (by decide) (by decide) ?_
        obtain ⟨y, hy⟩ := c_body0_1_0 (mk := (mk + (Int32.ofInt (mm_mrk (Int.toNat 3)).toInt).toInt64)) (E := E) (i := i) (ki := ki) (ln := ln) (bt := bt) (rl := rl) (cp := cp) (cs := cs) (ct := ct) (cv := cv) (ja := ja) (ea := ea) (ma := ma) (a1 := a1) (a2 := a2) (a3 := a3) (a4 := a4) (a5 := a5) (a6 := a6) (a7 := a7) (a8 := a8) (jb := jb) (eb := eb) (mb := mb) (b1 := b1) (b2 := b2) (b3 := b3) (b4 := b4) (b5 := b5) (b6 := b6) (b7 := b7) (b8 := b8) (re := re) (fl := fl) (g1 := g1) (g2 := g2) (g3 := g3) (g4 := g4) (g5 := g5) (rt := rt) (la := la) (rs := rs) (rg := rg) (pd := pd) (du := du) (ds := ds) (me := me) (tt := tt) (gr := gr) (su := su) (gp := gp) (rf := rf) (m1 := m1) (m2 := m2) (m3 := m3) (m4 := m4) (m5 := m5) (mr := mr) (mf := mf) (n1 := n1) (n2 := n2) (n3 := n3) (n4 := n4) (n5 := n5) (nr := nr) (nf := nf) hE hi hAs
        refine r_il rfl rfl ?_
        refine r_il rfl rfl ?_
        refine r_ic rfl ?_
        refine r_add rfl ?_
        refine r_v4s rfl rfl xg_42 rfl hy ?_
        refine r_isw (lv' := [(4, _), (0, _), (1, _), (2, _), (3, _)]) rfl rfl rfl ?_
        refine r_il rfl rfl ?_
        refine r_ts (off := 78) rfl (by decide) rfl rfl ?_
        refine r_ilw rfl rfl ?_
        refine r_ic rfl ?_
        obtain ⟨z, hz⟩ := c_floorDiv3 (a := y) (mw := (cW ki ln bt rl cp cs ct cv 5 14 ja ea ma a1 a2 a3 a4 a5 a6 a7 a8 jb eb mb b1 b2 b3 b4 b5 b6 b7 b8 re fl g1 g2 g3 g4 g5 (dW rt la rs rg pd du ds me tt gr su gp ((mk + (Int32.ofInt (mm_mrk (Int.toNat 3)).toInt).toInt64) + (Int32.ofInt (mm_mrk (Int.toNat 0)).toInt).toInt64) rf m1 m2 m3 m4 m5 mr mf n1 n2 n3 n4 n5 nr nf E)))
        refine r_s2s rfl rfl rfl hz ?_
        exact r_ret rfl rfl (hQ _)
      · exact absurd u2 (by decide)
  obtain ⟨r, h1, z, h2⟩ := rn_S (vs := [.ref 42, iv (3), iv (i), iv (0)]) (Q := fun r => ∃ z : Int, r = (some (iv z), (cW ki ln bt rl cp cs ct cv 5 14 ja ea ma a1 a2 a3 a4 a5 a6 a7 a8 jb eb mb b1 b2 b3 b4 b5 b6 b7 b8 re fl g1 g2 g3 g4 g5 (dW rt la rs rg pd du ds me tt gr su gp ((mk + (Int32.ofInt (mm_mrk (Int.toNat 3)).toInt).toInt64) + (Int32.ofInt (mm_mrk (Int.toNat 0)).toInt).toInt64) rf m1 m2 m3 m4 m5 mr mf n1 n2 n3 n4 n5 nr nf E)))) rfl (rn_up (N := 300) (M := mm_fuel) (by decide) (main (fun r => ∃ z : Int, r = (some (iv z), (cW ki ln bt rl cp cs ct cv 5 14 ja ea ma a1 a2 a3 a4 a5 a6 a7 a8 jb eb mb b1 b2 b3 b4 b5 b6 b7 b8 re fl g1 g2 g3 g4 g5 (dW rt la rs rg pd du ds me tt gr su gp ((mk + (Int32.ofInt (mm_mrk (Int.toNat 3)).toInt).toInt64) + (Int32.ofInt (mm_mrk (Int.toNat 0)).toInt).toInt64) rf m1 m2 m3 m4 m5 mr mf n1 n2 n3 n4 n5 nr nf E)))) (fun z => ⟨z, rfl⟩)))
  have h1 : sX4_askBody_0 [.ref 42, iv (3), iv (i), iv (0)] (cW ki ln bt rl cp cs ct cv 5 14 ja ea ma a1 a2 a3 a4 a5 a6 a7 a8 jb eb mb b1 b2 b3 b4 b5 b6 b7 b8 re fl g1 g2 g3 g4 g5 (dW rt la rs rg pd du ds me tt gr su gp mk rf m1 m2 m3 m4 m5 mr mf n1 n2 n3 n4 n5 nr nf E)) = some r := h1
  exact ⟨z, by rw [h1, h2]⟩
theorem c_body0_0_4 (hE : E.length = 11) (hi : 0 ≤ i ∧ i ≤ 15) (hAs : ARs a4 a5 a6 a7) : ∃ z : Int, sX4_askBody_0 [.ref 42, iv (4), iv (i), iv (0)] (cW ki ln bt rl cp cs ct cv 5 14 ja ea ma a1 a2 a3 a4 a5 a6 a7 a8 jb eb mb b1 b2 b3 b4 b5 b6 b7 b8 re fl g1 g2 g3 g4 g5 (dW rt la rs rg pd du ds me tt gr su gp mk rf m1 m2 m3 m4 m5 mr mf n1 n2 n3 n4 n5 nr nf E)) = some (some (iv z), (cW ki ln bt rl cp cs ct cv 5 14 ja ea ma a1 a2 a3 a4 a5 a6 a7 a8 jb eb mb b1 b2 b3 b4 b5 b6 b7 b8 re fl g1 g2 g3 g4 g5 (dW rt la rs rg pd du ds me tt gr su gp (((mk + (Int32.ofInt (mm_mrk (Int.toNat 4)).toInt).toInt64) + (Int32.ofInt (mm_mrk (Int.toNat 3)).toInt).toInt64) + (Int32.ofInt (mm_mrk (Int.toNat 0)).toInt).toInt64) rf m1 m2 m3 m4 m5 mr mf n1 n2 n3 n4 n5 nr nf E))) := by
  have main : ∀ Q : mm_R → Prop, (∀ z : Int, Q (some (iv z), (cW ki ln bt rl cp cs ct cv 5 14 ja ea ma a1 a2 a3 a4 a5 a6 a7 a8 jb eb mb b1 b2 b3 b4 b5 b6 b7 b8 re fl g1 g2 g3 g4 g5 (dW rt la rs rg pd du ds me tt gr su gp (((mk + (Int32.ofInt (mm_mrk (Int.toNat 4)).toInt).toInt64) + (Int32.ofInt (mm_mrk (Int.toNat 3)).toInt).toInt64) + (Int32.ofInt (mm_mrk (Int.toNat 0)).toInt).toInt64) rf m1 m2 m3 m4 m5 mr mf n1 n2 n3 n4 n5 nr nf E)))) → rn_X4_askBody_0 300 (0, [(0, .ref 42), (1, iv (4)), (2, iv (i)), (3, iv (0))], [], (cW ki ln bt rl cp cs ct cv 5 14 ja ea ma a1 a2 a3 a4 a5 a6 a7 a8 jb eb mb b1 b2 b3 b4 b5 b6 b7 b8 re fl g1 g2 g3 g4 g5 (dW rt la rs rg pd du ds me tt gr su gp mk rf m1 m2 m3 m4 m5 mr mf n1 n2 n3 n4 n5 nr nf E))) Q := by
    intro Q hQ
    refine r_il rfl rfl ?_
    refine r_s1s rfl rfl rfl (c_isKind (by decide)) ?_
    refine r_zeq rfl rfl (bi_r _) (fun u1 => ?_) (fun u1 => ?_)
    · exact absurd u1 (by decide)
    · refine r_il rfl rfl ?_
      refine r_ic rfl ?_
      refine r_cle rfl rfl (by decide) (by decide) (fun u2 => ?_) (fun u2 => ?_)
      · refine r_al rfl rfl ?_
        refine r_dup rfl rfl ?_
        refine r_gf rfl rfl xg_42 rfl ?_
        refine r_gs rfl rfl ?_
        refine r_il rfl rfl ?_
        refine r_iao rfl (xout hE (by decide)) rfl (by decide) (by decide) (by decide) ?_
        refine r_i2l rfl ?_
        refine r_ladd rfl ?_
        refine r_pfl rfl rfl xg_42 rfl xp_mk ?_
        refine r_al rfl rfl ?_
        refine r_gs rfl rfl ?_
        refine r_il rfl rfl ?_
        refine r_iao rfl (xout hE (by decide)) rfl (by decide) (by decide) (by decide) ?_
        obtain ⟨y, hy⟩ := c_body0_1_3 (mk := (mk + (Int32.ofInt (mm_mrk (Int.toNat 4)).toInt).toInt64)) (E := E) (i := i) (ki := ki) (ln := ln) (bt := bt) (rl := rl) (cp := cp) (cs := cs) (ct := ct) (cv := cv) (ja := ja) (ea := ea) (ma := ma) (a1 := a1) (a2 := a2) (a3 := a3) (a4 := a4) (a5 := a5) (a6 := a6) (a7 := a7) (a8 := a8) (jb := jb) (eb := eb) (mb := mb) (b1 := b1) (b2 := b2) (b3 := b3) (b4 := b4) (b5 := b5) (b6 := b6) (b7 := b7) (b8 := b8) (re := re) (fl := fl) (g1 := g1) (g2 := g2) (g3 := g3) (g4 := g4) (g5 := g5) (rt := rt) (la := la) (rs := rs) (rg := rg) (pd := pd) (du := du) (ds := ds) (me := me) (tt := tt) (gr := gr) (su := su) (gp := gp) (rf := rf) (m1 := m1) (m2 := m2) (m3 := m3) (m4 := m4) (m5 := m5) (mr := mr) (mf := mf) (n1 := n1) (n2 := n2) (n3 := n3) (n4 := n4) (n5 := n5) (nr := nr) (nf := nf) hE hi hAs
        refine r_il rfl rfl ?_
        refine r_il rfl rfl ?_
        refine r_ic rfl ?_
        refine r_add rfl ?_
        refine r_v4s rfl rfl xg_42 rfl hy ?_
        refine r_isw (lv' := [(4, _), (0, _), (1, _), (2, _), (3, _)]) rfl rfl rfl ?_
        refine r_il rfl rfl ?_
        refine r_ts (off := 85) rfl (by decide) rfl rfl ?_
        refine r_ilw rfl rfl ?_
        refine r_ic rfl ?_
        refine r_add rfl ?_
        exact r_ret rfl rfl (hQ _)
      · exact absurd u2 (by decide)
  obtain ⟨r, h1, z, h2⟩ := rn_S (vs := [.ref 42, iv (4), iv (i), iv (0)]) (Q := fun r => ∃ z : Int, r = (some (iv z), (cW ki ln bt rl cp cs ct cv 5 14 ja ea ma a1 a2 a3 a4 a5 a6 a7 a8 jb eb mb b1 b2 b3 b4 b5 b6 b7 b8 re fl g1 g2 g3 g4 g5 (dW rt la rs rg pd du ds me tt gr su gp (((mk + (Int32.ofInt (mm_mrk (Int.toNat 4)).toInt).toInt64) + (Int32.ofInt (mm_mrk (Int.toNat 3)).toInt).toInt64) + (Int32.ofInt (mm_mrk (Int.toNat 0)).toInt).toInt64) rf m1 m2 m3 m4 m5 mr mf n1 n2 n3 n4 n5 nr nf E)))) rfl (rn_up (N := 300) (M := mm_fuel) (by decide) (main (fun r => ∃ z : Int, r = (some (iv z), (cW ki ln bt rl cp cs ct cv 5 14 ja ea ma a1 a2 a3 a4 a5 a6 a7 a8 jb eb mb b1 b2 b3 b4 b5 b6 b7 b8 re fl g1 g2 g3 g4 g5 (dW rt la rs rg pd du ds me tt gr su gp (((mk + (Int32.ofInt (mm_mrk (Int.toNat 4)).toInt).toInt64) + (Int32.ofInt (mm_mrk (Int.toNat 3)).toInt).toInt64) + (Int32.ofInt (mm_mrk (Int.toNat 0)).toInt).toInt64) rf m1 m2 m3 m4 m5 mr mf n1 n2 n3 n4 n5 nr nf E)))) (fun z => ⟨z, rfl⟩)))
  have h1 : sX4_askBody_0 [.ref 42, iv (4), iv (i), iv (0)] (cW ki ln bt rl cp cs ct cv 5 14 ja ea ma a1 a2 a3 a4 a5 a6 a7 a8 jb eb mb b1 b2 b3 b4 b5 b6 b7 b8 re fl g1 g2 g3 g4 g5 (dW rt la rs rg pd du ds me tt gr su gp mk rf m1 m2 m3 m4 m5 mr mf n1 n2 n3 n4 n5 nr nf E)) = some r := h1
  exact ⟨z, by rw [h1, h2]⟩
theorem c_body0_0_5 (hE : E.length = 11) (hi : 0 ≤ i ∧ i ≤ 15) (hAs : ARs a4 a5 a6 a7) : ∃ z : Int, sX4_askBody_0 [.ref 42, iv (5), iv (i), iv (0)] (cW ki ln bt rl cp cs ct cv 5 14 ja ea ma a1 a2 a3 a4 a5 a6 a7 a8 jb eb mb b1 b2 b3 b4 b5 b6 b7 b8 re fl g1 g2 g3 g4 g5 (dW rt la rs rg pd du ds me tt gr su gp mk rf m1 m2 m3 m4 m5 mr mf n1 n2 n3 n4 n5 nr nf E)) = some (some (iv z), (cW ki ln bt rl cp cs ct cv 5 14 ja ea ma a1 a2 a3 a4 a5 a6 a7 a8 jb eb mb b1 b2 b3 b4 b5 b6 b7 b8 re fl g1 g2 g3 g4 g5 (dW rt la rs rg pd du ds me tt gr su gp ((mk + (Int32.ofInt (mm_mrk (Int.toNat 5)).toInt).toInt64) + (Int32.ofInt (mm_mrk (Int.toNat 0)).toInt).toInt64) rf m1 m2 m3 m4 m5 mr mf n1 n2 n3 n4 n5 nr nf E))) := by
  have main : ∀ Q : mm_R → Prop, (∀ z : Int, Q (some (iv z), (cW ki ln bt rl cp cs ct cv 5 14 ja ea ma a1 a2 a3 a4 a5 a6 a7 a8 jb eb mb b1 b2 b3 b4 b5 b6 b7 b8 re fl g1 g2 g3 g4 g5 (dW rt la rs rg pd du ds me tt gr su gp ((mk + (Int32.ofInt (mm_mrk (Int.toNat 5)).toInt).toInt64) + (Int32.ofInt (mm_mrk (Int.toNat 0)).toInt).toInt64) rf m1 m2 m3 m4 m5 mr mf n1 n2 n3 n4 n5 nr nf E)))) → rn_X4_askBody_0 300 (0, [(0, .ref 42), (1, iv (5)), (2, iv (i)), (3, iv (0))], [], (cW ki ln bt rl cp cs ct cv 5 14 ja ea ma a1 a2 a3 a4 a5 a6 a7 a8 jb eb mb b1 b2 b3 b4 b5 b6 b7 b8 re fl g1 g2 g3 g4 g5 (dW rt la rs rg pd du ds me tt gr su gp mk rf m1 m2 m3 m4 m5 mr mf n1 n2 n3 n4 n5 nr nf E))) Q := by
    intro Q hQ
    refine r_il rfl rfl ?_
    refine r_s1s rfl rfl rfl (c_isKind (by decide)) ?_
    refine r_zeq rfl rfl (bi_r _) (fun u1 => ?_) (fun u1 => ?_)
    · exact absurd u1 (by decide)
    · refine r_il rfl rfl ?_
      refine r_ic rfl ?_
      refine r_cle rfl rfl (by decide) (by decide) (fun u2 => ?_) (fun u2 => ?_)
      · refine r_al rfl rfl ?_
        refine r_dup rfl rfl ?_
        refine r_gf rfl rfl xg_42 rfl ?_
        refine r_gs rfl rfl ?_
        refine r_il rfl rfl ?_
        refine r_iao rfl (xout hE (by decide)) rfl (by decide) (by decide) (by decide) ?_
        refine r_i2l rfl ?_
        refine r_ladd rfl ?_
        refine r_pfl rfl rfl xg_42 rfl xp_mk ?_
        refine r_al rfl rfl ?_
        refine r_gs rfl rfl ?_
        refine r_il rfl rfl ?_
        refine r_iao rfl (xout hE (by decide)) rfl (by decide) (by decide) (by decide) ?_
        obtain ⟨y, hy⟩ := c_body0_1_0 (mk := (mk + (Int32.ofInt (mm_mrk (Int.toNat 5)).toInt).toInt64)) (E := E) (i := i) (ki := ki) (ln := ln) (bt := bt) (rl := rl) (cp := cp) (cs := cs) (ct := ct) (cv := cv) (ja := ja) (ea := ea) (ma := ma) (a1 := a1) (a2 := a2) (a3 := a3) (a4 := a4) (a5 := a5) (a6 := a6) (a7 := a7) (a8 := a8) (jb := jb) (eb := eb) (mb := mb) (b1 := b1) (b2 := b2) (b3 := b3) (b4 := b4) (b5 := b5) (b6 := b6) (b7 := b7) (b8 := b8) (re := re) (fl := fl) (g1 := g1) (g2 := g2) (g3 := g3) (g4 := g4) (g5 := g5) (rt := rt) (la := la) (rs := rs) (rg := rg) (pd := pd) (du := du) (ds := ds) (me := me) (tt := tt) (gr := gr) (su := su) (gp := gp) (rf := rf) (m1 := m1) (m2 := m2) (m3 := m3) (m4 := m4) (m5 := m5) (mr := mr) (mf := mf) (n1 := n1) (n2 := n2) (n3 := n3) (n4 := n4) (n5 := n5) (nr := nr) (nf := nf) hE hi hAs
        refine r_il rfl rfl ?_
        refine r_il rfl rfl ?_
        refine r_ic rfl ?_
        refine r_add rfl ?_
        refine r_v4s rfl rfl xg_42 rfl hy ?_
        refine r_isw (lv' := [(4, _), (0, _), (1, _), (2, _), (3, _)]) rfl rfl rfl ?_
        refine r_il rfl rfl ?_
        refine r_ts (off := 90) rfl (by decide) rfl rfl ?_
        have hs := (hAs (Int.toNat i) (by omega)).1
        unfold i7 at hs
        refine r_ilw rfl rfl ?_
        refine r_al rfl rfl ?_
        refine r_gf rfl rfl xg_42 rfl ?_
        refine r_gf rfl rfl xg_4 rfl ?_
        refine r_gf rfl rfl xg_23 rfl ?_
        refine r_al rfl rfl ?_
        refine r_gf rfl rfl xg_42 rfl ?_
        refine r_gf rfl rfl xg_4 rfl ?_
        refine r_gf rfl rfl xg_5 rfl ?_
        refine r_il rfl rfl ?_
        refine r_ia rfl xg_9 (by omega) (by omega) (by decide) ?_
        refine r_ia rfl xg_28 (by omega) (by omega) (by decide) ?_
        refine r_bi rfl (by decide) ?_
        refine r_odiv rfl (by decide) ?_
        refine r_add rfl ?_
        exact r_ret rfl rfl (hQ _)
      · exact absurd u2 (by decide)
  obtain ⟨r, h1, z, h2⟩ := rn_S (vs := [.ref 42, iv (5), iv (i), iv (0)]) (Q := fun r => ∃ z : Int, r = (some (iv z), (cW ki ln bt rl cp cs ct cv 5 14 ja ea ma a1 a2 a3 a4 a5 a6 a7 a8 jb eb mb b1 b2 b3 b4 b5 b6 b7 b8 re fl g1 g2 g3 g4 g5 (dW rt la rs rg pd du ds me tt gr su gp ((mk + (Int32.ofInt (mm_mrk (Int.toNat 5)).toInt).toInt64) + (Int32.ofInt (mm_mrk (Int.toNat 0)).toInt).toInt64) rf m1 m2 m3 m4 m5 mr mf n1 n2 n3 n4 n5 nr nf E)))) rfl (rn_up (N := 300) (M := mm_fuel) (by decide) (main (fun r => ∃ z : Int, r = (some (iv z), (cW ki ln bt rl cp cs ct cv 5 14 ja ea ma a1 a2 a3 a4 a5 a6 a7 a8 jb eb mb b1 b2 b3 b4 b5 b6 b7 b8 re fl g1 g2 g3 g4 g5 (dW rt la rs rg pd du ds me tt gr su gp ((mk + (Int32.ofInt (mm_mrk (Int.toNat 5)).toInt).toInt64) + (Int32.ofInt (mm_mrk (Int.toNat 0)).toInt).toInt64) rf m1 m2 m3 m4 m5 mr mf n1 n2 n3 n4 n5 nr nf E)))) (fun z => ⟨z, rfl⟩)))
  have h1 : sX4_askBody_0 [.ref 42, iv (5), iv (i), iv (0)] (cW ki ln bt rl cp cs ct cv 5 14 ja ea ma a1 a2 a3 a4 a5 a6 a7 a8 jb eb mb b1 b2 b3 b4 b5 b6 b7 b8 re fl g1 g2 g3 g4 g5 (dW rt la rs rg pd du ds me tt gr su gp mk rf m1 m2 m3 m4 m5 mr mf n1 n2 n3 n4 n5 nr nf E)) = some r := h1
  exact ⟨z, by rw [h1, h2]⟩
theorem c_body0_0_6 (hE : E.length = 11) (hi : 0 ≤ i ∧ i ≤ 15) (hAs : ARs a4 a5 a6 a7) : ∃ z : Int, sX4_askBody_0 [.ref 42, iv (6), iv (i), iv (0)] (cW ki ln bt rl cp cs ct cv 5 14 ja ea ma a1 a2 a3 a4 a5 a6 a7 a8 jb eb mb b1 b2 b3 b4 b5 b6 b7 b8 re fl g1 g2 g3 g4 g5 (dW rt la rs rg pd du ds me tt gr su gp mk rf m1 m2 m3 m4 m5 mr mf n1 n2 n3 n4 n5 nr nf E)) = some (some (iv z), (cW ki ln bt rl cp cs ct cv 5 14 ja ea ma a1 a2 a3 a4 a5 a6 a7 a8 jb eb mb b1 b2 b3 b4 b5 b6 b7 b8 re fl g1 g2 g3 g4 g5 (dW rt la rs rg pd du ds me tt gr su gp (((mk + (Int32.ofInt (mm_mrk (Int.toNat 6)).toInt).toInt64) + (Int32.ofInt (mm_mrk (Int.toNat 5)).toInt).toInt64) + (Int32.ofInt (mm_mrk (Int.toNat 0)).toInt).toInt64) rf m1 m2 m3 m4 m5 mr mf n1 n2 n3 n4 n5 nr nf E))) := by
  have main : ∀ Q : mm_R → Prop, (∀ z : Int, Q (some (iv z), (cW ki ln bt rl cp cs ct cv 5 14 ja ea ma a1 a2 a3 a4 a5 a6 a7 a8 jb eb mb b1 b2 b3 b4 b5 b6 b7 b8 re fl g1 g2 g3 g4 g5 (dW rt la rs rg pd du ds me tt gr su gp (((mk + (Int32.ofInt (mm_mrk (Int.toNat 6)).toInt).toInt64) + (Int32.ofInt (mm_mrk (Int.toNat 5)).toInt).toInt64) + (Int32.ofInt (mm_mrk (Int.toNat 0)).toInt).toInt64) rf m1 m2 m3 m4 m5 mr mf n1 n2 n3 n4 n5 nr nf E)))) → rn_X4_askBody_0 300 (0, [(0, .ref 42), (1, iv (6)), (2, iv (i)), (3, iv (0))], [], (cW ki ln bt rl cp cs ct cv 5 14 ja ea ma a1 a2 a3 a4 a5 a6 a7 a8 jb eb mb b1 b2 b3 b4 b5 b6 b7 b8 re fl g1 g2 g3 g4 g5 (dW rt la rs rg pd du ds me tt gr su gp mk rf m1 m2 m3 m4 m5 mr mf n1 n2 n3 n4 n5 nr nf E))) Q := by
    intro Q hQ
    refine r_il rfl rfl ?_
    refine r_s1s rfl rfl rfl (c_isKind (by decide)) ?_
    refine r_zeq rfl rfl (bi_r _) (fun u1 => ?_) (fun u1 => ?_)
    · exact absurd u1 (by decide)
    · refine r_il rfl rfl ?_
      refine r_ic rfl ?_
      refine r_cle rfl rfl (by decide) (by decide) (fun u2 => ?_) (fun u2 => ?_)
      · refine r_al rfl rfl ?_
        refine r_dup rfl rfl ?_
        refine r_gf rfl rfl xg_42 rfl ?_
        refine r_gs rfl rfl ?_
        refine r_il rfl rfl ?_
        refine r_iao rfl (xout hE (by decide)) rfl (by decide) (by decide) (by decide) ?_
        refine r_i2l rfl ?_
        refine r_ladd rfl ?_
        refine r_pfl rfl rfl xg_42 rfl xp_mk ?_
        refine r_al rfl rfl ?_
        refine r_gs rfl rfl ?_
        refine r_il rfl rfl ?_
        refine r_iao rfl (xout hE (by decide)) rfl (by decide) (by decide) (by decide) ?_
        obtain ⟨y, hy⟩ := c_body0_1_5 (mk := (mk + (Int32.ofInt (mm_mrk (Int.toNat 6)).toInt).toInt64)) (E := E) (i := i) (ki := ki) (ln := ln) (bt := bt) (rl := rl) (cp := cp) (cs := cs) (ct := ct) (cv := cv) (ja := ja) (ea := ea) (ma := ma) (a1 := a1) (a2 := a2) (a3 := a3) (a4 := a4) (a5 := a5) (a6 := a6) (a7 := a7) (a8 := a8) (jb := jb) (eb := eb) (mb := mb) (b1 := b1) (b2 := b2) (b3 := b3) (b4 := b4) (b5 := b5) (b6 := b6) (b7 := b7) (b8 := b8) (re := re) (fl := fl) (g1 := g1) (g2 := g2) (g3 := g3) (g4 := g4) (g5 := g5) (rt := rt) (la := la) (rs := rs) (rg := rg) (pd := pd) (du := du) (ds := ds) (me := me) (tt := tt) (gr := gr) (su := su) (gp := gp) (rf := rf) (m1 := m1) (m2 := m2) (m3 := m3) (m4 := m4) (m5 := m5) (mr := mr) (mf := mf) (n1 := n1) (n2 := n2) (n3 := n3) (n4 := n4) (n5 := n5) (nr := nr) (nf := nf) hE hi hAs
        refine r_il rfl rfl ?_
        refine r_il rfl rfl ?_
        refine r_ic rfl ?_
        refine r_add rfl ?_
        refine r_v4s rfl rfl xg_42 rfl hy ?_
        refine r_isw (lv' := [(4, _), (0, _), (1, _), (2, _), (3, _)]) rfl rfl rfl ?_
        refine r_il rfl rfl ?_
        refine r_ts (off := 120) rfl (by decide) rfl rfl ?_
        refine r_ic rfl ?_
        refine r_ilw rfl rfl ?_
        refine r_al rfl rfl ?_
        refine r_gf rfl rfl xg_42 rfl ?_
        refine r_il rfl rfl ?_
        refine r_v2s rfl rfl xg_4 rfl (c_leftC0 hi) ?_
        refine r_sub rfl ?_
        obtain ⟨z, hz⟩ := c_maxE (a := 0) (b := (y) - (cL g3 g2 re i)) (mw := (cW ki ln bt rl cp cs ct cv 5 14 ja ea ma a1 a2 a3 a4 a5 a6 a7 a8 jb eb mb b1 b2 b3 b4 b5 b6 b7 b8 re fl g1 g2 g3 g4 g5 (dW rt la rs rg pd du ds me tt gr su gp (((mk + (Int32.ofInt (mm_mrk (Int.toNat 6)).toInt).toInt64) + (Int32.ofInt (mm_mrk (Int.toNat 5)).toInt).toInt64) + (Int32.ofInt (mm_mrk (Int.toNat 0)).toInt).toInt64) rf m1 m2 m3 m4 m5 mr mf n1 n2 n3 n4 n5 nr nf E)))
        refine r_s2s rfl rfl rfl hz ?_
        exact r_ret rfl rfl (hQ _)
      · exact absurd u2 (by decide)
  obtain ⟨r, h1, z, h2⟩ := rn_S (vs := [.ref 42, iv (6), iv (i), iv (0)]) (Q := fun r => ∃ z : Int, r = (some (iv z), (cW ki ln bt rl cp cs ct cv 5 14 ja ea ma a1 a2 a3 a4 a5 a6 a7 a8 jb eb mb b1 b2 b3 b4 b5 b6 b7 b8 re fl g1 g2 g3 g4 g5 (dW rt la rs rg pd du ds me tt gr su gp (((mk + (Int32.ofInt (mm_mrk (Int.toNat 6)).toInt).toInt64) + (Int32.ofInt (mm_mrk (Int.toNat 5)).toInt).toInt64) + (Int32.ofInt (mm_mrk (Int.toNat 0)).toInt).toInt64) rf m1 m2 m3 m4 m5 mr mf n1 n2 n3 n4 n5 nr nf E)))) rfl (rn_up (N := 300) (M := mm_fuel) (by decide) (main (fun r => ∃ z : Int, r = (some (iv z), (cW ki ln bt rl cp cs ct cv 5 14 ja ea ma a1 a2 a3 a4 a5 a6 a7 a8 jb eb mb b1 b2 b3 b4 b5 b6 b7 b8 re fl g1 g2 g3 g4 g5 (dW rt la rs rg pd du ds me tt gr su gp (((mk + (Int32.ofInt (mm_mrk (Int.toNat 6)).toInt).toInt64) + (Int32.ofInt (mm_mrk (Int.toNat 5)).toInt).toInt64) + (Int32.ofInt (mm_mrk (Int.toNat 0)).toInt).toInt64) rf m1 m2 m3 m4 m5 mr mf n1 n2 n3 n4 n5 nr nf E)))) (fun z => ⟨z, rfl⟩)))
  have h1 : sX4_askBody_0 [.ref 42, iv (6), iv (i), iv (0)] (cW ki ln bt rl cp cs ct cv 5 14 ja ea ma a1 a2 a3 a4 a5 a6 a7 a8 jb eb mb b1 b2 b3 b4 b5 b6 b7 b8 re fl g1 g2 g3 g4 g5 (dW rt la rs rg pd du ds me tt gr su gp mk rf m1 m2 m3 m4 m5 mr mf n1 n2 n3 n4 n5 nr nf E)) = some r := h1
  exact ⟨z, by rw [h1, h2]⟩
theorem c_body1_3_n (hE : E.length = 11) (hi : 0 ≤ i ∧ i ≤ 15) (hAs : ARs b4 b5 b6 b7) : ∃ z : Int, sX4_askBody_3 [.ref 42, iv ((-1)), iv (i), iv (3)] (cW ki ln bt rl cp cs ct cv 14 5 ja ea ma a1 a2 a3 a4 a5 a6 a7 a8 jb eb mb b1 b2 b3 b4 b5 b6 b7 b8 re fl g1 g2 g3 g4 g5 (dW rt la rs rg pd du ds me tt gr su gp mk rf m1 m2 m3 m4 m5 mr mf n1 n2 n3 n4 n5 nr nf E)) = some (some (iv z), (cW ki ln bt rl cp cs ct cv 14 5 ja ea ma a1 a2 a3 a4 a5 a6 a7 a8 jb eb mb b1 b2 b3 b4 b5 b6 b7 b8 re fl g1 g2 g3 g4 g5 (dW rt la rs rg pd du ds me tt gr su gp mk rf m1 m2 m3 m4 m5 mr mf n1 n2 n3 n4 n5 nr nf E))) := by
  have main : ∀ Q : mm_R → Prop, (∀ z : Int, Q (some (iv z), (cW ki ln bt rl cp cs ct cv 14 5 ja ea ma a1 a2 a3 a4 a5 a6 a7 a8 jb eb mb b1 b2 b3 b4 b5 b6 b7 b8 re fl g1 g2 g3 g4 g5 (dW rt la rs rg pd du ds me tt gr su gp mk rf m1 m2 m3 m4 m5 mr mf n1 n2 n3 n4 n5 nr nf E)))) → rn_X4_askBody_3 300 (0, [(0, .ref 42), (1, iv ((-1))), (2, iv (i)), (3, iv (3))], [], (cW ki ln bt rl cp cs ct cv 14 5 ja ea ma a1 a2 a3 a4 a5 a6 a7 a8 jb eb mb b1 b2 b3 b4 b5 b6 b7 b8 re fl g1 g2 g3 g4 g5 (dW rt la rs rg pd du ds me tt gr su gp mk rf m1 m2 m3 m4 m5 mr mf n1 n2 n3 n4 n5 nr nf E))) Q := by
    intro Q hQ
    refine r_il rfl rfl ?_
    refine r_s1s rfl rfl rfl (c_isKind (by decide)) ?_
    refine r_zeq rfl rfl (bi_r _) (fun u1 => ?_) (fun u1 => ?_)
    · refine r_ic rfl ?_
      exact r_ret rfl rfl (hQ _)
    · exact absurd rfl u1
  obtain ⟨r, h1, z, h2⟩ := rn_S (vs := [.ref 42, iv ((-1)), iv (i), iv (3)]) (Q := fun r => ∃ z : Int, r = (some (iv z), (cW ki ln bt rl cp cs ct cv 14 5 ja ea ma a1 a2 a3 a4 a5 a6 a7 a8 jb eb mb b1 b2 b3 b4 b5 b6 b7 b8 re fl g1 g2 g3 g4 g5 (dW rt la rs rg pd du ds me tt gr su gp mk rf m1 m2 m3 m4 m5 mr mf n1 n2 n3 n4 n5 nr nf E)))) rfl (rn_up (N := 300) (M := mm_fuel) (by decide) (main (fun r => ∃ z : Int, r = (some (iv z), (cW ki ln bt rl cp cs ct cv 14 5 ja ea ma a1 a2 a3 a4 a5 a6 a7 a8 jb eb mb b1 b2 b3 b4 b5 b6 b7 b8 re fl g1 g2 g3 g4 g5 (dW rt la rs rg pd du ds me tt gr su gp mk rf m1 m2 m3 m4 m5 mr mf n1 n2 n3 n4 n5 nr nf E)))) (fun z => ⟨z, rfl⟩)))
  have h1 : sX4_askBody_3 [.ref 42, iv ((-1)), iv (i), iv (3)] (cW ki ln bt rl cp cs ct cv 14 5 ja ea ma a1 a2 a3 a4 a5 a6 a7 a8 jb eb mb b1 b2 b3 b4 b5 b6 b7 b8 re fl g1 g2 g3 g4 g5 (dW rt la rs rg pd du ds me tt gr su gp mk rf m1 m2 m3 m4 m5 mr mf n1 n2 n3 n4 n5 nr nf E)) = some r := h1
  exact ⟨z, by rw [h1, h2]⟩
theorem c_body1_2_n (hE : E.length = 11) (hi : 0 ≤ i ∧ i ≤ 15) (hAs : ARs b4 b5 b6 b7) : ∃ z : Int, sX4_askBody_2 [.ref 42, iv ((-1)), iv (i), iv (2)] (cW ki ln bt rl cp cs ct cv 14 5 ja ea ma a1 a2 a3 a4 a5 a6 a7 a8 jb eb mb b1 b2 b3 b4 b5 b6 b7 b8 re fl g1 g2 g3 g4 g5 (dW rt la rs rg pd du ds me tt gr su gp mk rf m1 m2 m3 m4 m5 mr mf n1 n2 n3 n4 n5 nr nf E)) = some (some (iv z), (cW ki ln bt rl cp cs ct cv 14 5 ja ea ma a1 a2 a3 a4 a5 a6 a7 a8 jb eb mb b1 b2 b3 b4 b5 b6 b7 b8 re fl g1 g2 g3 g4 g5 (dW rt la rs rg pd du ds me tt gr su gp mk rf m1 m2 m3 m4 m5 mr mf n1 n2 n3 n4 n5 nr nf E))) := by
  have main : ∀ Q : mm_R → Prop, (∀ z : Int, Q (some (iv z), (cW ki ln bt rl cp cs ct cv 14 5 ja ea ma a1 a2 a3 a4 a5 a6 a7 a8 jb eb mb b1 b2 b3 b4 b5 b6 b7 b8 re fl g1 g2 g3 g4 g5 (dW rt la rs rg pd du ds me tt gr su gp mk rf m1 m2 m3 m4 m5 mr mf n1 n2 n3 n4 n5 nr nf E)))) → rn_X4_askBody_2 300 (0, [(0, .ref 42), (1, iv ((-1))), (2, iv (i)), (3, iv (2))], [], (cW ki ln bt rl cp cs ct cv 14 5 ja ea ma a1 a2 a3 a4 a5 a6 a7 a8 jb eb mb b1 b2 b3 b4 b5 b6 b7 b8 re fl g1 g2 g3 g4 g5 (dW rt la rs rg pd du ds me tt gr su gp mk rf m1 m2 m3 m4 m5 mr mf n1 n2 n3 n4 n5 nr nf E))) Q := by
    intro Q hQ
    refine r_il rfl rfl ?_
    refine r_s1s rfl rfl rfl (c_isKind (by decide)) ?_
    refine r_zeq rfl rfl (bi_r _) (fun u1 => ?_) (fun u1 => ?_)
    · refine r_ic rfl ?_
      exact r_ret rfl rfl (hQ _)
    · exact absurd rfl u1
  obtain ⟨r, h1, z, h2⟩ := rn_S (vs := [.ref 42, iv ((-1)), iv (i), iv (2)]) (Q := fun r => ∃ z : Int, r = (some (iv z), (cW ki ln bt rl cp cs ct cv 14 5 ja ea ma a1 a2 a3 a4 a5 a6 a7 a8 jb eb mb b1 b2 b3 b4 b5 b6 b7 b8 re fl g1 g2 g3 g4 g5 (dW rt la rs rg pd du ds me tt gr su gp mk rf m1 m2 m3 m4 m5 mr mf n1 n2 n3 n4 n5 nr nf E)))) rfl (rn_up (N := 300) (M := mm_fuel) (by decide) (main (fun r => ∃ z : Int, r = (some (iv z), (cW ki ln bt rl cp cs ct cv 14 5 ja ea ma a1 a2 a3 a4 a5 a6 a7 a8 jb eb mb b1 b2 b3 b4 b5 b6 b7 b8 re fl g1 g2 g3 g4 g5 (dW rt la rs rg pd du ds me tt gr su gp mk rf m1 m2 m3 m4 m5 mr mf n1 n2 n3 n4 n5 nr nf E)))) (fun z => ⟨z, rfl⟩)))
  have h1 : sX4_askBody_2 [.ref 42, iv ((-1)), iv (i), iv (2)] (cW ki ln bt rl cp cs ct cv 14 5 ja ea ma a1 a2 a3 a4 a5 a6 a7 a8 jb eb mb b1 b2 b3 b4 b5 b6 b7 b8 re fl g1 g2 g3 g4 g5 (dW rt la rs rg pd du ds me tt gr su gp mk rf m1 m2 m3 m4 m5 mr mf n1 n2 n3 n4 n5 nr nf E)) = some r := h1
  exact ⟨z, by rw [h1, h2]⟩
theorem c_body1_2_0 (hE : E.length = 11) (hi : 0 ≤ i ∧ i ≤ 15) (hAs : ARs b4 b5 b6 b7) : ∃ z : Int, sX4_askBody_2 [.ref 42, iv (0), iv (i), iv (2)] (cW ki ln bt rl cp cs ct cv 14 5 ja ea ma a1 a2 a3 a4 a5 a6 a7 a8 jb eb mb b1 b2 b3 b4 b5 b6 b7 b8 re fl g1 g2 g3 g4 g5 (dW rt la rs rg pd du ds me tt gr su gp mk rf m1 m2 m3 m4 m5 mr mf n1 n2 n3 n4 n5 nr nf E)) = some (some (iv z), (cW ki ln bt rl cp cs ct cv 14 5 ja ea ma a1 a2 a3 a4 a5 a6 a7 a8 jb eb mb b1 b2 b3 b4 b5 b6 b7 b8 re fl g1 g2 g3 g4 g5 (dW rt la rs rg pd du ds me tt gr su gp (mk + (Int32.ofInt (mm_mrk (Int.toNat 0)).toInt).toInt64) rf m1 m2 m3 m4 m5 mr mf n1 n2 n3 n4 n5 nr nf E))) := by
  have main : ∀ Q : mm_R → Prop, (∀ z : Int, Q (some (iv z), (cW ki ln bt rl cp cs ct cv 14 5 ja ea ma a1 a2 a3 a4 a5 a6 a7 a8 jb eb mb b1 b2 b3 b4 b5 b6 b7 b8 re fl g1 g2 g3 g4 g5 (dW rt la rs rg pd du ds me tt gr su gp (mk + (Int32.ofInt (mm_mrk (Int.toNat 0)).toInt).toInt64) rf m1 m2 m3 m4 m5 mr mf n1 n2 n3 n4 n5 nr nf E)))) → rn_X4_askBody_2 300 (0, [(0, .ref 42), (1, iv (0)), (2, iv (i)), (3, iv (2))], [], (cW ki ln bt rl cp cs ct cv 14 5 ja ea ma a1 a2 a3 a4 a5 a6 a7 a8 jb eb mb b1 b2 b3 b4 b5 b6 b7 b8 re fl g1 g2 g3 g4 g5 (dW rt la rs rg pd du ds me tt gr su gp mk rf m1 m2 m3 m4 m5 mr mf n1 n2 n3 n4 n5 nr nf E))) Q := by
    intro Q hQ
    refine r_il rfl rfl ?_
    refine r_s1s rfl rfl rfl (c_isKind (by decide)) ?_
    refine r_zeq rfl rfl (bi_r _) (fun u1 => ?_) (fun u1 => ?_)
    · exact absurd u1 (by decide)
    · refine r_il rfl rfl ?_
      refine r_ic rfl ?_
      refine r_cle rfl rfl (by decide) (by decide) (fun u2 => ?_) (fun u2 => ?_)
      · refine r_al rfl rfl ?_
        refine r_dup rfl rfl ?_
        refine r_gf rfl rfl xg_42 rfl ?_
        refine r_gs rfl rfl ?_
        refine r_il rfl rfl ?_
        refine r_iao rfl (xout hE (by decide)) rfl (by decide) (by decide) (by decide) ?_
        refine r_i2l rfl ?_
        refine r_ladd rfl ?_
        refine r_pfl rfl rfl xg_42 rfl xp_mk ?_
        refine r_al rfl rfl ?_
        refine r_gs rfl rfl ?_
        refine r_il rfl rfl ?_
        refine r_iao rfl (xout hE (by decide)) rfl (by decide) (by decide) (by decide) ?_
        obtain ⟨y, hy⟩ := c_body1_3_n (mk := (mk + (Int32.ofInt (mm_mrk (Int.toNat 0)).toInt).toInt64)) (E := E) (i := i) (ki := ki) (ln := ln) (bt := bt) (rl := rl) (cp := cp) (cs := cs) (ct := ct) (cv := cv) (ja := ja) (ea := ea) (ma := ma) (a1 := a1) (a2 := a2) (a3 := a3) (a4 := a4) (a5 := a5) (a6 := a6) (a7 := a7) (a8 := a8) (jb := jb) (eb := eb) (mb := mb) (b1 := b1) (b2 := b2) (b3 := b3) (b4 := b4) (b5 := b5) (b6 := b6) (b7 := b7) (b8 := b8) (re := re) (fl := fl) (g1 := g1) (g2 := g2) (g3 := g3) (g4 := g4) (g5 := g5) (rt := rt) (la := la) (rs := rs) (rg := rg) (pd := pd) (du := du) (ds := ds) (me := me) (tt := tt) (gr := gr) (su := su) (gp := gp) (rf := rf) (m1 := m1) (m2 := m2) (m3 := m3) (m4 := m4) (m5 := m5) (mr := mr) (mf := mf) (n1 := n1) (n2 := n2) (n3 := n3) (n4 := n4) (n5 := n5) (nr := nr) (nf := nf) hE hi hAs
        refine r_il rfl rfl ?_
        refine r_il rfl rfl ?_
        refine r_ic rfl ?_
        refine r_add rfl ?_
        refine r_v4s rfl rfl xg_42 rfl hy ?_
        refine r_isw (lv' := [(4, _), (0, _), (1, _), (2, _), (3, _)]) rfl rfl rfl ?_
        refine r_il rfl rfl ?_
        refine r_ts (off := 39) rfl (by decide) rfl rfl ?_
        refine r_al rfl rfl ?_
        refine r_gf rfl rfl xg_42 rfl ?_
        refine r_il rfl rfl ?_
        refine r_v2s rfl rfl xg_4 rfl (c_leftC1 hi) ?_
        exact r_ret rfl rfl (hQ _)
      · exact absurd u2 (by decide)
  obtain ⟨r, h1, z, h2⟩ := rn_S (vs := [.ref 42, iv (0), iv (i), iv (2)]) (Q := fun r => ∃ z : Int, r = (some (iv z), (cW ki ln bt rl cp cs ct cv 14 5 ja ea ma a1 a2 a3 a4 a5 a6 a7 a8 jb eb mb b1 b2 b3 b4 b5 b6 b7 b8 re fl g1 g2 g3 g4 g5 (dW rt la rs rg pd du ds me tt gr su gp (mk + (Int32.ofInt (mm_mrk (Int.toNat 0)).toInt).toInt64) rf m1 m2 m3 m4 m5 mr mf n1 n2 n3 n4 n5 nr nf E)))) rfl (rn_up (N := 300) (M := mm_fuel) (by decide) (main (fun r => ∃ z : Int, r = (some (iv z), (cW ki ln bt rl cp cs ct cv 14 5 ja ea ma a1 a2 a3 a4 a5 a6 a7 a8 jb eb mb b1 b2 b3 b4 b5 b6 b7 b8 re fl g1 g2 g3 g4 g5 (dW rt la rs rg pd du ds me tt gr su gp (mk + (Int32.ofInt (mm_mrk (Int.toNat 0)).toInt).toInt64) rf m1 m2 m3 m4 m5 mr mf n1 n2 n3 n4 n5 nr nf E)))) (fun z => ⟨z, rfl⟩)))
  have h1 : sX4_askBody_2 [.ref 42, iv (0), iv (i), iv (2)] (cW ki ln bt rl cp cs ct cv 14 5 ja ea ma a1 a2 a3 a4 a5 a6 a7 a8 jb eb mb b1 b2 b3 b4 b5 b6 b7 b8 re fl g1 g2 g3 g4 g5 (dW rt la rs rg pd du ds me tt gr su gp mk rf m1 m2 m3 m4 m5 mr mf n1 n2 n3 n4 n5 nr nf E)) = some r := h1
  exact ⟨z, by rw [h1, h2]⟩
theorem c_body1_1_n (hE : E.length = 11) (hi : 0 ≤ i ∧ i ≤ 15) (hAs : ARs b4 b5 b6 b7) : ∃ z : Int, sX4_askBody_1 [.ref 42, iv ((-1)), iv (i), iv (1)] (cW ki ln bt rl cp cs ct cv 14 5 ja ea ma a1 a2 a3 a4 a5 a6 a7 a8 jb eb mb b1 b2 b3 b4 b5 b6 b7 b8 re fl g1 g2 g3 g4 g5 (dW rt la rs rg pd du ds me tt gr su gp mk rf m1 m2 m3 m4 m5 mr mf n1 n2 n3 n4 n5 nr nf E)) = some (some (iv z), (cW ki ln bt rl cp cs ct cv 14 5 ja ea ma a1 a2 a3 a4 a5 a6 a7 a8 jb eb mb b1 b2 b3 b4 b5 b6 b7 b8 re fl g1 g2 g3 g4 g5 (dW rt la rs rg pd du ds me tt gr su gp mk rf m1 m2 m3 m4 m5 mr mf n1 n2 n3 n4 n5 nr nf E))) := by
  have main : ∀ Q : mm_R → Prop, (∀ z : Int, Q (some (iv z), (cW ki ln bt rl cp cs ct cv 14 5 ja ea ma a1 a2 a3 a4 a5 a6 a7 a8 jb eb mb b1 b2 b3 b4 b5 b6 b7 b8 re fl g1 g2 g3 g4 g5 (dW rt la rs rg pd du ds me tt gr su gp mk rf m1 m2 m3 m4 m5 mr mf n1 n2 n3 n4 n5 nr nf E)))) → rn_X4_askBody_1 300 (0, [(0, .ref 42), (1, iv ((-1))), (2, iv (i)), (3, iv (1))], [], (cW ki ln bt rl cp cs ct cv 14 5 ja ea ma a1 a2 a3 a4 a5 a6 a7 a8 jb eb mb b1 b2 b3 b4 b5 b6 b7 b8 re fl g1 g2 g3 g4 g5 (dW rt la rs rg pd du ds me tt gr su gp mk rf m1 m2 m3 m4 m5 mr mf n1 n2 n3 n4 n5 nr nf E))) Q := by
    intro Q hQ
    refine r_il rfl rfl ?_
    refine r_s1s rfl rfl rfl (c_isKind (by decide)) ?_
    refine r_zeq rfl rfl (bi_r _) (fun u1 => ?_) (fun u1 => ?_)
    · refine r_ic rfl ?_
      exact r_ret rfl rfl (hQ _)
    · exact absurd rfl u1
  obtain ⟨r, h1, z, h2⟩ := rn_S (vs := [.ref 42, iv ((-1)), iv (i), iv (1)]) (Q := fun r => ∃ z : Int, r = (some (iv z), (cW ki ln bt rl cp cs ct cv 14 5 ja ea ma a1 a2 a3 a4 a5 a6 a7 a8 jb eb mb b1 b2 b3 b4 b5 b6 b7 b8 re fl g1 g2 g3 g4 g5 (dW rt la rs rg pd du ds me tt gr su gp mk rf m1 m2 m3 m4 m5 mr mf n1 n2 n3 n4 n5 nr nf E)))) rfl (rn_up (N := 300) (M := mm_fuel) (by decide) (main (fun r => ∃ z : Int, r = (some (iv z), (cW ki ln bt rl cp cs ct cv 14 5 ja ea ma a1 a2 a3 a4 a5 a6 a7 a8 jb eb mb b1 b2 b3 b4 b5 b6 b7 b8 re fl g1 g2 g3 g4 g5 (dW rt la rs rg pd du ds me tt gr su gp mk rf m1 m2 m3 m4 m5 mr mf n1 n2 n3 n4 n5 nr nf E)))) (fun z => ⟨z, rfl⟩)))
  have h1 : sX4_askBody_1 [.ref 42, iv ((-1)), iv (i), iv (1)] (cW ki ln bt rl cp cs ct cv 14 5 ja ea ma a1 a2 a3 a4 a5 a6 a7 a8 jb eb mb b1 b2 b3 b4 b5 b6 b7 b8 re fl g1 g2 g3 g4 g5 (dW rt la rs rg pd du ds me tt gr su gp mk rf m1 m2 m3 m4 m5 mr mf n1 n2 n3 n4 n5 nr nf E)) = some r := h1
  exact ⟨z, by rw [h1, h2]⟩
theorem c_body1_1_0 (hE : E.length = 11) (hi : 0 ≤ i ∧ i ≤ 15) (hAs : ARs b4 b5 b6 b7) : ∃ z : Int, sX4_askBody_1 [.ref 42, iv (0), iv (i), iv (1)] (cW ki ln bt rl cp cs ct cv 14 5 ja ea ma a1 a2 a3 a4 a5 a6 a7 a8 jb eb mb b1 b2 b3 b4 b5 b6 b7 b8 re fl g1 g2 g3 g4 g5 (dW rt la rs rg pd du ds me tt gr su gp mk rf m1 m2 m3 m4 m5 mr mf n1 n2 n3 n4 n5 nr nf E)) = some (some (iv z), (cW ki ln bt rl cp cs ct cv 14 5 ja ea ma a1 a2 a3 a4 a5 a6 a7 a8 jb eb mb b1 b2 b3 b4 b5 b6 b7 b8 re fl g1 g2 g3 g4 g5 (dW rt la rs rg pd du ds me tt gr su gp (mk + (Int32.ofInt (mm_mrk (Int.toNat 0)).toInt).toInt64) rf m1 m2 m3 m4 m5 mr mf n1 n2 n3 n4 n5 nr nf E))) := by
  have main : ∀ Q : mm_R → Prop, (∀ z : Int, Q (some (iv z), (cW ki ln bt rl cp cs ct cv 14 5 ja ea ma a1 a2 a3 a4 a5 a6 a7 a8 jb eb mb b1 b2 b3 b4 b5 b6 b7 b8 re fl g1 g2 g3 g4 g5 (dW rt la rs rg pd du ds me tt gr su gp (mk + (Int32.ofInt (mm_mrk (Int.toNat 0)).toInt).toInt64) rf m1 m2 m3 m4 m5 mr mf n1 n2 n3 n4 n5 nr nf E)))) → rn_X4_askBody_1 300 (0, [(0, .ref 42), (1, iv (0)), (2, iv (i)), (3, iv (1))], [], (cW ki ln bt rl cp cs ct cv 14 5 ja ea ma a1 a2 a3 a4 a5 a6 a7 a8 jb eb mb b1 b2 b3 b4 b5 b6 b7 b8 re fl g1 g2 g3 g4 g5 (dW rt la rs rg pd du ds me tt gr su gp mk rf m1 m2 m3 m4 m5 mr mf n1 n2 n3 n4 n5 nr nf E))) Q := by
    intro Q hQ
    refine r_il rfl rfl ?_
    refine r_s1s rfl rfl rfl (c_isKind (by decide)) ?_
    refine r_zeq rfl rfl (bi_r _) (fun u1 => ?_) (fun u1 => ?_)
    · exact absurd u1 (by decide)
    · refine r_il rfl rfl ?_
      refine r_ic rfl ?_
      refine r_cle rfl rfl (by decide) (by decide) (fun u2 => ?_) (fun u2 => ?_)
      · refine r_al rfl rfl ?_
        refine r_dup rfl rfl ?_
        refine r_gf rfl rfl xg_42 rfl ?_
        refine r_gs rfl rfl ?_
        refine r_il rfl rfl ?_
        refine r_iao rfl (xout hE (by decide)) rfl (by decide) (by decide) (by decide) ?_
        refine r_i2l rfl ?_
        refine r_ladd rfl ?_
        refine r_pfl rfl rfl xg_42 rfl xp_mk ?_
        refine r_al rfl rfl ?_
        refine r_gs rfl rfl ?_
        refine r_il rfl rfl ?_
        refine r_iao rfl (xout hE (by decide)) rfl (by decide) (by decide) (by decide) ?_
        obtain ⟨y, hy⟩ := c_body1_2_n (mk := (mk + (Int32.ofInt (mm_mrk (Int.toNat 0)).toInt).toInt64)) (E := E) (i := i) (ki := ki) (ln := ln) (bt := bt) (rl := rl) (cp := cp) (cs := cs) (ct := ct) (cv := cv) (ja := ja) (ea := ea) (ma := ma) (a1 := a1) (a2 := a2) (a3 := a3) (a4 := a4) (a5 := a5) (a6 := a6) (a7 := a7) (a8 := a8) (jb := jb) (eb := eb) (mb := mb) (b1 := b1) (b2 := b2) (b3 := b3) (b4 := b4) (b5 := b5) (b6 := b6) (b7 := b7) (b8 := b8) (re := re) (fl := fl) (g1 := g1) (g2 := g2) (g3 := g3) (g4 := g4) (g5 := g5) (rt := rt) (la := la) (rs := rs) (rg := rg) (pd := pd) (du := du) (ds := ds) (me := me) (tt := tt) (gr := gr) (su := su) (gp := gp) (rf := rf) (m1 := m1) (m2 := m2) (m3 := m3) (m4 := m4) (m5 := m5) (mr := mr) (mf := mf) (n1 := n1) (n2 := n2) (n3 := n3) (n4 := n4) (n5 := n5) (nr := nr) (nf := nf) hE hi hAs
        refine r_il rfl rfl ?_
        refine r_il rfl rfl ?_
        refine r_ic rfl ?_
        refine r_add rfl ?_
        refine r_v4s rfl rfl xg_42 rfl hy ?_
        refine r_isw (lv' := [(4, _), (0, _), (1, _), (2, _), (3, _)]) rfl rfl rfl ?_
        refine r_il rfl rfl ?_
        refine r_ts (off := 39) rfl (by decide) rfl rfl ?_
        refine r_al rfl rfl ?_
        refine r_gf rfl rfl xg_42 rfl ?_
        refine r_il rfl rfl ?_
        refine r_v2s rfl rfl xg_4 rfl (c_leftC1 hi) ?_
        exact r_ret rfl rfl (hQ _)
      · exact absurd u2 (by decide)
  obtain ⟨r, h1, z, h2⟩ := rn_S (vs := [.ref 42, iv (0), iv (i), iv (1)]) (Q := fun r => ∃ z : Int, r = (some (iv z), (cW ki ln bt rl cp cs ct cv 14 5 ja ea ma a1 a2 a3 a4 a5 a6 a7 a8 jb eb mb b1 b2 b3 b4 b5 b6 b7 b8 re fl g1 g2 g3 g4 g5 (dW rt la rs rg pd du ds me tt gr su gp (mk + (Int32.ofInt (mm_mrk (Int.toNat 0)).toInt).toInt64) rf m1 m2 m3 m4 m5 mr mf n1 n2 n3 n4 n5 nr nf E)))) rfl (rn_up (N := 300) (M := mm_fuel) (by decide) (main (fun r => ∃ z : Int, r = (some (iv z), (cW ki ln bt rl cp cs ct cv 14 5 ja ea ma a1 a2 a3 a4 a5 a6 a7 a8 jb eb mb b1 b2 b3 b4 b5 b6 b7 b8 re fl g1 g2 g3 g4 g5 (dW rt la rs rg pd du ds me tt gr su gp (mk + (Int32.ofInt (mm_mrk (Int.toNat 0)).toInt).toInt64) rf m1 m2 m3 m4 m5 mr mf n1 n2 n3 n4 n5 nr nf E)))) (fun z => ⟨z, rfl⟩)))
  have h1 : sX4_askBody_1 [.ref 42, iv (0), iv (i), iv (1)] (cW ki ln bt rl cp cs ct cv 14 5 ja ea ma a1 a2 a3 a4 a5 a6 a7 a8 jb eb mb b1 b2 b3 b4 b5 b6 b7 b8 re fl g1 g2 g3 g4 g5 (dW rt la rs rg pd du ds me tt gr su gp mk rf m1 m2 m3 m4 m5 mr mf n1 n2 n3 n4 n5 nr nf E)) = some r := h1
  exact ⟨z, by rw [h1, h2]⟩
theorem c_body1_1_3 (hE : E.length = 11) (hi : 0 ≤ i ∧ i ≤ 15) (hAs : ARs b4 b5 b6 b7) : ∃ z : Int, sX4_askBody_1 [.ref 42, iv (3), iv (i), iv (1)] (cW ki ln bt rl cp cs ct cv 14 5 ja ea ma a1 a2 a3 a4 a5 a6 a7 a8 jb eb mb b1 b2 b3 b4 b5 b6 b7 b8 re fl g1 g2 g3 g4 g5 (dW rt la rs rg pd du ds me tt gr su gp mk rf m1 m2 m3 m4 m5 mr mf n1 n2 n3 n4 n5 nr nf E)) = some (some (iv z), (cW ki ln bt rl cp cs ct cv 14 5 ja ea ma a1 a2 a3 a4 a5 a6 a7 a8 jb eb mb b1 b2 b3 b4 b5 b6 b7 b8 re fl g1 g2 g3 g4 g5 (dW rt la rs rg pd du ds me tt gr su gp ((mk + (Int32.ofInt (mm_mrk (Int.toNat 3)).toInt).toInt64) + (Int32.ofInt (mm_mrk (Int.toNat 0)).toInt).toInt64) rf m1 m2 m3 m4 m5 mr mf n1 n2 n3 n4 n5 nr nf E))) := by
  have main : ∀ Q : mm_R → Prop, (∀ z : Int, Q (some (iv z), (cW ki ln bt rl cp cs ct cv 14 5 ja ea ma a1 a2 a3 a4 a5 a6 a7 a8 jb eb mb b1 b2 b3 b4 b5 b6 b7 b8 re fl g1 g2 g3 g4 g5 (dW rt la rs rg pd du ds me tt gr su gp ((mk + (Int32.ofInt (mm_mrk (Int.toNat 3)).toInt).toInt64) + (Int32.ofInt (mm_mrk (Int.toNat 0)).toInt).toInt64) rf m1 m2 m3 m4 m5 mr mf n1 n2 n3 n4 n5 nr nf E)))) → rn_X4_askBody_1 300 (0, [(0, .ref 42), (1, iv (3)), (2, iv (i)), (3, iv (1))], [], (cW ki ln bt rl cp cs ct cv 14 5 ja ea ma a1 a2 a3 a4 a5 a6 a7 a8 jb eb mb b1 b2 b3 b4 b5 b6 b7 b8 re fl g1 g2 g3 g4 g5 (dW rt la rs rg pd du ds me tt gr su gp mk rf m1 m2 m3 m4 m5 mr mf n1 n2 n3 n4 n5 nr nf E))) Q := by
    intro Q hQ
    refine r_il rfl rfl ?_
    refine r_s1s rfl rfl rfl (c_isKind (by decide)) ?_
    refine r_zeq rfl rfl (bi_r _) (fun u1 => ?_) (fun u1 => ?_)
    · exact absurd u1 (by decide)
    · refine r_il rfl rfl ?_
      refine r_ic rfl ?_
      refine r_cle rfl rfl (by decide) (by decide) (fun u2 => ?_) (fun u2 => ?_)
      · refine r_al rfl rfl ?_
        refine r_dup rfl rfl ?_
        refine r_gf rfl rfl xg_42 rfl ?_
        refine r_gs rfl rfl ?_
        refine r_il rfl rfl ?_
        refine r_iao rfl (xout hE (by decide)) rfl (by decide) (by decide) (by decide) ?_
        refine r_i2l rfl ?_
        refine r_ladd rfl ?_
        refine r_pfl rfl rfl xg_42 rfl xp_mk ?_
        refine r_al rfl rfl ?_
        refine r_gs rfl rfl ?_
        refine r_il rfl rfl ?_
        refine r_iao rfl (xout hE (by decide)) rfl (by decide) (by decide) (by decide) ?_
        obtain ⟨y, hy⟩ := c_body1_2_0 (mk := (mk + (Int32.ofInt (mm_mrk (Int.toNat 3)).toInt).toInt64)) (E := E) (i := i) (ki := ki) (ln := ln) (bt := bt) (rl := rl) (cp := cp) (cs := cs) (ct := ct) (cv := cv) (ja := ja) (ea := ea) (ma := ma) (a1 := a1) (a2 := a2) (a3 := a3) (a4 := a4) (a5 := a5) (a6 := a6) (a7 := a7) (a8 := a8) (jb := jb) (eb := eb) (mb := mb) (b1 := b1) (b2 := b2) (b3 := b3) (b4 := b4) (b5 := b5) (b6 := b6) (b7 := b7) (b8 := b8) (re := re) (fl := fl) (g1 := g1) (g2 := g2) (g3 := g3) (g4 := g4) (g5 := g5) (rt := rt) (la := la) (rs := rs) (rg := rg) (pd := pd) (du := du) (ds := ds) (me := me) (tt := tt) (gr := gr) (su := su) (gp := gp) (rf := rf) (m1 := m1) (m2 := m2) (m3 := m3) (m4 := m4) (m5 := m5) (mr := mr) (mf := mf) (n1 := n1) (n2 := n2) (n3 := n3) (n4 := n4) (n5 := n5) (nr := nr) (nf := nf) hE hi hAs
        refine r_il rfl rfl ?_
        refine r_il rfl rfl ?_
        refine r_ic rfl ?_
        refine r_add rfl ?_
        refine r_v4s rfl rfl xg_42 rfl hy ?_
        refine r_isw (lv' := [(4, _), (0, _), (1, _), (2, _), (3, _)]) rfl rfl rfl ?_
        refine r_il rfl rfl ?_
        refine r_ts (off := 78) rfl (by decide) rfl rfl ?_
        refine r_ilw rfl rfl ?_
        refine r_ic rfl ?_
        obtain ⟨z, hz⟩ := c_floorDiv3 (a := y) (mw := (cW ki ln bt rl cp cs ct cv 14 5 ja ea ma a1 a2 a3 a4 a5 a6 a7 a8 jb eb mb b1 b2 b3 b4 b5 b6 b7 b8 re fl g1 g2 g3 g4 g5 (dW rt la rs rg pd du ds me tt gr su gp ((mk + (Int32.ofInt (mm_mrk (Int.toNat 3)).toInt).toInt64) + (Int32.ofInt (mm_mrk (Int.toNat 0)).toInt).toInt64) rf m1 m2 m3 m4 m5 mr mf n1 n2 n3 n4 n5 nr nf E)))
        refine r_s2s rfl rfl rfl hz ?_
        exact r_ret rfl rfl (hQ _)
      · exact absurd u2 (by decide)
  obtain ⟨r, h1, z, h2⟩ := rn_S (vs := [.ref 42, iv (3), iv (i), iv (1)]) (Q := fun r => ∃ z : Int, r = (some (iv z), (cW ki ln bt rl cp cs ct cv 14 5 ja ea ma a1 a2 a3 a4 a5 a6 a7 a8 jb eb mb b1 b2 b3 b4 b5 b6 b7 b8 re fl g1 g2 g3 g4 g5 (dW rt la rs rg pd du ds me tt gr su gp ((mk + (Int32.ofInt (mm_mrk (Int.toNat 3)).toInt).toInt64) + (Int32.ofInt (mm_mrk (Int.toNat 0)).toInt).toInt64) rf m1 m2 m3 m4 m5 mr mf n1 n2 n3 n4 n5 nr nf E)))) rfl (rn_up (N := 300) (M := mm_fuel) (by decide) (main (fun r => ∃ z : Int, r = (some (iv z), (cW ki ln bt rl cp cs ct cv 14 5 ja ea ma a1 a2 a3 a4 a5 a6 a7 a8 jb eb mb b1 b2 b3 b4 b5 b6 b7 b8 re fl g1 g2 g3 g4 g5 (dW rt la rs rg pd du ds me tt gr su gp ((mk + (Int32.ofInt (mm_mrk (Int.toNat 3)).toInt).toInt64) + (Int32.ofInt (mm_mrk (Int.toNat 0)).toInt).toInt64) rf m1 m2 m3 m4 m5 mr mf n1 n2 n3 n4 n5 nr nf E)))) (fun z => ⟨z, rfl⟩)))
  have h1 : sX4_askBody_1 [.ref 42, iv (3), iv (i), iv (1)] (cW ki ln bt rl cp cs ct cv 14 5 ja ea ma a1 a2 a3 a4 a5 a6 a7 a8 jb eb mb b1 b2 b3 b4 b5 b6 b7 b8 re fl g1 g2 g3 g4 g5 (dW rt la rs rg pd du ds me tt gr su gp mk rf m1 m2 m3 m4 m5 mr mf n1 n2 n3 n4 n5 nr nf E)) = some r := h1
  exact ⟨z, by rw [h1, h2]⟩
theorem c_body1_1_5 (hE : E.length = 11) (hi : 0 ≤ i ∧ i ≤ 15) (hAs : ARs b4 b5 b6 b7) : ∃ z : Int, sX4_askBody_1 [.ref 42, iv (5), iv (i), iv (1)] (cW ki ln bt rl cp cs ct cv 14 5 ja ea ma a1 a2 a3 a4 a5 a6 a7 a8 jb eb mb b1 b2 b3 b4 b5 b6 b7 b8 re fl g1 g2 g3 g4 g5 (dW rt la rs rg pd du ds me tt gr su gp mk rf m1 m2 m3 m4 m5 mr mf n1 n2 n3 n4 n5 nr nf E)) = some (some (iv z), (cW ki ln bt rl cp cs ct cv 14 5 ja ea ma a1 a2 a3 a4 a5 a6 a7 a8 jb eb mb b1 b2 b3 b4 b5 b6 b7 b8 re fl g1 g2 g3 g4 g5 (dW rt la rs rg pd du ds me tt gr su gp ((mk + (Int32.ofInt (mm_mrk (Int.toNat 5)).toInt).toInt64) + (Int32.ofInt (mm_mrk (Int.toNat 0)).toInt).toInt64) rf m1 m2 m3 m4 m5 mr mf n1 n2 n3 n4 n5 nr nf E))) := by
  have main : ∀ Q : mm_R → Prop, (∀ z : Int, Q (some (iv z), (cW ki ln bt rl cp cs ct cv 14 5 ja ea ma a1 a2 a3 a4 a5 a6 a7 a8 jb eb mb b1 b2 b3 b4 b5 b6 b7 b8 re fl g1 g2 g3 g4 g5 (dW rt la rs rg pd du ds me tt gr su gp ((mk + (Int32.ofInt (mm_mrk (Int.toNat 5)).toInt).toInt64) + (Int32.ofInt (mm_mrk (Int.toNat 0)).toInt).toInt64) rf m1 m2 m3 m4 m5 mr mf n1 n2 n3 n4 n5 nr nf E)))) → rn_X4_askBody_1 300 (0, [(0, .ref 42), (1, iv (5)), (2, iv (i)), (3, iv (1))], [], (cW ki ln bt rl cp cs ct cv 14 5 ja ea ma a1 a2 a3 a4 a5 a6 a7 a8 jb eb mb b1 b2 b3 b4 b5 b6 b7 b8 re fl g1 g2 g3 g4 g5 (dW rt la rs rg pd du ds me tt gr su gp mk rf m1 m2 m3 m4 m5 mr mf n1 n2 n3 n4 n5 nr nf E))) Q := by
    intro Q hQ
    refine r_il rfl rfl ?_
    refine r_s1s rfl rfl rfl (c_isKind (by decide)) ?_
    refine r_zeq rfl rfl (bi_r _) (fun u1 => ?_) (fun u1 => ?_)
    · exact absurd u1 (by decide)
    · refine r_il rfl rfl ?_
      refine r_ic rfl ?_
      refine r_cle rfl rfl (by decide) (by decide) (fun u2 => ?_) (fun u2 => ?_)
      · refine r_al rfl rfl ?_
        refine r_dup rfl rfl ?_
        refine r_gf rfl rfl xg_42 rfl ?_
        refine r_gs rfl rfl ?_
        refine r_il rfl rfl ?_
        refine r_iao rfl (xout hE (by decide)) rfl (by decide) (by decide) (by decide) ?_
        refine r_i2l rfl ?_
        refine r_ladd rfl ?_
        refine r_pfl rfl rfl xg_42 rfl xp_mk ?_
        refine r_al rfl rfl ?_
        refine r_gs rfl rfl ?_
        refine r_il rfl rfl ?_
        refine r_iao rfl (xout hE (by decide)) rfl (by decide) (by decide) (by decide) ?_
        obtain ⟨y, hy⟩ := c_body1_2_0 (mk := (mk + (Int32.ofInt (mm_mrk (Int.toNat 5)).toInt).toInt64)) (E := E) (i := i) (ki := ki) (ln := ln) (bt := bt) (rl := rl) (cp := cp) (cs := cs) (ct := ct) (cv := cv) (ja := ja) (ea := ea) (ma := ma) (a1 := a1) (a2 := a2) (a3 := a3) (a4 := a4) (a5 := a5) (a6 := a6) (a7 := a7) (a8 := a8) (jb := jb) (eb := eb) (mb := mb) (b1 := b1) (b2 := b2) (b3 := b3) (b4 := b4) (b5 := b5) (b6 := b6) (b7 := b7) (b8 := b8) (re := re) (fl := fl) (g1 := g1) (g2 := g2) (g3 := g3) (g4 := g4) (g5 := g5) (rt := rt) (la := la) (rs := rs) (rg := rg) (pd := pd) (du := du) (ds := ds) (me := me) (tt := tt) (gr := gr) (su := su) (gp := gp) (rf := rf) (m1 := m1) (m2 := m2) (m3 := m3) (m4 := m4) (m5 := m5) (mr := mr) (mf := mf) (n1 := n1) (n2 := n2) (n3 := n3) (n4 := n4) (n5 := n5) (nr := nr) (nf := nf) hE hi hAs
        refine r_il rfl rfl ?_
        refine r_il rfl rfl ?_
        refine r_ic rfl ?_
        refine r_add rfl ?_
        refine r_v4s rfl rfl xg_42 rfl hy ?_
        refine r_isw (lv' := [(4, _), (0, _), (1, _), (2, _), (3, _)]) rfl rfl rfl ?_
        refine r_il rfl rfl ?_
        refine r_ts (off := 90) rfl (by decide) rfl rfl ?_
        have hs := (hAs (Int.toNat i) (by omega)).1
        unfold i7 at hs
        refine r_ilw rfl rfl ?_
        refine r_al rfl rfl ?_
        refine r_gf rfl rfl xg_42 rfl ?_
        refine r_gf rfl rfl xg_4 rfl ?_
        refine r_gf rfl rfl xg_23 rfl ?_
        refine r_al rfl rfl ?_
        refine r_gf rfl rfl xg_42 rfl ?_
        refine r_gf rfl rfl xg_4 rfl ?_
        refine r_gf rfl rfl xg_14 rfl ?_
        refine r_il rfl rfl ?_
        refine r_ia rfl xg_18 (by omega) (by omega) (by decide) ?_
        refine r_ia rfl xg_28 (by omega) (by omega) (by decide) ?_
        refine r_bi rfl (by decide) ?_
        refine r_odiv rfl (by decide) ?_
        refine r_add rfl ?_
        exact r_ret rfl rfl (hQ _)
      · exact absurd u2 (by decide)
  obtain ⟨r, h1, z, h2⟩ := rn_S (vs := [.ref 42, iv (5), iv (i), iv (1)]) (Q := fun r => ∃ z : Int, r = (some (iv z), (cW ki ln bt rl cp cs ct cv 14 5 ja ea ma a1 a2 a3 a4 a5 a6 a7 a8 jb eb mb b1 b2 b3 b4 b5 b6 b7 b8 re fl g1 g2 g3 g4 g5 (dW rt la rs rg pd du ds me tt gr su gp ((mk + (Int32.ofInt (mm_mrk (Int.toNat 5)).toInt).toInt64) + (Int32.ofInt (mm_mrk (Int.toNat 0)).toInt).toInt64) rf m1 m2 m3 m4 m5 mr mf n1 n2 n3 n4 n5 nr nf E)))) rfl (rn_up (N := 300) (M := mm_fuel) (by decide) (main (fun r => ∃ z : Int, r = (some (iv z), (cW ki ln bt rl cp cs ct cv 14 5 ja ea ma a1 a2 a3 a4 a5 a6 a7 a8 jb eb mb b1 b2 b3 b4 b5 b6 b7 b8 re fl g1 g2 g3 g4 g5 (dW rt la rs rg pd du ds me tt gr su gp ((mk + (Int32.ofInt (mm_mrk (Int.toNat 5)).toInt).toInt64) + (Int32.ofInt (mm_mrk (Int.toNat 0)).toInt).toInt64) rf m1 m2 m3 m4 m5 mr mf n1 n2 n3 n4 n5 nr nf E)))) (fun z => ⟨z, rfl⟩)))
  have h1 : sX4_askBody_1 [.ref 42, iv (5), iv (i), iv (1)] (cW ki ln bt rl cp cs ct cv 14 5 ja ea ma a1 a2 a3 a4 a5 a6 a7 a8 jb eb mb b1 b2 b3 b4 b5 b6 b7 b8 re fl g1 g2 g3 g4 g5 (dW rt la rs rg pd du ds me tt gr su gp mk rf m1 m2 m3 m4 m5 mr mf n1 n2 n3 n4 n5 nr nf E)) = some r := h1
  exact ⟨z, by rw [h1, h2]⟩
theorem c_body1_0_0 (hE : E.length = 11) (hi : 0 ≤ i ∧ i ≤ 15) (hAs : ARs b4 b5 b6 b7) : ∃ z : Int, sX4_askBody_0 [.ref 42, iv (0), iv (i), iv (0)] (cW ki ln bt rl cp cs ct cv 14 5 ja ea ma a1 a2 a3 a4 a5 a6 a7 a8 jb eb mb b1 b2 b3 b4 b5 b6 b7 b8 re fl g1 g2 g3 g4 g5 (dW rt la rs rg pd du ds me tt gr su gp mk rf m1 m2 m3 m4 m5 mr mf n1 n2 n3 n4 n5 nr nf E)) = some (some (iv z), (cW ki ln bt rl cp cs ct cv 14 5 ja ea ma a1 a2 a3 a4 a5 a6 a7 a8 jb eb mb b1 b2 b3 b4 b5 b6 b7 b8 re fl g1 g2 g3 g4 g5 (dW rt la rs rg pd du ds me tt gr su gp (mk + (Int32.ofInt (mm_mrk (Int.toNat 0)).toInt).toInt64) rf m1 m2 m3 m4 m5 mr mf n1 n2 n3 n4 n5 nr nf E))) := by
  have main : ∀ Q : mm_R → Prop, (∀ z : Int, Q (some (iv z), (cW ki ln bt rl cp cs ct cv 14 5 ja ea ma a1 a2 a3 a4 a5 a6 a7 a8 jb eb mb b1 b2 b3 b4 b5 b6 b7 b8 re fl g1 g2 g3 g4 g5 (dW rt la rs rg pd du ds me tt gr su gp (mk + (Int32.ofInt (mm_mrk (Int.toNat 0)).toInt).toInt64) rf m1 m2 m3 m4 m5 mr mf n1 n2 n3 n4 n5 nr nf E)))) → rn_X4_askBody_0 300 (0, [(0, .ref 42), (1, iv (0)), (2, iv (i)), (3, iv (0))], [], (cW ki ln bt rl cp cs ct cv 14 5 ja ea ma a1 a2 a3 a4 a5 a6 a7 a8 jb eb mb b1 b2 b3 b4 b5 b6 b7 b8 re fl g1 g2 g3 g4 g5 (dW rt la rs rg pd du ds me tt gr su gp mk rf m1 m2 m3 m4 m5 mr mf n1 n2 n3 n4 n5 nr nf E))) Q := by
    intro Q hQ
    refine r_il rfl rfl ?_
    refine r_s1s rfl rfl rfl (c_isKind (by decide)) ?_
    refine r_zeq rfl rfl (bi_r _) (fun u1 => ?_) (fun u1 => ?_)
    · exact absurd u1 (by decide)
    · refine r_il rfl rfl ?_
      refine r_ic rfl ?_
      refine r_cle rfl rfl (by decide) (by decide) (fun u2 => ?_) (fun u2 => ?_)
      · refine r_al rfl rfl ?_
        refine r_dup rfl rfl ?_
        refine r_gf rfl rfl xg_42 rfl ?_
        refine r_gs rfl rfl ?_
        refine r_il rfl rfl ?_
        refine r_iao rfl (xout hE (by decide)) rfl (by decide) (by decide) (by decide) ?_
        refine r_i2l rfl ?_
        refine r_ladd rfl ?_
        refine r_pfl rfl rfl xg_42 rfl xp_mk ?_
        refine r_al rfl rfl ?_
        refine r_gs rfl rfl ?_
        refine r_il rfl rfl ?_
        refine r_iao rfl (xout hE (by decide)) rfl (by decide) (by decide) (by decide) ?_
        obtain ⟨y, hy⟩ := c_body1_1_n (mk := (mk + (Int32.ofInt (mm_mrk (Int.toNat 0)).toInt).toInt64)) (E := E) (i := i) (ki := ki) (ln := ln) (bt := bt) (rl := rl) (cp := cp) (cs := cs) (ct := ct) (cv := cv) (ja := ja) (ea := ea) (ma := ma) (a1 := a1) (a2 := a2) (a3 := a3) (a4 := a4) (a5 := a5) (a6 := a6) (a7 := a7) (a8 := a8) (jb := jb) (eb := eb) (mb := mb) (b1 := b1) (b2 := b2) (b3 := b3) (b4 := b4) (b5 := b5) (b6 := b6) (b7 := b7) (b8 := b8) (re := re) (fl := fl) (g1 := g1) (g2 := g2) (g3 := g3) (g4 := g4) (g5 := g5) (rt := rt) (la := la) (rs := rs) (rg := rg) (pd := pd) (du := du) (ds := ds) (me := me) (tt := tt) (gr := gr) (su := su) (gp := gp) (rf := rf) (m1 := m1) (m2 := m2) (m3 := m3) (m4 := m4) (m5 := m5) (mr := mr) (mf := mf) (n1 := n1) (n2 := n2) (n3 := n3) (n4 := n4) (n5 := n5) (nr := nr) (nf := nf) hE hi hAs
        refine r_il rfl rfl ?_
        refine r_il rfl rfl ?_
        refine r_ic rfl ?_
        refine r_add rfl ?_
        refine r_v4s rfl rfl xg_42 rfl hy ?_
        refine r_isw (lv' := [(4, _), (0, _), (1, _), (2, _), (3, _)]) rfl rfl rfl ?_
        refine r_il rfl rfl ?_
        refine r_ts (off := 39) rfl (by decide) rfl rfl ?_
        refine r_al rfl rfl ?_
        refine r_gf rfl rfl xg_42 rfl ?_
        refine r_il rfl rfl ?_
        refine r_v2s rfl rfl xg_4 rfl (c_leftC1 hi) ?_
        exact r_ret rfl rfl (hQ _)
      · exact absurd u2 (by decide)
  obtain ⟨r, h1, z, h2⟩ := rn_S (vs := [.ref 42, iv (0), iv (i), iv (0)]) (Q := fun r => ∃ z : Int, r = (some (iv z), (cW ki ln bt rl cp cs ct cv 14 5 ja ea ma a1 a2 a3 a4 a5 a6 a7 a8 jb eb mb b1 b2 b3 b4 b5 b6 b7 b8 re fl g1 g2 g3 g4 g5 (dW rt la rs rg pd du ds me tt gr su gp (mk + (Int32.ofInt (mm_mrk (Int.toNat 0)).toInt).toInt64) rf m1 m2 m3 m4 m5 mr mf n1 n2 n3 n4 n5 nr nf E)))) rfl (rn_up (N := 300) (M := mm_fuel) (by decide) (main (fun r => ∃ z : Int, r = (some (iv z), (cW ki ln bt rl cp cs ct cv 14 5 ja ea ma a1 a2 a3 a4 a5 a6 a7 a8 jb eb mb b1 b2 b3 b4 b5 b6 b7 b8 re fl g1 g2 g3 g4 g5 (dW rt la rs rg pd du ds me tt gr su gp (mk + (Int32.ofInt (mm_mrk (Int.toNat 0)).toInt).toInt64) rf m1 m2 m3 m4 m5 mr mf n1 n2 n3 n4 n5 nr nf E)))) (fun z => ⟨z, rfl⟩)))
  have h1 : sX4_askBody_0 [.ref 42, iv (0), iv (i), iv (0)] (cW ki ln bt rl cp cs ct cv 14 5 ja ea ma a1 a2 a3 a4 a5 a6 a7 a8 jb eb mb b1 b2 b3 b4 b5 b6 b7 b8 re fl g1 g2 g3 g4 g5 (dW rt la rs rg pd du ds me tt gr su gp mk rf m1 m2 m3 m4 m5 mr mf n1 n2 n3 n4 n5 nr nf E)) = some r := h1
  exact ⟨z, by rw [h1, h2]⟩
theorem c_body1_0_1 (hE : E.length = 11) (hi : 0 ≤ i ∧ i ≤ 15) (hAs : ARs b4 b5 b6 b7) : ∃ z : Int, sX4_askBody_0 [.ref 42, iv (1), iv (i), iv (0)] (cW ki ln bt rl cp cs ct cv 14 5 ja ea ma a1 a2 a3 a4 a5 a6 a7 a8 jb eb mb b1 b2 b3 b4 b5 b6 b7 b8 re fl g1 g2 g3 g4 g5 (dW rt la rs rg pd du ds me tt gr su gp mk rf m1 m2 m3 m4 m5 mr mf n1 n2 n3 n4 n5 nr nf E)) = some (some (iv z), (cW ki ln bt rl cp cs ct cv 14 5 ja ea ma a1 a2 a3 a4 a5 a6 a7 a8 jb eb mb b1 b2 b3 b4 b5 b6 b7 b8 re fl g1 g2 g3 g4 g5 (dW rt la rs rg pd du ds me tt gr su gp ((mk + (Int32.ofInt (mm_mrk (Int.toNat 1)).toInt).toInt64) + (Int32.ofInt (mm_mrk (Int.toNat 0)).toInt).toInt64) rf m1 m2 m3 m4 m5 mr mf n1 n2 n3 n4 n5 nr nf E))) := by
  have main : ∀ Q : mm_R → Prop, (∀ z : Int, Q (some (iv z), (cW ki ln bt rl cp cs ct cv 14 5 ja ea ma a1 a2 a3 a4 a5 a6 a7 a8 jb eb mb b1 b2 b3 b4 b5 b6 b7 b8 re fl g1 g2 g3 g4 g5 (dW rt la rs rg pd du ds me tt gr su gp ((mk + (Int32.ofInt (mm_mrk (Int.toNat 1)).toInt).toInt64) + (Int32.ofInt (mm_mrk (Int.toNat 0)).toInt).toInt64) rf m1 m2 m3 m4 m5 mr mf n1 n2 n3 n4 n5 nr nf E)))) → rn_X4_askBody_0 300 (0, [(0, .ref 42), (1, iv (1)), (2, iv (i)), (3, iv (0))], [], (cW ki ln bt rl cp cs ct cv 14 5 ja ea ma a1 a2 a3 a4 a5 a6 a7 a8 jb eb mb b1 b2 b3 b4 b5 b6 b7 b8 re fl g1 g2 g3 g4 g5 (dW rt la rs rg pd du ds me tt gr su gp mk rf m1 m2 m3 m4 m5 mr mf n1 n2 n3 n4 n5 nr nf E))) Q := by
    intro Q hQ
    refine r_il rfl rfl ?_
    refine r_s1s rfl rfl rfl (c_isKind (by decide)) ?_
    refine r_zeq rfl rfl (bi_r _) (fun u1 => ?_) (fun u1 => ?_)
    · exact absurd u1 (by decide)
    · refine r_il rfl rfl ?_
      refine r_ic rfl ?_
      refine r_cle rfl rfl (by decide) (by decide) (fun u2 => ?_) (fun u2 => ?_)
      · refine r_al rfl rfl ?_
        refine r_dup rfl rfl ?_
        refine r_gf rfl rfl xg_42 rfl ?_
        refine r_gs rfl rfl ?_
        refine r_il rfl rfl ?_
        refine r_iao rfl (xout hE (by decide)) rfl (by decide) (by decide) (by decide) ?_
        refine r_i2l rfl ?_
        refine r_ladd rfl ?_
        refine r_pfl rfl rfl xg_42 rfl xp_mk ?_
        refine r_al rfl rfl ?_
        refine r_gs rfl rfl ?_
        refine r_il rfl rfl ?_
        refine r_iao rfl (xout hE (by decide)) rfl (by decide) (by decide) (by decide) ?_
        obtain ⟨y, hy⟩ := c_body1_1_0 (mk := (mk + (Int32.ofInt (mm_mrk (Int.toNat 1)).toInt).toInt64)) (E := E) (i := i) (ki := ki) (ln := ln) (bt := bt) (rl := rl) (cp := cp) (cs := cs) (ct := ct) (cv := cv) (ja := ja) (ea := ea) (ma := ma) (a1 := a1) (a2 := a2) (a3 := a3) (a4 := a4) (a5 := a5) (a6 := a6) (a7 := a7) (a8 := a8) (jb := jb) (eb := eb) (mb := mb) (b1 := b1) (b2 := b2) (b3 := b3) (b4 := b4) (b5 := b5) (b6 := b6) (b7 := b7) (b8 := b8) (re := re) (fl := fl) (g1 := g1) (g2 := g2) (g3 := g3) (g4 := g4) (g5 := g5) (rt := rt) (la := la) (rs := rs) (rg := rg) (pd := pd) (du := du) (ds := ds) (me := me) (tt := tt) (gr := gr) (su := su) (gp := gp) (rf := rf) (m1 := m1) (m2 := m2) (m3 := m3) (m4 := m4) (m5 := m5) (mr := mr) (mf := mf) (n1 := n1) (n2 := n2) (n3 := n3) (n4 := n4) (n5 := n5) (nr := nr) (nf := nf) hE hi hAs
        refine r_il rfl rfl ?_
        refine r_il rfl rfl ?_
        refine r_ic rfl ?_
        refine r_add rfl ?_
        refine r_v4s rfl rfl xg_42 rfl hy ?_
        refine r_isw (lv' := [(4, _), (0, _), (1, _), (2, _), (3, _)]) rfl rfl rfl ?_
        refine r_il rfl rfl ?_
        refine r_ts (off := 48) rfl (by decide) rfl rfl ?_
        refine r_ilw rfl rfl ?_
        refine r_al rfl rfl ?_
        refine r_gf rfl rfl xg_42 rfl ?_
        refine r_al rfl rfl ?_
        refine r_gf rfl rfl xg_42 rfl ?_
        refine r_gf rfl rfl xg_4 rfl ?_
        refine r_gf rfl rfl xg_14 rfl ?_
        refine r_il rfl rfl ?_
        refine r_ia rfl xg_19 (by omega) (by omega) (by decide) ?_
        refine r_v2s rfl rfl xg_4 rfl (c_restC1 (by have := (hAs (Int.toNat i) (by omega)).2.1; unfold i7 at this; omega)) ?_
        refine r_add rfl ?_
        exact r_ret rfl rfl (hQ _)
      · exact absurd u2 (by decide)
  obtain ⟨r, h1, z, h2⟩ := rn_S (vs := [.ref 42, iv (1), iv (i), iv (0)]) (Q := fun r => ∃ z : Int, r = (some (iv z), (cW ki ln bt rl cp cs ct cv 14 5 ja ea ma a1 a2 a3 a4 a5 a6 a7 a8 jb eb mb b1 b2 b3 b4 b5 b6 b7 b8 re fl g1 g2 g3 g4 g5 (dW rt la rs rg pd du ds me tt gr su gp ((mk + (Int32.ofInt (mm_mrk (Int.toNat 1)).toInt).toInt64) + (Int32.ofInt (mm_mrk (Int.toNat 0)).toInt).toInt64) rf m1 m2 m3 m4 m5 mr mf n1 n2 n3 n4 n5 nr nf E)))) rfl (rn_up (N := 300) (M := mm_fuel) (by decide) (main (fun r => ∃ z : Int, r = (some (iv z), (cW ki ln bt rl cp cs ct cv 14 5 ja ea ma a1 a2 a3 a4 a5 a6 a7 a8 jb eb mb b1 b2 b3 b4 b5 b6 b7 b8 re fl g1 g2 g3 g4 g5 (dW rt la rs rg pd du ds me tt gr su gp ((mk + (Int32.ofInt (mm_mrk (Int.toNat 1)).toInt).toInt64) + (Int32.ofInt (mm_mrk (Int.toNat 0)).toInt).toInt64) rf m1 m2 m3 m4 m5 mr mf n1 n2 n3 n4 n5 nr nf E)))) (fun z => ⟨z, rfl⟩)))
  have h1 : sX4_askBody_0 [.ref 42, iv (1), iv (i), iv (0)] (cW ki ln bt rl cp cs ct cv 14 5 ja ea ma a1 a2 a3 a4 a5 a6 a7 a8 jb eb mb b1 b2 b3 b4 b5 b6 b7 b8 re fl g1 g2 g3 g4 g5 (dW rt la rs rg pd du ds me tt gr su gp mk rf m1 m2 m3 m4 m5 mr mf n1 n2 n3 n4 n5 nr nf E)) = some r := h1
  exact ⟨z, by rw [h1, h2]⟩
theorem c_body1_0_2 (hE : E.length = 11) (hi : 0 ≤ i ∧ i ≤ 15) (hAs : ARs b4 b5 b6 b7) : ∃ z : Int, sX4_askBody_0 [.ref 42, iv (2), iv (i), iv (0)] (cW ki ln bt rl cp cs ct cv 14 5 ja ea ma a1 a2 a3 a4 a5 a6 a7 a8 jb eb mb b1 b2 b3 b4 b5 b6 b7 b8 re fl g1 g2 g3 g4 g5 (dW rt la rs rg pd du ds me tt gr su gp mk rf m1 m2 m3 m4 m5 mr mf n1 n2 n3 n4 n5 nr nf E)) = some (some (iv z), (cW ki ln bt rl cp cs ct cv 14 5 ja ea ma a1 a2 a3 a4 a5 a6 a7 a8 jb eb mb b1 b2 b3 b4 b5 b6 b7 b8 re fl g1 g2 g3 g4 g5 (dW rt la rs rg pd du ds me tt gr su gp ((mk + (Int32.ofInt (mm_mrk (Int.toNat 2)).toInt).toInt64) + (Int32.ofInt (mm_mrk (Int.toNat 0)).toInt).toInt64) rf m1 m2 m3 m4 m5 mr mf n1 n2 n3 n4 n5 nr nf E))) := by
  have main : ∀ Q : mm_R → Prop, (∀ z : Int, Q (some (iv z), (cW ki ln bt rl cp cs ct cv 14 5 ja ea ma a1 a2 a3 a4 a5 a6 a7 a8 jb eb mb b1 b2 b3 b4 b5 b6 b7 b8 re fl g1 g2 g3 g4 g5 (dW rt la rs rg pd du ds me tt gr su gp ((mk + (Int32.ofInt (mm_mrk (Int.toNat 2)).toInt).toInt64) + (Int32.ofInt (mm_mrk (Int.toNat 0)).toInt).toInt64) rf m1 m2 m3 m4 m5 mr mf n1 n2 n3 n4 n5 nr nf E)))) → rn_X4_askBody_0 300 (0, [(0, .ref 42), (1, iv (2)), (2, iv (i)), (3, iv (0))], [], (cW ki ln bt rl cp cs ct cv 14 5 ja ea ma a1 a2 a3 a4 a5 a6 a7 a8 jb eb mb b1 b2 b3 b4 b5 b6 b7 b8 re fl g1 g2 g3 g4 g5 (dW rt la rs rg pd du ds me tt gr su gp mk rf m1 m2 m3 m4 m5 mr mf n1 n2 n3 n4 n5 nr nf E))) Q := by
    intro Q hQ
    refine r_il rfl rfl ?_
    refine r_s1s rfl rfl rfl (c_isKind (by decide)) ?_
    refine r_zeq rfl rfl (bi_r _) (fun u1 => ?_) (fun u1 => ?_)
    · exact absurd u1 (by decide)
    · refine r_il rfl rfl ?_
      refine r_ic rfl ?_
      refine r_cle rfl rfl (by decide) (by decide) (fun u2 => ?_) (fun u2 => ?_)
      · refine r_al rfl rfl ?_
        refine r_dup rfl rfl ?_
        refine r_gf rfl rfl xg_42 rfl ?_
        refine r_gs rfl rfl ?_
        refine r_il rfl rfl ?_
        refine r_iao rfl (xout hE (by decide)) rfl (by decide) (by decide) (by decide) ?_
        refine r_i2l rfl ?_
        refine r_ladd rfl ?_
        refine r_pfl rfl rfl xg_42 rfl xp_mk ?_
        refine r_al rfl rfl ?_
        refine r_gs rfl rfl ?_
        refine r_il rfl rfl ?_
        refine r_iao rfl (xout hE (by decide)) rfl (by decide) (by decide) (by decide) ?_
        obtain ⟨y, hy⟩ := c_body1_1_0 (mk := (mk + (Int32.ofInt (mm_mrk (Int.toNat 2)).toInt).toInt64)) (E := E) (i := i) (ki := ki) (ln := ln) (bt := bt) (rl := rl) (cp := cp) (cs := cs) (ct := ct) (cv := cv) (ja := ja) (ea := ea) (ma := ma) (a1 := a1) (a2 := a2) (a3 := a3) (a4 := a4) (a5 := a5) (a6 := a6) (a7 := a7) (a8 := a8) (jb := jb) (eb := eb) (mb := mb) (b1 := b1) (b2 := b2) (b3 := b3) (b4 := b4) (b5 := b5) (b6 := b6) (b7 := b7) (b8 := b8) (re := re) (fl := fl) (g1 := g1) (g2 := g2) (g3 := g3) (g4 := g4) (g5 := g5) (rt := rt) (la := la) (rs := rs) (rg := rg) (pd := pd) (du := du) (ds := ds) (me := me) (tt := tt) (gr := gr) (su := su) (gp := gp) (rf := rf) (m1 := m1) (m2 := m2) (m3 := m3) (m4 := m4) (m5 := m5) (mr := mr) (mf := mf) (n1 := n1) (n2 := n2) (n3 := n3) (n4 := n4) (n5 := n5) (nr := nr) (nf := nf) hE hi hAs
        refine r_il rfl rfl ?_
        refine r_il rfl rfl ?_
        refine r_ic rfl ?_
        refine r_add rfl ?_
        refine r_v4s rfl rfl xg_42 rfl hy ?_
        refine r_isw (lv' := [(4, _), (0, _), (1, _), (2, _), (3, _)]) rfl rfl rfl ?_
        refine r_il rfl rfl ?_
        refine r_ts (off := 71) rfl (by decide) rfl rfl ?_
        refine r_ilw rfl rfl ?_
        refine r_ic rfl ?_
        obtain ⟨z, hz⟩ := c_floorDiv2 (a := y) (mw := (cW ki ln bt rl cp cs ct cv 14 5 ja ea ma a1 a2 a3 a4 a5 a6 a7 a8 jb eb mb b1 b2 b3 b4 b5 b6 b7 b8 re fl g1 g2 g3 g4 g5 (dW rt la rs rg pd du ds me tt gr su gp ((mk + (Int32.ofInt (mm_mrk (Int.toNat 2)).toInt).toInt64) + (Int32.ofInt (mm_mrk (Int.toNat 0)).toInt).toInt64) rf m1 m2 m3 m4 m5 mr mf n1 n2 n3 n4 n5 nr nf E)))
        refine r_s2s rfl rfl rfl hz ?_
        exact r_ret rfl rfl (hQ _)
      · exact absurd u2 (by decide)
  obtain ⟨r, h1, z, h2⟩ := rn_S (vs := [.ref 42, iv (2), iv (i), iv (0)]) (Q := fun r => ∃ z : Int, r = (some (iv z), (cW ki ln bt rl cp cs ct cv 14 5 ja ea ma a1 a2 a3 a4 a5 a6 a7 a8 jb eb mb b1 b2 b3 b4 b5 b6 b7 b8 re fl g1 g2 g3 g4 g5 (dW rt la rs rg pd du ds me tt gr su gp ((mk + (Int32.ofInt (mm_mrk (Int.toNat 2)).toInt).toInt64) + (Int32.ofInt (mm_mrk (Int.toNat 0)).toInt).toInt64) rf m1 m2 m3 m4 m5 mr mf n1 n2 n3 n4 n5 nr nf E)))) rfl (rn_up (N := 300) (M := mm_fuel) (by decide) (main (fun r => ∃ z : Int, r = (some (iv z), (cW ki ln bt rl cp cs ct cv 14 5 ja ea ma a1 a2 a3 a4 a5 a6 a7 a8 jb eb mb b1 b2 b3 b4 b5 b6 b7 b8 re fl g1 g2 g3 g4 g5 (dW rt la rs rg pd du ds me tt gr su gp ((mk + (Int32.ofInt (mm_mrk (Int.toNat 2)).toInt).toInt64) + (Int32.ofInt (mm_mrk (Int.toNat 0)).toInt).toInt64) rf m1 m2 m3 m4 m5 mr mf n1 n2 n3 n4 n5 nr nf E)))) (fun z => ⟨z, rfl⟩)))
  have h1 : sX4_askBody_0 [.ref 42, iv (2), iv (i), iv (0)] (cW ki ln bt rl cp cs ct cv 14 5 ja ea ma a1 a2 a3 a4 a5 a6 a7 a8 jb eb mb b1 b2 b3 b4 b5 b6 b7 b8 re fl g1 g2 g3 g4 g5 (dW rt la rs rg pd du ds me tt gr su gp mk rf m1 m2 m3 m4 m5 mr mf n1 n2 n3 n4 n5 nr nf E)) = some r := h1
  exact ⟨z, by rw [h1, h2]⟩
theorem c_body1_0_3 (hE : E.length = 11) (hi : 0 ≤ i ∧ i ≤ 15) (hAs : ARs b4 b5 b6 b7) : ∃ z : Int, sX4_askBody_0 [.ref 42, iv (3), iv (i), iv (0)] (cW ki ln bt rl cp cs ct cv 14 5 ja ea ma a1 a2 a3 a4 a5 a6 a7 a8 jb eb mb b1 b2 b3 b4 b5 b6 b7 b8 re fl g1 g2 g3 g4 g5 (dW rt la rs rg pd du ds me tt gr su gp mk rf m1 m2 m3 m4 m5 mr mf n1 n2 n3 n4 n5 nr nf E)) = some (some (iv z), (cW ki ln bt rl cp cs ct cv 14 5 ja ea ma a1 a2 a3 a4 a5 a6 a7 a8 jb eb mb b1 b2 b3 b4 b5 b6 b7 b8 re fl g1 g2 g3 g4 g5 (dW rt la rs rg pd du ds me tt gr su gp ((mk + (Int32.ofInt (mm_mrk (Int.toNat 3)).toInt).toInt64) + (Int32.ofInt (mm_mrk (Int.toNat 0)).toInt).toInt64) rf m1 m2 m3 m4 m5 mr mf n1 n2 n3 n4 n5 nr nf E))) := by
  have main : ∀ Q : mm_R → Prop, (∀ z : Int, Q (some (iv z), (cW ki ln bt rl cp cs ct cv 14 5 ja ea ma a1 a2 a3 a4 a5 a6 a7 a8 jb eb mb b1 b2 b3 b4 b5 b6 b7 b8 re fl g1 g2 g3 g4 g5 (dW rt la rs rg pd du ds me tt gr su gp ((mk + (Int32.ofInt (mm_mrk (Int.toNat 3)).toInt).toInt64) + (Int32.ofInt (mm_mrk (Int.toNat 0)).toInt).toInt64) rf m1 m2 m3 m4 m5 mr mf n1 n2 n3 n4 n5 nr nf E)))) → rn_X4_askBody_0 300 (0, [(0, .ref 42), (1, iv (3)), (2, iv (i)), (3, iv (0))], [], (cW ki ln bt rl cp cs ct cv 14 5 ja ea ma a1 a2 a3 a4 a5 a6 a7 a8 jb eb mb b1 b2 b3 b4 b5 b6 b7 b8 re fl g1 g2 g3 g4 g5 (dW rt la rs rg pd du ds me tt gr su gp mk rf m1 m2 m3 m4 m5 mr mf n1 n2 n3 n4 n5 nr nf E))) Q := by
    intro Q hQ
    refine r_il rfl rfl ?_
    refine r_s1s rfl rfl rfl (c_isKind (by decide)) ?_
    refine r_zeq rfl rfl (bi_r _) (fun u1 => ?_) (fun u1 => ?_)
    · exact absurd u1 (by decide)
    · refine r_il rfl rfl ?_
      refine r_ic rfl ?_
      refine r_cle rfl rfl (by decide) (by decide) (fun u2 => ?_) (fun u2 => ?_)
      · refine r_al rfl rfl ?_
        refine r_dup rfl rfl ?_
        refine r_gf rfl rfl xg_42 rfl ?_
        refine r_gs rfl rfl ?_
        refine r_il rfl rfl ?_
        refine r_iao rfl (xout hE (by decide)) rfl (by decide) (by decide) (by decide) ?_
        refine r_i2l rfl ?_
        refine r_ladd rfl ?_
        refine r_pfl rfl rfl xg_42 rfl xp_mk ?_
        refine r_al rfl rfl ?_
        refine r_gs rfl rfl ?_
        refine r_il rfl rfl ?_
        refine r_iao rfl (xout hE (by decide)) rfl (by decide) (by decide) (by decide) ?_
        obtain ⟨y, hy⟩ := c_body1_1_0 (mk := (mk + (Int32.ofInt (mm_mrk (Int.toNat 3)).toInt).toInt64)) (E := E) (i := i) (ki := ki) (ln := ln) (bt := bt) (rl := rl) (cp := cp) (cs := cs) (ct := ct) (cv := cv) (ja := ja) (ea := ea) (ma := ma) (a1 := a1) (a2 := a2) (a3 := a3) (a4 := a4) (a5 := a5) (a6 := a6) (a7 := a7) (a8 := a8) (jb := jb) (eb := eb) (mb := mb) (b1 := b1) (b2 := b2) (b3 := b3) (b4 := b4) (b5 := b5) (b6 := b6) (b7 := b7) (b8 := b8) (re := re) (fl := fl) (g1 := g1) (g2 := g2) (g3 := g3) (g4 := g4) (g5 := g5) (rt := rt) (la := la) (rs := rs) (rg := rg) (pd := pd) (du := du) (ds := ds) (me := me) (tt := tt) (gr := gr) (su := su) (gp := gp) (rf := rf) (m1 := m1) (m2 := m2) (m3 := m3) (m4 := m4) (m5 := m5) (mr := mr) (mf := mf) (n1 := n1) (n2 := n2) (n3 := n3) (n4 := n4) (n5 := n5) (nr := nr) (nf := nf) hE hi hAs
        refine r_il rfl rfl ?_
        refine r_il rfl rfl ?_
        refine r_ic rfl ?_
        refine r_add rfl ?_
        refine r_v4s rfl rfl xg_42 rfl hy ?_
        refine r_isw (lv' := [(4, _), (0, _), (1, _), (2, _), (3, _)]) rfl rfl rfl ?_
        refine r_il rfl rfl ?_
        refine r_ts (off := 78) rfl (by decide) rfl rfl ?_
        refine r_ilw rfl rfl ?_
        refine r_ic rfl ?_
        obtain ⟨z, hz⟩ := c_floorDiv3 (a := y) (mw := (cW ki ln bt rl cp cs ct cv 14 5 ja ea ma a1 a2 a3 a4 a5 a6 a7 a8 jb eb mb b1 b2 b3 b4 b5 b6 b7 b8 re fl g1 g2 g3 g4 g5 (dW rt la rs rg pd du ds me tt gr su gp ((mk + (Int32.ofInt (mm_mrk (Int.toNat 3)).toInt).toInt64) + (Int32.ofInt (mm_mrk (Int.toNat 0)).toInt).toInt64) rf m1 m2 m3 m4 m5 mr mf n1 n2 n3 n4 n5 nr nf E)))
        refine r_s2s rfl rfl rfl hz ?_
        exact r_ret rfl rfl (hQ _)
      · exact absurd u2 (by decide)
  obtain ⟨r, h1, z, h2⟩ := rn_S (vs := [.ref 42, iv (3), iv (i), iv (0)]) (Q := fun r => ∃ z : Int, r = (some (iv z), (cW ki ln bt rl cp cs ct cv 14 5 ja ea ma a1 a2 a3 a4 a5 a6 a7 a8 jb eb mb b1 b2 b3 b4 b5 b6 b7 b8 re fl g1 g2 g3 g4 g5 (dW rt la rs rg pd du ds me tt gr su gp ((mk + (Int32.ofInt (mm_mrk (Int.toNat 3)).toInt).toInt64) + (Int32.ofInt (mm_mrk (Int.toNat 0)).toInt).toInt64) rf m1 m2 m3 m4 m5 mr mf n1 n2 n3 n4 n5 nr nf E)))) rfl (rn_up (N := 300) (M := mm_fuel) (by decide) (main (fun r => ∃ z : Int, r = (some (iv z), (cW ki ln bt rl cp cs ct cv 14 5 ja ea ma a1 a2 a3 a4 a5 a6 a7 a8 jb eb mb b1 b2 b3 b4 b5 b6 b7 b8 re fl g1 g2 g3 g4 g5 (dW rt la rs rg pd du ds me tt gr su gp ((mk + (Int32.ofInt (mm_mrk (Int.toNat 3)).toInt).toInt64) + (Int32.ofInt (mm_mrk (Int.toNat 0)).toInt).toInt64) rf m1 m2 m3 m4 m5 mr mf n1 n2 n3 n4 n5 nr nf E)))) (fun z => ⟨z, rfl⟩)))
  have h1 : sX4_askBody_0 [.ref 42, iv (3), iv (i), iv (0)] (cW ki ln bt rl cp cs ct cv 14 5 ja ea ma a1 a2 a3 a4 a5 a6 a7 a8 jb eb mb b1 b2 b3 b4 b5 b6 b7 b8 re fl g1 g2 g3 g4 g5 (dW rt la rs rg pd du ds me tt gr su gp mk rf m1 m2 m3 m4 m5 mr mf n1 n2 n3 n4 n5 nr nf E)) = some r := h1
  exact ⟨z, by rw [h1, h2]⟩
theorem c_body1_0_4 (hE : E.length = 11) (hi : 0 ≤ i ∧ i ≤ 15) (hAs : ARs b4 b5 b6 b7) : ∃ z : Int, sX4_askBody_0 [.ref 42, iv (4), iv (i), iv (0)] (cW ki ln bt rl cp cs ct cv 14 5 ja ea ma a1 a2 a3 a4 a5 a6 a7 a8 jb eb mb b1 b2 b3 b4 b5 b6 b7 b8 re fl g1 g2 g3 g4 g5 (dW rt la rs rg pd du ds me tt gr su gp mk rf m1 m2 m3 m4 m5 mr mf n1 n2 n3 n4 n5 nr nf E)) = some (some (iv z), (cW ki ln bt rl cp cs ct cv 14 5 ja ea ma a1 a2 a3 a4 a5 a6 a7 a8 jb eb mb b1 b2 b3 b4 b5 b6 b7 b8 re fl g1 g2 g3 g4 g5 (dW rt la rs rg pd du ds me tt gr su gp (((mk + (Int32.ofInt (mm_mrk (Int.toNat 4)).toInt).toInt64) + (Int32.ofInt (mm_mrk (Int.toNat 3)).toInt).toInt64) + (Int32.ofInt (mm_mrk (Int.toNat 0)).toInt).toInt64) rf m1 m2 m3 m4 m5 mr mf n1 n2 n3 n4 n5 nr nf E))) := by
  have main : ∀ Q : mm_R → Prop, (∀ z : Int, Q (some (iv z), (cW ki ln bt rl cp cs ct cv 14 5 ja ea ma a1 a2 a3 a4 a5 a6 a7 a8 jb eb mb b1 b2 b3 b4 b5 b6 b7 b8 re fl g1 g2 g3 g4 g5 (dW rt la rs rg pd du ds me tt gr su gp (((mk + (Int32.ofInt (mm_mrk (Int.toNat 4)).toInt).toInt64) + (Int32.ofInt (mm_mrk (Int.toNat 3)).toInt).toInt64) + (Int32.ofInt (mm_mrk (Int.toNat 0)).toInt).toInt64) rf m1 m2 m3 m4 m5 mr mf n1 n2 n3 n4 n5 nr nf E)))) → rn_X4_askBody_0 300 (0, [(0, .ref 42), (1, iv (4)), (2, iv (i)), (3, iv (0))], [], (cW ki ln bt rl cp cs ct cv 14 5 ja ea ma a1 a2 a3 a4 a5 a6 a7 a8 jb eb mb b1 b2 b3 b4 b5 b6 b7 b8 re fl g1 g2 g3 g4 g5 (dW rt la rs rg pd du ds me tt gr su gp mk rf m1 m2 m3 m4 m5 mr mf n1 n2 n3 n4 n5 nr nf E))) Q := by
    intro Q hQ
    refine r_il rfl rfl ?_
    refine r_s1s rfl rfl rfl (c_isKind (by decide)) ?_
    refine r_zeq rfl rfl (bi_r _) (fun u1 => ?_) (fun u1 => ?_)
    · exact absurd u1 (by decide)
    · refine r_il rfl rfl ?_
      refine r_ic rfl ?_
      refine r_cle rfl rfl (by decide) (by decide) (fun u2 => ?_) (fun u2 => ?_)
      · refine r_al rfl rfl ?_
        refine r_dup rfl rfl ?_
        refine r_gf rfl rfl xg_42 rfl ?_
        refine r_gs rfl rfl ?_
        refine r_il rfl rfl ?_
        refine r_iao rfl (xout hE (by decide)) rfl (by decide) (by decide) (by decide) ?_
        refine r_i2l rfl ?_
        refine r_ladd rfl ?_
        refine r_pfl rfl rfl xg_42 rfl xp_mk ?_
        refine r_al rfl rfl ?_
        refine r_gs rfl rfl ?_
        refine r_il rfl rfl ?_
        refine r_iao rfl (xout hE (by decide)) rfl (by decide) (by decide) (by decide) ?_
        obtain ⟨y, hy⟩ := c_body1_1_3 (mk := (mk + (Int32.ofInt (mm_mrk (Int.toNat 4)).toInt).toInt64)) (E := E) (i := i) (ki := ki) (ln := ln) (bt := bt) (rl := rl) (cp := cp) (cs := cs) (ct := ct) (cv := cv) (ja := ja) (ea := ea) (ma := ma) (a1 := a1) (a2 := a2) (a3 := a3) (a4 := a4) (a5 := a5) (a6 := a6) (a7 := a7) (a8 := a8) (jb := jb) (eb := eb) (mb := mb) (b1 := b1) (b2 := b2) (b3 := b3) (b4 := b4) (b5 := b5) (b6 := b6) (b7 := b7) (b8 := b8) (re := re) (fl := fl) (g1 := g1) (g2 := g2) (g3 := g3) (g4 := g4) (g5 := g5) (rt := rt) (la := la) (rs := rs) (rg := rg) (pd := pd) (du := du) (ds := ds) (me := me) (tt := tt) (gr := gr) (su := su) (gp := gp) (rf := rf) (m1 := m1) (m2 := m2) (m3 := m3) (m4 := m4) (m5 := m5) (mr := mr) (mf := mf) (n1 := n1) (n2 := n2) (n3 := n3) (n4 := n4) (n5 := n5) (nr := nr) (nf := nf) hE hi hAs
        refine r_il rfl rfl ?_
        refine r_il rfl rfl ?_
        refine r_ic rfl ?_
        refine r_add rfl ?_
        refine r_v4s rfl rfl xg_42 rfl hy ?_
        refine r_isw (lv' := [(4, _), (0, _), (1, _), (2, _), (3, _)]) rfl rfl rfl ?_
        refine r_il rfl rfl ?_
        refine r_ts (off := 85) rfl (by decide) rfl rfl ?_
        refine r_ilw rfl rfl ?_
        refine r_ic rfl ?_
        refine r_add rfl ?_
        exact r_ret rfl rfl (hQ _)
      · exact absurd u2 (by decide)
  obtain ⟨r, h1, z, h2⟩ := rn_S (vs := [.ref 42, iv (4), iv (i), iv (0)]) (Q := fun r => ∃ z : Int, r = (some (iv z), (cW ki ln bt rl cp cs ct cv 14 5 ja ea ma a1 a2 a3 a4 a5 a6 a7 a8 jb eb mb b1 b2 b3 b4 b5 b6 b7 b8 re fl g1 g2 g3 g4 g5 (dW rt la rs rg pd du ds me tt gr su gp (((mk + (Int32.ofInt (mm_mrk (Int.toNat 4)).toInt).toInt64) + (Int32.ofInt (mm_mrk (Int.toNat 3)).toInt).toInt64) + (Int32.ofInt (mm_mrk (Int.toNat 0)).toInt).toInt64) rf m1 m2 m3 m4 m5 mr mf n1 n2 n3 n4 n5 nr nf E)))) rfl (rn_up (N := 300) (M := mm_fuel) (by decide) (main (fun r => ∃ z : Int, r = (some (iv z), (cW ki ln bt rl cp cs ct cv 14 5 ja ea ma a1 a2 a3 a4 a5 a6 a7 a8 jb eb mb b1 b2 b3 b4 b5 b6 b7 b8 re fl g1 g2 g3 g4 g5 (dW rt la rs rg pd du ds me tt gr su gp (((mk + (Int32.ofInt (mm_mrk (Int.toNat 4)).toInt).toInt64) + (Int32.ofInt (mm_mrk (Int.toNat 3)).toInt).toInt64) + (Int32.ofInt (mm_mrk (Int.toNat 0)).toInt).toInt64) rf m1 m2 m3 m4 m5 mr mf n1 n2 n3 n4 n5 nr nf E)))) (fun z => ⟨z, rfl⟩)))
  have h1 : sX4_askBody_0 [.ref 42, iv (4), iv (i), iv (0)] (cW ki ln bt rl cp cs ct cv 14 5 ja ea ma a1 a2 a3 a4 a5 a6 a7 a8 jb eb mb b1 b2 b3 b4 b5 b6 b7 b8 re fl g1 g2 g3 g4 g5 (dW rt la rs rg pd du ds me tt gr su gp mk rf m1 m2 m3 m4 m5 mr mf n1 n2 n3 n4 n5 nr nf E)) = some r := h1
  exact ⟨z, by rw [h1, h2]⟩
theorem c_body1_0_5 (hE : E.length = 11) (hi : 0 ≤ i ∧ i ≤ 15) (hAs : ARs b4 b5 b6 b7) : ∃ z : Int, sX4_askBody_0 [.ref 42, iv (5), iv (i), iv (0)] (cW ki ln bt rl cp cs ct cv 14 5 ja ea ma a1 a2 a3 a4 a5 a6 a7 a8 jb eb mb b1 b2 b3 b4 b5 b6 b7 b8 re fl g1 g2 g3 g4 g5 (dW rt la rs rg pd du ds me tt gr su gp mk rf m1 m2 m3 m4 m5 mr mf n1 n2 n3 n4 n5 nr nf E)) = some (some (iv z), (cW ki ln bt rl cp cs ct cv 14 5 ja ea ma a1 a2 a3 a4 a5 a6 a7 a8 jb eb mb b1 b2 b3 b4 b5 b6 b7 b8 re fl g1 g2 g3 g4 g5 (dW rt la rs rg pd du ds me tt gr su gp ((mk + (Int32.ofInt (mm_mrk (Int.toNat 5)).toInt).toInt64) + (Int32.ofInt (mm_mrk (Int.toNat 0)).toInt).toInt64) rf m1 m2 m3 m4 m5 mr mf n1 n2 n3 n4 n5 nr nf E))) := by
  have main : ∀ Q : mm_R → Prop, (∀ z : Int, Q (some (iv z), (cW ki ln bt rl cp cs ct cv 14 5 ja ea ma a1 a2 a3 a4 a5 a6 a7 a8 jb eb mb b1 b2 b3 b4 b5 b6 b7 b8 re fl g1 g2 g3 g4 g5 (dW rt la rs rg pd du ds me tt gr su gp ((mk + (Int32.ofInt (mm_mrk (Int.toNat 5)).toInt).toInt64) + (Int32.ofInt (mm_mrk (Int.toNat 0)).toInt).toInt64) rf m1 m2 m3 m4 m5 mr mf n1 n2 n3 n4 n5 nr nf E)))) → rn_X4_askBody_0 300 (0, [(0, .ref 42), (1, iv (5)), (2, iv (i)), (3, iv (0))], [], (cW ki ln bt rl cp cs ct cv 14 5 ja ea ma a1 a2 a3 a4 a5 a6 a7 a8 jb eb mb b1 b2 b3 b4 b5 b6 b7 b8 re fl g1 g2 g3 g4 g5 (dW rt la rs rg pd du ds me tt gr su gp mk rf m1 m2 m3 m4 m5 mr mf n1 n2 n3 n4 n5 nr nf E))) Q := by
    intro Q hQ
    refine r_il rfl rfl ?_
    refine r_s1s rfl rfl rfl (c_isKind (by decide)) ?_
    refine r_zeq rfl rfl (bi_r _) (fun u1 => ?_) (fun u1 => ?_)
    · exact absurd u1 (by decide)
    · refine r_il rfl rfl ?_
      refine r_ic rfl ?_
      refine r_cle rfl rfl (by decide) (by decide) (fun u2 => ?_) (fun u2 => ?_)
      · refine r_al rfl rfl ?_
        refine r_dup rfl rfl ?_
        refine r_gf rfl rfl xg_42 rfl ?_
        refine r_gs rfl rfl ?_
        refine r_il rfl rfl ?_
        refine r_iao rfl (xout hE (by decide)) rfl (by decide) (by decide) (by decide) ?_
        refine r_i2l rfl ?_
        refine r_ladd rfl ?_
        refine r_pfl rfl rfl xg_42 rfl xp_mk ?_
        refine r_al rfl rfl ?_
        refine r_gs rfl rfl ?_
        refine r_il rfl rfl ?_
        refine r_iao rfl (xout hE (by decide)) rfl (by decide) (by decide) (by decide) ?_
        obtain ⟨y, hy⟩ := c_body1_1_0 (mk := (mk + (Int32.ofInt (mm_mrk (Int.toNat 5)).toInt).toInt64)) (E := E) (i := i) (ki := ki) (ln := ln) (bt := bt) (rl := rl) (cp := cp) (cs := cs) (ct := ct) (cv := cv) (ja := ja) (ea := ea) (ma := ma) (a1 := a1) (a2 := a2) (a3 := a3) (a4 := a4) (a5 := a5) (a6 := a6) (a7 := a7) (a8 := a8) (jb := jb) (eb := eb) (mb := mb) (b1 := b1) (b2 := b2) (b3 := b3) (b4 := b4) (b5 := b5) (b6 := b6) (b7 := b7) (b8 := b8) (re := re) (fl := fl) (g1 := g1) (g2 := g2) (g3 := g3) (g4 := g4) (g5 := g5) (rt := rt) (la := la) (rs := rs) (rg := rg) (pd := pd) (du := du) (ds := ds) (me := me) (tt := tt) (gr := gr) (su := su) (gp := gp) (rf := rf) (m1 := m1) (m2 := m2) (m3 := m3) (m4 := m4) (m5 := m5) (mr := mr) (mf := mf) (n1 := n1) (n2 := n2) (n3 := n3) (n4 := n4) (n5 := n5) (nr := nr) (nf := nf) hE hi hAs
        refine r_il rfl rfl ?_
        refine r_il rfl rfl ?_
        refine r_ic rfl ?_
        refine r_add rfl ?_
        refine r_v4s rfl rfl xg_42 rfl hy ?_
        refine r_isw (lv' := [(4, _), (0, _), (1, _), (2, _), (3, _)]) rfl rfl rfl ?_
        refine r_il rfl rfl ?_
        refine r_ts (off := 90) rfl (by decide) rfl rfl ?_
        have hs := (hAs (Int.toNat i) (by omega)).1
        unfold i7 at hs
        refine r_ilw rfl rfl ?_
        refine r_al rfl rfl ?_
        refine r_gf rfl rfl xg_42 rfl ?_
        refine r_gf rfl rfl xg_4 rfl ?_
        refine r_gf rfl rfl xg_23 rfl ?_
        refine r_al rfl rfl ?_
        refine r_gf rfl rfl xg_42 rfl ?_
        refine r_gf rfl rfl xg_4 rfl ?_
        refine r_gf rfl rfl xg_14 rfl ?_
        refine r_il rfl rfl ?_
        refine r_ia rfl xg_18 (by omega) (by omega) (by decide) ?_
        refine r_ia rfl xg_28 (by omega) (by omega) (by decide) ?_
        refine r_bi rfl (by decide) ?_
        refine r_odiv rfl (by decide) ?_
        refine r_add rfl ?_
        exact r_ret rfl rfl (hQ _)
      · exact absurd u2 (by decide)
  obtain ⟨r, h1, z, h2⟩ := rn_S (vs := [.ref 42, iv (5), iv (i), iv (0)]) (Q := fun r => ∃ z : Int, r = (some (iv z), (cW ki ln bt rl cp cs ct cv 14 5 ja ea ma a1 a2 a3 a4 a5 a6 a7 a8 jb eb mb b1 b2 b3 b4 b5 b6 b7 b8 re fl g1 g2 g3 g4 g5 (dW rt la rs rg pd du ds me tt gr su gp ((mk + (Int32.ofInt (mm_mrk (Int.toNat 5)).toInt).toInt64) + (Int32.ofInt (mm_mrk (Int.toNat 0)).toInt).toInt64) rf m1 m2 m3 m4 m5 mr mf n1 n2 n3 n4 n5 nr nf E)))) rfl (rn_up (N := 300) (M := mm_fuel) (by decide) (main (fun r => ∃ z : Int, r = (some (iv z), (cW ki ln bt rl cp cs ct cv 14 5 ja ea ma a1 a2 a3 a4 a5 a6 a7 a8 jb eb mb b1 b2 b3 b4 b5 b6 b7 b8 re fl g1 g2 g3 g4 g5 (dW rt la rs rg pd du ds me tt gr su gp ((mk + (Int32.ofInt (mm_mrk (Int.toNat 5)).toInt).toInt64) + (Int32.ofInt (mm_mrk (Int.toNat 0)).toInt).toInt64) rf m1 m2 m3 m4 m5 mr mf n1 n2 n3 n4 n5 nr nf E)))) (fun z => ⟨z, rfl⟩)))
  have h1 : sX4_askBody_0 [.ref 42, iv (5), iv (i), iv (0)] (cW ki ln bt rl cp cs ct cv 14 5 ja ea ma a1 a2 a3 a4 a5 a6 a7 a8 jb eb mb b1 b2 b3 b4 b5 b6 b7 b8 re fl g1 g2 g3 g4 g5 (dW rt la rs rg pd du ds me tt gr su gp mk rf m1 m2 m3 m4 m5 mr mf n1 n2 n3 n4 n5 nr nf E)) = some r := h1
  exact ⟨z, by rw [h1, h2]⟩
theorem c_body1_0_6 (hE : E.length = 11) (hi : 0 ≤ i ∧ i ≤ 15) (hAs : ARs b4 b5 b6 b7) : ∃ z : Int, sX4_askBody_0 [.ref 42, iv (6), iv (i), iv (0)] (cW ki ln bt rl cp cs ct cv 14 5 ja ea ma a1 a2 a3 a4 a5 a6 a7 a8 jb eb mb b1 b2 b3 b4 b5 b6 b7 b8 re fl g1 g2 g3 g4 g5 (dW rt la rs rg pd du ds me tt gr su gp mk rf m1 m2 m3 m4 m5 mr mf n1 n2 n3 n4 n5 nr nf E)) = some (some (iv z), (cW ki ln bt rl cp cs ct cv 14 5 ja ea ma a1 a2 a3 a4 a5 a6 a7 a8 jb eb mb b1 b2 b3 b4 b5 b6 b7 b8 re fl g1 g2 g3 g4 g5 (dW rt la rs rg pd du ds me tt gr su gp (((mk + (Int32.ofInt (mm_mrk (Int.toNat 6)).toInt).toInt64) + (Int32.ofInt (mm_mrk (Int.toNat 5)).toInt).toInt64) + (Int32.ofInt (mm_mrk (Int.toNat 0)).toInt).toInt64) rf m1 m2 m3 m4 m5 mr mf n1 n2 n3 n4 n5 nr nf E))) := by
  have main : ∀ Q : mm_R → Prop, (∀ z : Int, Q (some (iv z), (cW ki ln bt rl cp cs ct cv 14 5 ja ea ma a1 a2 a3 a4 a5 a6 a7 a8 jb eb mb b1 b2 b3 b4 b5 b6 b7 b8 re fl g1 g2 g3 g4 g5 (dW rt la rs rg pd du ds me tt gr su gp (((mk + (Int32.ofInt (mm_mrk (Int.toNat 6)).toInt).toInt64) + (Int32.ofInt (mm_mrk (Int.toNat 5)).toInt).toInt64) + (Int32.ofInt (mm_mrk (Int.toNat 0)).toInt).toInt64) rf m1 m2 m3 m4 m5 mr mf n1 n2 n3 n4 n5 nr nf E)))) → rn_X4_askBody_0 300 (0, [(0, .ref 42), (1, iv (6)), (2, iv (i)), (3, iv (0))], [], (cW ki ln bt rl cp cs ct cv 14 5 ja ea ma a1 a2 a3 a4 a5 a6 a7 a8 jb eb mb b1 b2 b3 b4 b5 b6 b7 b8 re fl g1 g2 g3 g4 g5 (dW rt la rs rg pd du ds me tt gr su gp mk rf m1 m2 m3 m4 m5 mr mf n1 n2 n3 n4 n5 nr nf E))) Q := by
    intro Q hQ
    refine r_il rfl rfl ?_
    refine r_s1s rfl rfl rfl (c_isKind (by decide)) ?_
    refine r_zeq rfl rfl (bi_r _) (fun u1 => ?_) (fun u1 => ?_)
    · exact absurd u1 (by decide)
    · refine r_il rfl rfl ?_
      refine r_ic rfl ?_
      refine r_cle rfl rfl (by decide) (by decide) (fun u2 => ?_) (fun u2 => ?_)
      · refine r_al rfl rfl ?_
        refine r_dup rfl rfl ?_
        refine r_gf rfl rfl xg_42 rfl ?_
        refine r_gs rfl rfl ?_
        refine r_il rfl rfl ?_
        refine r_iao rfl (xout hE (by decide)) rfl (by decide) (by decide) (by decide) ?_
        refine r_i2l rfl ?_
        refine r_ladd rfl ?_
        refine r_pfl rfl rfl xg_42 rfl xp_mk ?_
        refine r_al rfl rfl ?_
        refine r_gs rfl rfl ?_
        refine r_il rfl rfl ?_
        refine r_iao rfl (xout hE (by decide)) rfl (by decide) (by decide) (by decide) ?_
        obtain ⟨y, hy⟩ := c_body1_1_5 (mk := (mk + (Int32.ofInt (mm_mrk (Int.toNat 6)).toInt).toInt64)) (E := E) (i := i) (ki := ki) (ln := ln) (bt := bt) (rl := rl) (cp := cp) (cs := cs) (ct := ct) (cv := cv) (ja := ja) (ea := ea) (ma := ma) (a1 := a1) (a2 := a2) (a3 := a3) (a4 := a4) (a5 := a5) (a6 := a6) (a7 := a7) (a8 := a8) (jb := jb) (eb := eb) (mb := mb) (b1 := b1) (b2 := b2) (b3 := b3) (b4 := b4) (b5 := b5) (b6 := b6) (b7 := b7) (b8 := b8) (re := re) (fl := fl) (g1 := g1) (g2 := g2) (g3 := g3) (g4 := g4) (g5 := g5) (rt := rt) (la := la) (rs := rs) (rg := rg) (pd := pd) (du := du) (ds := ds) (me := me) (tt := tt) (gr := gr) (su := su) (gp := gp) (rf := rf) (m1 := m1) (m2 := m2) (m3 := m3) (m4 := m4) (m5 := m5) (mr := mr) (mf := mf) (n1 := n1) (n2 := n2) (n3 := n3) (n4 := n4) (n5 := n5) (nr := nr) (nf := nf) hE hi hAs
        refine r_il rfl rfl ?_
        refine r_il rfl rfl ?_
        refine r_ic rfl ?_
        refine r_add rfl ?_
        refine r_v4s rfl rfl xg_42 rfl hy ?_
        refine r_isw (lv' := [(4, _), (0, _), (1, _), (2, _), (3, _)]) rfl rfl rfl ?_
        refine r_il rfl rfl ?_
        refine r_ts (off := 120) rfl (by decide) rfl rfl ?_
        refine r_ic rfl ?_
        refine r_ilw rfl rfl ?_
        refine r_al rfl rfl ?_
        refine r_gf rfl rfl xg_42 rfl ?_
        refine r_il rfl rfl ?_
        refine r_v2s rfl rfl xg_4 rfl (c_leftC1 hi) ?_
        refine r_sub rfl ?_
        obtain ⟨z, hz⟩ := c_maxE (a := 0) (b := (y) - (cL g3 g2 re i)) (mw := (cW ki ln bt rl cp cs ct cv 14 5 ja ea ma a1 a2 a3 a4 a5 a6 a7 a8 jb eb mb b1 b2 b3 b4 b5 b6 b7 b8 re fl g1 g2 g3 g4 g5 (dW rt la rs rg pd du ds me tt gr su gp (((mk + (Int32.ofInt (mm_mrk (Int.toNat 6)).toInt).toInt64) + (Int32.ofInt (mm_mrk (Int.toNat 5)).toInt).toInt64) + (Int32.ofInt (mm_mrk (Int.toNat 0)).toInt).toInt64) rf m1 m2 m3 m4 m5 mr mf n1 n2 n3 n4 n5 nr nf E)))
        refine r_s2s rfl rfl rfl hz ?_
        exact r_ret rfl rfl (hQ _)
      · exact absurd u2 (by decide)
  obtain ⟨r, h1, z, h2⟩ := rn_S (vs := [.ref 42, iv (6), iv (i), iv (0)]) (Q := fun r => ∃ z : Int, r = (some (iv z), (cW ki ln bt rl cp cs ct cv 14 5 ja ea ma a1 a2 a3 a4 a5 a6 a7 a8 jb eb mb b1 b2 b3 b4 b5 b6 b7 b8 re fl g1 g2 g3 g4 g5 (dW rt la rs rg pd du ds me tt gr su gp (((mk + (Int32.ofInt (mm_mrk (Int.toNat 6)).toInt).toInt64) + (Int32.ofInt (mm_mrk (Int.toNat 5)).toInt).toInt64) + (Int32.ofInt (mm_mrk (Int.toNat 0)).toInt).toInt64) rf m1 m2 m3 m4 m5 mr mf n1 n2 n3 n4 n5 nr nf E)))) rfl (rn_up (N := 300) (M := mm_fuel) (by decide) (main (fun r => ∃ z : Int, r = (some (iv z), (cW ki ln bt rl cp cs ct cv 14 5 ja ea ma a1 a2 a3 a4 a5 a6 a7 a8 jb eb mb b1 b2 b3 b4 b5 b6 b7 b8 re fl g1 g2 g3 g4 g5 (dW rt la rs rg pd du ds me tt gr su gp (((mk + (Int32.ofInt (mm_mrk (Int.toNat 6)).toInt).toInt64) + (Int32.ofInt (mm_mrk (Int.toNat 5)).toInt).toInt64) + (Int32.ofInt (mm_mrk (Int.toNat 0)).toInt).toInt64) rf m1 m2 m3 m4 m5 mr mf n1 n2 n3 n4 n5 nr nf E)))) (fun z => ⟨z, rfl⟩)))
  have h1 : sX4_askBody_0 [.ref 42, iv (6), iv (i), iv (0)] (cW ki ln bt rl cp cs ct cv 14 5 ja ea ma a1 a2 a3 a4 a5 a6 a7 a8 jb eb mb b1 b2 b3 b4 b5 b6 b7 b8 re fl g1 g2 g3 g4 g5 (dW rt la rs rg pd du ds me tt gr su gp mk rf m1 m2 m3 m4 m5 mr mf n1 n2 n3 n4 n5 nr nf E)) = some r := h1
  exact ⟨z, by rw [h1, h2]⟩
abbrev rn_X4_valueAs (N : Nat) (c : mm_C) (Q : mm_R → Prop) : Prop := rn (mm_gf gLX4) (mm_pf pLX4) (mm_mv vX4_valueAs) (mm_mv zX4_valueAs) (mm_kc kLX4) gsX4 mm_rf0 mm_ro (some .int) 3 (mm_ins iX4_valueAs) N c Q
theorem c_valueAs0_0 (hE : E.length = 11) (hi : 0 ≤ i ∧ i ≤ 15) (hAs : ARs a4 a5 a6 a7) : ∃ z : Int, sX4_valueAs [.ref 42, iv (0), iv (i)] (cW ki ln bt rl cp cs ct cv 5 14 ja ea ma a1 a2 a3 a4 a5 a6 a7 a8 jb eb mb b1 b2 b3 b4 b5 b6 b7 b8 re fl g1 g2 g3 g4 g5 (dW rt la rs rg pd du ds me tt gr su gp mk rf m1 m2 m3 m4 m5 mr mf n1 n2 n3 n4 n5 nr nf E)) = some (some (iv z), (cW ki ln bt rl cp cs ct cv 5 14 ja ea ma a1 a2 a3 a4 a5 a6 a7 a8 jb eb mb b1 b2 b3 b4 b5 b6 b7 b8 re fl g1 g2 g3 g4 g5 (dW rt la rs rg pd du ds me tt gr su gp (mk + (Int32.ofInt (mm_mrk (Int.toNat 0)).toInt).toInt64) rf m1 m2 m3 m4 m5 mr mf n1 n2 n3 n4 n5 nr nf E))) := by
  have main : ∀ Q : mm_R → Prop, (∀ z : Int, Q (some (iv z), (cW ki ln bt rl cp cs ct cv 5 14 ja ea ma a1 a2 a3 a4 a5 a6 a7 a8 jb eb mb b1 b2 b3 b4 b5 b6 b7 b8 re fl g1 g2 g3 g4 g5 (dW rt la rs rg pd du ds me tt gr su gp (mk + (Int32.ofInt (mm_mrk (Int.toNat 0)).toInt).toInt64) rf m1 m2 m3 m4 m5 mr mf n1 n2 n3 n4 n5 nr nf E)))) → rn_X4_valueAs (300) (0, [(0, .ref 42), (1, iv (0)), (2, iv (i))], [], (cW ki ln bt rl cp cs ct cv 5 14 ja ea ma a1 a2 a3 a4 a5 a6 a7 a8 jb eb mb b1 b2 b3 b4 b5 b6 b7 b8 re fl g1 g2 g3 g4 g5 (dW rt la rs rg pd du ds me tt gr su gp mk rf m1 m2 m3 m4 m5 mr mf n1 n2 n3 n4 n5 nr nf E))) Q := by
    intro Q hQ
    obtain ⟨z, hz⟩ := c_body0_0_0 (E := E) (i := i) (ki := ki) (ln := ln) (bt := bt) (rl := rl) (cp := cp) (cs := cs) (ct := ct) (cv := cv) (ja := ja) (ea := ea) (ma := ma) (a1 := a1) (a2 := a2) (a3 := a3) (a4 := a4) (a5 := a5) (a6 := a6) (a7 := a7) (a8 := a8) (jb := jb) (eb := eb) (mb := mb) (b1 := b1) (b2 := b2) (b3 := b3) (b4 := b4) (b5 := b5) (b6 := b6) (b7 := b7) (b8 := b8) (re := re) (fl := fl) (g1 := g1) (g2 := g2) (g3 := g3) (g4 := g4) (g5 := g5) (rt := rt) (la := la) (rs := rs) (rg := rg) (pd := pd) (du := du) (ds := ds) (me := me) (tt := tt) (gr := gr) (su := su) (gp := gp) (mk := mk) (rf := rf) (m1 := m1) (m2 := m2) (m3 := m3) (m4 := m4) (m5 := m5) (mr := mr) (mf := mf) (n1 := n1) (n2 := n2) (n3 := n3) (n4 := n4) (n5 := n5) (nr := nr) (nf := nf) hE hi hAs
    refine r_al rfl rfl ?_
    refine r_il rfl rfl ?_
    refine r_il rfl rfl ?_
    refine r_ic rfl ?_
    refine r_v4s rfl rfl xg_42 rfl hz ?_
    exact r_ret rfl rfl (hQ _)
  obtain ⟨r, h1, z, h2⟩ := rn_S (vs := [.ref 42, iv (0), iv (i)]) (Q := fun r => ∃ z : Int, r = (some (iv z), (cW ki ln bt rl cp cs ct cv 5 14 ja ea ma a1 a2 a3 a4 a5 a6 a7 a8 jb eb mb b1 b2 b3 b4 b5 b6 b7 b8 re fl g1 g2 g3 g4 g5 (dW rt la rs rg pd du ds me tt gr su gp (mk + (Int32.ofInt (mm_mrk (Int.toNat 0)).toInt).toInt64) rf m1 m2 m3 m4 m5 mr mf n1 n2 n3 n4 n5 nr nf E)))) rfl (rn_up (N := 300) (M := mm_fuel) (by decide) (main (fun r => ∃ z : Int, r = (some (iv z), (cW ki ln bt rl cp cs ct cv 5 14 ja ea ma a1 a2 a3 a4 a5 a6 a7 a8 jb eb mb b1 b2 b3 b4 b5 b6 b7 b8 re fl g1 g2 g3 g4 g5 (dW rt la rs rg pd du ds me tt gr su gp (mk + (Int32.ofInt (mm_mrk (Int.toNat 0)).toInt).toInt64) rf m1 m2 m3 m4 m5 mr mf n1 n2 n3 n4 n5 nr nf E)))) (fun z => ⟨z, rfl⟩)))
  have h1 : sX4_valueAs [.ref 42, iv (0), iv (i)] (cW ki ln bt rl cp cs ct cv 5 14 ja ea ma a1 a2 a3 a4 a5 a6 a7 a8 jb eb mb b1 b2 b3 b4 b5 b6 b7 b8 re fl g1 g2 g3 g4 g5 (dW rt la rs rg pd du ds me tt gr su gp mk rf m1 m2 m3 m4 m5 mr mf n1 n2 n3 n4 n5 nr nf E)) = some r := h1
  exact ⟨z, by rw [h1, h2]⟩
theorem c_valueAs0_1 (hE : E.length = 11) (hi : 0 ≤ i ∧ i ≤ 15) (hAs : ARs a4 a5 a6 a7) : ∃ z : Int, sX4_valueAs [.ref 42, iv (1), iv (i)] (cW ki ln bt rl cp cs ct cv 5 14 ja ea ma a1 a2 a3 a4 a5 a6 a7 a8 jb eb mb b1 b2 b3 b4 b5 b6 b7 b8 re fl g1 g2 g3 g4 g5 (dW rt la rs rg pd du ds me tt gr su gp mk rf m1 m2 m3 m4 m5 mr mf n1 n2 n3 n4 n5 nr nf E)) = some (some (iv z), (cW ki ln bt rl cp cs ct cv 5 14 ja ea ma a1 a2 a3 a4 a5 a6 a7 a8 jb eb mb b1 b2 b3 b4 b5 b6 b7 b8 re fl g1 g2 g3 g4 g5 (dW rt la rs rg pd du ds me tt gr su gp ((mk + (Int32.ofInt (mm_mrk (Int.toNat 1)).toInt).toInt64) + (Int32.ofInt (mm_mrk (Int.toNat 0)).toInt).toInt64) rf m1 m2 m3 m4 m5 mr mf n1 n2 n3 n4 n5 nr nf E))) := by
  have main : ∀ Q : mm_R → Prop, (∀ z : Int, Q (some (iv z), (cW ki ln bt rl cp cs ct cv 5 14 ja ea ma a1 a2 a3 a4 a5 a6 a7 a8 jb eb mb b1 b2 b3 b4 b5 b6 b7 b8 re fl g1 g2 g3 g4 g5 (dW rt la rs rg pd du ds me tt gr su gp ((mk + (Int32.ofInt (mm_mrk (Int.toNat 1)).toInt).toInt64) + (Int32.ofInt (mm_mrk (Int.toNat 0)).toInt).toInt64) rf m1 m2 m3 m4 m5 mr mf n1 n2 n3 n4 n5 nr nf E)))) → rn_X4_valueAs (300) (0, [(0, .ref 42), (1, iv (1)), (2, iv (i))], [], (cW ki ln bt rl cp cs ct cv 5 14 ja ea ma a1 a2 a3 a4 a5 a6 a7 a8 jb eb mb b1 b2 b3 b4 b5 b6 b7 b8 re fl g1 g2 g3 g4 g5 (dW rt la rs rg pd du ds me tt gr su gp mk rf m1 m2 m3 m4 m5 mr mf n1 n2 n3 n4 n5 nr nf E))) Q := by
    intro Q hQ
    obtain ⟨z, hz⟩ := c_body0_0_1 (E := E) (i := i) (ki := ki) (ln := ln) (bt := bt) (rl := rl) (cp := cp) (cs := cs) (ct := ct) (cv := cv) (ja := ja) (ea := ea) (ma := ma) (a1 := a1) (a2 := a2) (a3 := a3) (a4 := a4) (a5 := a5) (a6 := a6) (a7 := a7) (a8 := a8) (jb := jb) (eb := eb) (mb := mb) (b1 := b1) (b2 := b2) (b3 := b3) (b4 := b4) (b5 := b5) (b6 := b6) (b7 := b7) (b8 := b8) (re := re) (fl := fl) (g1 := g1) (g2 := g2) (g3 := g3) (g4 := g4) (g5 := g5) (rt := rt) (la := la) (rs := rs) (rg := rg) (pd := pd) (du := du) (ds := ds) (me := me) (tt := tt) (gr := gr) (su := su) (gp := gp) (mk := mk) (rf := rf) (m1 := m1) (m2 := m2) (m3 := m3) (m4 := m4) (m5 := m5) (mr := mr) (mf := mf) (n1 := n1) (n2 := n2) (n3 := n3) (n4 := n4) (n5 := n5) (nr := nr) (nf := nf) hE hi hAs
    refine r_al rfl rfl ?_
    refine r_il rfl rfl ?_
    refine r_il rfl rfl ?_
    refine r_ic rfl ?_
    refine r_v4s rfl rfl xg_42 rfl hz ?_
    exact r_ret rfl rfl (hQ _)
  obtain ⟨r, h1, z, h2⟩ := rn_S (vs := [.ref 42, iv (1), iv (i)]) (Q := fun r => ∃ z : Int, r = (some (iv z), (cW ki ln bt rl cp cs ct cv 5 14 ja ea ma a1 a2 a3 a4 a5 a6 a7 a8 jb eb mb b1 b2 b3 b4 b5 b6 b7 b8 re fl g1 g2 g3 g4 g5 (dW rt la rs rg pd du ds me tt gr su gp ((mk + (Int32.ofInt (mm_mrk (Int.toNat 1)).toInt).toInt64) + (Int32.ofInt (mm_mrk (Int.toNat 0)).toInt).toInt64) rf m1 m2 m3 m4 m5 mr mf n1 n2 n3 n4 n5 nr nf E)))) rfl (rn_up (N := 300) (M := mm_fuel) (by decide) (main (fun r => ∃ z : Int, r = (some (iv z), (cW ki ln bt rl cp cs ct cv 5 14 ja ea ma a1 a2 a3 a4 a5 a6 a7 a8 jb eb mb b1 b2 b3 b4 b5 b6 b7 b8 re fl g1 g2 g3 g4 g5 (dW rt la rs rg pd du ds me tt gr su gp ((mk + (Int32.ofInt (mm_mrk (Int.toNat 1)).toInt).toInt64) + (Int32.ofInt (mm_mrk (Int.toNat 0)).toInt).toInt64) rf m1 m2 m3 m4 m5 mr mf n1 n2 n3 n4 n5 nr nf E)))) (fun z => ⟨z, rfl⟩)))
  have h1 : sX4_valueAs [.ref 42, iv (1), iv (i)] (cW ki ln bt rl cp cs ct cv 5 14 ja ea ma a1 a2 a3 a4 a5 a6 a7 a8 jb eb mb b1 b2 b3 b4 b5 b6 b7 b8 re fl g1 g2 g3 g4 g5 (dW rt la rs rg pd du ds me tt gr su gp mk rf m1 m2 m3 m4 m5 mr mf n1 n2 n3 n4 n5 nr nf E)) = some r := h1
  exact ⟨z, by rw [h1, h2]⟩
theorem c_valueAs0_2 (hE : E.length = 11) (hi : 0 ≤ i ∧ i ≤ 15) (hAs : ARs a4 a5 a6 a7) : ∃ z : Int, sX4_valueAs [.ref 42, iv (2), iv (i)] (cW ki ln bt rl cp cs ct cv 5 14 ja ea ma a1 a2 a3 a4 a5 a6 a7 a8 jb eb mb b1 b2 b3 b4 b5 b6 b7 b8 re fl g1 g2 g3 g4 g5 (dW rt la rs rg pd du ds me tt gr su gp mk rf m1 m2 m3 m4 m5 mr mf n1 n2 n3 n4 n5 nr nf E)) = some (some (iv z), (cW ki ln bt rl cp cs ct cv 5 14 ja ea ma a1 a2 a3 a4 a5 a6 a7 a8 jb eb mb b1 b2 b3 b4 b5 b6 b7 b8 re fl g1 g2 g3 g4 g5 (dW rt la rs rg pd du ds me tt gr su gp ((mk + (Int32.ofInt (mm_mrk (Int.toNat 2)).toInt).toInt64) + (Int32.ofInt (mm_mrk (Int.toNat 0)).toInt).toInt64) rf m1 m2 m3 m4 m5 mr mf n1 n2 n3 n4 n5 nr nf E))) := by
  have main : ∀ Q : mm_R → Prop, (∀ z : Int, Q (some (iv z), (cW ki ln bt rl cp cs ct cv 5 14 ja ea ma a1 a2 a3 a4 a5 a6 a7 a8 jb eb mb b1 b2 b3 b4 b5 b6 b7 b8 re fl g1 g2 g3 g4 g5 (dW rt la rs rg pd du ds me tt gr su gp ((mk + (Int32.ofInt (mm_mrk (Int.toNat 2)).toInt).toInt64) + (Int32.ofInt (mm_mrk (Int.toNat 0)).toInt).toInt64) rf m1 m2 m3 m4 m5 mr mf n1 n2 n3 n4 n5 nr nf E)))) → rn_X4_valueAs (300) (0, [(0, .ref 42), (1, iv (2)), (2, iv (i))], [], (cW ki ln bt rl cp cs ct cv 5 14 ja ea ma a1 a2 a3 a4 a5 a6 a7 a8 jb eb mb b1 b2 b3 b4 b5 b6 b7 b8 re fl g1 g2 g3 g4 g5 (dW rt la rs rg pd du ds me tt gr su gp mk rf m1 m2 m3 m4 m5 mr mf n1 n2 n3 n4 n5 nr nf E))) Q := by
    intro Q hQ
    obtain ⟨z, hz⟩ := c_body0_0_2 (E := E) (i := i) (ki := ki) (ln := ln) (bt := bt) (rl := rl) (cp := cp) (cs := cs) (ct := ct) (cv := cv) (ja := ja) (ea := ea) (ma := ma) (a1 := a1) (a2 := a2) (a3 := a3) (a4 := a4) (a5 := a5) (a6 := a6) (a7 := a7) (a8 := a8) (jb := jb) (eb := eb) (mb := mb) (b1 := b1) (b2 := b2) (b3 := b3) (b4 := b4) (b5 := b5) (b6 := b6) (b7 := b7) (b8 := b8) (re := re) (fl := fl) (g1 := g1) (g2 := g2) (g3 := g3) (g4 := g4) (g5 := g5) (rt := rt) (la := la) (rs := rs) (rg := rg) (pd := pd) (du := du) (ds := ds) (me := me) (tt := tt) (gr := gr) (su := su) (gp := gp) (mk := mk) (rf := rf) (m1 := m1) (m2 := m2) (m3 := m3) (m4 := m4) (m5 := m5) (mr := mr) (mf := mf) (n1 := n1) (n2 := n2) (n3 := n3) (n4 := n4) (n5 := n5) (nr := nr) (nf := nf) hE hi hAs
    refine r_al rfl rfl ?_
    refine r_il rfl rfl ?_
    refine r_il rfl rfl ?_
    refine r_ic rfl ?_
    refine r_v4s rfl rfl xg_42 rfl hz ?_
    exact r_ret rfl rfl (hQ _)
  obtain ⟨r, h1, z, h2⟩ := rn_S (vs := [.ref 42, iv (2), iv (i)]) (Q := fun r => ∃ z : Int, r = (some (iv z), (cW ki ln bt rl cp cs ct cv 5 14 ja ea ma a1 a2 a3 a4 a5 a6 a7 a8 jb eb mb b1 b2 b3 b4 b5 b6 b7 b8 re fl g1 g2 g3 g4 g5 (dW rt la rs rg pd du ds me tt gr su gp ((mk + (Int32.ofInt (mm_mrk (Int.toNat 2)).toInt).toInt64) + (Int32.ofInt (mm_mrk (Int.toNat 0)).toInt).toInt64) rf m1 m2 m3 m4 m5 mr mf n1 n2 n3 n4 n5 nr nf E)))) rfl (rn_up (N := 300) (M := mm_fuel) (by decide) (main (fun r => ∃ z : Int, r = (some (iv z), (cW ki ln bt rl cp cs ct cv 5 14 ja ea ma a1 a2 a3 a4 a5 a6 a7 a8 jb eb mb b1 b2 b3 b4 b5 b6 b7 b8 re fl g1 g2 g3 g4 g5 (dW rt la rs rg pd du ds me tt gr su gp ((mk + (Int32.ofInt (mm_mrk (Int.toNat 2)).toInt).toInt64) + (Int32.ofInt (mm_mrk (Int.toNat 0)).toInt).toInt64) rf m1 m2 m3 m4 m5 mr mf n1 n2 n3 n4 n5 nr nf E)))) (fun z => ⟨z, rfl⟩)))
  have h1 : sX4_valueAs [.ref 42, iv (2), iv (i)] (cW ki ln bt rl cp cs ct cv 5 14 ja ea ma a1 a2 a3 a4 a5 a6 a7 a8 jb eb mb b1 b2 b3 b4 b5 b6 b7 b8 re fl g1 g2 g3 g4 g5 (dW rt la rs rg pd du ds me tt gr su gp mk rf m1 m2 m3 m4 m5 mr mf n1 n2 n3 n4 n5 nr nf E)) = some r := h1
  exact ⟨z, by rw [h1, h2]⟩
theorem c_valueAs0_3 (hE : E.length = 11) (hi : 0 ≤ i ∧ i ≤ 15) (hAs : ARs a4 a5 a6 a7) : ∃ z : Int, sX4_valueAs [.ref 42, iv (3), iv (i)] (cW ki ln bt rl cp cs ct cv 5 14 ja ea ma a1 a2 a3 a4 a5 a6 a7 a8 jb eb mb b1 b2 b3 b4 b5 b6 b7 b8 re fl g1 g2 g3 g4 g5 (dW rt la rs rg pd du ds me tt gr su gp mk rf m1 m2 m3 m4 m5 mr mf n1 n2 n3 n4 n5 nr nf E)) = some (some (iv z), (cW ki ln bt rl cp cs ct cv 5 14 ja ea ma a1 a2 a3 a4 a5 a6 a7 a8 jb eb mb b1 b2 b3 b4 b5 b6 b7 b8 re fl g1 g2 g3 g4 g5 (dW rt la rs rg pd du ds me tt gr su gp ((mk + (Int32.ofInt (mm_mrk (Int.toNat 3)).toInt).toInt64) + (Int32.ofInt (mm_mrk (Int.toNat 0)).toInt).toInt64) rf m1 m2 m3 m4 m5 mr mf n1 n2 n3 n4 n5 nr nf E))) := by
  have main : ∀ Q : mm_R → Prop, (∀ z : Int, Q (some (iv z), (cW ki ln bt rl cp cs ct cv 5 14 ja ea ma a1 a2 a3 a4 a5 a6 a7 a8 jb eb mb b1 b2 b3 b4 b5 b6 b7 b8 re fl g1 g2 g3 g4 g5 (dW rt la rs rg pd du ds me tt gr su gp ((mk + (Int32.ofInt (mm_mrk (Int.toNat 3)).toInt).toInt64) + (Int32.ofInt (mm_mrk (Int.toNat 0)).toInt).toInt64) rf m1 m2 m3 m4 m5 mr mf n1 n2 n3 n4 n5 nr nf E)))) → rn_X4_valueAs (300) (0, [(0, .ref 42), (1, iv (3)), (2, iv (i))], [], (cW ki ln bt rl cp cs ct cv 5 14 ja ea ma a1 a2 a3 a4 a5 a6 a7 a8 jb eb mb b1 b2 b3 b4 b5 b6 b7 b8 re fl g1 g2 g3 g4 g5 (dW rt la rs rg pd du ds me tt gr su gp mk rf m1 m2 m3 m4 m5 mr mf n1 n2 n3 n4 n5 nr nf E))) Q := by
    intro Q hQ
    obtain ⟨z, hz⟩ := c_body0_0_3 (E := E) (i := i) (ki := ki) (ln := ln) (bt := bt) (rl := rl) (cp := cp) (cs := cs) (ct := ct) (cv := cv) (ja := ja) (ea := ea) (ma := ma) (a1 := a1) (a2 := a2) (a3 := a3) (a4 := a4) (a5 := a5) (a6 := a6) (a7 := a7) (a8 := a8) (jb := jb) (eb := eb) (mb := mb) (b1 := b1) (b2 := b2) (b3 := b3) (b4 := b4) (b5 := b5) (b6 := b6) (b7 := b7) (b8 := b8) (re := re) (fl := fl) (g1 := g1) (g2 := g2) (g3 := g3) (g4 := g4) (g5 := g5) (rt := rt) (la := la) (rs := rs) (rg := rg) (pd := pd) (du := du) (ds := ds) (me := me) (tt := tt) (gr := gr) (su := su) (gp := gp) (mk := mk) (rf := rf) (m1 := m1) (m2 := m2) (m3 := m3) (m4 := m4) (m5 := m5) (mr := mr) (mf := mf) (n1 := n1) (n2 := n2) (n3 := n3) (n4 := n4) (n5 := n5) (nr := nr) (nf := nf) hE hi hAs
    refine r_al rfl rfl ?_
    refine r_il rfl rfl ?_
    refine r_il rfl rfl ?_
    refine r_ic rfl ?_
    refine r_v4s rfl rfl xg_42 rfl hz ?_
    exact r_ret rfl rfl (hQ _)
  obtain ⟨r, h1, z, h2⟩ := rn_S (vs := [.ref 42, iv (3), iv (i)]) (Q := fun r => ∃ z : Int, r = (some (iv z), (cW ki ln bt rl cp cs ct cv 5 14 ja ea ma a1 a2 a3 a4 a5 a6 a7 a8 jb eb mb b1 b2 b3 b4 b5 b6 b7 b8 re fl g1 g2 g3 g4 g5 (dW rt la rs rg pd du ds me tt gr su gp ((mk + (Int32.ofInt (mm_mrk (Int.toNat 3)).toInt).toInt64) + (Int32.ofInt (mm_mrk (Int.toNat 0)).toInt).toInt64) rf m1 m2 m3 m4 m5 mr mf n1 n2 n3 n4 n5 nr nf E)))) rfl (rn_up (N := 300) (M := mm_fuel) (by decide) (main (fun r => ∃ z : Int, r = (some (iv z), (cW ki ln bt rl cp cs ct cv 5 14 ja ea ma a1 a2 a3 a4 a5 a6 a7 a8 jb eb mb b1 b2 b3 b4 b5 b6 b7 b8 re fl g1 g2 g3 g4 g5 (dW rt la rs rg pd du ds me tt gr su gp ((mk + (Int32.ofInt (mm_mrk (Int.toNat 3)).toInt).toInt64) + (Int32.ofInt (mm_mrk (Int.toNat 0)).toInt).toInt64) rf m1 m2 m3 m4 m5 mr mf n1 n2 n3 n4 n5 nr nf E)))) (fun z => ⟨z, rfl⟩)))
  have h1 : sX4_valueAs [.ref 42, iv (3), iv (i)] (cW ki ln bt rl cp cs ct cv 5 14 ja ea ma a1 a2 a3 a4 a5 a6 a7 a8 jb eb mb b1 b2 b3 b4 b5 b6 b7 b8 re fl g1 g2 g3 g4 g5 (dW rt la rs rg pd du ds me tt gr su gp mk rf m1 m2 m3 m4 m5 mr mf n1 n2 n3 n4 n5 nr nf E)) = some r := h1
  exact ⟨z, by rw [h1, h2]⟩
theorem c_valueAs0_4 (hE : E.length = 11) (hi : 0 ≤ i ∧ i ≤ 15) (hAs : ARs a4 a5 a6 a7) : ∃ z : Int, sX4_valueAs [.ref 42, iv (4), iv (i)] (cW ki ln bt rl cp cs ct cv 5 14 ja ea ma a1 a2 a3 a4 a5 a6 a7 a8 jb eb mb b1 b2 b3 b4 b5 b6 b7 b8 re fl g1 g2 g3 g4 g5 (dW rt la rs rg pd du ds me tt gr su gp mk rf m1 m2 m3 m4 m5 mr mf n1 n2 n3 n4 n5 nr nf E)) = some (some (iv z), (cW ki ln bt rl cp cs ct cv 5 14 ja ea ma a1 a2 a3 a4 a5 a6 a7 a8 jb eb mb b1 b2 b3 b4 b5 b6 b7 b8 re fl g1 g2 g3 g4 g5 (dW rt la rs rg pd du ds me tt gr su gp (((mk + (Int32.ofInt (mm_mrk (Int.toNat 4)).toInt).toInt64) + (Int32.ofInt (mm_mrk (Int.toNat 3)).toInt).toInt64) + (Int32.ofInt (mm_mrk (Int.toNat 0)).toInt).toInt64) rf m1 m2 m3 m4 m5 mr mf n1 n2 n3 n4 n5 nr nf E))) := by
  have main : ∀ Q : mm_R → Prop, (∀ z : Int, Q (some (iv z), (cW ki ln bt rl cp cs ct cv 5 14 ja ea ma a1 a2 a3 a4 a5 a6 a7 a8 jb eb mb b1 b2 b3 b4 b5 b6 b7 b8 re fl g1 g2 g3 g4 g5 (dW rt la rs rg pd du ds me tt gr su gp (((mk + (Int32.ofInt (mm_mrk (Int.toNat 4)).toInt).toInt64) + (Int32.ofInt (mm_mrk (Int.toNat 3)).toInt).toInt64) + (Int32.ofInt (mm_mrk (Int.toNat 0)).toInt).toInt64) rf m1 m2 m3 m4 m5 mr mf n1 n2 n3 n4 n5 nr nf E)))) → rn_X4_valueAs (300) (0, [(0, .ref 42), (1, iv (4)), (2, iv (i))], [], (cW ki ln bt rl cp cs ct cv 5 14 ja ea ma a1 a2 a3 a4 a5 a6 a7 a8 jb eb mb b1 b2 b3 b4 b5 b6 b7 b8 re fl g1 g2 g3 g4 g5 (dW rt la rs rg pd du ds me tt gr su gp mk rf m1 m2 m3 m4 m5 mr mf n1 n2 n3 n4 n5 nr nf E))) Q := by
    intro Q hQ
    obtain ⟨z, hz⟩ := c_body0_0_4 (E := E) (i := i) (ki := ki) (ln := ln) (bt := bt) (rl := rl) (cp := cp) (cs := cs) (ct := ct) (cv := cv) (ja := ja) (ea := ea) (ma := ma) (a1 := a1) (a2 := a2) (a3 := a3) (a4 := a4) (a5 := a5) (a6 := a6) (a7 := a7) (a8 := a8) (jb := jb) (eb := eb) (mb := mb) (b1 := b1) (b2 := b2) (b3 := b3) (b4 := b4) (b5 := b5) (b6 := b6) (b7 := b7) (b8 := b8) (re := re) (fl := fl) (g1 := g1) (g2 := g2) (g3 := g3) (g4 := g4) (g5 := g5) (rt := rt) (la := la) (rs := rs) (rg := rg) (pd := pd) (du := du) (ds := ds) (me := me) (tt := tt) (gr := gr) (su := su) (gp := gp) (mk := mk) (rf := rf) (m1 := m1) (m2 := m2) (m3 := m3) (m4 := m4) (m5 := m5) (mr := mr) (mf := mf) (n1 := n1) (n2 := n2) (n3 := n3) (n4 := n4) (n5 := n5) (nr := nr) (nf := nf) hE hi hAs
    refine r_al rfl rfl ?_
    refine r_il rfl rfl ?_
    refine r_il rfl rfl ?_
    refine r_ic rfl ?_
    refine r_v4s rfl rfl xg_42 rfl hz ?_
    exact r_ret rfl rfl (hQ _)
  obtain ⟨r, h1, z, h2⟩ := rn_S (vs := [.ref 42, iv (4), iv (i)]) (Q := fun r => ∃ z : Int, r = (some (iv z), (cW ki ln bt rl cp cs ct cv 5 14 ja ea ma a1 a2 a3 a4 a5 a6 a7 a8 jb eb mb b1 b2 b3 b4 b5 b6 b7 b8 re fl g1 g2 g3 g4 g5 (dW rt la rs rg pd du ds me tt gr su gp (((mk + (Int32.ofInt (mm_mrk (Int.toNat 4)).toInt).toInt64) + (Int32.ofInt (mm_mrk (Int.toNat 3)).toInt).toInt64) + (Int32.ofInt (mm_mrk (Int.toNat 0)).toInt).toInt64) rf m1 m2 m3 m4 m5 mr mf n1 n2 n3 n4 n5 nr nf E)))) rfl (rn_up (N := 300) (M := mm_fuel) (by decide) (main (fun r => ∃ z : Int, r = (some (iv z), (cW ki ln bt rl cp cs ct cv 5 14 ja ea ma a1 a2 a3 a4 a5 a6 a7 a8 jb eb mb b1 b2 b3 b4 b5 b6 b7 b8 re fl g1 g2 g3 g4 g5 (dW rt la rs rg pd du ds me tt gr su gp (((mk + (Int32.ofInt (mm_mrk (Int.toNat 4)).toInt).toInt64) + (Int32.ofInt (mm_mrk (Int.toNat 3)).toInt).toInt64) + (Int32.ofInt (mm_mrk (Int.toNat 0)).toInt).toInt64) rf m1 m2 m3 m4 m5 mr mf n1 n2 n3 n4 n5 nr nf E)))) (fun z => ⟨z, rfl⟩)))
  have h1 : sX4_valueAs [.ref 42, iv (4), iv (i)] (cW ki ln bt rl cp cs ct cv 5 14 ja ea ma a1 a2 a3 a4 a5 a6 a7 a8 jb eb mb b1 b2 b3 b4 b5 b6 b7 b8 re fl g1 g2 g3 g4 g5 (dW rt la rs rg pd du ds me tt gr su gp mk rf m1 m2 m3 m4 m5 mr mf n1 n2 n3 n4 n5 nr nf E)) = some r := h1
  exact ⟨z, by rw [h1, h2]⟩
theorem c_valueAs0_5 (hE : E.length = 11) (hi : 0 ≤ i ∧ i ≤ 15) (hAs : ARs a4 a5 a6 a7) : ∃ z : Int, sX4_valueAs [.ref 42, iv (5), iv (i)] (cW ki ln bt rl cp cs ct cv 5 14 ja ea ma a1 a2 a3 a4 a5 a6 a7 a8 jb eb mb b1 b2 b3 b4 b5 b6 b7 b8 re fl g1 g2 g3 g4 g5 (dW rt la rs rg pd du ds me tt gr su gp mk rf m1 m2 m3 m4 m5 mr mf n1 n2 n3 n4 n5 nr nf E)) = some (some (iv z), (cW ki ln bt rl cp cs ct cv 5 14 ja ea ma a1 a2 a3 a4 a5 a6 a7 a8 jb eb mb b1 b2 b3 b4 b5 b6 b7 b8 re fl g1 g2 g3 g4 g5 (dW rt la rs rg pd du ds me tt gr su gp ((mk + (Int32.ofInt (mm_mrk (Int.toNat 5)).toInt).toInt64) + (Int32.ofInt (mm_mrk (Int.toNat 0)).toInt).toInt64) rf m1 m2 m3 m4 m5 mr mf n1 n2 n3 n4 n5 nr nf E))) := by
  have main : ∀ Q : mm_R → Prop, (∀ z : Int, Q (some (iv z), (cW ki ln bt rl cp cs ct cv 5 14 ja ea ma a1 a2 a3 a4 a5 a6 a7 a8 jb eb mb b1 b2 b3 b4 b5 b6 b7 b8 re fl g1 g2 g3 g4 g5 (dW rt la rs rg pd du ds me tt gr su gp ((mk + (Int32.ofInt (mm_mrk (Int.toNat 5)).toInt).toInt64) + (Int32.ofInt (mm_mrk (Int.toNat 0)).toInt).toInt64) rf m1 m2 m3 m4 m5 mr mf n1 n2 n3 n4 n5 nr nf E)))) → rn_X4_valueAs (300) (0, [(0, .ref 42), (1, iv (5)), (2, iv (i))], [], (cW ki ln bt rl cp cs ct cv 5 14 ja ea ma a1 a2 a3 a4 a5 a6 a7 a8 jb eb mb b1 b2 b3 b4 b5 b6 b7 b8 re fl g1 g2 g3 g4 g5 (dW rt la rs rg pd du ds me tt gr su gp mk rf m1 m2 m3 m4 m5 mr mf n1 n2 n3 n4 n5 nr nf E))) Q := by
    intro Q hQ
    obtain ⟨z, hz⟩ := c_body0_0_5 (E := E) (i := i) (ki := ki) (ln := ln) (bt := bt) (rl := rl) (cp := cp) (cs := cs) (ct := ct) (cv := cv) (ja := ja) (ea := ea) (ma := ma) (a1 := a1) (a2 := a2) (a3 := a3) (a4 := a4) (a5 := a5) (a6 := a6) (a7 := a7) (a8 := a8) (jb := jb) (eb := eb) (mb := mb) (b1 := b1) (b2 := b2) (b3 := b3) (b4 := b4) (b5 := b5) (b6 := b6) (b7 := b7) (b8 := b8) (re := re) (fl := fl) (g1 := g1) (g2 := g2) (g3 := g3) (g4 := g4) (g5 := g5) (rt := rt) (la := la) (rs := rs) (rg := rg) (pd := pd) (du := du) (ds := ds) (me := me) (tt := tt) (gr := gr) (su := su) (gp := gp) (mk := mk) (rf := rf) (m1 := m1) (m2 := m2) (m3 := m3) (m4 := m4) (m5 := m5) (mr := mr) (mf := mf) (n1 := n1) (n2 := n2) (n3 := n3) (n4 := n4) (n5 := n5) (nr := nr) (nf := nf) hE hi hAs
    refine r_al rfl rfl ?_
    refine r_il rfl rfl ?_
    refine r_il rfl rfl ?_
    refine r_ic rfl ?_
    refine r_v4s rfl rfl xg_42 rfl hz ?_
    exact r_ret rfl rfl (hQ _)
  obtain ⟨r, h1, z, h2⟩ := rn_S (vs := [.ref 42, iv (5), iv (i)]) (Q := fun r => ∃ z : Int, r = (some (iv z), (cW ki ln bt rl cp cs ct cv 5 14 ja ea ma a1 a2 a3 a4 a5 a6 a7 a8 jb eb mb b1 b2 b3 b4 b5 b6 b7 b8 re fl g1 g2 g3 g4 g5 (dW rt la rs rg pd du ds me tt gr su gp ((mk + (Int32.ofInt (mm_mrk (Int.toNat 5)).toInt).toInt64) + (Int32.ofInt (mm_mrk (Int.toNat 0)).toInt).toInt64) rf m1 m2 m3 m4 m5 mr mf n1 n2 n3 n4 n5 nr nf E)))) rfl (rn_up (N := 300) (M := mm_fuel) (by decide) (main (fun r => ∃ z : Int, r = (some (iv z), (cW ki ln bt rl cp cs ct cv 5 14 ja ea ma a1 a2 a3 a4 a5 a6 a7 a8 jb eb mb b1 b2 b3 b4 b5 b6 b7 b8 re fl g1 g2 g3 g4 g5 (dW rt la rs rg pd du ds me tt gr su gp ((mk + (Int32.ofInt (mm_mrk (Int.toNat 5)).toInt).toInt64) + (Int32.ofInt (mm_mrk (Int.toNat 0)).toInt).toInt64) rf m1 m2 m3 m4 m5 mr mf n1 n2 n3 n4 n5 nr nf E)))) (fun z => ⟨z, rfl⟩)))
  have h1 : sX4_valueAs [.ref 42, iv (5), iv (i)] (cW ki ln bt rl cp cs ct cv 5 14 ja ea ma a1 a2 a3 a4 a5 a6 a7 a8 jb eb mb b1 b2 b3 b4 b5 b6 b7 b8 re fl g1 g2 g3 g4 g5 (dW rt la rs rg pd du ds me tt gr su gp mk rf m1 m2 m3 m4 m5 mr mf n1 n2 n3 n4 n5 nr nf E)) = some r := h1
  exact ⟨z, by rw [h1, h2]⟩
theorem c_valueAs0_6 (hE : E.length = 11) (hi : 0 ≤ i ∧ i ≤ 15) (hAs : ARs a4 a5 a6 a7) : ∃ z : Int, sX4_valueAs [.ref 42, iv (6), iv (i)] (cW ki ln bt rl cp cs ct cv 5 14 ja ea ma a1 a2 a3 a4 a5 a6 a7 a8 jb eb mb b1 b2 b3 b4 b5 b6 b7 b8 re fl g1 g2 g3 g4 g5 (dW rt la rs rg pd du ds me tt gr su gp mk rf m1 m2 m3 m4 m5 mr mf n1 n2 n3 n4 n5 nr nf E)) = some (some (iv z), (cW ki ln bt rl cp cs ct cv 5 14 ja ea ma a1 a2 a3 a4 a5 a6 a7 a8 jb eb mb b1 b2 b3 b4 b5 b6 b7 b8 re fl g1 g2 g3 g4 g5 (dW rt la rs rg pd du ds me tt gr su gp (((mk + (Int32.ofInt (mm_mrk (Int.toNat 6)).toInt).toInt64) + (Int32.ofInt (mm_mrk (Int.toNat 5)).toInt).toInt64) + (Int32.ofInt (mm_mrk (Int.toNat 0)).toInt).toInt64) rf m1 m2 m3 m4 m5 mr mf n1 n2 n3 n4 n5 nr nf E))) := by
  have main : ∀ Q : mm_R → Prop, (∀ z : Int, Q (some (iv z), (cW ki ln bt rl cp cs ct cv 5 14 ja ea ma a1 a2 a3 a4 a5 a6 a7 a8 jb eb mb b1 b2 b3 b4 b5 b6 b7 b8 re fl g1 g2 g3 g4 g5 (dW rt la rs rg pd du ds me tt gr su gp (((mk + (Int32.ofInt (mm_mrk (Int.toNat 6)).toInt).toInt64) + (Int32.ofInt (mm_mrk (Int.toNat 5)).toInt).toInt64) + (Int32.ofInt (mm_mrk (Int.toNat 0)).toInt).toInt64) rf m1 m2 m3 m4 m5 mr mf n1 n2 n3 n4 n5 nr nf E)))) → rn_X4_valueAs (300) (0, [(0, .ref 42), (1, iv (6)), (2, iv (i))], [], (cW ki ln bt rl cp cs ct cv 5 14 ja ea ma a1 a2 a3 a4 a5 a6 a7 a8 jb eb mb b1 b2 b3 b4 b5 b6 b7 b8 re fl g1 g2 g3 g4 g5 (dW rt la rs rg pd du ds me tt gr su gp mk rf m1 m2 m3 m4 m5 mr mf n1 n2 n3 n4 n5 nr nf E))) Q := by
    intro Q hQ
    obtain ⟨z, hz⟩ := c_body0_0_6 (E := E) (i := i) (ki := ki) (ln := ln) (bt := bt) (rl := rl) (cp := cp) (cs := cs) (ct := ct) (cv := cv) (ja := ja) (ea := ea) (ma := ma) (a1 := a1) (a2 := a2) (a3 := a3) (a4 := a4) (a5 := a5) (a6 := a6) (a7 := a7) (a8 := a8) (jb := jb) (eb := eb) (mb := mb) (b1 := b1) (b2 := b2) (b3 := b3) (b4 := b4) (b5 := b5) (b6 := b6) (b7 := b7) (b8 := b8) (re := re) (fl := fl) (g1 := g1) (g2 := g2) (g3 := g3) (g4 := g4) (g5 := g5) (rt := rt) (la := la) (rs := rs) (rg := rg) (pd := pd) (du := du) (ds := ds) (me := me) (tt := tt) (gr := gr) (su := su) (gp := gp) (mk := mk) (rf := rf) (m1 := m1) (m2 := m2) (m3 := m3) (m4 := m4) (m5 := m5) (mr := mr) (mf := mf) (n1 := n1) (n2 := n2) (n3 := n3) (n4 := n4) (n5 := n5) (nr := nr) (nf := nf) hE hi hAs
    refine r_al rfl rfl ?_
    refine r_il rfl rfl ?_
    refine r_il rfl rfl ?_
    refine r_ic rfl ?_
    refine r_v4s rfl rfl xg_42 rfl hz ?_
    exact r_ret rfl rfl (hQ _)
  obtain ⟨r, h1, z, h2⟩ := rn_S (vs := [.ref 42, iv (6), iv (i)]) (Q := fun r => ∃ z : Int, r = (some (iv z), (cW ki ln bt rl cp cs ct cv 5 14 ja ea ma a1 a2 a3 a4 a5 a6 a7 a8 jb eb mb b1 b2 b3 b4 b5 b6 b7 b8 re fl g1 g2 g3 g4 g5 (dW rt la rs rg pd du ds me tt gr su gp (((mk + (Int32.ofInt (mm_mrk (Int.toNat 6)).toInt).toInt64) + (Int32.ofInt (mm_mrk (Int.toNat 5)).toInt).toInt64) + (Int32.ofInt (mm_mrk (Int.toNat 0)).toInt).toInt64) rf m1 m2 m3 m4 m5 mr mf n1 n2 n3 n4 n5 nr nf E)))) rfl (rn_up (N := 300) (M := mm_fuel) (by decide) (main (fun r => ∃ z : Int, r = (some (iv z), (cW ki ln bt rl cp cs ct cv 5 14 ja ea ma a1 a2 a3 a4 a5 a6 a7 a8 jb eb mb b1 b2 b3 b4 b5 b6 b7 b8 re fl g1 g2 g3 g4 g5 (dW rt la rs rg pd du ds me tt gr su gp (((mk + (Int32.ofInt (mm_mrk (Int.toNat 6)).toInt).toInt64) + (Int32.ofInt (mm_mrk (Int.toNat 5)).toInt).toInt64) + (Int32.ofInt (mm_mrk (Int.toNat 0)).toInt).toInt64) rf m1 m2 m3 m4 m5 mr mf n1 n2 n3 n4 n5 nr nf E)))) (fun z => ⟨z, rfl⟩)))
  have h1 : sX4_valueAs [.ref 42, iv (6), iv (i)] (cW ki ln bt rl cp cs ct cv 5 14 ja ea ma a1 a2 a3 a4 a5 a6 a7 a8 jb eb mb b1 b2 b3 b4 b5 b6 b7 b8 re fl g1 g2 g3 g4 g5 (dW rt la rs rg pd du ds me tt gr su gp mk rf m1 m2 m3 m4 m5 mr mf n1 n2 n3 n4 n5 nr nf E)) = some r := h1
  exact ⟨z, by rw [h1, h2]⟩
abbrev rn_X11_price (N : Nat) (c : mm_C) (Q : mm_R → Prop) : Prop := rn (mm_gf gLX11) (mm_pf pLX11) (mm_mv vX11_price) (mm_mv zX11_price) (mm_kc kLX11) mm_gs0 mm_rf0 mm_ro (some .int) 3 (mm_ins iX11_price) N c Q
theorem c_priceB0 (hk : -2147483648 ≤ k ∧ k ≤ 2147483647) (hi : -2147483648 ≤ i ∧ i ≤ 2147483647) (hn : 0 ≤ ma ∧ ma ≤ 16) (hb : (i3 k 0 6 && i3 i 0 (ma - 1)) = false) : sX11_price [.ref 0, iv (k), iv (i)] (cW ki ln bt rl cp cs ct cv 5 14 ja ea ma a1 a2 a3 a4 a5 a6 a7 a8 jb eb mb b1 b2 b3 b4 b5 b6 b7 b8 re fl g1 g2 g3 g4 g5 (dW rt la rs rg pd du ds me tt gr su gp mk rf m1 m2 m3 m4 m5 mr mf n1 n2 n3 n4 n5 nr nf E)) = some (some (iv (-1)), (cW ki ln bt rl cp cs ct cv 5 14 ja ea ma a1 a2 a3 a4 a5 a6 a7 a8 jb eb mb b1 b2 b3 b4 b5 b6 b7 b8 re fl g1 g2 g3 g4 g5 (dW rt la rs rg pd du ds me tt gr su gp mk rf m1 m2 m3 m4 m5 mr mf n1 n2 n3 n4 n5 nr nf E))) := by
  have main : ∀ Q : mm_R → Prop, Q (some (iv (-1)), (cW ki ln bt rl cp cs ct cv 5 14 ja ea ma a1 a2 a3 a4 a5 a6 a7 a8 jb eb mb b1 b2 b3 b4 b5 b6 b7 b8 re fl g1 g2 g3 g4 g5 (dW rt la rs rg pd du ds me tt gr su gp mk rf m1 m2 m3 m4 m5 mr mf n1 n2 n3 n4 n5 nr nf E))) → rn_X11_price (1000) (0, [(0, .ref 0), (1, iv (k)), (2, iv (i))], [], (cW ki ln bt rl cp cs ct cv 5 14 ja ea ma a1 a2 a3 a4 a5 a6 a7 a8 jb eb mb b1 b2 b3 b4 b5 b6 b7 b8 re fl g1 g2 g3 g4 g5 (dW rt la rs rg pd du ds me tt gr su gp mk rf m1 m2 m3 m4 m5 mr mf n1 n2 n3 n4 n5 nr nf E))) Q := by
    intro Q hQ
    refine r_il rfl rfl ?_
    refine r_s1s rfl rfl rfl (c_isKind hk) ?_
    refine r_zeq rfl rfl (bi_r _) (fun u1 => ?_) (fun u1 => ?_)
    · refine r_ic rfl ?_
      exact r_ret rfl rfl hQ
    · refine r_al rfl rfl ?_
      refine r_gf rfl rfl xg_0 rfl ?_
      refine r_il rfl rfl ?_
      refine r_v2s rfl rfl xg_4 rfl (c_isStandC0 hi hn) ?_
      refine r_zne rfl rfl (bi_r _) (fun u2 => ?_) (fun u2 => ?_)
      · rw [bi_1 u1, bi_1 u2] at hb
        cases hb
      · refine r_ic rfl ?_
        exact r_ret rfl rfl hQ
  obtain ⟨r, h1, h2⟩ := rn_S (vs := [.ref 0, iv (k), iv (i)]) (Q := fun r => r = (some (iv (-1)), (cW ki ln bt rl cp cs ct cv 5 14 ja ea ma a1 a2 a3 a4 a5 a6 a7 a8 jb eb mb b1 b2 b3 b4 b5 b6 b7 b8 re fl g1 g2 g3 g4 g5 (dW rt la rs rg pd du ds me tt gr su gp mk rf m1 m2 m3 m4 m5 mr mf n1 n2 n3 n4 n5 nr nf E)))) rfl (rn_up (N := 1000) (M := mm_fuel) (by decide) (main (fun r => r = (some (iv (-1)), (cW ki ln bt rl cp cs ct cv 5 14 ja ea ma a1 a2 a3 a4 a5 a6 a7 a8 jb eb mb b1 b2 b3 b4 b5 b6 b7 b8 re fl g1 g2 g3 g4 g5 (dW rt la rs rg pd du ds me tt gr su gp mk rf m1 m2 m3 m4 m5 mr mf n1 n2 n3 n4 n5 nr nf E)))) rfl))
  have h1 : sX11_price [.ref 0, iv (k), iv (i)] (cW ki ln bt rl cp cs ct cv 5 14 ja ea ma a1 a2 a3 a4 a5 a6 a7 a8 jb eb mb b1 b2 b3 b4 b5 b6 b7 b8 re fl g1 g2 g3 g4 g5 (dW rt la rs rg pd du ds me tt gr su gp mk rf m1 m2 m3 m4 m5 mr mf n1 n2 n3 n4 n5 nr nf E)) = some r := h1
  rw [h1, h2]
theorem c_priceG0_0 (hE : E.length = 11) (hn : 0 ≤ ma ∧ ma ≤ 16) (hAs : ARs a4 a5 a6 a7) (hb : i3 i 0 (ma - 1) = true) : ∃ z : Int, sX11_price [.ref 0, iv (0), iv (i)] (cW ki ln bt rl cp cs ct cv 5 14 ja ea ma a1 a2 a3 a4 a5 a6 a7 a8 jb eb mb b1 b2 b3 b4 b5 b6 b7 b8 re fl g1 g2 g3 g4 g5 (dW rt la rs rg pd du ds me tt gr su gp mk rf m1 m2 m3 m4 m5 mr mf n1 n2 n3 n4 n5 nr nf E)) = some (some (iv z), (cW ki ln bt rl cp cs ct cv 5 14 ja ea ma a1 a2 a3 a4 a5 a6 a7 a8 jb eb mb b1 b2 b3 b4 b5 b6 b7 b8 re fl g1 g2 g3 g4 g5 (dW rt la rs rg pd du ds me tt gr su gp (mk + (Int32.ofInt (mm_mrk (Int.toNat 0)).toInt).toInt64) rf m1 m2 m3 m4 m5 mr mf n1 n2 n3 n4 n5 nr nf E))) := by
  have main : ∀ Q : mm_R → Prop, (∀ z : Int, Q (some (iv z), (cW ki ln bt rl cp cs ct cv 5 14 ja ea ma a1 a2 a3 a4 a5 a6 a7 a8 jb eb mb b1 b2 b3 b4 b5 b6 b7 b8 re fl g1 g2 g3 g4 g5 (dW rt la rs rg pd du ds me tt gr su gp (mk + (Int32.ofInt (mm_mrk (Int.toNat 0)).toInt).toInt64) rf m1 m2 m3 m4 m5 mr mf n1 n2 n3 n4 n5 nr nf E)))) → rn_X11_price (300) (0, [(0, .ref 0), (1, iv (0)), (2, iv (i))], [], (cW ki ln bt rl cp cs ct cv 5 14 ja ea ma a1 a2 a3 a4 a5 a6 a7 a8 jb eb mb b1 b2 b3 b4 b5 b6 b7 b8 re fl g1 g2 g3 g4 g5 (dW rt la rs rg pd du ds me tt gr su gp mk rf m1 m2 m3 m4 m5 mr mf n1 n2 n3 n4 n5 nr nf E))) Q := by
    intro Q hQ
    have rb := i3_t hb
    refine r_il rfl rfl ?_
    refine r_s1s rfl rfl rfl (c_isKind (by decide)) ?_
    refine r_zeq rfl rfl (bi_r _) (fun u1 => ?_) (fun u1 => ?_)
    · exact absurd u1 (by decide)
    · refine r_al rfl rfl ?_
      refine r_gf rfl rfl xg_0 rfl ?_
      refine r_il rfl rfl ?_
      refine r_v2s rfl rfl xg_4 rfl (c_isStandC0 (by omega) hn) ?_
      rw [hb]
      refine r_zne rfl rfl (bi_r _) (fun u2 => ?_) (fun u2 => ?_)
      · obtain ⟨z, hz⟩ := c_valueAs0_0 (E := E) (i := i) (ki := ki) (ln := ln) (bt := bt) (rl := rl) (cp := cp) (cs := cs) (ct := ct) (cv := cv) (ja := ja) (ea := ea) (ma := ma) (a1 := a1) (a2 := a2) (a3 := a3) (a4 := a4) (a5 := a5) (a6 := a6) (a7 := a7) (a8 := a8) (jb := jb) (eb := eb) (mb := mb) (b1 := b1) (b2 := b2) (b3 := b3) (b4 := b4) (b5 := b5) (b6 := b6) (b7 := b7) (b8 := b8) (re := re) (fl := fl) (g1 := g1) (g2 := g2) (g3 := g3) (g4 := g4) (g5 := g5) (rt := rt) (la := la) (rs := rs) (rg := rg) (pd := pd) (du := du) (ds := ds) (me := me) (tt := tt) (gr := gr) (su := su) (gp := gp) (mk := mk) (rf := rf) (m1 := m1) (m2 := m2) (m3 := m3) (m4 := m4) (m5 := m5) (mr := mr) (mf := mf) (n1 := n1) (n2 := n2) (n3 := n3) (n4 := n4) (n5 := n5) (nr := nr) (nf := nf) hE (by omega) hAs
        refine r_al rfl rfl ?_
        refine r_gf rfl rfl xg_0 rfl ?_
        refine r_il rfl rfl ?_
        refine r_il rfl rfl ?_
        refine r_v3s rfl rfl xg_42 rfl hz ?_
        exact r_ret rfl rfl (hQ _)
      · exact absurd u2 (by decide)
  obtain ⟨r, h1, z, h2⟩ := rn_S (vs := [.ref 0, iv (0), iv (i)]) (Q := fun r => ∃ z : Int, r = (some (iv z), (cW ki ln bt rl cp cs ct cv 5 14 ja ea ma a1 a2 a3 a4 a5 a6 a7 a8 jb eb mb b1 b2 b3 b4 b5 b6 b7 b8 re fl g1 g2 g3 g4 g5 (dW rt la rs rg pd du ds me tt gr su gp (mk + (Int32.ofInt (mm_mrk (Int.toNat 0)).toInt).toInt64) rf m1 m2 m3 m4 m5 mr mf n1 n2 n3 n4 n5 nr nf E)))) rfl (rn_up (N := 300) (M := mm_fuel) (by decide) (main (fun r => ∃ z : Int, r = (some (iv z), (cW ki ln bt rl cp cs ct cv 5 14 ja ea ma a1 a2 a3 a4 a5 a6 a7 a8 jb eb mb b1 b2 b3 b4 b5 b6 b7 b8 re fl g1 g2 g3 g4 g5 (dW rt la rs rg pd du ds me tt gr su gp (mk + (Int32.ofInt (mm_mrk (Int.toNat 0)).toInt).toInt64) rf m1 m2 m3 m4 m5 mr mf n1 n2 n3 n4 n5 nr nf E)))) (fun z => ⟨z, rfl⟩)))
  have h1 : sX11_price [.ref 0, iv (0), iv (i)] (cW ki ln bt rl cp cs ct cv 5 14 ja ea ma a1 a2 a3 a4 a5 a6 a7 a8 jb eb mb b1 b2 b3 b4 b5 b6 b7 b8 re fl g1 g2 g3 g4 g5 (dW rt la rs rg pd du ds me tt gr su gp mk rf m1 m2 m3 m4 m5 mr mf n1 n2 n3 n4 n5 nr nf E)) = some r := h1
  exact ⟨z, by rw [h1, h2]⟩
theorem c_priceG0_1 (hE : E.length = 11) (hn : 0 ≤ ma ∧ ma ≤ 16) (hAs : ARs a4 a5 a6 a7) (hb : i3 i 0 (ma - 1) = true) : ∃ z : Int, sX11_price [.ref 0, iv (1), iv (i)] (cW ki ln bt rl cp cs ct cv 5 14 ja ea ma a1 a2 a3 a4 a5 a6 a7 a8 jb eb mb b1 b2 b3 b4 b5 b6 b7 b8 re fl g1 g2 g3 g4 g5 (dW rt la rs rg pd du ds me tt gr su gp mk rf m1 m2 m3 m4 m5 mr mf n1 n2 n3 n4 n5 nr nf E)) = some (some (iv z), (cW ki ln bt rl cp cs ct cv 5 14 ja ea ma a1 a2 a3 a4 a5 a6 a7 a8 jb eb mb b1 b2 b3 b4 b5 b6 b7 b8 re fl g1 g2 g3 g4 g5 (dW rt la rs rg pd du ds me tt gr su gp ((mk + (Int32.ofInt (mm_mrk (Int.toNat 1)).toInt).toInt64) + (Int32.ofInt (mm_mrk (Int.toNat 0)).toInt).toInt64) rf m1 m2 m3 m4 m5 mr mf n1 n2 n3 n4 n5 nr nf E))) := by
  have main : ∀ Q : mm_R → Prop, (∀ z : Int, Q (some (iv z), (cW ki ln bt rl cp cs ct cv 5 14 ja ea ma a1 a2 a3 a4 a5 a6 a7 a8 jb eb mb b1 b2 b3 b4 b5 b6 b7 b8 re fl g1 g2 g3 g4 g5 (dW rt la rs rg pd du ds me tt gr su gp ((mk + (Int32.ofInt (mm_mrk (Int.toNat 1)).toInt).toInt64) + (Int32.ofInt (mm_mrk (Int.toNat 0)).toInt).toInt64) rf m1 m2 m3 m4 m5 mr mf n1 n2 n3 n4 n5 nr nf E)))) → rn_X11_price (300) (0, [(0, .ref 0), (1, iv (1)), (2, iv (i))], [], (cW ki ln bt rl cp cs ct cv 5 14 ja ea ma a1 a2 a3 a4 a5 a6 a7 a8 jb eb mb b1 b2 b3 b4 b5 b6 b7 b8 re fl g1 g2 g3 g4 g5 (dW rt la rs rg pd du ds me tt gr su gp mk rf m1 m2 m3 m4 m5 mr mf n1 n2 n3 n4 n5 nr nf E))) Q := by
    intro Q hQ
    have rb := i3_t hb
    refine r_il rfl rfl ?_
    refine r_s1s rfl rfl rfl (c_isKind (by decide)) ?_
    refine r_zeq rfl rfl (bi_r _) (fun u1 => ?_) (fun u1 => ?_)
    · exact absurd u1 (by decide)
    · refine r_al rfl rfl ?_
      refine r_gf rfl rfl xg_0 rfl ?_
      refine r_il rfl rfl ?_
      refine r_v2s rfl rfl xg_4 rfl (c_isStandC0 (by omega) hn) ?_
      rw [hb]
      refine r_zne rfl rfl (bi_r _) (fun u2 => ?_) (fun u2 => ?_)
      · obtain ⟨z, hz⟩ := c_valueAs0_1 (E := E) (i := i) (ki := ki) (ln := ln) (bt := bt) (rl := rl) (cp := cp) (cs := cs) (ct := ct) (cv := cv) (ja := ja) (ea := ea) (ma := ma) (a1 := a1) (a2 := a2) (a3 := a3) (a4 := a4) (a5 := a5) (a6 := a6) (a7 := a7) (a8 := a8) (jb := jb) (eb := eb) (mb := mb) (b1 := b1) (b2 := b2) (b3 := b3) (b4 := b4) (b5 := b5) (b6 := b6) (b7 := b7) (b8 := b8) (re := re) (fl := fl) (g1 := g1) (g2 := g2) (g3 := g3) (g4 := g4) (g5 := g5) (rt := rt) (la := la) (rs := rs) (rg := rg) (pd := pd) (du := du) (ds := ds) (me := me) (tt := tt) (gr := gr) (su := su) (gp := gp) (mk := mk) (rf := rf) (m1 := m1) (m2 := m2) (m3 := m3) (m4 := m4) (m5 := m5) (mr := mr) (mf := mf) (n1 := n1) (n2 := n2) (n3 := n3) (n4 := n4) (n5 := n5) (nr := nr) (nf := nf) hE (by omega) hAs
        refine r_al rfl rfl ?_
        refine r_gf rfl rfl xg_0 rfl ?_
        refine r_il rfl rfl ?_
        refine r_il rfl rfl ?_
        refine r_v3s rfl rfl xg_42 rfl hz ?_
        exact r_ret rfl rfl (hQ _)
      · exact absurd u2 (by decide)
  obtain ⟨r, h1, z, h2⟩ := rn_S (vs := [.ref 0, iv (1), iv (i)]) (Q := fun r => ∃ z : Int, r = (some (iv z), (cW ki ln bt rl cp cs ct cv 5 14 ja ea ma a1 a2 a3 a4 a5 a6 a7 a8 jb eb mb b1 b2 b3 b4 b5 b6 b7 b8 re fl g1 g2 g3 g4 g5 (dW rt la rs rg pd du ds me tt gr su gp ((mk + (Int32.ofInt (mm_mrk (Int.toNat 1)).toInt).toInt64) + (Int32.ofInt (mm_mrk (Int.toNat 0)).toInt).toInt64) rf m1 m2 m3 m4 m5 mr mf n1 n2 n3 n4 n5 nr nf E)))) rfl (rn_up (N := 300) (M := mm_fuel) (by decide) (main (fun r => ∃ z : Int, r = (some (iv z), (cW ki ln bt rl cp cs ct cv 5 14 ja ea ma a1 a2 a3 a4 a5 a6 a7 a8 jb eb mb b1 b2 b3 b4 b5 b6 b7 b8 re fl g1 g2 g3 g4 g5 (dW rt la rs rg pd du ds me tt gr su gp ((mk + (Int32.ofInt (mm_mrk (Int.toNat 1)).toInt).toInt64) + (Int32.ofInt (mm_mrk (Int.toNat 0)).toInt).toInt64) rf m1 m2 m3 m4 m5 mr mf n1 n2 n3 n4 n5 nr nf E)))) (fun z => ⟨z, rfl⟩)))
  have h1 : sX11_price [.ref 0, iv (1), iv (i)] (cW ki ln bt rl cp cs ct cv 5 14 ja ea ma a1 a2 a3 a4 a5 a6 a7 a8 jb eb mb b1 b2 b3 b4 b5 b6 b7 b8 re fl g1 g2 g3 g4 g5 (dW rt la rs rg pd du ds me tt gr su gp mk rf m1 m2 m3 m4 m5 mr mf n1 n2 n3 n4 n5 nr nf E)) = some r := h1
  exact ⟨z, by rw [h1, h2]⟩
theorem c_priceG0_2 (hE : E.length = 11) (hn : 0 ≤ ma ∧ ma ≤ 16) (hAs : ARs a4 a5 a6 a7) (hb : i3 i 0 (ma - 1) = true) : ∃ z : Int, sX11_price [.ref 0, iv (2), iv (i)] (cW ki ln bt rl cp cs ct cv 5 14 ja ea ma a1 a2 a3 a4 a5 a6 a7 a8 jb eb mb b1 b2 b3 b4 b5 b6 b7 b8 re fl g1 g2 g3 g4 g5 (dW rt la rs rg pd du ds me tt gr su gp mk rf m1 m2 m3 m4 m5 mr mf n1 n2 n3 n4 n5 nr nf E)) = some (some (iv z), (cW ki ln bt rl cp cs ct cv 5 14 ja ea ma a1 a2 a3 a4 a5 a6 a7 a8 jb eb mb b1 b2 b3 b4 b5 b6 b7 b8 re fl g1 g2 g3 g4 g5 (dW rt la rs rg pd du ds me tt gr su gp ((mk + (Int32.ofInt (mm_mrk (Int.toNat 2)).toInt).toInt64) + (Int32.ofInt (mm_mrk (Int.toNat 0)).toInt).toInt64) rf m1 m2 m3 m4 m5 mr mf n1 n2 n3 n4 n5 nr nf E))) := by
  have main : ∀ Q : mm_R → Prop, (∀ z : Int, Q (some (iv z), (cW ki ln bt rl cp cs ct cv 5 14 ja ea ma a1 a2 a3 a4 a5 a6 a7 a8 jb eb mb b1 b2 b3 b4 b5 b6 b7 b8 re fl g1 g2 g3 g4 g5 (dW rt la rs rg pd du ds me tt gr su gp ((mk + (Int32.ofInt (mm_mrk (Int.toNat 2)).toInt).toInt64) + (Int32.ofInt (mm_mrk (Int.toNat 0)).toInt).toInt64) rf m1 m2 m3 m4 m5 mr mf n1 n2 n3 n4 n5 nr nf E)))) → rn_X11_price (300) (0, [(0, .ref 0), (1, iv (2)), (2, iv (i))], [], (cW ki ln bt rl cp cs ct cv 5 14 ja ea ma a1 a2 a3 a4 a5 a6 a7 a8 jb eb mb b1 b2 b3 b4 b5 b6 b7 b8 re fl g1 g2 g3 g4 g5 (dW rt la rs rg pd du ds me tt gr su gp mk rf m1 m2 m3 m4 m5 mr mf n1 n2 n3 n4 n5 nr nf E))) Q := by
    intro Q hQ
    have rb := i3_t hb
    refine r_il rfl rfl ?_
    refine r_s1s rfl rfl rfl (c_isKind (by decide)) ?_
    refine r_zeq rfl rfl (bi_r _) (fun u1 => ?_) (fun u1 => ?_)
    · exact absurd u1 (by decide)
    · refine r_al rfl rfl ?_
      refine r_gf rfl rfl xg_0 rfl ?_
      refine r_il rfl rfl ?_
      refine r_v2s rfl rfl xg_4 rfl (c_isStandC0 (by omega) hn) ?_
      rw [hb]
      refine r_zne rfl rfl (bi_r _) (fun u2 => ?_) (fun u2 => ?_)
      · obtain ⟨z, hz⟩ := c_valueAs0_2 (E := E) (i := i) (ki := ki) (ln := ln) (bt := bt) (rl := rl) (cp := cp) (cs := cs) (ct := ct) (cv := cv) (ja := ja) (ea := ea) (ma := ma) (a1 := a1) (a2 := a2) (a3 := a3) (a4 := a4) (a5 := a5) (a6 := a6) (a7 := a7) (a8 := a8) (jb := jb) (eb := eb) (mb := mb) (b1 := b1) (b2 := b2) (b3 := b3) (b4 := b4) (b5 := b5) (b6 := b6) (b7 := b7) (b8 := b8) (re := re) (fl := fl) (g1 := g1) (g2 := g2) (g3 := g3) (g4 := g4) (g5 := g5) (rt := rt) (la := la) (rs := rs) (rg := rg) (pd := pd) (du := du) (ds := ds) (me := me) (tt := tt) (gr := gr) (su := su) (gp := gp) (mk := mk) (rf := rf) (m1 := m1) (m2 := m2) (m3 := m3) (m4 := m4) (m5 := m5) (mr := mr) (mf := mf) (n1 := n1) (n2 := n2) (n3 := n3) (n4 := n4) (n5 := n5) (nr := nr) (nf := nf) hE (by omega) hAs
        refine r_al rfl rfl ?_
        refine r_gf rfl rfl xg_0 rfl ?_
        refine r_il rfl rfl ?_
        refine r_il rfl rfl ?_
        refine r_v3s rfl rfl xg_42 rfl hz ?_
        exact r_ret rfl rfl (hQ _)
      · exact absurd u2 (by decide)
  obtain ⟨r, h1, z, h2⟩ := rn_S (vs := [.ref 0, iv (2), iv (i)]) (Q := fun r => ∃ z : Int, r = (some (iv z), (cW ki ln bt rl cp cs ct cv 5 14 ja ea ma a1 a2 a3 a4 a5 a6 a7 a8 jb eb mb b1 b2 b3 b4 b5 b6 b7 b8 re fl g1 g2 g3 g4 g5 (dW rt la rs rg pd du ds me tt gr su gp ((mk + (Int32.ofInt (mm_mrk (Int.toNat 2)).toInt).toInt64) + (Int32.ofInt (mm_mrk (Int.toNat 0)).toInt).toInt64) rf m1 m2 m3 m4 m5 mr mf n1 n2 n3 n4 n5 nr nf E)))) rfl (rn_up (N := 300) (M := mm_fuel) (by decide) (main (fun r => ∃ z : Int, r = (some (iv z), (cW ki ln bt rl cp cs ct cv 5 14 ja ea ma a1 a2 a3 a4 a5 a6 a7 a8 jb eb mb b1 b2 b3 b4 b5 b6 b7 b8 re fl g1 g2 g3 g4 g5 (dW rt la rs rg pd du ds me tt gr su gp ((mk + (Int32.ofInt (mm_mrk (Int.toNat 2)).toInt).toInt64) + (Int32.ofInt (mm_mrk (Int.toNat 0)).toInt).toInt64) rf m1 m2 m3 m4 m5 mr mf n1 n2 n3 n4 n5 nr nf E)))) (fun z => ⟨z, rfl⟩)))
  have h1 : sX11_price [.ref 0, iv (2), iv (i)] (cW ki ln bt rl cp cs ct cv 5 14 ja ea ma a1 a2 a3 a4 a5 a6 a7 a8 jb eb mb b1 b2 b3 b4 b5 b6 b7 b8 re fl g1 g2 g3 g4 g5 (dW rt la rs rg pd du ds me tt gr su gp mk rf m1 m2 m3 m4 m5 mr mf n1 n2 n3 n4 n5 nr nf E)) = some r := h1
  exact ⟨z, by rw [h1, h2]⟩
theorem c_priceG0_3 (hE : E.length = 11) (hn : 0 ≤ ma ∧ ma ≤ 16) (hAs : ARs a4 a5 a6 a7) (hb : i3 i 0 (ma - 1) = true) : ∃ z : Int, sX11_price [.ref 0, iv (3), iv (i)] (cW ki ln bt rl cp cs ct cv 5 14 ja ea ma a1 a2 a3 a4 a5 a6 a7 a8 jb eb mb b1 b2 b3 b4 b5 b6 b7 b8 re fl g1 g2 g3 g4 g5 (dW rt la rs rg pd du ds me tt gr su gp mk rf m1 m2 m3 m4 m5 mr mf n1 n2 n3 n4 n5 nr nf E)) = some (some (iv z), (cW ki ln bt rl cp cs ct cv 5 14 ja ea ma a1 a2 a3 a4 a5 a6 a7 a8 jb eb mb b1 b2 b3 b4 b5 b6 b7 b8 re fl g1 g2 g3 g4 g5 (dW rt la rs rg pd du ds me tt gr su gp ((mk + (Int32.ofInt (mm_mrk (Int.toNat 3)).toInt).toInt64) + (Int32.ofInt (mm_mrk (Int.toNat 0)).toInt).toInt64) rf m1 m2 m3 m4 m5 mr mf n1 n2 n3 n4 n5 nr nf E))) := by
  have main : ∀ Q : mm_R → Prop, (∀ z : Int, Q (some (iv z), (cW ki ln bt rl cp cs ct cv 5 14 ja ea ma a1 a2 a3 a4 a5 a6 a7 a8 jb eb mb b1 b2 b3 b4 b5 b6 b7 b8 re fl g1 g2 g3 g4 g5 (dW rt la rs rg pd du ds me tt gr su gp ((mk + (Int32.ofInt (mm_mrk (Int.toNat 3)).toInt).toInt64) + (Int32.ofInt (mm_mrk (Int.toNat 0)).toInt).toInt64) rf m1 m2 m3 m4 m5 mr mf n1 n2 n3 n4 n5 nr nf E)))) → rn_X11_price (300) (0, [(0, .ref 0), (1, iv (3)), (2, iv (i))], [], (cW ki ln bt rl cp cs ct cv 5 14 ja ea ma a1 a2 a3 a4 a5 a6 a7 a8 jb eb mb b1 b2 b3 b4 b5 b6 b7 b8 re fl g1 g2 g3 g4 g5 (dW rt la rs rg pd du ds me tt gr su gp mk rf m1 m2 m3 m4 m5 mr mf n1 n2 n3 n4 n5 nr nf E))) Q := by
    intro Q hQ
    have rb := i3_t hb
    refine r_il rfl rfl ?_
    refine r_s1s rfl rfl rfl (c_isKind (by decide)) ?_
    refine r_zeq rfl rfl (bi_r _) (fun u1 => ?_) (fun u1 => ?_)
    · exact absurd u1 (by decide)
    · refine r_al rfl rfl ?_
      refine r_gf rfl rfl xg_0 rfl ?_
      refine r_il rfl rfl ?_
      refine r_v2s rfl rfl xg_4 rfl (c_isStandC0 (by omega) hn) ?_
      rw [hb]
      refine r_zne rfl rfl (bi_r _) (fun u2 => ?_) (fun u2 => ?_)
      · obtain ⟨z, hz⟩ := c_valueAs0_3 (E := E) (i := i) (ki := ki) (ln := ln) (bt := bt) (rl := rl) (cp := cp) (cs := cs) (ct := ct) (cv := cv) (ja := ja) (ea := ea) (ma := ma) (a1 := a1) (a2 := a2) (a3 := a3) (a4 := a4) (a5 := a5) (a6 := a6) (a7 := a7) (a8 := a8) (jb := jb) (eb := eb) (mb := mb) (b1 := b1) (b2 := b2) (b3 := b3) (b4 := b4) (b5 := b5) (b6 := b6) (b7 := b7) (b8 := b8) (re := re) (fl := fl) (g1 := g1) (g2 := g2) (g3 := g3) (g4 := g4) (g5 := g5) (rt := rt) (la := la) (rs := rs) (rg := rg) (pd := pd) (du := du) (ds := ds) (me := me) (tt := tt) (gr := gr) (su := su) (gp := gp) (mk := mk) (rf := rf) (m1 := m1) (m2 := m2) (m3 := m3) (m4 := m4) (m5 := m5) (mr := mr) (mf := mf) (n1 := n1) (n2 := n2) (n3 := n3) (n4 := n4) (n5 := n5) (nr := nr) (nf := nf) hE (by omega) hAs
        refine r_al rfl rfl ?_
        refine r_gf rfl rfl xg_0 rfl ?_
        refine r_il rfl rfl ?_
        refine r_il rfl rfl ?_
        refine r_v3s rfl rfl xg_42 rfl hz ?_
        exact r_ret rfl rfl (hQ _)
      · exact absurd u2 (by decide)
  obtain ⟨r, h1, z, h2⟩ := rn_S (vs := [.ref 0, iv (3), iv (i)]) (Q := fun r => ∃ z : Int, r = (some (iv z), (cW ki ln bt rl cp cs ct cv 5 14 ja ea ma a1 a2 a3 a4 a5 a6 a7 a8 jb eb mb b1 b2 b3 b4 b5 b6 b7 b8 re fl g1 g2 g3 g4 g5 (dW rt la rs rg pd du ds me tt gr su gp ((mk + (Int32.ofInt (mm_mrk (Int.toNat 3)).toInt).toInt64) + (Int32.ofInt (mm_mrk (Int.toNat 0)).toInt).toInt64) rf m1 m2 m3 m4 m5 mr mf n1 n2 n3 n4 n5 nr nf E)))) rfl (rn_up (N := 300) (M := mm_fuel) (by decide) (main (fun r => ∃ z : Int, r = (some (iv z), (cW ki ln bt rl cp cs ct cv 5 14 ja ea ma a1 a2 a3 a4 a5 a6 a7 a8 jb eb mb b1 b2 b3 b4 b5 b6 b7 b8 re fl g1 g2 g3 g4 g5 (dW rt la rs rg pd du ds me tt gr su gp ((mk + (Int32.ofInt (mm_mrk (Int.toNat 3)).toInt).toInt64) + (Int32.ofInt (mm_mrk (Int.toNat 0)).toInt).toInt64) rf m1 m2 m3 m4 m5 mr mf n1 n2 n3 n4 n5 nr nf E)))) (fun z => ⟨z, rfl⟩)))
  have h1 : sX11_price [.ref 0, iv (3), iv (i)] (cW ki ln bt rl cp cs ct cv 5 14 ja ea ma a1 a2 a3 a4 a5 a6 a7 a8 jb eb mb b1 b2 b3 b4 b5 b6 b7 b8 re fl g1 g2 g3 g4 g5 (dW rt la rs rg pd du ds me tt gr su gp mk rf m1 m2 m3 m4 m5 mr mf n1 n2 n3 n4 n5 nr nf E)) = some r := h1
  exact ⟨z, by rw [h1, h2]⟩
theorem c_priceG0_4 (hE : E.length = 11) (hn : 0 ≤ ma ∧ ma ≤ 16) (hAs : ARs a4 a5 a6 a7) (hb : i3 i 0 (ma - 1) = true) : ∃ z : Int, sX11_price [.ref 0, iv (4), iv (i)] (cW ki ln bt rl cp cs ct cv 5 14 ja ea ma a1 a2 a3 a4 a5 a6 a7 a8 jb eb mb b1 b2 b3 b4 b5 b6 b7 b8 re fl g1 g2 g3 g4 g5 (dW rt la rs rg pd du ds me tt gr su gp mk rf m1 m2 m3 m4 m5 mr mf n1 n2 n3 n4 n5 nr nf E)) = some (some (iv z), (cW ki ln bt rl cp cs ct cv 5 14 ja ea ma a1 a2 a3 a4 a5 a6 a7 a8 jb eb mb b1 b2 b3 b4 b5 b6 b7 b8 re fl g1 g2 g3 g4 g5 (dW rt la rs rg pd du ds me tt gr su gp (((mk + (Int32.ofInt (mm_mrk (Int.toNat 4)).toInt).toInt64) + (Int32.ofInt (mm_mrk (Int.toNat 3)).toInt).toInt64) + (Int32.ofInt (mm_mrk (Int.toNat 0)).toInt).toInt64) rf m1 m2 m3 m4 m5 mr mf n1 n2 n3 n4 n5 nr nf E))) := by
  have main : ∀ Q : mm_R → Prop, (∀ z : Int, Q (some (iv z), (cW ki ln bt rl cp cs ct cv 5 14 ja ea ma a1 a2 a3 a4 a5 a6 a7 a8 jb eb mb b1 b2 b3 b4 b5 b6 b7 b8 re fl g1 g2 g3 g4 g5 (dW rt la rs rg pd du ds me tt gr su gp (((mk + (Int32.ofInt (mm_mrk (Int.toNat 4)).toInt).toInt64) + (Int32.ofInt (mm_mrk (Int.toNat 3)).toInt).toInt64) + (Int32.ofInt (mm_mrk (Int.toNat 0)).toInt).toInt64) rf m1 m2 m3 m4 m5 mr mf n1 n2 n3 n4 n5 nr nf E)))) → rn_X11_price (300) (0, [(0, .ref 0), (1, iv (4)), (2, iv (i))], [], (cW ki ln bt rl cp cs ct cv 5 14 ja ea ma a1 a2 a3 a4 a5 a6 a7 a8 jb eb mb b1 b2 b3 b4 b5 b6 b7 b8 re fl g1 g2 g3 g4 g5 (dW rt la rs rg pd du ds me tt gr su gp mk rf m1 m2 m3 m4 m5 mr mf n1 n2 n3 n4 n5 nr nf E))) Q := by
    intro Q hQ
    have rb := i3_t hb
    refine r_il rfl rfl ?_
    refine r_s1s rfl rfl rfl (c_isKind (by decide)) ?_
    refine r_zeq rfl rfl (bi_r _) (fun u1 => ?_) (fun u1 => ?_)
    · exact absurd u1 (by decide)
    · refine r_al rfl rfl ?_
      refine r_gf rfl rfl xg_0 rfl ?_
      refine r_il rfl rfl ?_
      refine r_v2s rfl rfl xg_4 rfl (c_isStandC0 (by omega) hn) ?_
      rw [hb]
      refine r_zne rfl rfl (bi_r _) (fun u2 => ?_) (fun u2 => ?_)
      · obtain ⟨z, hz⟩ := c_valueAs0_4 (E := E) (i := i) (ki := ki) (ln := ln) (bt := bt) (rl := rl) (cp := cp) (cs := cs) (ct := ct) (cv := cv) (ja := ja) (ea := ea) (ma := ma) (a1 := a1) (a2 := a2) (a3 := a3) (a4 := a4) (a5 := a5) (a6 := a6) (a7 := a7) (a8 := a8) (jb := jb) (eb := eb) (mb := mb) (b1 := b1) (b2 := b2) (b3 := b3) (b4 := b4) (b5 := b5) (b6 := b6) (b7 := b7) (b8 := b8) (re := re) (fl := fl) (g1 := g1) (g2 := g2) (g3 := g3) (g4 := g4) (g5 := g5) (rt := rt) (la := la) (rs := rs) (rg := rg) (pd := pd) (du := du) (ds := ds) (me := me) (tt := tt) (gr := gr) (su := su) (gp := gp) (mk := mk) (rf := rf) (m1 := m1) (m2 := m2) (m3 := m3) (m4 := m4) (m5 := m5) (mr := mr) (mf := mf) (n1 := n1) (n2 := n2) (n3 := n3) (n4 := n4) (n5 := n5) (nr := nr) (nf := nf) hE (by omega) hAs
        refine r_al rfl rfl ?_
        refine r_gf rfl rfl xg_0 rfl ?_
        refine r_il rfl rfl ?_
        refine r_il rfl rfl ?_
        refine r_v3s rfl rfl xg_42 rfl hz ?_
        exact r_ret rfl rfl (hQ _)
      · exact absurd u2 (by decide)
  obtain ⟨r, h1, z, h2⟩ := rn_S (vs := [.ref 0, iv (4), iv (i)]) (Q := fun r => ∃ z : Int, r = (some (iv z), (cW ki ln bt rl cp cs ct cv 5 14 ja ea ma a1 a2 a3 a4 a5 a6 a7 a8 jb eb mb b1 b2 b3 b4 b5 b6 b7 b8 re fl g1 g2 g3 g4 g5 (dW rt la rs rg pd du ds me tt gr su gp (((mk + (Int32.ofInt (mm_mrk (Int.toNat 4)).toInt).toInt64) + (Int32.ofInt (mm_mrk (Int.toNat 3)).toInt).toInt64) + (Int32.ofInt (mm_mrk (Int.toNat 0)).toInt).toInt64) rf m1 m2 m3 m4 m5 mr mf n1 n2 n3 n4 n5 nr nf E)))) rfl (rn_up (N := 300) (M := mm_fuel) (by decide) (main (fun r => ∃ z : Int, r = (some (iv z), (cW ki ln bt rl cp cs ct cv 5 14 ja ea ma a1 a2 a3 a4 a5 a6 a7 a8 jb eb mb b1 b2 b3 b4 b5 b6 b7 b8 re fl g1 g2 g3 g4 g5 (dW rt la rs rg pd du ds me tt gr su gp (((mk + (Int32.ofInt (mm_mrk (Int.toNat 4)).toInt).toInt64) + (Int32.ofInt (mm_mrk (Int.toNat 3)).toInt).toInt64) + (Int32.ofInt (mm_mrk (Int.toNat 0)).toInt).toInt64) rf m1 m2 m3 m4 m5 mr mf n1 n2 n3 n4 n5 nr nf E)))) (fun z => ⟨z, rfl⟩)))
  have h1 : sX11_price [.ref 0, iv (4), iv (i)] (cW ki ln bt rl cp cs ct cv 5 14 ja ea ma a1 a2 a3 a4 a5 a6 a7 a8 jb eb mb b1 b2 b3 b4 b5 b6 b7 b8 re fl g1 g2 g3 g4 g5 (dW rt la rs rg pd du ds me tt gr su gp mk rf m1 m2 m3 m4 m5 mr mf n1 n2 n3 n4 n5 nr nf E)) = some r := h1
  exact ⟨z, by rw [h1, h2]⟩
theorem c_priceG0_5 (hE : E.length = 11) (hn : 0 ≤ ma ∧ ma ≤ 16) (hAs : ARs a4 a5 a6 a7) (hb : i3 i 0 (ma - 1) = true) : ∃ z : Int, sX11_price [.ref 0, iv (5), iv (i)] (cW ki ln bt rl cp cs ct cv 5 14 ja ea ma a1 a2 a3 a4 a5 a6 a7 a8 jb eb mb b1 b2 b3 b4 b5 b6 b7 b8 re fl g1 g2 g3 g4 g5 (dW rt la rs rg pd du ds me tt gr su gp mk rf m1 m2 m3 m4 m5 mr mf n1 n2 n3 n4 n5 nr nf E)) = some (some (iv z), (cW ki ln bt rl cp cs ct cv 5 14 ja ea ma a1 a2 a3 a4 a5 a6 a7 a8 jb eb mb b1 b2 b3 b4 b5 b6 b7 b8 re fl g1 g2 g3 g4 g5 (dW rt la rs rg pd du ds me tt gr su gp ((mk + (Int32.ofInt (mm_mrk (Int.toNat 5)).toInt).toInt64) + (Int32.ofInt (mm_mrk (Int.toNat 0)).toInt).toInt64) rf m1 m2 m3 m4 m5 mr mf n1 n2 n3 n4 n5 nr nf E))) := by
  have main : ∀ Q : mm_R → Prop, (∀ z : Int, Q (some (iv z), (cW ki ln bt rl cp cs ct cv 5 14 ja ea ma a1 a2 a3 a4 a5 a6 a7 a8 jb eb mb b1 b2 b3 b4 b5 b6 b7 b8 re fl g1 g2 g3 g4 g5 (dW rt la rs rg pd du ds me tt gr su gp ((mk + (Int32.ofInt (mm_mrk (Int.toNat 5)).toInt).toInt64) + (Int32.ofInt (mm_mrk (Int.toNat 0)).toInt).toInt64) rf m1 m2 m3 m4 m5 mr mf n1 n2 n3 n4 n5 nr nf E)))) → rn_X11_price (300) (0, [(0, .ref 0), (1, iv (5)), (2, iv (i))], [], (cW ki ln bt rl cp cs ct cv 5 14 ja ea ma a1 a2 a3 a4 a5 a6 a7 a8 jb eb mb b1 b2 b3 b4 b5 b6 b7 b8 re fl g1 g2 g3 g4 g5 (dW rt la rs rg pd du ds me tt gr su gp mk rf m1 m2 m3 m4 m5 mr mf n1 n2 n3 n4 n5 nr nf E))) Q := by
    intro Q hQ
    have rb := i3_t hb
    refine r_il rfl rfl ?_
    refine r_s1s rfl rfl rfl (c_isKind (by decide)) ?_
    refine r_zeq rfl rfl (bi_r _) (fun u1 => ?_) (fun u1 => ?_)
    · exact absurd u1 (by decide)
    · refine r_al rfl rfl ?_
      refine r_gf rfl rfl xg_0 rfl ?_
      refine r_il rfl rfl ?_
      refine r_v2s rfl rfl xg_4 rfl (c_isStandC0 (by omega) hn) ?_
      rw [hb]
      refine r_zne rfl rfl (bi_r _) (fun u2 => ?_) (fun u2 => ?_)
      · obtain ⟨z, hz⟩ := c_valueAs0_5 (E := E) (i := i) (ki := ki) (ln := ln) (bt := bt) (rl := rl) (cp := cp) (cs := cs) (ct := ct) (cv := cv) (ja := ja) (ea := ea) (ma := ma) (a1 := a1) (a2 := a2) (a3 := a3) (a4 := a4) (a5 := a5) (a6 := a6) (a7 := a7) (a8 := a8) (jb := jb) (eb := eb) (mb := mb) (b1 := b1) (b2 := b2) (b3 := b3) (b4 := b4) (b5 := b5) (b6 := b6) (b7 := b7) (b8 := b8) (re := re) (fl := fl) (g1 := g1) (g2 := g2) (g3 := g3) (g4 := g4) (g5 := g5) (rt := rt) (la := la) (rs := rs) (rg := rg) (pd := pd) (du := du) (ds := ds) (me := me) (tt := tt) (gr := gr) (su := su) (gp := gp) (mk := mk) (rf := rf) (m1 := m1) (m2 := m2) (m3 := m3) (m4 := m4) (m5 := m5) (mr := mr) (mf := mf) (n1 := n1) (n2 := n2) (n3 := n3) (n4 := n4) (n5 := n5) (nr := nr) (nf := nf) hE (by omega) hAs
        refine r_al rfl rfl ?_
        refine r_gf rfl rfl xg_0 rfl ?_
        refine r_il rfl rfl ?_
        refine r_il rfl rfl ?_
        refine r_v3s rfl rfl xg_42 rfl hz ?_
        exact r_ret rfl rfl (hQ _)
      · exact absurd u2 (by decide)
  obtain ⟨r, h1, z, h2⟩ := rn_S (vs := [.ref 0, iv (5), iv (i)]) (Q := fun r => ∃ z : Int, r = (some (iv z), (cW ki ln bt rl cp cs ct cv 5 14 ja ea ma a1 a2 a3 a4 a5 a6 a7 a8 jb eb mb b1 b2 b3 b4 b5 b6 b7 b8 re fl g1 g2 g3 g4 g5 (dW rt la rs rg pd du ds me tt gr su gp ((mk + (Int32.ofInt (mm_mrk (Int.toNat 5)).toInt).toInt64) + (Int32.ofInt (mm_mrk (Int.toNat 0)).toInt).toInt64) rf m1 m2 m3 m4 m5 mr mf n1 n2 n3 n4 n5 nr nf E)))) rfl (rn_up (N := 300) (M := mm_fuel) (by decide) (main (fun r => ∃ z : Int, r = (some (iv z), (cW ki ln bt rl cp cs ct cv 5 14 ja ea ma a1 a2 a3 a4 a5 a6 a7 a8 jb eb mb b1 b2 b3 b4 b5 b6 b7 b8 re fl g1 g2 g3 g4 g5 (dW rt la rs rg pd du ds me tt gr su gp ((mk + (Int32.ofInt (mm_mrk (Int.toNat 5)).toInt).toInt64) + (Int32.ofInt (mm_mrk (Int.toNat 0)).toInt).toInt64) rf m1 m2 m3 m4 m5 mr mf n1 n2 n3 n4 n5 nr nf E)))) (fun z => ⟨z, rfl⟩)))
  have h1 : sX11_price [.ref 0, iv (5), iv (i)] (cW ki ln bt rl cp cs ct cv 5 14 ja ea ma a1 a2 a3 a4 a5 a6 a7 a8 jb eb mb b1 b2 b3 b4 b5 b6 b7 b8 re fl g1 g2 g3 g4 g5 (dW rt la rs rg pd du ds me tt gr su gp mk rf m1 m2 m3 m4 m5 mr mf n1 n2 n3 n4 n5 nr nf E)) = some r := h1
  exact ⟨z, by rw [h1, h2]⟩
theorem c_priceG0_6 (hE : E.length = 11) (hn : 0 ≤ ma ∧ ma ≤ 16) (hAs : ARs a4 a5 a6 a7) (hb : i3 i 0 (ma - 1) = true) : ∃ z : Int, sX11_price [.ref 0, iv (6), iv (i)] (cW ki ln bt rl cp cs ct cv 5 14 ja ea ma a1 a2 a3 a4 a5 a6 a7 a8 jb eb mb b1 b2 b3 b4 b5 b6 b7 b8 re fl g1 g2 g3 g4 g5 (dW rt la rs rg pd du ds me tt gr su gp mk rf m1 m2 m3 m4 m5 mr mf n1 n2 n3 n4 n5 nr nf E)) = some (some (iv z), (cW ki ln bt rl cp cs ct cv 5 14 ja ea ma a1 a2 a3 a4 a5 a6 a7 a8 jb eb mb b1 b2 b3 b4 b5 b6 b7 b8 re fl g1 g2 g3 g4 g5 (dW rt la rs rg pd du ds me tt gr su gp (((mk + (Int32.ofInt (mm_mrk (Int.toNat 6)).toInt).toInt64) + (Int32.ofInt (mm_mrk (Int.toNat 5)).toInt).toInt64) + (Int32.ofInt (mm_mrk (Int.toNat 0)).toInt).toInt64) rf m1 m2 m3 m4 m5 mr mf n1 n2 n3 n4 n5 nr nf E))) := by
  have main : ∀ Q : mm_R → Prop, (∀ z : Int, Q (some (iv z), (cW ki ln bt rl cp cs ct cv 5 14 ja ea ma a1 a2 a3 a4 a5 a6 a7 a8 jb eb mb b1 b2 b3 b4 b5 b6 b7 b8 re fl g1 g2 g3 g4 g5 (dW rt la rs rg pd du ds me tt gr su gp (((mk + (Int32.ofInt (mm_mrk (Int.toNat 6)).toInt).toInt64) + (Int32.ofInt (mm_mrk (Int.toNat 5)).toInt).toInt64) + (Int32.ofInt (mm_mrk (Int.toNat 0)).toInt).toInt64) rf m1 m2 m3 m4 m5 mr mf n1 n2 n3 n4 n5 nr nf E)))) → rn_X11_price (300) (0, [(0, .ref 0), (1, iv (6)), (2, iv (i))], [], (cW ki ln bt rl cp cs ct cv 5 14 ja ea ma a1 a2 a3 a4 a5 a6 a7 a8 jb eb mb b1 b2 b3 b4 b5 b6 b7 b8 re fl g1 g2 g3 g4 g5 (dW rt la rs rg pd du ds me tt gr su gp mk rf m1 m2 m3 m4 m5 mr mf n1 n2 n3 n4 n5 nr nf E))) Q := by
    intro Q hQ
    have rb := i3_t hb
    refine r_il rfl rfl ?_
    refine r_s1s rfl rfl rfl (c_isKind (by decide)) ?_
    refine r_zeq rfl rfl (bi_r _) (fun u1 => ?_) (fun u1 => ?_)
    · exact absurd u1 (by decide)
    · refine r_al rfl rfl ?_
      refine r_gf rfl rfl xg_0 rfl ?_
      refine r_il rfl rfl ?_
      refine r_v2s rfl rfl xg_4 rfl (c_isStandC0 (by omega) hn) ?_
      rw [hb]
      refine r_zne rfl rfl (bi_r _) (fun u2 => ?_) (fun u2 => ?_)
      · obtain ⟨z, hz⟩ := c_valueAs0_6 (E := E) (i := i) (ki := ki) (ln := ln) (bt := bt) (rl := rl) (cp := cp) (cs := cs) (ct := ct) (cv := cv) (ja := ja) (ea := ea) (ma := ma) (a1 := a1) (a2 := a2) (a3 := a3) (a4 := a4) (a5 := a5) (a6 := a6) (a7 := a7) (a8 := a8) (jb := jb) (eb := eb) (mb := mb) (b1 := b1) (b2 := b2) (b3 := b3) (b4 := b4) (b5 := b5) (b6 := b6) (b7 := b7) (b8 := b8) (re := re) (fl := fl) (g1 := g1) (g2 := g2) (g3 := g3) (g4 := g4) (g5 := g5) (rt := rt) (la := la) (rs := rs) (rg := rg) (pd := pd) (du := du) (ds := ds) (me := me) (tt := tt) (gr := gr) (su := su) (gp := gp) (mk := mk) (rf := rf) (m1 := m1) (m2 := m2) (m3 := m3) (m4 := m4) (m5 := m5) (mr := mr) (mf := mf) (n1 := n1) (n2 := n2) (n3 := n3) (n4 := n4) (n5 := n5) (nr := nr) (nf := nf) hE (by omega) hAs
        refine r_al rfl rfl ?_
        refine r_gf rfl rfl xg_0 rfl ?_
        refine r_il rfl rfl ?_
        refine r_il rfl rfl ?_
        refine r_v3s rfl rfl xg_42 rfl hz ?_
        exact r_ret rfl rfl (hQ _)
      · exact absurd u2 (by decide)
  obtain ⟨r, h1, z, h2⟩ := rn_S (vs := [.ref 0, iv (6), iv (i)]) (Q := fun r => ∃ z : Int, r = (some (iv z), (cW ki ln bt rl cp cs ct cv 5 14 ja ea ma a1 a2 a3 a4 a5 a6 a7 a8 jb eb mb b1 b2 b3 b4 b5 b6 b7 b8 re fl g1 g2 g3 g4 g5 (dW rt la rs rg pd du ds me tt gr su gp (((mk + (Int32.ofInt (mm_mrk (Int.toNat 6)).toInt).toInt64) + (Int32.ofInt (mm_mrk (Int.toNat 5)).toInt).toInt64) + (Int32.ofInt (mm_mrk (Int.toNat 0)).toInt).toInt64) rf m1 m2 m3 m4 m5 mr mf n1 n2 n3 n4 n5 nr nf E)))) rfl (rn_up (N := 300) (M := mm_fuel) (by decide) (main (fun r => ∃ z : Int, r = (some (iv z), (cW ki ln bt rl cp cs ct cv 5 14 ja ea ma a1 a2 a3 a4 a5 a6 a7 a8 jb eb mb b1 b2 b3 b4 b5 b6 b7 b8 re fl g1 g2 g3 g4 g5 (dW rt la rs rg pd du ds me tt gr su gp (((mk + (Int32.ofInt (mm_mrk (Int.toNat 6)).toInt).toInt64) + (Int32.ofInt (mm_mrk (Int.toNat 5)).toInt).toInt64) + (Int32.ofInt (mm_mrk (Int.toNat 0)).toInt).toInt64) rf m1 m2 m3 m4 m5 mr mf n1 n2 n3 n4 n5 nr nf E)))) (fun z => ⟨z, rfl⟩)))
  have h1 : sX11_price [.ref 0, iv (6), iv (i)] (cW ki ln bt rl cp cs ct cv 5 14 ja ea ma a1 a2 a3 a4 a5 a6 a7 a8 jb eb mb b1 b2 b3 b4 b5 b6 b7 b8 re fl g1 g2 g3 g4 g5 (dW rt la rs rg pd du ds me tt gr su gp mk rf m1 m2 m3 m4 m5 mr mf n1 n2 n3 n4 n5 nr nf E)) = some r := h1
  exact ⟨z, by rw [h1, h2]⟩
theorem c_valueAs1_0 (hE : E.length = 11) (hi : 0 ≤ i ∧ i ≤ 15) (hAs : ARs b4 b5 b6 b7) : ∃ z : Int, sX4_valueAs [.ref 42, iv (0), iv (i)] (cW ki ln bt rl cp cs ct cv 14 5 ja ea ma a1 a2 a3 a4 a5 a6 a7 a8 jb eb mb b1 b2 b3 b4 b5 b6 b7 b8 re fl g1 g2 g3 g4 g5 (dW rt la rs rg pd du ds me tt gr su gp mk rf m1 m2 m3 m4 m5 mr mf n1 n2 n3 n4 n5 nr nf E)) = some (some (iv z), (cW ki ln bt rl cp cs ct cv 14 5 ja ea ma a1 a2 a3 a4 a5 a6 a7 a8 jb eb mb b1 b2 b3 b4 b5 b6 b7 b8 re fl g1 g2 g3 g4 g5 (dW rt la rs rg pd du ds me tt gr su gp (mk + (Int32.ofInt (mm_mrk (Int.toNat 0)).toInt).toInt64) rf m1 m2 m3 m4 m5 mr mf n1 n2 n3 n4 n5 nr nf E))) := by
  have main : ∀ Q : mm_R → Prop, (∀ z : Int, Q (some (iv z), (cW ki ln bt rl cp cs ct cv 14 5 ja ea ma a1 a2 a3 a4 a5 a6 a7 a8 jb eb mb b1 b2 b3 b4 b5 b6 b7 b8 re fl g1 g2 g3 g4 g5 (dW rt la rs rg pd du ds me tt gr su gp (mk + (Int32.ofInt (mm_mrk (Int.toNat 0)).toInt).toInt64) rf m1 m2 m3 m4 m5 mr mf n1 n2 n3 n4 n5 nr nf E)))) → rn_X4_valueAs (300) (0, [(0, .ref 42), (1, iv (0)), (2, iv (i))], [], (cW ki ln bt rl cp cs ct cv 14 5 ja ea ma a1 a2 a3 a4 a5 a6 a7 a8 jb eb mb b1 b2 b3 b4 b5 b6 b7 b8 re fl g1 g2 g3 g4 g5 (dW rt la rs rg pd du ds me tt gr su gp mk rf m1 m2 m3 m4 m5 mr mf n1 n2 n3 n4 n5 nr nf E))) Q := by
    intro Q hQ
    obtain ⟨z, hz⟩ := c_body1_0_0 (E := E) (i := i) (ki := ki) (ln := ln) (bt := bt) (rl := rl) (cp := cp) (cs := cs) (ct := ct) (cv := cv) (ja := ja) (ea := ea) (ma := ma) (a1 := a1) (a2 := a2) (a3 := a3) (a4 := a4) (a5 := a5) (a6 := a6) (a7 := a7) (a8 := a8) (jb := jb) (eb := eb) (mb := mb) (b1 := b1) (b2 := b2) (b3 := b3) (b4 := b4) (b5 := b5) (b6 := b6) (b7 := b7) (b8 := b8) (re := re) (fl := fl) (g1 := g1) (g2 := g2) (g3 := g3) (g4 := g4) (g5 := g5) (rt := rt) (la := la) (rs := rs) (rg := rg) (pd := pd) (du := du) (ds := ds) (me := me) (tt := tt) (gr := gr) (su := su) (gp := gp) (mk := mk) (rf := rf) (m1 := m1) (m2 := m2) (m3 := m3) (m4 := m4) (m5 := m5) (mr := mr) (mf := mf) (n1 := n1) (n2 := n2) (n3 := n3) (n4 := n4) (n5 := n5) (nr := nr) (nf := nf) hE hi hAs
    refine r_al rfl rfl ?_
    refine r_il rfl rfl ?_
    refine r_il rfl rfl ?_
    refine r_ic rfl ?_
    refine r_v4s rfl rfl xg_42 rfl hz ?_
    exact r_ret rfl rfl (hQ _)
  obtain ⟨r, h1, z, h2⟩ := rn_S (vs := [.ref 42, iv (0), iv (i)]) (Q := fun r => ∃ z : Int, r = (some (iv z), (cW ki ln bt rl cp cs ct cv 14 5 ja ea ma a1 a2 a3 a4 a5 a6 a7 a8 jb eb mb b1 b2 b3 b4 b5 b6 b7 b8 re fl g1 g2 g3 g4 g5 (dW rt la rs rg pd du ds me tt gr su gp (mk + (Int32.ofInt (mm_mrk (Int.toNat 0)).toInt).toInt64) rf m1 m2 m3 m4 m5 mr mf n1 n2 n3 n4 n5 nr nf E)))) rfl (rn_up (N := 300) (M := mm_fuel) (by decide) (main (fun r => ∃ z : Int, r = (some (iv z), (cW ki ln bt rl cp cs ct cv 14 5 ja ea ma a1 a2 a3 a4 a5 a6 a7 a8 jb eb mb b1 b2 b3 b4 b5 b6 b7 b8 re fl g1 g2 g3 g4 g5 (dW rt la rs rg pd du ds me tt gr su gp (mk + (Int32.ofInt (mm_mrk (Int.toNat 0)).toInt).toInt64) rf m1 m2 m3 m4 m5 mr mf n1 n2 n3 n4 n5 nr nf E)))) (fun z => ⟨z, rfl⟩)))
  have h1 : sX4_valueAs [.ref 42, iv (0), iv (i)] (cW ki ln bt rl cp cs ct cv 14 5 ja ea ma a1 a2 a3 a4 a5 a6 a7 a8 jb eb mb b1 b2 b3 b4 b5 b6 b7 b8 re fl g1 g2 g3 g4 g5 (dW rt la rs rg pd du ds me tt gr su gp mk rf m1 m2 m3 m4 m5 mr mf n1 n2 n3 n4 n5 nr nf E)) = some r := h1
  exact ⟨z, by rw [h1, h2]⟩
theorem c_valueAs1_1 (hE : E.length = 11) (hi : 0 ≤ i ∧ i ≤ 15) (hAs : ARs b4 b5 b6 b7) : ∃ z : Int, sX4_valueAs [.ref 42, iv (1), iv (i)] (cW ki ln bt rl cp cs ct cv 14 5 ja ea ma a1 a2 a3 a4 a5 a6 a7 a8 jb eb mb b1 b2 b3 b4 b5 b6 b7 b8 re fl g1 g2 g3 g4 g5 (dW rt la rs rg pd du ds me tt gr su gp mk rf m1 m2 m3 m4 m5 mr mf n1 n2 n3 n4 n5 nr nf E)) = some (some (iv z), (cW ki ln bt rl cp cs ct cv 14 5 ja ea ma a1 a2 a3 a4 a5 a6 a7 a8 jb eb mb b1 b2 b3 b4 b5 b6 b7 b8 re fl g1 g2 g3 g4 g5 (dW rt la rs rg pd du ds me tt gr su gp ((mk + (Int32.ofInt (mm_mrk (Int.toNat 1)).toInt).toInt64) + (Int32.ofInt (mm_mrk (Int.toNat 0)).toInt).toInt64) rf m1 m2 m3 m4 m5 mr mf n1 n2 n3 n4 n5 nr nf E))) := by
  have main : ∀ Q : mm_R → Prop, (∀ z : Int, Q (some (iv z), (cW ki ln bt rl cp cs ct cv 14 5 ja ea ma a1 a2 a3 a4 a5 a6 a7 a8 jb eb mb b1 b2 b3 b4 b5 b6 b7 b8 re fl g1 g2 g3 g4 g5 (dW rt la rs rg pd du ds me tt gr su gp ((mk + (Int32.ofInt (mm_mrk (Int.toNat 1)).toInt).toInt64) + (Int32.ofInt (mm_mrk (Int.toNat 0)).toInt).toInt64) rf m1 m2 m3 m4 m5 mr mf n1 n2 n3 n4 n5 nr nf E)))) → rn_X4_valueAs (300) (0, [(0, .ref 42), (1, iv (1)), (2, iv (i))], [], (cW ki ln bt rl cp cs ct cv 14 5 ja ea ma a1 a2 a3 a4 a5 a6 a7 a8 jb eb mb b1 b2 b3 b4 b5 b6 b7 b8 re fl g1 g2 g3 g4 g5 (dW rt la rs rg pd du ds me tt gr su gp mk rf m1 m2 m3 m4 m5 mr mf n1 n2 n3 n4 n5 nr nf E))) Q := by
    intro Q hQ
    obtain ⟨z, hz⟩ := c_body1_0_1 (E := E) (i := i) (ki := ki) (ln := ln) (bt := bt) (rl := rl) (cp := cp) (cs := cs) (ct := ct) (cv := cv) (ja := ja) (ea := ea) (ma := ma) (a1 := a1) (a2 := a2) (a3 := a3) (a4 := a4) (a5 := a5) (a6 := a6) (a7 := a7) (a8 := a8) (jb := jb) (eb := eb) (mb := mb) (b1 := b1) (b2 := b2) (b3 := b3) (b4 := b4) (b5 := b5) (b6 := b6) (b7 := b7) (b8 := b8) (re := re) (fl := fl) (g1 := g1) (g2 := g2) (g3 := g3) (g4 := g4) (g5 := g5) (rt := rt) (la := la) (rs := rs) (rg := rg) (pd := pd) (du := du) (ds := ds) (me := me) (tt := tt) (gr := gr) (su := su) (gp := gp) (mk := mk) (rf := rf) (m1 := m1) (m2 := m2) (m3 := m3) (m4 := m4) (m5 := m5) (mr := mr) (mf := mf) (n1 := n1) (n2 := n2) (n3 := n3) (n4 := n4) (n5 := n5) (nr := nr) (nf := nf) hE hi hAs
    refine r_al rfl rfl ?_
    refine r_il rfl rfl ?_
    refine r_il rfl rfl ?_
    refine r_ic rfl ?_
    refine r_v4s rfl rfl xg_42 rfl hz ?_
    exact r_ret rfl rfl (hQ _)
  obtain ⟨r, h1, z, h2⟩ := rn_S (vs := [.ref 42, iv (1), iv (i)]) (Q := fun r => ∃ z : Int, r = (some (iv z), (cW ki ln bt rl cp cs ct cv 14 5 ja ea ma a1 a2 a3 a4 a5 a6 a7 a8 jb eb mb b1 b2 b3 b4 b5 b6 b7 b8 re fl g1 g2 g3 g4 g5 (dW rt la rs rg pd du ds me tt gr su gp ((mk + (Int32.ofInt (mm_mrk (Int.toNat 1)).toInt).toInt64) + (Int32.ofInt (mm_mrk (Int.toNat 0)).toInt).toInt64) rf m1 m2 m3 m4 m5 mr mf n1 n2 n3 n4 n5 nr nf E)))) rfl (rn_up (N := 300) (M := mm_fuel) (by decide) (main (fun r => ∃ z : Int, r = (some (iv z), (cW ki ln bt rl cp cs ct cv 14 5 ja ea ma a1 a2 a3 a4 a5 a6 a7 a8 jb eb mb b1 b2 b3 b4 b5 b6 b7 b8 re fl g1 g2 g3 g4 g5 (dW rt la rs rg pd du ds me tt gr su gp ((mk + (Int32.ofInt (mm_mrk (Int.toNat 1)).toInt).toInt64) + (Int32.ofInt (mm_mrk (Int.toNat 0)).toInt).toInt64) rf m1 m2 m3 m4 m5 mr mf n1 n2 n3 n4 n5 nr nf E)))) (fun z => ⟨z, rfl⟩)))
  have h1 : sX4_valueAs [.ref 42, iv (1), iv (i)] (cW ki ln bt rl cp cs ct cv 14 5 ja ea ma a1 a2 a3 a4 a5 a6 a7 a8 jb eb mb b1 b2 b3 b4 b5 b6 b7 b8 re fl g1 g2 g3 g4 g5 (dW rt la rs rg pd du ds me tt gr su gp mk rf m1 m2 m3 m4 m5 mr mf n1 n2 n3 n4 n5 nr nf E)) = some r := h1
  exact ⟨z, by rw [h1, h2]⟩
theorem c_valueAs1_2 (hE : E.length = 11) (hi : 0 ≤ i ∧ i ≤ 15) (hAs : ARs b4 b5 b6 b7) : ∃ z : Int, sX4_valueAs [.ref 42, iv (2), iv (i)] (cW ki ln bt rl cp cs ct cv 14 5 ja ea ma a1 a2 a3 a4 a5 a6 a7 a8 jb eb mb b1 b2 b3 b4 b5 b6 b7 b8 re fl g1 g2 g3 g4 g5 (dW rt la rs rg pd du ds me tt gr su gp mk rf m1 m2 m3 m4 m5 mr mf n1 n2 n3 n4 n5 nr nf E)) = some (some (iv z), (cW ki ln bt rl cp cs ct cv 14 5 ja ea ma a1 a2 a3 a4 a5 a6 a7 a8 jb eb mb b1 b2 b3 b4 b5 b6 b7 b8 re fl g1 g2 g3 g4 g5 (dW rt la rs rg pd du ds me tt gr su gp ((mk + (Int32.ofInt (mm_mrk (Int.toNat 2)).toInt).toInt64) + (Int32.ofInt (mm_mrk (Int.toNat 0)).toInt).toInt64) rf m1 m2 m3 m4 m5 mr mf n1 n2 n3 n4 n5 nr nf E))) := by
  have main : ∀ Q : mm_R → Prop, (∀ z : Int, Q (some (iv z), (cW ki ln bt rl cp cs ct cv 14 5 ja ea ma a1 a2 a3 a4 a5 a6 a7 a8 jb eb mb b1 b2 b3 b4 b5 b6 b7 b8 re fl g1 g2 g3 g4 g5 (dW rt la rs rg pd du ds me tt gr su gp ((mk + (Int32.ofInt (mm_mrk (Int.toNat 2)).toInt).toInt64) + (Int32.ofInt (mm_mrk (Int.toNat 0)).toInt).toInt64) rf m1 m2 m3 m4 m5 mr mf n1 n2 n3 n4 n5 nr nf E)))) → rn_X4_valueAs (300) (0, [(0, .ref 42), (1, iv (2)), (2, iv (i))], [], (cW ki ln bt rl cp cs ct cv 14 5 ja ea ma a1 a2 a3 a4 a5 a6 a7 a8 jb eb mb b1 b2 b3 b4 b5 b6 b7 b8 re fl g1 g2 g3 g4 g5 (dW rt la rs rg pd du ds me tt gr su gp mk rf m1 m2 m3 m4 m5 mr mf n1 n2 n3 n4 n5 nr nf E))) Q := by
    intro Q hQ
    obtain ⟨z, hz⟩ := c_body1_0_2 (E := E) (i := i) (ki := ki) (ln := ln) (bt := bt) (rl := rl) (cp := cp) (cs := cs) (ct := ct) (cv := cv) (ja := ja) (ea := ea) (ma := ma) (a1 := a1) (a2 := a2) (a3 := a3) (a4 := a4) (a5 := a5) (a6 := a6) (a7 := a7) (a8 := a8) (jb := jb) (eb := eb) (mb := mb) (b1 := b1) (b2 := b2) (b3 := b3) (b4 := b4) (b5 := b5) (b6 := b6) (b7 := b7) (b8 := b8) (re := re) (fl := fl) (g1 := g1) (g2 := g2) (g3 := g3) (g4 := g4) (g5 := g5) (rt := rt) (la := la) (rs := rs) (rg := rg) (pd := pd) (du := du) (ds := ds) (me := me) (tt := tt) (gr := gr) (su := su) (gp := gp) (mk := mk) (rf := rf) (m1 := m1) (m2 := m2) (m3 := m3) (m4 := m4) (m5 := m5) (mr := mr) (mf := mf) (n1 := n1) (n2 := n2) (n3 := n3) (n4 := n4) (n5 := n5) (nr := nr) (nf := nf) hE hi hAs
    refine r_al rfl rfl ?_
    refine r_il rfl rfl ?_
    refine r_il rfl rfl ?_
    refine r_ic rfl ?_
    refine r_v4s rfl rfl xg_42 rfl hz ?_
    exact r_ret rfl rfl (hQ _)
  obtain ⟨r, h1, z, h2⟩ := rn_S (vs := [.ref 42, iv (2), iv (i)]) (Q := fun r => ∃ z : Int, r = (some (iv z), (cW ki ln bt rl cp cs ct cv 14 5 ja ea ma a1 a2 a3 a4 a5 a6 a7 a8 jb eb mb b1 b2 b3 b4 b5 b6 b7 b8 re fl g1 g2 g3 g4 g5 (dW rt la rs rg pd du ds me tt gr su gp ((mk + (Int32.ofInt (mm_mrk (Int.toNat 2)).toInt).toInt64) + (Int32.ofInt (mm_mrk (Int.toNat 0)).toInt).toInt64) rf m1 m2 m3 m4 m5 mr mf n1 n2 n3 n4 n5 nr nf E)))) rfl (rn_up (N := 300) (M := mm_fuel) (by decide) (main (fun r => ∃ z : Int, r = (some (iv z), (cW ki ln bt rl cp cs ct cv 14 5 ja ea ma a1 a2 a3 a4 a5 a6 a7 a8 jb eb mb b1 b2 b3 b4 b5 b6 b7 b8 re fl g1 g2 g3 g4 g5 (dW rt la rs rg pd du ds me tt gr su gp ((mk + (Int32.ofInt (mm_mrk (Int.toNat 2)).toInt).toInt64) + (Int32.ofInt (mm_mrk (Int.toNat 0)).toInt).toInt64) rf m1 m2 m3 m4 m5 mr mf n1 n2 n3 n4 n5 nr nf E)))) (fun z => ⟨z, rfl⟩)))
  have h1 : sX4_valueAs [.ref 42, iv (2), iv (i)] (cW ki ln bt rl cp cs ct cv 14 5 ja ea ma a1 a2 a3 a4 a5 a6 a7 a8 jb eb mb b1 b2 b3 b4 b5 b6 b7 b8 re fl g1 g2 g3 g4 g5 (dW rt la rs rg pd du ds me tt gr su gp mk rf m1 m2 m3 m4 m5 mr mf n1 n2 n3 n4 n5 nr nf E)) = some r := h1
  exact ⟨z, by rw [h1, h2]⟩
theorem c_valueAs1_3 (hE : E.length = 11) (hi : 0 ≤ i ∧ i ≤ 15) (hAs : ARs b4 b5 b6 b7) : ∃ z : Int, sX4_valueAs [.ref 42, iv (3), iv (i)] (cW ki ln bt rl cp cs ct cv 14 5 ja ea ma a1 a2 a3 a4 a5 a6 a7 a8 jb eb mb b1 b2 b3 b4 b5 b6 b7 b8 re fl g1 g2 g3 g4 g5 (dW rt la rs rg pd du ds me tt gr su gp mk rf m1 m2 m3 m4 m5 mr mf n1 n2 n3 n4 n5 nr nf E)) = some (some (iv z), (cW ki ln bt rl cp cs ct cv 14 5 ja ea ma a1 a2 a3 a4 a5 a6 a7 a8 jb eb mb b1 b2 b3 b4 b5 b6 b7 b8 re fl g1 g2 g3 g4 g5 (dW rt la rs rg pd du ds me tt gr su gp ((mk + (Int32.ofInt (mm_mrk (Int.toNat 3)).toInt).toInt64) + (Int32.ofInt (mm_mrk (Int.toNat 0)).toInt).toInt64) rf m1 m2 m3 m4 m5 mr mf n1 n2 n3 n4 n5 nr nf E))) := by
  have main : ∀ Q : mm_R → Prop, (∀ z : Int, Q (some (iv z), (cW ki ln bt rl cp cs ct cv 14 5 ja ea ma a1 a2 a3 a4 a5 a6 a7 a8 jb eb mb b1 b2 b3 b4 b5 b6 b7 b8 re fl g1 g2 g3 g4 g5 (dW rt la rs rg pd du ds me tt gr su gp ((mk + (Int32.ofInt (mm_mrk (Int.toNat 3)).toInt).toInt64) + (Int32.ofInt (mm_mrk (Int.toNat 0)).toInt).toInt64) rf m1 m2 m3 m4 m5 mr mf n1 n2 n3 n4 n5 nr nf E)))) → rn_X4_valueAs (300) (0, [(0, .ref 42), (1, iv (3)), (2, iv (i))], [], (cW ki ln bt rl cp cs ct cv 14 5 ja ea ma a1 a2 a3 a4 a5 a6 a7 a8 jb eb mb b1 b2 b3 b4 b5 b6 b7 b8 re fl g1 g2 g3 g4 g5 (dW rt la rs rg pd du ds me tt gr su gp mk rf m1 m2 m3 m4 m5 mr mf n1 n2 n3 n4 n5 nr nf E))) Q := by
    intro Q hQ
    obtain ⟨z, hz⟩ := c_body1_0_3 (E := E) (i := i) (ki := ki) (ln := ln) (bt := bt) (rl := rl) (cp := cp) (cs := cs) (ct := ct) (cv := cv) (ja := ja) (ea := ea) (ma := ma) (a1 := a1) (a2 := a2) (a3 := a3) (a4 := a4) (a5 := a5) (a6 := a6) (a7 := a7) (a8 := a8) (jb := jb) (eb := eb) (mb := mb) (b1 := b1) (b2 := b2) (b3 := b3) (b4 := b4) (b5 := b5) (b6 := b6) (b7 := b7) (b8 := b8) (re := re) (fl := fl) (g1 := g1) (g2 := g2) (g3 := g3) (g4 := g4) (g5 := g5) (rt := rt) (la := la) (rs := rs) (rg := rg) (pd := pd) (du := du) (ds := ds) (me := me) (tt := tt) (gr := gr) (su := su) (gp := gp) (mk := mk) (rf := rf) (m1 := m1) (m2 := m2) (m3 := m3) (m4 := m4) (m5 := m5) (mr := mr) (mf := mf) (n1 := n1) (n2 := n2) (n3 := n3) (n4 := n4) (n5 := n5) (nr := nr) (nf := nf) hE hi hAs
    refine r_al rfl rfl ?_
    refine r_il rfl rfl ?_
    refine r_il rfl rfl ?_
    refine r_ic rfl ?_
    refine r_v4s rfl rfl xg_42 rfl hz ?_
    exact r_ret rfl rfl (hQ _)
  obtain ⟨r, h1, z, h2⟩ := rn_S (vs := [.ref 42, iv (3), iv (i)]) (Q := fun r => ∃ z : Int, r = (some (iv z), (cW ki ln bt rl cp cs ct cv 14 5 ja ea ma a1 a2 a3 a4 a5 a6 a7 a8 jb eb mb b1 b2 b3 b4 b5 b6 b7 b8 re fl g1 g2 g3 g4 g5 (dW rt la rs rg pd du ds me tt gr su gp ((mk + (Int32.ofInt (mm_mrk (Int.toNat 3)).toInt).toInt64) + (Int32.ofInt (mm_mrk (Int.toNat 0)).toInt).toInt64) rf m1 m2 m3 m4 m5 mr mf n1 n2 n3 n4 n5 nr nf E)))) rfl (rn_up (N := 300) (M := mm_fuel) (by decide) (main (fun r => ∃ z : Int, r = (some (iv z), (cW ki ln bt rl cp cs ct cv 14 5 ja ea ma a1 a2 a3 a4 a5 a6 a7 a8 jb eb mb b1 b2 b3 b4 b5 b6 b7 b8 re fl g1 g2 g3 g4 g5 (dW rt la rs rg pd du ds me tt gr su gp ((mk + (Int32.ofInt (mm_mrk (Int.toNat 3)).toInt).toInt64) + (Int32.ofInt (mm_mrk (Int.toNat 0)).toInt).toInt64) rf m1 m2 m3 m4 m5 mr mf n1 n2 n3 n4 n5 nr nf E)))) (fun z => ⟨z, rfl⟩)))
  have h1 : sX4_valueAs [.ref 42, iv (3), iv (i)] (cW ki ln bt rl cp cs ct cv 14 5 ja ea ma a1 a2 a3 a4 a5 a6 a7 a8 jb eb mb b1 b2 b3 b4 b5 b6 b7 b8 re fl g1 g2 g3 g4 g5 (dW rt la rs rg pd du ds me tt gr su gp mk rf m1 m2 m3 m4 m5 mr mf n1 n2 n3 n4 n5 nr nf E)) = some r := h1
  exact ⟨z, by rw [h1, h2]⟩
theorem c_valueAs1_4 (hE : E.length = 11) (hi : 0 ≤ i ∧ i ≤ 15) (hAs : ARs b4 b5 b6 b7) : ∃ z : Int, sX4_valueAs [.ref 42, iv (4), iv (i)] (cW ki ln bt rl cp cs ct cv 14 5 ja ea ma a1 a2 a3 a4 a5 a6 a7 a8 jb eb mb b1 b2 b3 b4 b5 b6 b7 b8 re fl g1 g2 g3 g4 g5 (dW rt la rs rg pd du ds me tt gr su gp mk rf m1 m2 m3 m4 m5 mr mf n1 n2 n3 n4 n5 nr nf E)) = some (some (iv z), (cW ki ln bt rl cp cs ct cv 14 5 ja ea ma a1 a2 a3 a4 a5 a6 a7 a8 jb eb mb b1 b2 b3 b4 b5 b6 b7 b8 re fl g1 g2 g3 g4 g5 (dW rt la rs rg pd du ds me tt gr su gp (((mk + (Int32.ofInt (mm_mrk (Int.toNat 4)).toInt).toInt64) + (Int32.ofInt (mm_mrk (Int.toNat 3)).toInt).toInt64) + (Int32.ofInt (mm_mrk (Int.toNat 0)).toInt).toInt64) rf m1 m2 m3 m4 m5 mr mf n1 n2 n3 n4 n5 nr nf E))) := by
  have main : ∀ Q : mm_R → Prop, (∀ z : Int, Q (some (iv z), (cW ki ln bt rl cp cs ct cv 14 5 ja ea ma a1 a2 a3 a4 a5 a6 a7 a8 jb eb mb b1 b2 b3 b4 b5 b6 b7 b8 re fl g1 g2 g3 g4 g5 (dW rt la rs rg pd du ds me tt gr su gp (((mk + (Int32.ofInt (mm_mrk (Int.toNat 4)).toInt).toInt64) + (Int32.ofInt (mm_mrk (Int.toNat 3)).toInt).toInt64) + (Int32.ofInt (mm_mrk (Int.toNat 0)).toInt).toInt64) rf m1 m2 m3 m4 m5 mr mf n1 n2 n3 n4 n5 nr nf E)))) → rn_X4_valueAs (300) (0, [(0, .ref 42), (1, iv (4)), (2, iv (i))], [], (cW ki ln bt rl cp cs ct cv 14 5 ja ea ma a1 a2 a3 a4 a5 a6 a7 a8 jb eb mb b1 b2 b3 b4 b5 b6 b7 b8 re fl g1 g2 g3 g4 g5 (dW rt la rs rg pd du ds me tt gr su gp mk rf m1 m2 m3 m4 m5 mr mf n1 n2 n3 n4 n5 nr nf E))) Q := by
    intro Q hQ
    obtain ⟨z, hz⟩ := c_body1_0_4 (E := E) (i := i) (ki := ki) (ln := ln) (bt := bt) (rl := rl) (cp := cp) (cs := cs) (ct := ct) (cv := cv) (ja := ja) (ea := ea) (ma := ma) (a1 := a1) (a2 := a2) (a3 := a3) (a4 := a4) (a5 := a5) (a6 := a6) (a7 := a7) (a8 := a8) (jb := jb) (eb := eb) (mb := mb) (b1 := b1) (b2 := b2) (b3 := b3) (b4 := b4) (b5 := b5) (b6 := b6) (b7 := b7) (b8 := b8) (re := re) (fl := fl) (g1 := g1) (g2 := g2) (g3 := g3) (g4 := g4) (g5 := g5) (rt := rt) (la := la) (rs := rs) (rg := rg) (pd := pd) (du := du) (ds := ds) (me := me) (tt := tt) (gr := gr) (su := su) (gp := gp) (mk := mk) (rf := rf) (m1 := m1) (m2 := m2) (m3 := m3) (m4 := m4) (m5 := m5) (mr := mr) (mf := mf) (n1 := n1) (n2 := n2) (n3 := n3) (n4 := n4) (n5 := n5) (nr := nr) (nf := nf) hE hi hAs
    refine r_al rfl rfl ?_
    refine r_il rfl rfl ?_
    refine r_il rfl rfl ?_
    refine r_ic rfl ?_
    refine r_v4s rfl rfl xg_42 rfl hz ?_
    exact r_ret rfl rfl (hQ _)
  obtain ⟨r, h1, z, h2⟩ := rn_S (vs := [.ref 42, iv (4), iv (i)]) (Q := fun r => ∃ z : Int, r = (some (iv z), (cW ki ln bt rl cp cs ct cv 14 5 ja ea ma a1 a2 a3 a4 a5 a6 a7 a8 jb eb mb b1 b2 b3 b4 b5 b6 b7 b8 re fl g1 g2 g3 g4 g5 (dW rt la rs rg pd du ds me tt gr su gp (((mk + (Int32.ofInt (mm_mrk (Int.toNat 4)).toInt).toInt64) + (Int32.ofInt (mm_mrk (Int.toNat 3)).toInt).toInt64) + (Int32.ofInt (mm_mrk (Int.toNat 0)).toInt).toInt64) rf m1 m2 m3 m4 m5 mr mf n1 n2 n3 n4 n5 nr nf E)))) rfl (rn_up (N := 300) (M := mm_fuel) (by decide) (main (fun r => ∃ z : Int, r = (some (iv z), (cW ki ln bt rl cp cs ct cv 14 5 ja ea ma a1 a2 a3 a4 a5 a6 a7 a8 jb eb mb b1 b2 b3 b4 b5 b6 b7 b8 re fl g1 g2 g3 g4 g5 (dW rt la rs rg pd du ds me tt gr su gp (((mk + (Int32.ofInt (mm_mrk (Int.toNat 4)).toInt).toInt64) + (Int32.ofInt (mm_mrk (Int.toNat 3)).toInt).toInt64) + (Int32.ofInt (mm_mrk (Int.toNat 0)).toInt).toInt64) rf m1 m2 m3 m4 m5 mr mf n1 n2 n3 n4 n5 nr nf E)))) (fun z => ⟨z, rfl⟩)))
  have h1 : sX4_valueAs [.ref 42, iv (4), iv (i)] (cW ki ln bt rl cp cs ct cv 14 5 ja ea ma a1 a2 a3 a4 a5 a6 a7 a8 jb eb mb b1 b2 b3 b4 b5 b6 b7 b8 re fl g1 g2 g3 g4 g5 (dW rt la rs rg pd du ds me tt gr su gp mk rf m1 m2 m3 m4 m5 mr mf n1 n2 n3 n4 n5 nr nf E)) = some r := h1
  exact ⟨z, by rw [h1, h2]⟩
theorem c_valueAs1_5 (hE : E.length = 11) (hi : 0 ≤ i ∧ i ≤ 15) (hAs : ARs b4 b5 b6 b7) : ∃ z : Int, sX4_valueAs [.ref 42, iv (5), iv (i)] (cW ki ln bt rl cp cs ct cv 14 5 ja ea ma a1 a2 a3 a4 a5 a6 a7 a8 jb eb mb b1 b2 b3 b4 b5 b6 b7 b8 re fl g1 g2 g3 g4 g5 (dW rt la rs rg pd du ds me tt gr su gp mk rf m1 m2 m3 m4 m5 mr mf n1 n2 n3 n4 n5 nr nf E)) = some (some (iv z), (cW ki ln bt rl cp cs ct cv 14 5 ja ea ma a1 a2 a3 a4 a5 a6 a7 a8 jb eb mb b1 b2 b3 b4 b5 b6 b7 b8 re fl g1 g2 g3 g4 g5 (dW rt la rs rg pd du ds me tt gr su gp ((mk + (Int32.ofInt (mm_mrk (Int.toNat 5)).toInt).toInt64) + (Int32.ofInt (mm_mrk (Int.toNat 0)).toInt).toInt64) rf m1 m2 m3 m4 m5 mr mf n1 n2 n3 n4 n5 nr nf E))) := by
  have main : ∀ Q : mm_R → Prop, (∀ z : Int, Q (some (iv z), (cW ki ln bt rl cp cs ct cv 14 5 ja ea ma a1 a2 a3 a4 a5 a6 a7 a8 jb eb mb b1 b2 b3 b4 b5 b6 b7 b8 re fl g1 g2 g3 g4 g5 (dW rt la rs rg pd du ds me tt gr su gp ((mk + (Int32.ofInt (mm_mrk (Int.toNat 5)).toInt).toInt64) + (Int32.ofInt (mm_mrk (Int.toNat 0)).toInt).toInt64) rf m1 m2 m3 m4 m5 mr mf n1 n2 n3 n4 n5 nr nf E)))) → rn_X4_valueAs (300) (0, [(0, .ref 42), (1, iv (5)), (2, iv (i))], [], (cW ki ln bt rl cp cs ct cv 14 5 ja ea ma a1 a2 a3 a4 a5 a6 a7 a8 jb eb mb b1 b2 b3 b4 b5 b6 b7 b8 re fl g1 g2 g3 g4 g5 (dW rt la rs rg pd du ds me tt gr su gp mk rf m1 m2 m3 m4 m5 mr mf n1 n2 n3 n4 n5 nr nf E))) Q := by
    intro Q hQ
    obtain ⟨z, hz⟩ := c_body1_0_5 (E := E) (i := i) (ki := ki) (ln := ln) (bt := bt) (rl := rl) (cp := cp) (cs := cs) (ct := ct) (cv := cv) (ja := ja) (ea := ea) (ma := ma) (a1 := a1) (a2 := a2) (a3 := a3) (a4 := a4) (a5 := a5) (a6 := a6) (a7 := a7) (a8 := a8) (jb := jb) (eb := eb) (mb := mb) (b1 := b1) (b2 := b2) (b3 := b3) (b4 := b4) (b5 := b5) (b6 := b6) (b7 := b7) (b8 := b8) (re := re) (fl := fl) (g1 := g1) (g2 := g2) (g3 := g3) (g4 := g4) (g5 := g5) (rt := rt) (la := la) (rs := rs) (rg := rg) (pd := pd) (du := du) (ds := ds) (me := me) (tt := tt) (gr := gr) (su := su) (gp := gp) (mk := mk) (rf := rf) (m1 := m1) (m2 := m2) (m3 := m3) (m4 := m4) (m5 := m5) (mr := mr) (mf := mf) (n1 := n1) (n2 := n2) (n3 := n3) (n4 := n4) (n5 := n5) (nr := nr) (nf := nf) hE hi hAs
    refine r_al rfl rfl ?_
    refine r_il rfl rfl ?_
    refine r_il rfl rfl ?_
    refine r_ic rfl ?_
    refine r_v4s rfl rfl xg_42 rfl hz ?_
    exact r_ret rfl rfl (hQ _)
  obtain ⟨r, h1, z, h2⟩ := rn_S (vs := [.ref 42, iv (5), iv (i)]) (Q := fun r => ∃ z : Int, r = (some (iv z), (cW ki ln bt rl cp cs ct cv 14 5 ja ea ma a1 a2 a3 a4 a5 a6 a7 a8 jb eb mb b1 b2 b3 b4 b5 b6 b7 b8 re fl g1 g2 g3 g4 g5 (dW rt la rs rg pd du ds me tt gr su gp ((mk + (Int32.ofInt (mm_mrk (Int.toNat 5)).toInt).toInt64) + (Int32.ofInt (mm_mrk (Int.toNat 0)).toInt).toInt64) rf m1 m2 m3 m4 m5 mr mf n1 n2 n3 n4 n5 nr nf E)))) rfl (rn_up (N := 300) (M := mm_fuel) (by decide) (main (fun r => ∃ z : Int, r = (some (iv z), (cW ki ln bt rl cp cs ct cv 14 5 ja ea ma a1 a2 a3 a4 a5 a6 a7 a8 jb eb mb b1 b2 b3 b4 b5 b6 b7 b8 re fl g1 g2 g3 g4 g5 (dW rt la rs rg pd du ds me tt gr su gp ((mk + (Int32.ofInt (mm_mrk (Int.toNat 5)).toInt).toInt64) + (Int32.ofInt (mm_mrk (Int.toNat 0)).toInt).toInt64) rf m1 m2 m3 m4 m5 mr mf n1 n2 n3 n4 n5 nr nf E)))) (fun z => ⟨z, rfl⟩)))
  have h1 : sX4_valueAs [.ref 42, iv (5), iv (i)] (cW ki ln bt rl cp cs ct cv 14 5 ja ea ma a1 a2 a3 a4 a5 a6 a7 a8 jb eb mb b1 b2 b3 b4 b5 b6 b7 b8 re fl g1 g2 g3 g4 g5 (dW rt la rs rg pd du ds me tt gr su gp mk rf m1 m2 m3 m4 m5 mr mf n1 n2 n3 n4 n5 nr nf E)) = some r := h1
  exact ⟨z, by rw [h1, h2]⟩
theorem c_valueAs1_6 (hE : E.length = 11) (hi : 0 ≤ i ∧ i ≤ 15) (hAs : ARs b4 b5 b6 b7) : ∃ z : Int, sX4_valueAs [.ref 42, iv (6), iv (i)] (cW ki ln bt rl cp cs ct cv 14 5 ja ea ma a1 a2 a3 a4 a5 a6 a7 a8 jb eb mb b1 b2 b3 b4 b5 b6 b7 b8 re fl g1 g2 g3 g4 g5 (dW rt la rs rg pd du ds me tt gr su gp mk rf m1 m2 m3 m4 m5 mr mf n1 n2 n3 n4 n5 nr nf E)) = some (some (iv z), (cW ki ln bt rl cp cs ct cv 14 5 ja ea ma a1 a2 a3 a4 a5 a6 a7 a8 jb eb mb b1 b2 b3 b4 b5 b6 b7 b8 re fl g1 g2 g3 g4 g5 (dW rt la rs rg pd du ds me tt gr su gp (((mk + (Int32.ofInt (mm_mrk (Int.toNat 6)).toInt).toInt64) + (Int32.ofInt (mm_mrk (Int.toNat 5)).toInt).toInt64) + (Int32.ofInt (mm_mrk (Int.toNat 0)).toInt).toInt64) rf m1 m2 m3 m4 m5 mr mf n1 n2 n3 n4 n5 nr nf E))) := by
  have main : ∀ Q : mm_R → Prop, (∀ z : Int, Q (some (iv z), (cW ki ln bt rl cp cs ct cv 14 5 ja ea ma a1 a2 a3 a4 a5 a6 a7 a8 jb eb mb b1 b2 b3 b4 b5 b6 b7 b8 re fl g1 g2 g3 g4 g5 (dW rt la rs rg pd du ds me tt gr su gp (((mk + (Int32.ofInt (mm_mrk (Int.toNat 6)).toInt).toInt64) + (Int32.ofInt (mm_mrk (Int.toNat 5)).toInt).toInt64) + (Int32.ofInt (mm_mrk (Int.toNat 0)).toInt).toInt64) rf m1 m2 m3 m4 m5 mr mf n1 n2 n3 n4 n5 nr nf E)))) → rn_X4_valueAs (300) (0, [(0, .ref 42), (1, iv (6)), (2, iv (i))], [], (cW ki ln bt rl cp cs ct cv 14 5 ja ea ma a1 a2 a3 a4 a5 a6 a7 a8 jb eb mb b1 b2 b3 b4 b5 b6 b7 b8 re fl g1 g2 g3 g4 g5 (dW rt la rs rg pd du ds me tt gr su gp mk rf m1 m2 m3 m4 m5 mr mf n1 n2 n3 n4 n5 nr nf E))) Q := by
    intro Q hQ
    obtain ⟨z, hz⟩ := c_body1_0_6 (E := E) (i := i) (ki := ki) (ln := ln) (bt := bt) (rl := rl) (cp := cp) (cs := cs) (ct := ct) (cv := cv) (ja := ja) (ea := ea) (ma := ma) (a1 := a1) (a2 := a2) (a3 := a3) (a4 := a4) (a5 := a5) (a6 := a6) (a7 := a7) (a8 := a8) (jb := jb) (eb := eb) (mb := mb) (b1 := b1) (b2 := b2) (b3 := b3) (b4 := b4) (b5 := b5) (b6 := b6) (b7 := b7) (b8 := b8) (re := re) (fl := fl) (g1 := g1) (g2 := g2) (g3 := g3) (g4 := g4) (g5 := g5) (rt := rt) (la := la) (rs := rs) (rg := rg) (pd := pd) (du := du) (ds := ds) (me := me) (tt := tt) (gr := gr) (su := su) (gp := gp) (mk := mk) (rf := rf) (m1 := m1) (m2 := m2) (m3 := m3) (m4 := m4) (m5 := m5) (mr := mr) (mf := mf) (n1 := n1) (n2 := n2) (n3 := n3) (n4 := n4) (n5 := n5) (nr := nr) (nf := nf) hE hi hAs
    refine r_al rfl rfl ?_
    refine r_il rfl rfl ?_
    refine r_il rfl rfl ?_
    refine r_ic rfl ?_
    refine r_v4s rfl rfl xg_42 rfl hz ?_
    exact r_ret rfl rfl (hQ _)
  obtain ⟨r, h1, z, h2⟩ := rn_S (vs := [.ref 42, iv (6), iv (i)]) (Q := fun r => ∃ z : Int, r = (some (iv z), (cW ki ln bt rl cp cs ct cv 14 5 ja ea ma a1 a2 a3 a4 a5 a6 a7 a8 jb eb mb b1 b2 b3 b4 b5 b6 b7 b8 re fl g1 g2 g3 g4 g5 (dW rt la rs rg pd du ds me tt gr su gp (((mk + (Int32.ofInt (mm_mrk (Int.toNat 6)).toInt).toInt64) + (Int32.ofInt (mm_mrk (Int.toNat 5)).toInt).toInt64) + (Int32.ofInt (mm_mrk (Int.toNat 0)).toInt).toInt64) rf m1 m2 m3 m4 m5 mr mf n1 n2 n3 n4 n5 nr nf E)))) rfl (rn_up (N := 300) (M := mm_fuel) (by decide) (main (fun r => ∃ z : Int, r = (some (iv z), (cW ki ln bt rl cp cs ct cv 14 5 ja ea ma a1 a2 a3 a4 a5 a6 a7 a8 jb eb mb b1 b2 b3 b4 b5 b6 b7 b8 re fl g1 g2 g3 g4 g5 (dW rt la rs rg pd du ds me tt gr su gp (((mk + (Int32.ofInt (mm_mrk (Int.toNat 6)).toInt).toInt64) + (Int32.ofInt (mm_mrk (Int.toNat 5)).toInt).toInt64) + (Int32.ofInt (mm_mrk (Int.toNat 0)).toInt).toInt64) rf m1 m2 m3 m4 m5 mr mf n1 n2 n3 n4 n5 nr nf E)))) (fun z => ⟨z, rfl⟩)))
  have h1 : sX4_valueAs [.ref 42, iv (6), iv (i)] (cW ki ln bt rl cp cs ct cv 14 5 ja ea ma a1 a2 a3 a4 a5 a6 a7 a8 jb eb mb b1 b2 b3 b4 b5 b6 b7 b8 re fl g1 g2 g3 g4 g5 (dW rt la rs rg pd du ds me tt gr su gp mk rf m1 m2 m3 m4 m5 mr mf n1 n2 n3 n4 n5 nr nf E)) = some r := h1
  exact ⟨z, by rw [h1, h2]⟩
theorem c_priceB1 (hk : -2147483648 ≤ k ∧ k ≤ 2147483647) (hi : -2147483648 ≤ i ∧ i ≤ 2147483647) (hn : 0 ≤ mb ∧ mb ≤ 16) (hb : (i3 k 0 6 && i3 i 0 (mb - 1)) = false) : sX11_price [.ref 0, iv (k), iv (i)] (cW ki ln bt rl cp cs ct cv 14 5 ja ea ma a1 a2 a3 a4 a5 a6 a7 a8 jb eb mb b1 b2 b3 b4 b5 b6 b7 b8 re fl g1 g2 g3 g4 g5 (dW rt la rs rg pd du ds me tt gr su gp mk rf m1 m2 m3 m4 m5 mr mf n1 n2 n3 n4 n5 nr nf E)) = some (some (iv (-1)), (cW ki ln bt rl cp cs ct cv 14 5 ja ea ma a1 a2 a3 a4 a5 a6 a7 a8 jb eb mb b1 b2 b3 b4 b5 b6 b7 b8 re fl g1 g2 g3 g4 g5 (dW rt la rs rg pd du ds me tt gr su gp mk rf m1 m2 m3 m4 m5 mr mf n1 n2 n3 n4 n5 nr nf E))) := by
  have main : ∀ Q : mm_R → Prop, Q (some (iv (-1)), (cW ki ln bt rl cp cs ct cv 14 5 ja ea ma a1 a2 a3 a4 a5 a6 a7 a8 jb eb mb b1 b2 b3 b4 b5 b6 b7 b8 re fl g1 g2 g3 g4 g5 (dW rt la rs rg pd du ds me tt gr su gp mk rf m1 m2 m3 m4 m5 mr mf n1 n2 n3 n4 n5 nr nf E))) → rn_X11_price (1000) (0, [(0, .ref 0), (1, iv (k)), (2, iv (i))], [], (cW ki ln bt rl cp cs ct cv 14 5 ja ea ma a1 a2 a3 a4 a5 a6 a7 a8 jb eb mb b1 b2 b3 b4 b5 b6 b7 b8 re fl g1 g2 g3 g4 g5 (dW rt la rs rg pd du ds me tt gr su gp mk rf m1 m2 m3 m4 m5 mr mf n1 n2 n3 n4 n5 nr nf E))) Q := by
    intro Q hQ
    refine r_il rfl rfl ?_
    refine r_s1s rfl rfl rfl (c_isKind hk) ?_
    refine r_zeq rfl rfl (bi_r _) (fun u1 => ?_) (fun u1 => ?_)
    · refine r_ic rfl ?_
      exact r_ret rfl rfl hQ
    · refine r_al rfl rfl ?_
      refine r_gf rfl rfl xg_0 rfl ?_
      refine r_il rfl rfl ?_
      refine r_v2s rfl rfl xg_4 rfl (c_isStandC1 hi hn) ?_
      refine r_zne rfl rfl (bi_r _) (fun u2 => ?_) (fun u2 => ?_)
      · rw [bi_1 u1, bi_1 u2] at hb
        cases hb
      · refine r_ic rfl ?_
        exact r_ret rfl rfl hQ
  obtain ⟨r, h1, h2⟩ := rn_S (vs := [.ref 0, iv (k), iv (i)]) (Q := fun r => r = (some (iv (-1)), (cW ki ln bt rl cp cs ct cv 14 5 ja ea ma a1 a2 a3 a4 a5 a6 a7 a8 jb eb mb b1 b2 b3 b4 b5 b6 b7 b8 re fl g1 g2 g3 g4 g5 (dW rt la rs rg pd du ds me tt gr su gp mk rf m1 m2 m3 m4 m5 mr mf n1 n2 n3 n4 n5 nr nf E)))) rfl (rn_up (N := 1000) (M := mm_fuel) (by decide) (main (fun r => r = (some (iv (-1)), (cW ki ln bt rl cp cs ct cv 14 5 ja ea ma a1 a2 a3 a4 a5 a6 a7 a8 jb eb mb b1 b2 b3 b4 b5 b6 b7 b8 re fl g1 g2 g3 g4 g5 (dW rt la rs rg pd du ds me tt gr su gp mk rf m1 m2 m3 m4 m5 mr mf n1 n2 n3 n4 n5 nr nf E)))) rfl))
  have h1 : sX11_price [.ref 0, iv (k), iv (i)] (cW ki ln bt rl cp cs ct cv 14 5 ja ea ma a1 a2 a3 a4 a5 a6 a7 a8 jb eb mb b1 b2 b3 b4 b5 b6 b7 b8 re fl g1 g2 g3 g4 g5 (dW rt la rs rg pd du ds me tt gr su gp mk rf m1 m2 m3 m4 m5 mr mf n1 n2 n3 n4 n5 nr nf E)) = some r := h1
  rw [h1, h2]
theorem c_priceG1_0 (hE : E.length = 11) (hn : 0 ≤ mb ∧ mb ≤ 16) (hAs : ARs b4 b5 b6 b7) (hb : i3 i 0 (mb - 1) = true) : ∃ z : Int, sX11_price [.ref 0, iv (0), iv (i)] (cW ki ln bt rl cp cs ct cv 14 5 ja ea ma a1 a2 a3 a4 a5 a6 a7 a8 jb eb mb b1 b2 b3 b4 b5 b6 b7 b8 re fl g1 g2 g3 g4 g5 (dW rt la rs rg pd du ds me tt gr su gp mk rf m1 m2 m3 m4 m5 mr mf n1 n2 n3 n4 n5 nr nf E)) = some (some (iv z), (cW ki ln bt rl cp cs ct cv 14 5 ja ea ma a1 a2 a3 a4 a5 a6 a7 a8 jb eb mb b1 b2 b3 b4 b5 b6 b7 b8 re fl g1 g2 g3 g4 g5 (dW rt la rs rg pd du ds me tt gr su gp (mk + (Int32.ofInt (mm_mrk (Int.toNat 0)).toInt).toInt64) rf m1 m2 m3 m4 m5 mr mf n1 n2 n3 n4 n5 nr nf E))) := by
  have main : ∀ Q : mm_R → Prop, (∀ z : Int, Q (some (iv z), (cW ki ln bt rl cp cs ct cv 14 5 ja ea ma a1 a2 a3 a4 a5 a6 a7 a8 jb eb mb b1 b2 b3 b4 b5 b6 b7 b8 re fl g1 g2 g3 g4 g5 (dW rt la rs rg pd du ds me tt gr su gp (mk + (Int32.ofInt (mm_mrk (Int.toNat 0)).toInt).toInt64) rf m1 m2 m3 m4 m5 mr mf n1 n2 n3 n4 n5 nr nf E)))) → rn_X11_price (300) (0, [(0, .ref 0), (1, iv (0)), (2, iv (i))], [], (cW ki ln bt rl cp cs ct cv 14 5 ja ea ma a1 a2 a3 a4 a5 a6 a7 a8 jb eb mb b1 b2 b3 b4 b5 b6 b7 b8 re fl g1 g2 g3 g4 g5 (dW rt la rs rg pd du ds me tt gr su gp mk rf m1 m2 m3 m4 m5 mr mf n1 n2 n3 n4 n5 nr nf E))) Q := by
    intro Q hQ
    have rb := i3_t hb
    refine r_il rfl rfl ?_
    refine r_s1s rfl rfl rfl (c_isKind (by decide)) ?_
    refine r_zeq rfl rfl (bi_r _) (fun u1 => ?_) (fun u1 => ?_)
    · exact absurd u1 (by decide)
    · refine r_al rfl rfl ?_
      refine r_gf rfl rfl xg_0 rfl ?_
      refine r_il rfl rfl ?_
      refine r_v2s rfl rfl xg_4 rfl (c_isStandC1 (by omega) hn) ?_
      rw [hb]
      refine r_zne rfl rfl (bi_r _) (fun u2 => ?_) (fun u2 => ?_)
      · obtain ⟨z, hz⟩ := c_valueAs1_0 (E := E) (i := i) (ki := ki) (ln := ln) (bt := bt) (rl := rl) (cp := cp) (cs := cs) (ct := ct) (cv := cv) (ja := ja) (ea := ea) (ma := ma) (a1 := a1) (a2 := a2) (a3 := a3) (a4 := a4) (a5 := a5) (a6 := a6) (a7 := a7) (a8 := a8) (jb := jb) (eb := eb) (mb := mb) (b1 := b1) (b2 := b2) (b3 := b3) (b4 := b4) (b5 := b5) (b6 := b6) (b7 := b7) (b8 := b8) (re := re) (fl := fl) (g1 := g1) (g2 := g2) (g3 := g3) (g4 := g4) (g5 := g5) (rt := rt) (la := la) (rs := rs) (rg := rg) (pd := pd) (du := du) (ds := ds) (me := me) (tt := tt) (gr := gr) (su := su) (gp := gp) (mk := mk) (rf := rf) (m1 := m1) (m2 := m2) (m3 := m3) (m4 := m4) (m5 := m5) (mr := mr) (mf := mf) (n1 := n1) (n2 := n2) (n3 := n3) (n4 := n4) (n5 := n5) (nr := nr) (nf := nf) hE (by omega) hAs
        refine r_al rfl rfl ?_
        refine r_gf rfl rfl xg_0 rfl ?_
        refine r_il rfl rfl ?_
        refine r_il rfl rfl ?_
        refine r_v3s rfl rfl xg_42 rfl hz ?_
        exact r_ret rfl rfl (hQ _)
      · exact absurd u2 (by decide)
  obtain ⟨r, h1, z, h2⟩ := rn_S (vs := [.ref 0, iv (0), iv (i)]) (Q := fun r => ∃ z : Int, r = (some (iv z), (cW ki ln bt rl cp cs ct cv 14 5 ja ea ma a1 a2 a3 a4 a5 a6 a7 a8 jb eb mb b1 b2 b3 b4 b5 b6 b7 b8 re fl g1 g2 g3 g4 g5 (dW rt la rs rg pd du ds me tt gr su gp (mk + (Int32.ofInt (mm_mrk (Int.toNat 0)).toInt).toInt64) rf m1 m2 m3 m4 m5 mr mf n1 n2 n3 n4 n5 nr nf E)))) rfl (rn_up (N := 300) (M := mm_fuel) (by decide) (main (fun r => ∃ z : Int, r = (some (iv z), (cW ki ln bt rl cp cs ct cv 14 5 ja ea ma a1 a2 a3 a4 a5 a6 a7 a8 jb eb mb b1 b2 b3 b4 b5 b6 b7 b8 re fl g1 g2 g3 g4 g5 (dW rt la rs rg pd du ds me tt gr su gp (mk + (Int32.ofInt (mm_mrk (Int.toNat 0)).toInt).toInt64) rf m1 m2 m3 m4 m5 mr mf n1 n2 n3 n4 n5 nr nf E)))) (fun z => ⟨z, rfl⟩)))
  have h1 : sX11_price [.ref 0, iv (0), iv (i)] (cW ki ln bt rl cp cs ct cv 14 5 ja ea ma a1 a2 a3 a4 a5 a6 a7 a8 jb eb mb b1 b2 b3 b4 b5 b6 b7 b8 re fl g1 g2 g3 g4 g5 (dW rt la rs rg pd du ds me tt gr su gp mk rf m1 m2 m3 m4 m5 mr mf n1 n2 n3 n4 n5 nr nf E)) = some r := h1
  exact ⟨z, by rw [h1, h2]⟩
theorem c_priceG1_1 (hE : E.length = 11) (hn : 0 ≤ mb ∧ mb ≤ 16) (hAs : ARs b4 b5 b6 b7) (hb : i3 i 0 (mb - 1) = true) : ∃ z : Int, sX11_price [.ref 0, iv (1), iv (i)] (cW ki ln bt rl cp cs ct cv 14 5 ja ea ma a1 a2 a3 a4 a5 a6 a7 a8 jb eb mb b1 b2 b3 b4 b5 b6 b7 b8 re fl g1 g2 g3 g4 g5 (dW rt la rs rg pd du ds me tt gr su gp mk rf m1 m2 m3 m4 m5 mr mf n1 n2 n3 n4 n5 nr nf E)) = some (some (iv z), (cW ki ln bt rl cp cs ct cv 14 5 ja ea ma a1 a2 a3 a4 a5 a6 a7 a8 jb eb mb b1 b2 b3 b4 b5 b6 b7 b8 re fl g1 g2 g3 g4 g5 (dW rt la rs rg pd du ds me tt gr su gp ((mk + (Int32.ofInt (mm_mrk (Int.toNat 1)).toInt).toInt64) + (Int32.ofInt (mm_mrk (Int.toNat 0)).toInt).toInt64) rf m1 m2 m3 m4 m5 mr mf n1 n2 n3 n4 n5 nr nf E))) := by
  have main : ∀ Q : mm_R → Prop, (∀ z : Int, Q (some (iv z), (cW ki ln bt rl cp cs ct cv 14 5 ja ea ma a1 a2 a3 a4 a5 a6 a7 a8 jb eb mb b1 b2 b3 b4 b5 b6 b7 b8 re fl g1 g2 g3 g4 g5 (dW rt la rs rg pd du ds me tt gr su gp ((mk + (Int32.ofInt (mm_mrk (Int.toNat 1)).toInt).toInt64) + (Int32.ofInt (mm_mrk (Int.toNat 0)).toInt).toInt64) rf m1 m2 m3 m4 m5 mr mf n1 n2 n3 n4 n5 nr nf E)))) → rn_X11_price (300) (0, [(0, .ref 0), (1, iv (1)), (2, iv (i))], [], (cW ki ln bt rl cp cs ct cv 14 5 ja ea ma a1 a2 a3 a4 a5 a6 a7 a8 jb eb mb b1 b2 b3 b4 b5 b6 b7 b8 re fl g1 g2 g3 g4 g5 (dW rt la rs rg pd du ds me tt gr su gp mk rf m1 m2 m3 m4 m5 mr mf n1 n2 n3 n4 n5 nr nf E))) Q := by
    intro Q hQ
    have rb := i3_t hb
    refine r_il rfl rfl ?_
    refine r_s1s rfl rfl rfl (c_isKind (by decide)) ?_
    refine r_zeq rfl rfl (bi_r _) (fun u1 => ?_) (fun u1 => ?_)
    · exact absurd u1 (by decide)
    · refine r_al rfl rfl ?_
      refine r_gf rfl rfl xg_0 rfl ?_
      refine r_il rfl rfl ?_
      refine r_v2s rfl rfl xg_4 rfl (c_isStandC1 (by omega) hn) ?_
      rw [hb]
      refine r_zne rfl rfl (bi_r _) (fun u2 => ?_) (fun u2 => ?_)
      · obtain ⟨z, hz⟩ := c_valueAs1_1 (E := E) (i := i) (ki := ki) (ln := ln) (bt := bt) (rl := rl) (cp := cp) (cs := cs) (ct := ct) (cv := cv) (ja := ja) (ea := ea) (ma := ma) (a1 := a1) (a2 := a2) (a3 := a3) (a4 := a4) (a5 := a5) (a6 := a6) (a7 := a7) (a8 := a8) (jb := jb) (eb := eb) (mb := mb) (b1 := b1) (b2 := b2) (b3 := b3) (b4 := b4) (b5 := b5) (b6 := b6) (b7 := b7) (b8 := b8) (re := re) (fl := fl) (g1 := g1) (g2 := g2) (g3 := g3) (g4 := g4) (g5 := g5) (rt := rt) (la := la) (rs := rs) (rg := rg) (pd := pd) (du := du) (ds := ds) (me := me) (tt := tt) (gr := gr) (su := su) (gp := gp) (mk := mk) (rf := rf) (m1 := m1) (m2 := m2) (m3 := m3) (m4 := m4) (m5 := m5) (mr := mr) (mf := mf) (n1 := n1) (n2 := n2) (n3 := n3) (n4 := n4) (n5 := n5) (nr := nr) (nf := nf) hE (by omega) hAs
        refine r_al rfl rfl ?_
        refine r_gf rfl rfl xg_0 rfl ?_
        refine r_il rfl rfl ?_
        refine r_il rfl rfl ?_
        refine r_v3s rfl rfl xg_42 rfl hz ?_
        exact r_ret rfl rfl (hQ _)
      · exact absurd u2 (by decide)
  obtain ⟨r, h1, z, h2⟩ := rn_S (vs := [.ref 0, iv (1), iv (i)]) (Q := fun r => ∃ z : Int, r = (some (iv z), (cW ki ln bt rl cp cs ct cv 14 5 ja ea ma a1 a2 a3 a4 a5 a6 a7 a8 jb eb mb b1 b2 b3 b4 b5 b6 b7 b8 re fl g1 g2 g3 g4 g5 (dW rt la rs rg pd du ds me tt gr su gp ((mk + (Int32.ofInt (mm_mrk (Int.toNat 1)).toInt).toInt64) + (Int32.ofInt (mm_mrk (Int.toNat 0)).toInt).toInt64) rf m1 m2 m3 m4 m5 mr mf n1 n2 n3 n4 n5 nr nf E)))) rfl (rn_up (N := 300) (M := mm_fuel) (by decide) (main (fun r => ∃ z : Int, r = (some (iv z), (cW ki ln bt rl cp cs ct cv 14 5 ja ea ma a1 a2 a3 a4 a5 a6 a7 a8 jb eb mb b1 b2 b3 b4 b5 b6 b7 b8 re fl g1 g2 g3 g4 g5 (dW rt la rs rg pd du ds me tt gr su gp ((mk + (Int32.ofInt (mm_mrk (Int.toNat 1)).toInt).toInt64) + (Int32.ofInt (mm_mrk (Int.toNat 0)).toInt).toInt64) rf m1 m2 m3 m4 m5 mr mf n1 n2 n3 n4 n5 nr nf E)))) (fun z => ⟨z, rfl⟩)))
  have h1 : sX11_price [.ref 0, iv (1), iv (i)] (cW ki ln bt rl cp cs ct cv 14 5 ja ea ma a1 a2 a3 a4 a5 a6 a7 a8 jb eb mb b1 b2 b3 b4 b5 b6 b7 b8 re fl g1 g2 g3 g4 g5 (dW rt la rs rg pd du ds me tt gr su gp mk rf m1 m2 m3 m4 m5 mr mf n1 n2 n3 n4 n5 nr nf E)) = some r := h1
  exact ⟨z, by rw [h1, h2]⟩
theorem c_priceG1_2 (hE : E.length = 11) (hn : 0 ≤ mb ∧ mb ≤ 16) (hAs : ARs b4 b5 b6 b7) (hb : i3 i 0 (mb - 1) = true) : ∃ z : Int, sX11_price [.ref 0, iv (2), iv (i)] (cW ki ln bt rl cp cs ct cv 14 5 ja ea ma a1 a2 a3 a4 a5 a6 a7 a8 jb eb mb b1 b2 b3 b4 b5 b6 b7 b8 re fl g1 g2 g3 g4 g5 (dW rt la rs rg pd du ds me tt gr su gp mk rf m1 m2 m3 m4 m5 mr mf n1 n2 n3 n4 n5 nr nf E)) = some (some (iv z), (cW ki ln bt rl cp cs ct cv 14 5 ja ea ma a1 a2 a3 a4 a5 a6 a7 a8 jb eb mb b1 b2 b3 b4 b5 b6 b7 b8 re fl g1 g2 g3 g4 g5 (dW rt la rs rg pd du ds me tt gr su gp ((mk + (Int32.ofInt (mm_mrk (Int.toNat 2)).toInt).toInt64) + (Int32.ofInt (mm_mrk (Int.toNat 0)).toInt).toInt64) rf m1 m2 m3 m4 m5 mr mf n1 n2 n3 n4 n5 nr nf E))) := by
  have main : ∀ Q : mm_R → Prop, (∀ z : Int, Q (some (iv z), (cW ki ln bt rl cp cs ct cv 14 5 ja ea ma a1 a2 a3 a4 a5 a6 a7 a8 jb eb mb b1 b2 b3 b4 b5 b6 b7 b8 re fl g1 g2 g3 g4 g5 (dW rt la rs rg pd du ds me tt gr su gp ((mk + (Int32.ofInt (mm_mrk (Int.toNat 2)).toInt).toInt64) + (Int32.ofInt (mm_mrk (Int.toNat 0)).toInt).toInt64) rf m1 m2 m3 m4 m5 mr mf n1 n2 n3 n4 n5 nr nf E)))) → rn_X11_price (300) (0, [(0, .ref 0), (1, iv (2)), (2, iv (i))], [], (cW ki ln bt rl cp cs ct cv 14 5 ja ea ma a1 a2 a3 a4 a5 a6 a7 a8 jb eb mb b1 b2 b3 b4 b5 b6 b7 b8 re fl g1 g2 g3 g4 g5 (dW rt la rs rg pd du ds me tt gr su gp mk rf m1 m2 m3 m4 m5 mr mf n1 n2 n3 n4 n5 nr nf E))) Q := by
    intro Q hQ
    have rb := i3_t hb
    refine r_il rfl rfl ?_
    refine r_s1s rfl rfl rfl (c_isKind (by decide)) ?_
    refine r_zeq rfl rfl (bi_r _) (fun u1 => ?_) (fun u1 => ?_)
    · exact absurd u1 (by decide)
    · refine r_al rfl rfl ?_
      refine r_gf rfl rfl xg_0 rfl ?_
      refine r_il rfl rfl ?_
      refine r_v2s rfl rfl xg_4 rfl (c_isStandC1 (by omega) hn) ?_
      rw [hb]
      refine r_zne rfl rfl (bi_r _) (fun u2 => ?_) (fun u2 => ?_)
      · obtain ⟨z, hz⟩ := c_valueAs1_2 (E := E) (i := i) (ki := ki) (ln := ln) (bt := bt) (rl := rl) (cp := cp) (cs := cs) (ct := ct) (cv := cv) (ja := ja) (ea := ea) (ma := ma) (a1 := a1) (a2 := a2) (a3 := a3) (a4 := a4) (a5 := a5) (a6 := a6) (a7 := a7) (a8 := a8) (jb := jb) (eb := eb) (mb := mb) (b1 := b1) (b2 := b2) (b3 := b3) (b4 := b4) (b5 := b5) (b6 := b6) (b7 := b7) (b8 := b8) (re := re) (fl := fl) (g1 := g1) (g2 := g2) (g3 := g3) (g4 := g4) (g5 := g5) (rt := rt) (la := la) (rs := rs) (rg := rg) (pd := pd) (du := du) (ds := ds) (me := me) (tt := tt) (gr := gr) (su := su) (gp := gp) (mk := mk) (rf := rf) (m1 := m1) (m2 := m2) (m3 := m3) (m4 := m4) (m5 := m5) (mr := mr) (mf := mf) (n1 := n1) (n2 := n2) (n3 := n3) (n4 := n4) (n5 := n5) (nr := nr) (nf := nf) hE (by omega) hAs
        refine r_al rfl rfl ?_
        refine r_gf rfl rfl xg_0 rfl ?_
        refine r_il rfl rfl ?_
        refine r_il rfl rfl ?_
        refine r_v3s rfl rfl xg_42 rfl hz ?_
        exact r_ret rfl rfl (hQ _)
      · exact absurd u2 (by decide)
  obtain ⟨r, h1, z, h2⟩ := rn_S (vs := [.ref 0, iv (2), iv (i)]) (Q := fun r => ∃ z : Int, r = (some (iv z), (cW ki ln bt rl cp cs ct cv 14 5 ja ea ma a1 a2 a3 a4 a5 a6 a7 a8 jb eb mb b1 b2 b3 b4 b5 b6 b7 b8 re fl g1 g2 g3 g4 g5 (dW rt la rs rg pd du ds me tt gr su gp ((mk + (Int32.ofInt (mm_mrk (Int.toNat 2)).toInt).toInt64) + (Int32.ofInt (mm_mrk (Int.toNat 0)).toInt).toInt64) rf m1 m2 m3 m4 m5 mr mf n1 n2 n3 n4 n5 nr nf E)))) rfl (rn_up (N := 300) (M := mm_fuel) (by decide) (main (fun r => ∃ z : Int, r = (some (iv z), (cW ki ln bt rl cp cs ct cv 14 5 ja ea ma a1 a2 a3 a4 a5 a6 a7 a8 jb eb mb b1 b2 b3 b4 b5 b6 b7 b8 re fl g1 g2 g3 g4 g5 (dW rt la rs rg pd du ds me tt gr su gp ((mk + (Int32.ofInt (mm_mrk (Int.toNat 2)).toInt).toInt64) + (Int32.ofInt (mm_mrk (Int.toNat 0)).toInt).toInt64) rf m1 m2 m3 m4 m5 mr mf n1 n2 n3 n4 n5 nr nf E)))) (fun z => ⟨z, rfl⟩)))
  have h1 : sX11_price [.ref 0, iv (2), iv (i)] (cW ki ln bt rl cp cs ct cv 14 5 ja ea ma a1 a2 a3 a4 a5 a6 a7 a8 jb eb mb b1 b2 b3 b4 b5 b6 b7 b8 re fl g1 g2 g3 g4 g5 (dW rt la rs rg pd du ds me tt gr su gp mk rf m1 m2 m3 m4 m5 mr mf n1 n2 n3 n4 n5 nr nf E)) = some r := h1
  exact ⟨z, by rw [h1, h2]⟩
theorem c_priceG1_3 (hE : E.length = 11) (hn : 0 ≤ mb ∧ mb ≤ 16) (hAs : ARs b4 b5 b6 b7) (hb : i3 i 0 (mb - 1) = true) : ∃ z : Int, sX11_price [.ref 0, iv (3), iv (i)] (cW ki ln bt rl cp cs ct cv 14 5 ja ea ma a1 a2 a3 a4 a5 a6 a7 a8 jb eb mb b1 b2 b3 b4 b5 b6 b7 b8 re fl g1 g2 g3 g4 g5 (dW rt la rs rg pd du ds me tt gr su gp mk rf m1 m2 m3 m4 m5 mr mf n1 n2 n3 n4 n5 nr nf E)) = some (some (iv z), (cW ki ln bt rl cp cs ct cv 14 5 ja ea ma a1 a2 a3 a4 a5 a6 a7 a8 jb eb mb b1 b2 b3 b4 b5 b6 b7 b8 re fl g1 g2 g3 g4 g5 (dW rt la rs rg pd du ds me tt gr su gp ((mk + (Int32.ofInt (mm_mrk (Int.toNat 3)).toInt).toInt64) + (Int32.ofInt (mm_mrk (Int.toNat 0)).toInt).toInt64) rf m1 m2 m3 m4 m5 mr mf n1 n2 n3 n4 n5 nr nf E))) := by
  have main : ∀ Q : mm_R → Prop, (∀ z : Int, Q (some (iv z), (cW ki ln bt rl cp cs ct cv 14 5 ja ea ma a1 a2 a3 a4 a5 a6 a7 a8 jb eb mb b1 b2 b3 b4 b5 b6 b7 b8 re fl g1 g2 g3 g4 g5 (dW rt la rs rg pd du ds me tt gr su gp ((mk + (Int32.ofInt (mm_mrk (Int.toNat 3)).toInt).toInt64) + (Int32.ofInt (mm_mrk (Int.toNat 0)).toInt).toInt64) rf m1 m2 m3 m4 m5 mr mf n1 n2 n3 n4 n5 nr nf E)))) → rn_X11_price (300) (0, [(0, .ref 0), (1, iv (3)), (2, iv (i))], [], (cW ki ln bt rl cp cs ct cv 14 5 ja ea ma a1 a2 a3 a4 a5 a6 a7 a8 jb eb mb b1 b2 b3 b4 b5 b6 b7 b8 re fl g1 g2 g3 g4 g5 (dW rt la rs rg pd du ds me tt gr su gp mk rf m1 m2 m3 m4 m5 mr mf n1 n2 n3 n4 n5 nr nf E))) Q := by
    intro Q hQ
    have rb := i3_t hb
    refine r_il rfl rfl ?_
    refine r_s1s rfl rfl rfl (c_isKind (by decide)) ?_
    refine r_zeq rfl rfl (bi_r _) (fun u1 => ?_) (fun u1 => ?_)
    · exact absurd u1 (by decide)
    · refine r_al rfl rfl ?_
      refine r_gf rfl rfl xg_0 rfl ?_
      refine r_il rfl rfl ?_
      refine r_v2s rfl rfl xg_4 rfl (c_isStandC1 (by omega) hn) ?_
      rw [hb]
      refine r_zne rfl rfl (bi_r _) (fun u2 => ?_) (fun u2 => ?_)
      · obtain ⟨z, hz⟩ := c_valueAs1_3 (E := E) (i := i) (ki := ki) (ln := ln) (bt := bt) (rl := rl) (cp := cp) (cs := cs) (ct := ct) (cv := cv) (ja := ja) (ea := ea) (ma := ma) (a1 := a1) (a2 := a2) (a3 := a3) (a4 := a4) (a5 := a5) (a6 := a6) (a7 := a7) (a8 := a8) (jb := jb) (eb := eb) (mb := mb) (b1 := b1) (b2 := b2) (b3 := b3) (b4 := b4) (b5 := b5) (b6 := b6) (b7 := b7) (b8 := b8) (re := re) (fl := fl) (g1 := g1) (g2 := g2) (g3 := g3) (g4 := g4) (g5 := g5) (rt := rt) (la := la) (rs := rs) (rg := rg) (pd := pd) (du := du) (ds := ds) (me := me) (tt := tt) (gr := gr) (su := su) (gp := gp) (mk := mk) (rf := rf) (m1 := m1) (m2 := m2) (m3 := m3) (m4 := m4) (m5 := m5) (mr := mr) (mf := mf) (n1 := n1) (n2 := n2) (n3 := n3) (n4 := n4) (n5 := n5) (nr := nr) (nf := nf) hE (by omega) hAs
        refine r_al rfl rfl ?_
        refine r_gf rfl rfl xg_0 rfl ?_
        refine r_il rfl rfl ?_
        refine r_il rfl rfl ?_
        refine r_v3s rfl rfl xg_42 rfl hz ?_
        exact r_ret rfl rfl (hQ _)
      · exact absurd u2 (by decide)
  obtain ⟨r, h1, z, h2⟩ := rn_S (vs := [.ref 0, iv (3), iv (i)]) (Q := fun r => ∃ z : Int, r = (some (iv z), (cW ki ln bt rl cp cs ct cv 14 5 ja ea ma a1 a2 a3 a4 a5 a6 a7 a8 jb eb mb b1 b2 b3 b4 b5 b6 b7 b8 re fl g1 g2 g3 g4 g5 (dW rt la rs rg pd du ds me tt gr su gp ((mk + (Int32.ofInt (mm_mrk (Int.toNat 3)).toInt).toInt64) + (Int32.ofInt (mm_mrk (Int.toNat 0)).toInt).toInt64) rf m1 m2 m3 m4 m5 mr mf n1 n2 n3 n4 n5 nr nf E)))) rfl (rn_up (N := 300) (M := mm_fuel) (by decide) (main (fun r => ∃ z : Int, r = (some (iv z), (cW ki ln bt rl cp cs ct cv 14 5 ja ea ma a1 a2 a3 a4 a5 a6 a7 a8 jb eb mb b1 b2 b3 b4 b5 b6 b7 b8 re fl g1 g2 g3 g4 g5 (dW rt la rs rg pd du ds me tt gr su gp ((mk + (Int32.ofInt (mm_mrk (Int.toNat 3)).toInt).toInt64) + (Int32.ofInt (mm_mrk (Int.toNat 0)).toInt).toInt64) rf m1 m2 m3 m4 m5 mr mf n1 n2 n3 n4 n5 nr nf E)))) (fun z => ⟨z, rfl⟩)))
  have h1 : sX11_price [.ref 0, iv (3), iv (i)] (cW ki ln bt rl cp cs ct cv 14 5 ja ea ma a1 a2 a3 a4 a5 a6 a7 a8 jb eb mb b1 b2 b3 b4 b5 b6 b7 b8 re fl g1 g2 g3 g4 g5 (dW rt la rs rg pd du ds me tt gr su gp mk rf m1 m2 m3 m4 m5 mr mf n1 n2 n3 n4 n5 nr nf E)) = some r := h1
  exact ⟨z, by rw [h1, h2]⟩
theorem c_priceG1_4 (hE : E.length = 11) (hn : 0 ≤ mb ∧ mb ≤ 16) (hAs : ARs b4 b5 b6 b7) (hb : i3 i 0 (mb - 1) = true) : ∃ z : Int, sX11_price [.ref 0, iv (4), iv (i)] (cW ki ln bt rl cp cs ct cv 14 5 ja ea ma a1 a2 a3 a4 a5 a6 a7 a8 jb eb mb b1 b2 b3 b4 b5 b6 b7 b8 re fl g1 g2 g3 g4 g5 (dW rt la rs rg pd du ds me tt gr su gp mk rf m1 m2 m3 m4 m5 mr mf n1 n2 n3 n4 n5 nr nf E)) = some (some (iv z), (cW ki ln bt rl cp cs ct cv 14 5 ja ea ma a1 a2 a3 a4 a5 a6 a7 a8 jb eb mb b1 b2 b3 b4 b5 b6 b7 b8 re fl g1 g2 g3 g4 g5 (dW rt la rs rg pd du ds me tt gr su gp (((mk + (Int32.ofInt (mm_mrk (Int.toNat 4)).toInt).toInt64) + (Int32.ofInt (mm_mrk (Int.toNat 3)).toInt).toInt64) + (Int32.ofInt (mm_mrk (Int.toNat 0)).toInt).toInt64) rf m1 m2 m3 m4 m5 mr mf n1 n2 n3 n4 n5 nr nf E))) := by
  have main : ∀ Q : mm_R → Prop, (∀ z : Int, Q (some (iv z), (cW ki ln bt rl cp cs ct cv 14 5 ja ea ma a1 a2 a3 a4 a5 a6 a7 a8 jb eb mb b1 b2 b3 b4 b5 b6 b7 b8 re fl g1 g2 g3 g4 g5 (dW rt la rs rg pd du ds me tt gr su gp (((mk + (Int32.ofInt (mm_mrk (Int.toNat 4)).toInt).toInt64) + (Int32.ofInt (mm_mrk (Int.toNat 3)).toInt).toInt64) + (Int32.ofInt (mm_mrk (Int.toNat 0)).toInt).toInt64) rf m1 m2 m3 m4 m5 mr mf n1 n2 n3 n4 n5 nr nf E)))) → rn_X11_price (300) (0, [(0, .ref 0), (1, iv (4)), (2, iv (i))], [], (cW ki ln bt rl cp cs ct cv 14 5 ja ea ma a1 a2 a3 a4 a5 a6 a7 a8 jb eb mb b1 b2 b3 b4 b5 b6 b7 b8 re fl g1 g2 g3 g4 g5 (dW rt la rs rg pd du ds me tt gr su gp mk rf m1 m2 m3 m4 m5 mr mf n1 n2 n3 n4 n5 nr nf E))) Q := by
    intro Q hQ
    have rb := i3_t hb
    refine r_il rfl rfl ?_
    refine r_s1s rfl rfl rfl (c_isKind (by decide)) ?_
    refine r_zeq rfl rfl (bi_r _) (fun u1 => ?_) (fun u1 => ?_)
    · exact absurd u1 (by decide)
    · refine r_al rfl rfl ?_
      refine r_gf rfl rfl xg_0 rfl ?_
      refine r_il rfl rfl ?_
      refine r_v2s rfl rfl xg_4 rfl (c_isStandC1 (by omega) hn) ?_
      rw [hb]
      refine r_zne rfl rfl (bi_r _) (fun u2 => ?_) (fun u2 => ?_)
      · obtain ⟨z, hz⟩ := c_valueAs1_4 (E := E) (i := i) (ki := ki) (ln := ln) (bt := bt) (rl := rl) (cp := cp) (cs := cs) (ct := ct) (cv := cv) (ja := ja) (ea := ea) (ma := ma) (a1 := a1) (a2 := a2) (a3 := a3) (a4 := a4) (a5 := a5) (a6 := a6) (a7 := a7) (a8 := a8) (jb := jb) (eb := eb) (mb := mb) (b1 := b1) (b2 := b2) (b3 := b3) (b4 := b4) (b5 := b5) (b6 := b6) (b7 := b7) (b8 := b8) (re := re) (fl := fl) (g1 := g1) (g2 := g2) (g3 := g3) (g4 := g4) (g5 := g5) (rt := rt) (la := la) (rs := rs) (rg := rg) (pd := pd) (du := du) (ds := ds) (me := me) (tt := tt) (gr := gr) (su := su) (gp := gp) (mk := mk) (rf := rf) (m1 := m1) (m2 := m2) (m3 := m3) (m4 := m4) (m5 := m5) (mr := mr) (mf := mf) (n1 := n1) (n2 := n2) (n3 := n3) (n4 := n4) (n5 := n5) (nr := nr) (nf := nf) hE (by omega) hAs
        refine r_al rfl rfl ?_
        refine r_gf rfl rfl xg_0 rfl ?_
        refine r_il rfl rfl ?_
        refine r_il rfl rfl ?_
        refine r_v3s rfl rfl xg_42 rfl hz ?_
        exact r_ret rfl rfl (hQ _)
      · exact absurd u2 (by decide)
  obtain ⟨r, h1, z, h2⟩ := rn_S (vs := [.ref 0, iv (4), iv (i)]) (Q := fun r => ∃ z : Int, r = (some (iv z), (cW ki ln bt rl cp cs ct cv 14 5 ja ea ma a1 a2 a3 a4 a5 a6 a7 a8 jb eb mb b1 b2 b3 b4 b5 b6 b7 b8 re fl g1 g2 g3 g4 g5 (dW rt la rs rg pd du ds me tt gr su gp (((mk + (Int32.ofInt (mm_mrk (Int.toNat 4)).toInt).toInt64) + (Int32.ofInt (mm_mrk (Int.toNat 3)).toInt).toInt64) + (Int32.ofInt (mm_mrk (Int.toNat 0)).toInt).toInt64) rf m1 m2 m3 m4 m5 mr mf n1 n2 n3 n4 n5 nr nf E)))) rfl (rn_up (N := 300) (M := mm_fuel) (by decide) (main (fun r => ∃ z : Int, r = (some (iv z), (cW ki ln bt rl cp cs ct cv 14 5 ja ea ma a1 a2 a3 a4 a5 a6 a7 a8 jb eb mb b1 b2 b3 b4 b5 b6 b7 b8 re fl g1 g2 g3 g4 g5 (dW rt la rs rg pd du ds me tt gr su gp (((mk + (Int32.ofInt (mm_mrk (Int.toNat 4)).toInt).toInt64) + (Int32.ofInt (mm_mrk (Int.toNat 3)).toInt).toInt64) + (Int32.ofInt (mm_mrk (Int.toNat 0)).toInt).toInt64) rf m1 m2 m3 m4 m5 mr mf n1 n2 n3 n4 n5 nr nf E)))) (fun z => ⟨z, rfl⟩)))
  have h1 : sX11_price [.ref 0, iv (4), iv (i)] (cW ki ln bt rl cp cs ct cv 14 5 ja ea ma a1 a2 a3 a4 a5 a6 a7 a8 jb eb mb b1 b2 b3 b4 b5 b6 b7 b8 re fl g1 g2 g3 g4 g5 (dW rt la rs rg pd du ds me tt gr su gp mk rf m1 m2 m3 m4 m5 mr mf n1 n2 n3 n4 n5 nr nf E)) = some r := h1
  exact ⟨z, by rw [h1, h2]⟩
theorem c_priceG1_5 (hE : E.length = 11) (hn : 0 ≤ mb ∧ mb ≤ 16) (hAs : ARs b4 b5 b6 b7) (hb : i3 i 0 (mb - 1) = true) : ∃ z : Int, sX11_price [.ref 0, iv (5), iv (i)] (cW ki ln bt rl cp cs ct cv 14 5 ja ea ma a1 a2 a3 a4 a5 a6 a7 a8 jb eb mb b1 b2 b3 b4 b5 b6 b7 b8 re fl g1 g2 g3 g4 g5 (dW rt la rs rg pd du ds me tt gr su gp mk rf m1 m2 m3 m4 m5 mr mf n1 n2 n3 n4 n5 nr nf E)) = some (some (iv z), (cW ki ln bt rl cp cs ct cv 14 5 ja ea ma a1 a2 a3 a4 a5 a6 a7 a8 jb eb mb b1 b2 b3 b4 b5 b6 b7 b8 re fl g1 g2 g3 g4 g5 (dW rt la rs rg pd du ds me tt gr su gp ((mk + (Int32.ofInt (mm_mrk (Int.toNat 5)).toInt).toInt64) + (Int32.ofInt (mm_mrk (Int.toNat 0)).toInt).toInt64) rf m1 m2 m3 m4 m5 mr mf n1 n2 n3 n4 n5 nr nf E))) := by
  have main : ∀ Q : mm_R → Prop, (∀ z : Int, Q (some (iv z), (cW ki ln bt rl cp cs ct cv 14 5 ja ea ma a1 a2 a3 a4 a5 a6 a7 a8 jb eb mb b1 b2 b3 b4 b5 b6 b7 b8 re fl g1 g2 g3 g4 g5 (dW rt la rs rg pd du ds me tt gr su gp ((mk + (Int32.ofInt (mm_mrk (Int.toNat 5)).toInt).toInt64) + (Int32.ofInt (mm_mrk (Int.toNat 0)).toInt).toInt64) rf m1 m2 m3 m4 m5 mr mf n1 n2 n3 n4 n5 nr nf E)))) → rn_X11_price (300) (0, [(0, .ref 0), (1, iv (5)), (2, iv (i))], [], (cW ki ln bt rl cp cs ct cv 14 5 ja ea ma a1 a2 a3 a4 a5 a6 a7 a8 jb eb mb b1 b2 b3 b4 b5 b6 b7 b8 re fl g1 g2 g3 g4 g5 (dW rt la rs rg pd du ds me tt gr su gp mk rf m1 m2 m3 m4 m5 mr mf n1 n2 n3 n4 n5 nr nf E))) Q := by
    intro Q hQ
    have rb := i3_t hb
    refine r_il rfl rfl ?_
    refine r_s1s rfl rfl rfl (c_isKind (by decide)) ?_
    refine r_zeq rfl rfl (bi_r _) (fun u1 => ?_) (fun u1 => ?_)
    · exact absurd u1 (by decide)
    · refine r_al rfl rfl ?_
      refine r_gf rfl rfl xg_0 rfl ?_
      refine r_il rfl rfl ?_
      refine r_v2s rfl rfl xg_4 rfl (c_isStandC1 (by omega) hn) ?_
      rw [hb]
      refine r_zne rfl rfl (bi_r _) (fun u2 => ?_) (fun u2 => ?_)
      · obtain ⟨z, hz⟩ := c_valueAs1_5 (E := E) (i := i) (ki := ki) (ln := ln) (bt := bt) (rl := rl) (cp := cp) (cs := cs) (ct := ct) (cv := cv) (ja := ja) (ea := ea) (ma := ma) (a1 := a1) (a2 := a2) (a3 := a3) (a4 := a4) (a5 := a5) (a6 := a6) (a7 := a7) (a8 := a8) (jb := jb) (eb := eb) (mb := mb) (b1 := b1) (b2 := b2) (b3 := b3) (b4 := b4) (b5 := b5) (b6 := b6) (b7 := b7) (b8 := b8) (re := re) (fl := fl) (g1 := g1) (g2 := g2) (g3 := g3) (g4 := g4) (g5 := g5) (rt := rt) (la := la) (rs := rs) (rg := rg) (pd := pd) (du := du) (ds := ds) (me := me) (tt := tt) (gr := gr) (su := su) (gp := gp) (mk := mk) (rf := rf) (m1 := m1) (m2 := m2) (m3 := m3) (m4 := m4) (m5 := m5) (mr := mr) (mf := mf) (n1 := n1) (n2 := n2) (n3 := n3) (n4 := n4) (n5 := n5) (nr := nr) (nf := nf) hE (by omega) hAs
        refine r_al rfl rfl ?_
        refine r_gf rfl rfl xg_0 rfl ?_
        refine r_il rfl rfl ?_
        refine r_il rfl rfl ?_
        refine r_v3s rfl rfl xg_42 rfl hz ?_
        exact r_ret rfl rfl (hQ _)
      · exact absurd u2 (by decide)
  obtain ⟨r, h1, z, h2⟩ := rn_S (vs := [.ref 0, iv (5), iv (i)]) (Q := fun r => ∃ z : Int, r = (some (iv z), (cW ki ln bt rl cp cs ct cv 14 5 ja ea ma a1 a2 a3 a4 a5 a6 a7 a8 jb eb mb b1 b2 b3 b4 b5 b6 b7 b8 re fl g1 g2 g3 g4 g5 (dW rt la rs rg pd du ds me tt gr su gp ((mk + (Int32.ofInt (mm_mrk (Int.toNat 5)).toInt).toInt64) + (Int32.ofInt (mm_mrk (Int.toNat 0)).toInt).toInt64) rf m1 m2 m3 m4 m5 mr mf n1 n2 n3 n4 n5 nr nf E)))) rfl (rn_up (N := 300) (M := mm_fuel) (by decide) (main (fun r => ∃ z : Int, r = (some (iv z), (cW ki ln bt rl cp cs ct cv 14 5 ja ea ma a1 a2 a3 a4 a5 a6 a7 a8 jb eb mb b1 b2 b3 b4 b5 b6 b7 b8 re fl g1 g2 g3 g4 g5 (dW rt la rs rg pd du ds me tt gr su gp ((mk + (Int32.ofInt (mm_mrk (Int.toNat 5)).toInt).toInt64) + (Int32.ofInt (mm_mrk (Int.toNat 0)).toInt).toInt64) rf m1 m2 m3 m4 m5 mr mf n1 n2 n3 n4 n5 nr nf E)))) (fun z => ⟨z, rfl⟩)))
  have h1 : sX11_price [.ref 0, iv (5), iv (i)] (cW ki ln bt rl cp cs ct cv 14 5 ja ea ma a1 a2 a3 a4 a5 a6 a7 a8 jb eb mb b1 b2 b3 b4 b5 b6 b7 b8 re fl g1 g2 g3 g4 g5 (dW rt la rs rg pd du ds me tt gr su gp mk rf m1 m2 m3 m4 m5 mr mf n1 n2 n3 n4 n5 nr nf E)) = some r := h1
  exact ⟨z, by rw [h1, h2]⟩
theorem c_priceG1_6 (hE : E.length = 11) (hn : 0 ≤ mb ∧ mb ≤ 16) (hAs : ARs b4 b5 b6 b7) (hb : i3 i 0 (mb - 1) = true) : ∃ z : Int, sX11_price [.ref 0, iv (6), iv (i)] (cW ki ln bt rl cp cs ct cv 14 5 ja ea ma a1 a2 a3 a4 a5 a6 a7 a8 jb eb mb b1 b2 b3 b4 b5 b6 b7 b8 re fl g1 g2 g3 g4 g5 (dW rt la rs rg pd du ds me tt gr su gp mk rf m1 m2 m3 m4 m5 mr mf n1 n2 n3 n4 n5 nr nf E)) = some (some (iv z), (cW ki ln bt rl cp cs ct cv 14 5 ja ea ma a1 a2 a3 a4 a5 a6 a7 a8 jb eb mb b1 b2 b3 b4 b5 b6 b7 b8 re fl g1 g2 g3 g4 g5 (dW rt la rs rg pd du ds me tt gr su gp (((mk + (Int32.ofInt (mm_mrk (Int.toNat 6)).toInt).toInt64) + (Int32.ofInt (mm_mrk (Int.toNat 5)).toInt).toInt64) + (Int32.ofInt (mm_mrk (Int.toNat 0)).toInt).toInt64) rf m1 m2 m3 m4 m5 mr mf n1 n2 n3 n4 n5 nr nf E))) := by
  have main : ∀ Q : mm_R → Prop, (∀ z : Int, Q (some (iv z), (cW ki ln bt rl cp cs ct cv 14 5 ja ea ma a1 a2 a3 a4 a5 a6 a7 a8 jb eb mb b1 b2 b3 b4 b5 b6 b7 b8 re fl g1 g2 g3 g4 g5 (dW rt la rs rg pd du ds me tt gr su gp (((mk + (Int32.ofInt (mm_mrk (Int.toNat 6)).toInt).toInt64) + (Int32.ofInt (mm_mrk (Int.toNat 5)).toInt).toInt64) + (Int32.ofInt (mm_mrk (Int.toNat 0)).toInt).toInt64) rf m1 m2 m3 m4 m5 mr mf n1 n2 n3 n4 n5 nr nf E)))) → rn_X11_price (300) (0, [(0, .ref 0), (1, iv (6)), (2, iv (i))], [], (cW ki ln bt rl cp cs ct cv 14 5 ja ea ma a1 a2 a3 a4 a5 a6 a7 a8 jb eb mb b1 b2 b3 b4 b5 b6 b7 b8 re fl g1 g2 g3 g4 g5 (dW rt la rs rg pd du ds me tt gr su gp mk rf m1 m2 m3 m4 m5 mr mf n1 n2 n3 n4 n5 nr nf E))) Q := by
    intro Q hQ
    have rb := i3_t hb
    refine r_il rfl rfl ?_
    refine r_s1s rfl rfl rfl (c_isKind (by decide)) ?_
    refine r_zeq rfl rfl (bi_r _) (fun u1 => ?_) (fun u1 => ?_)
    · exact absurd u1 (by decide)
    · refine r_al rfl rfl ?_
      refine r_gf rfl rfl xg_0 rfl ?_
      refine r_il rfl rfl ?_
      refine r_v2s rfl rfl xg_4 rfl (c_isStandC1 (by omega) hn) ?_
      rw [hb]
      refine r_zne rfl rfl (bi_r _) (fun u2 => ?_) (fun u2 => ?_)
      · obtain ⟨z, hz⟩ := c_valueAs1_6 (E := E) (i := i) (ki := ki) (ln := ln) (bt := bt) (rl := rl) (cp := cp) (cs := cs) (ct := ct) (cv := cv) (ja := ja) (ea := ea) (ma := ma) (a1 := a1) (a2 := a2) (a3 := a3) (a4 := a4) (a5 := a5) (a6 := a6) (a7 := a7) (a8 := a8) (jb := jb) (eb := eb) (mb := mb) (b1 := b1) (b2 := b2) (b3 := b3) (b4 := b4) (b5 := b5) (b6 := b6) (b7 := b7) (b8 := b8) (re := re) (fl := fl) (g1 := g1) (g2 := g2) (g3 := g3) (g4 := g4) (g5 := g5) (rt := rt) (la := la) (rs := rs) (rg := rg) (pd := pd) (du := du) (ds := ds) (me := me) (tt := tt) (gr := gr) (su := su) (gp := gp) (mk := mk) (rf := rf) (m1 := m1) (m2 := m2) (m3 := m3) (m4 := m4) (m5 := m5) (mr := mr) (mf := mf) (n1 := n1) (n2 := n2) (n3 := n3) (n4 := n4) (n5 := n5) (nr := nr) (nf := nf) hE (by omega) hAs
        refine r_al rfl rfl ?_
        refine r_gf rfl rfl xg_0 rfl ?_
        refine r_il rfl rfl ?_
        refine r_il rfl rfl ?_
        refine r_v3s rfl rfl xg_42 rfl hz ?_
        exact r_ret rfl rfl (hQ _)
      · exact absurd u2 (by decide)
  obtain ⟨r, h1, z, h2⟩ := rn_S (vs := [.ref 0, iv (6), iv (i)]) (Q := fun r => ∃ z : Int, r = (some (iv z), (cW ki ln bt rl cp cs ct cv 14 5 ja ea ma a1 a2 a3 a4 a5 a6 a7 a8 jb eb mb b1 b2 b3 b4 b5 b6 b7 b8 re fl g1 g2 g3 g4 g5 (dW rt la rs rg pd du ds me tt gr su gp (((mk + (Int32.ofInt (mm_mrk (Int.toNat 6)).toInt).toInt64) + (Int32.ofInt (mm_mrk (Int.toNat 5)).toInt).toInt64) + (Int32.ofInt (mm_mrk (Int.toNat 0)).toInt).toInt64) rf m1 m2 m3 m4 m5 mr mf n1 n2 n3 n4 n5 nr nf E)))) rfl (rn_up (N := 300) (M := mm_fuel) (by decide) (main (fun r => ∃ z : Int, r = (some (iv z), (cW ki ln bt rl cp cs ct cv 14 5 ja ea ma a1 a2 a3 a4 a5 a6 a7 a8 jb eb mb b1 b2 b3 b4 b5 b6 b7 b8 re fl g1 g2 g3 g4 g5 (dW rt la rs rg pd du ds me tt gr su gp (((mk + (Int32.ofInt (mm_mrk (Int.toNat 6)).toInt).toInt64) + (Int32.ofInt (mm_mrk (Int.toNat 5)).toInt).toInt64) + (Int32.ofInt (mm_mrk (Int.toNat 0)).toInt).toInt64) rf m1 m2 m3 m4 m5 mr mf n1 n2 n3 n4 n5 nr nf E)))) (fun z => ⟨z, rfl⟩)))
  have h1 : sX11_price [.ref 0, iv (6), iv (i)] (cW ki ln bt rl cp cs ct cv 14 5 ja ea ma a1 a2 a3 a4 a5 a6 a7 a8 jb eb mb b1 b2 b3 b4 b5 b6 b7 b8 re fl g1 g2 g3 g4 g5 (dW rt la rs rg pd du ds me tt gr su gp mk rf m1 m2 m3 m4 m5 mr mf n1 n2 n3 n4 n5 nr nf E)) = some r := h1
  exact ⟨z, by rw [h1, h2]⟩
end PC
