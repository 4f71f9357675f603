/-! ===== keep and restore: the class; both keep the relation ===== -/
section RN4
variable {gf : Nat → Option (Nat × Nat)} {pf : Nat → Option (Nat × Nat × FieldType)} {mv ms : Nat → Option (Nat × Option Nat × mm_F)} {kc : Nat → Option Value} {gs : Nat → Option Value} {rf : Nat → Nat → Option Value} {ro : Nat → Option (Nat × Nat × (Nat → Int32))} {rt : Option FieldType} {nL : Nat} {ins : Nat → Option Instr} {N pc : Nat} {lv : List (Nat × Value)} {st : List Value} {mw : List va_E} {Q : mm_R → Prop}
theorem r_aal {a n q : Nat} {f : Nat → Option Nat} {i : Int} (h : ins pc = some .aaload) (hc : mw[a]? = some (.inl (3, n, .inr (.inr (.inr (.inr f)))))) (h0 : 0 ≤ i) (h1 : i < (n : Int)) (hn : n ≤ 100000) (hf : f i.toNat = some q) (k : rn gf pf mv ms kc gs rf ro rt nL ins N (pc + 1, lv, .ref q :: st, mw) Q) : rn gf pf mv ms kc gs rf ro rt nL ins (N + 1) (pc, lv, iv i :: .ref a :: st, mw) Q := rn_one h (by
  obtain ⟨e1, e2⟩ := iv_ix h0 h1 hn
  simp only [mm_ex, mm_aald, iv, hc, e1, e2, hf]
  rfl) k
end RN4
def sumC (g : Nat → Int32) : Nat → Int
  | 0 => 0
  | m + 1 => sumC g m + (g m).toInt
theorem sum_eq {g s : Nat → Int32} : ∀ (m : Nat), (∀ j : Nat, j < m → g j = s (122 + j)) → sumC g m = sumB s m
  | 0, _ => rfl
  | m + 1, h => by
    show sumC g m + (g m).toInt = sumB s m + (s (122 + m)).toInt
    rw [sum_eq m (fun j hj => h j (by omega)), h m (by omega)]
section KC
variable {ki : Int} {ln : Int} {bt : Nat → Int32} {rl : Value} {cp : Int} {cs : Int} {ct : Int} {cv : Int} {rr : Nat} {dr : Nat} {ja : Int} {ea : Int} {ma : Int} {a1 : Nat → Int32} {a2 : Nat → Int32} {a3 : Nat → Int32} {a4 : Nat → Int32} {a5 : Nat → Int32} {a6 : Nat → Int32} {a7 : Nat → Int32} {a8 : Nat → Int32} {jb : Int} {eb : Int} {mb : Int} {b1 : Nat → Int32} {b2 : Nat → Int32} {b3 : Nat → Int32} {b4 : Nat → Int32} {b5 : Nat → Int32} {b6 : Nat → Int32} {b7 : Nat → Int32} {b8 : Nat → Int32} {re : Int} {fl : Int} {g1 : Nat → Int32} {g2 : Nat → Int32} {g3 : Nat → Int32} {g4 : Nat → Int32} {g5 : Nat → Int32} {rt : Int} {la : Int} {rs : Int} {rg : Int} {pd : Nat → Int32} {du : Nat → Int32} {ds : Nat → Int32} {me : Nat → Int32} {tt : Nat → Int32} {gr : Nat → Int32} {su : Nat → Int32} {gp : Nat → Int32} {mk : Int64} {rf : Nat → Option Nat} {m1 : Nat → Int32} {m2 : Nat → Int32} {m3 : Nat → Int32} {m4 : Nat → Int32} {m5 : Nat → Int32} {mr : Int} {mf : Int} {n1 : Nat → Int32} {n2 : Nat → Int32} {n3 : Nat → Int32} {n4 : Nat → Int32} {n5 : Nat → Int32} {nr : Int} {nf : Int} {E : List va_E} {a : Int} {i : Nat} {Q : mm_R → Prop} {N : Nat}
theorem c_ac44_23_0 : mm_acp [.ref 24, iv 0, .ref 45, iv 0, iv 10] (cW ki ln bt rl cp cs ct cv rr dr ja ea ma a1 a2 a3 a4 a5 a6 a7 a8 jb eb mb b1 b2 b3 b4 b5 b6 b7 b8 re fl g1 g2 g3 g4 g5 (dW rt la rs rg pd du ds me tt gr su gp mk rf m1 m2 m3 m4 m5 mr mf n1 n2 n3 n4 n5 nr nf E)) = some (none, (cW ki ln bt rl cp cs ct cv rr dr ja ea ma a1 a2 a3 a4 a5 a6 a7 a8 jb eb mb b1 b2 b3 b4 b5 b6 b7 b8 re fl g1 g2 g3 g4 g5 (dW rt la rs rg pd du ds me tt gr su gp mk rf (va_cpy g1 m1 0 0 10) m2 m3 m4 m5 mr mf n1 n2 n3 n4 n5 nr nf E))) := rfl
theorem c_ac44_23_1 : mm_acp [.ref 25, iv 0, .ref 46, iv 0, iv 16] (cW ki ln bt rl cp cs ct cv rr dr ja ea ma a1 a2 a3 a4 a5 a6 a7 a8 jb eb mb b1 b2 b3 b4 b5 b6 b7 b8 re fl g1 g2 g3 g4 g5 (dW rt la rs rg pd du ds me tt gr su gp mk rf m1 m2 m3 m4 m5 mr mf n1 n2 n3 n4 n5 nr nf E)) = some (none, (cW ki ln bt rl cp cs ct cv rr dr ja ea ma a1 a2 a3 a4 a5 a6 a7 a8 jb eb mb b1 b2 b3 b4 b5 b6 b7 b8 re fl g1 g2 g3 g4 g5 (dW rt la rs rg pd du ds me tt gr su gp mk rf m1 (va_cpy g2 m2 0 0 16) m3 m4 m5 mr mf n1 n2 n3 n4 n5 nr nf E))) := rfl
theorem c_ac44_23_2 : mm_acp [.ref 26, iv 0, .ref 47, iv 0, iv 16] (cW ki ln bt rl cp cs ct cv rr dr ja ea ma a1 a2 a3 a4 a5 a6 a7 a8 jb eb mb b1 b2 b3 b4 b5 b6 b7 b8 re fl g1 g2 g3 g4 g5 (dW rt la rs rg pd du ds me tt gr su gp mk rf m1 m2 m3 m4 m5 mr mf n1 n2 n3 n4 n5 nr nf E)) = some (none, (cW ki ln bt rl cp cs ct cv rr dr ja ea ma a1 a2 a3 a4 a5 a6 a7 a8 jb eb mb b1 b2 b3 b4 b5 b6 b7 b8 re fl g1 g2 g3 g4 g5 (dW rt la rs rg pd du ds me tt gr su gp mk rf m1 m2 (va_cpy g3 m3 0 0 16) m4 m5 mr mf n1 n2 n3 n4 n5 nr nf E))) := rfl
theorem c_ac44_23_3 : mm_acp [.ref 27, iv 0, .ref 48, iv 0, iv 64] (cW ki ln bt rl cp cs ct cv rr dr ja ea ma a1 a2 a3 a4 a5 a6 a7 a8 jb eb mb b1 b2 b3 b4 b5 b6 b7 b8 re fl g1 g2 g3 g4 g5 (dW rt la rs rg pd du ds me tt gr su gp mk rf m1 m2 m3 m4 m5 mr mf n1 n2 n3 n4 n5 nr nf E)) = some (none, (cW ki ln bt rl cp cs ct cv rr dr ja ea ma a1 a2 a3 a4 a5 a6 a7 a8 jb eb mb b1 b2 b3 b4 b5 b6 b7 b8 re fl g1 g2 g3 g4 g5 (dW rt la rs rg pd du ds me tt gr su gp mk rf m1 m2 m3 (va_cpy g4 m4 0 0 64) m5 mr mf n1 n2 n3 n4 n5 nr nf E))) := rfl
theorem c_ac44_23_4 : mm_acp [.ref 28, iv 0, .ref 49, iv 0, iv 8] (cW ki ln bt rl cp cs ct cv rr dr ja ea ma a1 a2 a3 a4 a5 a6 a7 a8 jb eb mb b1 b2 b3 b4 b5 b6 b7 b8 re fl g1 g2 g3 g4 g5 (dW rt la rs rg pd du ds me tt gr su gp mk rf m1 m2 m3 m4 m5 mr mf n1 n2 n3 n4 n5 nr nf E)) = some (none, (cW ki ln bt rl cp cs ct cv rr dr ja ea ma a1 a2 a3 a4 a5 a6 a7 a8 jb eb mb b1 b2 b3 b4 b5 b6 b7 b8 re fl g1 g2 g3 g4 g5 (dW rt la rs rg pd du ds me tt gr su gp mk rf m1 m2 m3 m4 (va_cpy g5 m5 0 0 8) mr mf n1 n2 n3 n4 n5 nr nf E))) := rfl
abbrev rn_X5_copyFrom (N : Nat) (c : mm_C) (Q : mm_R → Prop) : Prop := rn (mm_gf gLX5) (mm_pf pLX5) (mm_mv vX5_copyFrom) (mm_mv zX5_copyFrom) (mm_kc kLX5) mm_gs0 mm_rf0 mm_ro none 2 (mm_ins iX5_copyFrom) N c Q
theorem c_copy44_23  : sX5_copyFrom [.ref 44, .ref 23] (cW ki ln bt rl cp cs ct cv rr dr ja ea ma a1 a2 a3 a4 a5 a6 a7 a8 jb eb mb b1 b2 b3 b4 b5 b6 b7 b8 re fl g1 g2 g3 g4 g5 (dW rt la rs rg pd du ds me tt gr su gp mk rf m1 m2 m3 m4 m5 mr mf n1 n2 n3 n4 n5 nr nf E)) = some (none, (cW ki ln bt rl cp cs ct cv rr dr ja ea ma a1 a2 a3 a4 a5 a6 a7 a8 jb eb mb b1 b2 b3 b4 b5 b6 b7 b8 re fl g1 g2 g3 g4 g5 (dW rt la rs rg pd du ds me tt gr su gp mk rf (va_cpy g1 m1 0 0 10) (va_cpy g2 m2 0 0 16) (va_cpy g3 m3 0 0 16) (va_cpy g4 m4 0 0 64) (va_cpy g5 m5 0 0 8) re fl n1 n2 n3 n4 n5 nr nf E))) := by
  have main : ∀ Q : mm_R → Prop, Q (none, (cW ki ln bt rl cp cs ct cv rr dr ja ea ma a1 a2 a3 a4 a5 a6 a7 a8 jb eb mb b1 b2 b3 b4 b5 b6 b7 b8 re fl g1 g2 g3 g4 g5 (dW rt la rs rg pd du ds me tt gr su gp mk rf (va_cpy g1 m1 0 0 10) (va_cpy g2 m2 0 0 16) (va_cpy g3 m3 0 0 16) (va_cpy g4 m4 0 0 64) (va_cpy g5 m5 0 0 8) re fl n1 n2 n3 n4 n5 nr nf E))) → rn_X5_copyFrom (1000) (0, [(0, .ref 44), (1, .ref 23)], [], (cW ki ln bt rl cp cs ct cv rr dr ja ea ma a1 a2 a3 a4 a5 a6 a7 a8 jb eb mb b1 b2 b3 b4 b5 b6 b7 b8 re fl g1 g2 g3 g4 g5 (dW rt la rs rg pd du ds me tt gr su gp mk rf m1 m2 m3 m4 m5 mr mf n1 n2 n3 n4 n5 nr nf E))) Q := by
    intro Q hQ
    refine r_al rfl rfl ?_
    refine r_gf rfl rfl xg_23 rfl ?_
    refine r_ic rfl ?_
    refine r_al rfl rfl ?_
    refine r_gf rfl rfl xg_44 rfl ?_
    refine r_ic rfl ?_
    refine r_bi rfl (by decide) ?_
    refine r_s5n rfl rfl rfl c_ac44_23_0 ?_
    refine r_al rfl rfl ?_
    refine r_gf rfl rfl xg_23 rfl ?_
    refine r_ic rfl ?_
    refine r_al rfl rfl ?_
    refine r_gf rfl rfl xg_44 rfl ?_
    refine r_ic rfl ?_
    refine r_bi rfl (by decide) ?_
    refine r_s5n rfl rfl rfl c_ac44_23_1 ?_
    refine r_al rfl rfl ?_
    refine r_gf rfl rfl xg_23 rfl ?_
    refine r_ic rfl ?_
    refine r_al rfl rfl ?_
    refine r_gf rfl rfl xg_44 rfl ?_
    refine r_ic rfl ?_
    refine r_bi rfl (by decide) ?_
    refine r_s5n rfl rfl rfl c_ac44_23_2 ?_
    refine r_al rfl rfl ?_
    refine r_gf rfl rfl xg_23 rfl ?_
    refine r_ic rfl ?_
    refine r_al rfl rfl ?_
    refine r_gf rfl rfl xg_44 rfl ?_
    refine r_ic rfl ?_
    refine r_bi rfl (by decide) ?_
    refine r_s5n rfl rfl rfl c_ac44_23_3 ?_
    refine r_al rfl rfl ?_
    refine r_gf rfl rfl xg_23 rfl ?_
    refine r_ic rfl ?_
    refine r_al rfl rfl ?_
    refine r_gf rfl rfl xg_44 rfl ?_
    refine r_ic rfl ?_
    refine r_bi rfl (by decide) ?_
    refine r_s5n rfl rfl rfl c_ac44_23_4 ?_
    refine r_al rfl rfl ?_
    refine r_al rfl rfl ?_
    refine r_gf rfl rfl xg_23 rfl ?_
    refine r_pf rfl rfl xg_44 rfl xp_mr ?_
    refine r_al rfl rfl ?_
    refine r_al rfl rfl ?_
    refine r_gf rfl rfl xg_23 rfl ?_
    refine r_pf rfl rfl xg_44 rfl xp_mf ?_
    exact r_retv rfl rfl hQ
  obtain ⟨r, h1, h2⟩ := rn_S (vs := [.ref 44, .ref 23]) (Q := fun r => r = (none, (cW ki ln bt rl cp cs ct cv rr dr ja ea ma a1 a2 a3 a4 a5 a6 a7 a8 jb eb mb b1 b2 b3 b4 b5 b6 b7 b8 re fl g1 g2 g3 g4 g5 (dW rt la rs rg pd du ds me tt gr su gp mk rf (va_cpy g1 m1 0 0 10) (va_cpy g2 m2 0 0 16) (va_cpy g3 m3 0 0 16) (va_cpy g4 m4 0 0 64) (va_cpy g5 m5 0 0 8) re fl n1 n2 n3 n4 n5 nr nf E)))) rfl (rn_up (N := 1000) (M := mm_fuel) (by decide) (main (fun r => r = (none, (cW ki ln bt rl cp cs ct cv rr dr ja ea ma a1 a2 a3 a4 a5 a6 a7 a8 jb eb mb b1 b2 b3 b4 b5 b6 b7 b8 re fl g1 g2 g3 g4 g5 (dW rt la rs rg pd du ds me tt gr su gp mk rf (va_cpy g1 m1 0 0 10) (va_cpy g2 m2 0 0 16) (va_cpy g3 m3 0 0 16) (va_cpy g4 m4 0 0 64) (va_cpy g5 m5 0 0 8) re fl n1 n2 n3 n4 n5 nr nf E)))) rfl))
  have h1 : sX5_copyFrom [.ref 44, .ref 23] (cW ki ln bt rl cp cs ct cv rr dr ja ea ma a1 a2 a3 a4 a5 a6 a7 a8 jb eb mb b1 b2 b3 b4 b5 b6 b7 b8 re fl g1 g2 g3 g4 g5 (dW rt la rs rg pd du ds me tt gr su gp mk rf m1 m2 m3 m4 m5 mr mf n1 n2 n3 n4 n5 nr nf E)) = some r := h1
  rw [h1, h2]
theorem c_ac50_23_0 : mm_acp [.ref 24, iv 0, .ref 51, iv 0, iv 10] (cW ki ln bt rl cp cs ct cv rr dr ja ea ma a1 a2 a3 a4 a5 a6 a7 a8 jb eb mb b1 b2 b3 b4 b5 b6 b7 b8 re fl g1 g2 g3 g4 g5 (dW rt la rs rg pd du ds me tt gr su gp mk rf m1 m2 m3 m4 m5 mr mf n1 n2 n3 n4 n5 nr nf E)) = some (none, (cW ki ln bt rl cp cs ct cv rr dr ja ea ma a1 a2 a3 a4 a5 a6 a7 a8 jb eb mb b1 b2 b3 b4 b5 b6 b7 b8 re fl g1 g2 g3 g4 g5 (dW rt la rs rg pd du ds me tt gr su gp mk rf m1 m2 m3 m4 m5 mr mf (va_cpy g1 n1 0 0 10) n2 n3 n4 n5 nr nf E))) := rfl
theorem c_ac50_23_1 : mm_acp [.ref 25, iv 0, .ref 52, iv 0, iv 16] (cW ki ln bt rl cp cs ct cv rr dr ja ea ma a1 a2 a3 a4 a5 a6 a7 a8 jb eb mb b1 b2 b3 b4 b5 b6 b7 b8 re fl g1 g2 g3 g4 g5 (dW rt la rs rg pd du ds me tt gr su gp mk rf m1 m2 m3 m4 m5 mr mf n1 n2 n3 n4 n5 nr nf E)) = some (none, (cW ki ln bt rl cp cs ct cv rr dr ja ea ma a1 a2 a3 a4 a5 a6 a7 a8 jb eb mb b1 b2 b3 b4 b5 b6 b7 b8 re fl g1 g2 g3 g4 g5 (dW rt la rs rg pd du ds me tt gr su gp mk rf m1 m2 m3 m4 m5 mr mf n1 (va_cpy g2 n2 0 0 16) n3 n4 n5 nr nf E))) := rfl
theorem c_ac50_23_2 : mm_acp [.ref 26, iv 0, .ref 53, iv 0, iv 16] (cW ki ln bt rl cp cs ct cv rr dr ja ea ma a1 a2 a3 a4 a5 a6 a7 a8 jb eb mb b1 b2 b3 b4 b5 b6 b7 b8 re fl g1 g2 g3 g4 g5 (dW rt la rs rg pd du ds me tt gr su gp mk rf m1 m2 m3 m4 m5 mr mf n1 n2 n3 n4 n5 nr nf E)) = some (none, (cW ki ln bt rl cp cs ct cv rr dr ja ea ma a1 a2 a3 a4 a5 a6 a7 a8 jb eb mb b1 b2 b3 b4 b5 b6 b7 b8 re fl g1 g2 g3 g4 g5 (dW rt la rs rg pd du ds me tt gr su gp mk rf m1 m2 m3 m4 m5 mr mf n1 n2 (va_cpy g3 n3 0 0 16) n4 n5 nr nf E))) := rfl
theorem c_ac50_23_3 : mm_acp [.ref 27, iv 0, .ref 54, iv 0, iv 64] (cW ki ln bt rl cp cs ct cv rr dr ja ea ma a1 a2 a3 a4 a5 a6 a7 a8 jb eb mb b1 b2 b3 b4 b5 b6 b7 b8 re fl g1 g2 g3 g4 g5 (dW rt la rs rg pd du ds me tt gr su gp mk rf m1 m2 m3 m4 m5 mr mf n1 n2 n3 n4 n5 nr nf E)) = some (none, (cW ki ln bt rl cp cs ct cv rr dr ja ea ma a1 a2 a3 a4 a5 a6 a7 a8 jb eb mb b1 b2 b3 b4 b5 b6 b7 b8 re fl g1 g2 g3 g4 g5 (dW rt la rs rg pd du ds me tt gr su gp mk rf m1 m2 m3 m4 m5 mr mf n1 n2 n3 (va_cpy g4 n4 0 0 64) n5 nr nf E))) := rfl
theorem c_ac50_23_4 : mm_acp [.ref 28, iv 0, .ref 55, iv 0, iv 8] (cW ki ln bt rl cp cs ct cv rr dr ja ea ma a1 a2 a3 a4 a5 a6 a7 a8 jb eb mb b1 b2 b3 b4 b5 b6 b7 b8 re fl g1 g2 g3 g4 g5 (dW rt la rs rg pd du ds me tt gr su gp mk rf m1 m2 m3 m4 m5 mr mf n1 n2 n3 n4 n5 nr nf E)) = some (none, (cW ki ln bt rl cp cs ct cv rr dr ja ea ma a1 a2 a3 a4 a5 a6 a7 a8 jb eb mb b1 b2 b3 b4 b5 b6 b7 b8 re fl g1 g2 g3 g4 g5 (dW rt la rs rg pd du ds me tt gr su gp mk rf m1 m2 m3 m4 m5 mr mf n1 n2 n3 n4 (va_cpy g5 n5 0 0 8) nr nf E))) := rfl
theorem c_copy50_23  : sX5_copyFrom [.ref 50, .ref 23] (cW ki ln bt rl cp cs ct cv rr dr ja ea ma a1 a2 a3 a4 a5 a6 a7 a8 jb eb mb b1 b2 b3 b4 b5 b6 b7 b8 re fl g1 g2 g3 g4 g5 (dW rt la rs rg pd du ds me tt gr su gp mk rf m1 m2 m3 m4 m5 mr mf n1 n2 n3 n4 n5 nr nf E)) = some (none, (cW ki ln bt rl cp cs ct cv rr dr ja ea ma a1 a2 a3 a4 a5 a6 a7 a8 jb eb mb b1 b2 b3 b4 b5 b6 b7 b8 re fl g1 g2 g3 g4 g5 (dW rt la rs rg pd du ds me tt gr su gp mk rf m1 m2 m3 m4 m5 mr mf (va_cpy g1 n1 0 0 10) (va_cpy g2 n2 0 0 16) (va_cpy g3 n3 0 0 16) (va_cpy g4 n4 0 0 64) (va_cpy g5 n5 0 0 8) re fl E))) := by
  have main : ∀ Q : mm_R → Prop, Q (none, (cW ki ln bt rl cp cs ct cv rr dr ja ea ma a1 a2 a3 a4 a5 a6 a7 a8 jb eb mb b1 b2 b3 b4 b5 b6 b7 b8 re fl g1 g2 g3 g4 g5 (dW rt la rs rg pd du ds me tt gr su gp mk rf m1 m2 m3 m4 m5 mr mf (va_cpy g1 n1 0 0 10) (va_cpy g2 n2 0 0 16) (va_cpy g3 n3 0 0 16) (va_cpy g4 n4 0 0 64) (va_cpy g5 n5 0 0 8) re fl E))) → rn_X5_copyFrom (1000) (0, [(0, .ref 50), (1, .ref 23)], [], (cW ki ln bt rl cp cs ct cv rr dr ja ea ma a1 a2 a3 a4 a5 a6 a7 a8 jb eb mb b1 b2 b3 b4 b5 b6 b7 b8 re fl g1 g2 g3 g4 g5 (dW rt la rs rg pd du ds me tt gr su gp mk rf m1 m2 m3 m4 m5 mr mf n1 n2 n3 n4 n5 nr nf E))) Q := by
    intro Q hQ
    refine r_al rfl rfl ?_
    refine r_gf rfl rfl xg_23 rfl ?_
    refine r_ic rfl ?_
    refine r_al rfl rfl ?_
    refine r_gf rfl rfl xg_50 rfl ?_
    refine r_ic rfl ?_
    refine r_bi rfl (by decide) ?_
    refine r_s5n rfl rfl rfl c_ac50_23_0 ?_
    refine r_al rfl rfl ?_
    refine r_gf rfl rfl xg_23 rfl ?_
    refine r_ic rfl ?_
    refine r_al rfl rfl ?_
    refine r_gf rfl rfl xg_50 rfl ?_
    refine r_ic rfl ?_
    refine r_bi rfl (by decide) ?_
    refine r_s5n rfl rfl rfl c_ac50_23_1 ?_
    refine r_al rfl rfl ?_
    refine r_gf rfl rfl xg_23 rfl ?_
    refine r_ic rfl ?_
    refine r_al rfl rfl ?_
    refine r_gf rfl rfl xg_50 rfl ?_
    refine r_ic rfl ?_
    refine r_bi rfl (by decide) ?_
    refine r_s5n rfl rfl rfl c_ac50_23_2 ?_
    refine r_al rfl rfl ?_
    refine r_gf rfl rfl xg_23 rfl ?_
    refine r_ic rfl ?_
    refine r_al rfl rfl ?_
    refine r_gf rfl rfl xg_50 rfl ?_
    refine r_ic rfl ?_
    refine r_bi rfl (by decide) ?_
    refine r_s5n rfl rfl rfl c_ac50_23_3 ?_
    refine r_al rfl rfl ?_
    refine r_gf rfl rfl xg_23 rfl ?_
    refine r_ic rfl ?_
    refine r_al rfl rfl ?_
    refine r_gf rfl rfl xg_50 rfl ?_
    refine r_ic rfl ?_
    refine r_bi rfl (by decide) ?_
    refine r_s5n rfl rfl rfl c_ac50_23_4 ?_
    refine r_al rfl rfl ?_
    refine r_al rfl rfl ?_
    refine r_gf rfl rfl xg_23 rfl ?_
    refine r_pf rfl rfl xg_50 rfl xp_nr ?_
    refine r_al rfl rfl ?_
    refine r_al rfl rfl ?_
    refine r_gf rfl rfl xg_23 rfl ?_
    refine r_pf rfl rfl xg_50 rfl xp_nf ?_
    exact r_retv rfl rfl hQ
  obtain ⟨r, h1, h2⟩ := rn_S (vs := [.ref 50, .ref 23]) (Q := fun r => r = (none, (cW ki ln bt rl cp cs ct cv rr dr ja ea ma a1 a2 a3 a4 a5 a6 a7 a8 jb eb mb b1 b2 b3 b4 b5 b6 b7 b8 re fl g1 g2 g3 g4 g5 (dW rt la rs rg pd du ds me tt gr su gp mk rf m1 m2 m3 m4 m5 mr mf (va_cpy g1 n1 0 0 10) (va_cpy g2 n2 0 0 16) (va_cpy g3 n3 0 0 16) (va_cpy g4 n4 0 0 64) (va_cpy g5 n5 0 0 8) re fl E)))) rfl (rn_up (N := 1000) (M := mm_fuel) (by decide) (main (fun r => r = (none, (cW ki ln bt rl cp cs ct cv rr dr ja ea ma a1 a2 a3 a4 a5 a6 a7 a8 jb eb mb b1 b2 b3 b4 b5 b6 b7 b8 re fl g1 g2 g3 g4 g5 (dW rt la rs rg pd du ds me tt gr su gp mk rf m1 m2 m3 m4 m5 mr mf (va_cpy g1 n1 0 0 10) (va_cpy g2 n2 0 0 16) (va_cpy g3 n3 0 0 16) (va_cpy g4 n4 0 0 64) (va_cpy g5 n5 0 0 8) re fl E)))) rfl))
  have h1 : sX5_copyFrom [.ref 50, .ref 23] (cW ki ln bt rl cp cs ct cv rr dr ja ea ma a1 a2 a3 a4 a5 a6 a7 a8 jb eb mb b1 b2 b3 b4 b5 b6 b7 b8 re fl g1 g2 g3 g4 g5 (dW rt la rs rg pd du ds me tt gr su gp mk rf m1 m2 m3 m4 m5 mr mf n1 n2 n3 n4 n5 nr nf E)) = some r := h1
  rw [h1, h2]
theorem c_ac23_44_0 : mm_acp [.ref 45, iv 0, .ref 24, iv 0, iv 10] (cW ki ln bt rl cp cs ct cv rr dr ja ea ma a1 a2 a3 a4 a5 a6 a7 a8 jb eb mb b1 b2 b3 b4 b5 b6 b7 b8 re fl g1 g2 g3 g4 g5 (dW rt la rs rg pd du ds me tt gr su gp mk rf m1 m2 m3 m4 m5 mr mf n1 n2 n3 n4 n5 nr nf E)) = some (none, (cW ki ln bt rl cp cs ct cv rr dr ja ea ma a1 a2 a3 a4 a5 a6 a7 a8 jb eb mb b1 b2 b3 b4 b5 b6 b7 b8 re fl (va_cpy m1 g1 0 0 10) g2 g3 g4 g5 (dW rt la rs rg pd du ds me tt gr su gp mk rf m1 m2 m3 m4 m5 mr mf n1 n2 n3 n4 n5 nr nf E))) := rfl
theorem c_ac23_44_1 : mm_acp [.ref 46, iv 0, .ref 25, iv 0, iv 16] (cW ki ln bt rl cp cs ct cv rr dr ja ea ma a1 a2 a3 a4 a5 a6 a7 a8 jb eb mb b1 b2 b3 b4 b5 b6 b7 b8 re fl g1 g2 g3 g4 g5 (dW rt la rs rg pd du ds me tt gr su gp mk rf m1 m2 m3 m4 m5 mr mf n1 n2 n3 n4 n5 nr nf E)) = some (none, (cW ki ln bt rl cp cs ct cv rr dr ja ea ma a1 a2 a3 a4 a5 a6 a7 a8 jb eb mb b1 b2 b3 b4 b5 b6 b7 b8 re fl g1 (va_cpy m2 g2 0 0 16) g3 g4 g5 (dW rt la rs rg pd du ds me tt gr su gp mk rf m1 m2 m3 m4 m5 mr mf n1 n2 n3 n4 n5 nr nf E))) := rfl
theorem c_ac23_44_2 : mm_acp [.ref 47, iv 0, .ref 26, iv 0, iv 16] (cW ki ln bt rl cp cs ct cv rr dr ja ea ma a1 a2 a3 a4 a5 a6 a7 a8 jb eb mb b1 b2 b3 b4 b5 b6 b7 b8 re fl g1 g2 g3 g4 g5 (dW rt la rs rg pd du ds me tt gr su gp mk rf m1 m2 m3 m4 m5 mr mf n1 n2 n3 n4 n5 nr nf E)) = some (none, (cW ki ln bt rl cp cs ct cv rr dr ja ea ma a1 a2 a3 a4 a5 a6 a7 a8 jb eb mb b1 b2 b3 b4 b5 b6 b7 b8 re fl g1 g2 (va_cpy m3 g3 0 0 16) g4 g5 (dW rt la rs rg pd du ds me tt gr su gp mk rf m1 m2 m3 m4 m5 mr mf n1 n2 n3 n4 n5 nr nf E))) := rfl
theorem c_ac23_44_3 : mm_acp [.ref 48, iv 0, .ref 27, iv 0, iv 64] (cW ki ln bt rl cp cs ct cv rr dr ja ea ma a1 a2 a3 a4 a5 a6 a7 a8 jb eb mb b1 b2 b3 b4 b5 b6 b7 b8 re fl g1 g2 g3 g4 g5 (dW rt la rs rg pd du ds me tt gr su gp mk rf m1 m2 m3 m4 m5 mr mf n1 n2 n3 n4 n5 nr nf E)) = some (none, (cW ki ln bt rl cp cs ct cv rr dr ja ea ma a1 a2 a3 a4 a5 a6 a7 a8 jb eb mb b1 b2 b3 b4 b5 b6 b7 b8 re fl g1 g2 g3 (va_cpy m4 g4 0 0 64) g5 (dW rt la rs rg pd du ds me tt gr su gp mk rf m1 m2 m3 m4 m5 mr mf n1 n2 n3 n4 n5 nr nf E))) := rfl
theorem c_ac23_44_4 : mm_acp [.ref 49, iv 0, .ref 28, iv 0, iv 8] (cW ki ln bt rl cp cs ct cv rr dr ja ea ma a1 a2 a3 a4 a5 a6 a7 a8 jb eb mb b1 b2 b3 b4 b5 b6 b7 b8 re fl g1 g2 g3 g4 g5 (dW rt la rs rg pd du ds me tt gr su gp mk rf m1 m2 m3 m4 m5 mr mf n1 n2 n3 n4 n5 nr nf E)) = some (none, (cW ki ln bt rl cp cs ct cv rr dr ja ea ma a1 a2 a3 a4 a5 a6 a7 a8 jb eb mb b1 b2 b3 b4 b5 b6 b7 b8 re fl g1 g2 g3 g4 (va_cpy m5 g5 0 0 8) (dW rt la rs rg pd du ds me tt gr su gp mk rf m1 m2 m3 m4 m5 mr mf n1 n2 n3 n4 n5 nr nf E))) := rfl
theorem c_copy23_44  : sX5_copyFrom [.ref 23, .ref 44] (cW ki ln bt rl cp cs ct cv rr dr ja ea ma a1 a2 a3 a4 a5 a6 a7 a8 jb eb mb b1 b2 b3 b4 b5 b6 b7 b8 re fl g1 g2 g3 g4 g5 (dW rt la rs rg pd du ds me tt gr su gp mk rf m1 m2 m3 m4 m5 mr mf n1 n2 n3 n4 n5 nr nf E)) = some (none, (cW ki ln bt rl cp cs ct cv rr dr ja ea ma a1 a2 a3 a4 a5 a6 a7 a8 jb eb mb b1 b2 b3 b4 b5 b6 b7 b8 mr mf (va_cpy m1 g1 0 0 10) (va_cpy m2 g2 0 0 16) (va_cpy m3 g3 0 0 16) (va_cpy m4 g4 0 0 64) (va_cpy m5 g5 0 0 8) (dW rt la rs rg pd du ds me tt gr su gp mk rf m1 m2 m3 m4 m5 mr mf n1 n2 n3 n4 n5 nr nf E))) := by
  have main : ∀ Q : mm_R → Prop, Q (none, (cW ki ln bt rl cp cs ct cv rr dr ja ea ma a1 a2 a3 a4 a5 a6 a7 a8 jb eb mb b1 b2 b3 b4 b5 b6 b7 b8 mr mf (va_cpy m1 g1 0 0 10) (va_cpy m2 g2 0 0 16) (va_cpy m3 g3 0 0 16) (va_cpy m4 g4 0 0 64) (va_cpy m5 g5 0 0 8) (dW rt la rs rg pd du ds me tt gr su gp mk rf m1 m2 m3 m4 m5 mr mf n1 n2 n3 n4 n5 nr nf E))) → rn_X5_copyFrom (1000) (0, [(0, .ref 23), (1, .ref 44)], [], (cW ki ln bt rl cp cs ct cv rr dr ja ea ma a1 a2 a3 a4 a5 a6 a7 a8 jb eb mb b1 b2 b3 b4 b5 b6 b7 b8 re fl g1 g2 g3 g4 g5 (dW rt la rs rg pd du ds me tt gr su gp mk rf m1 m2 m3 m4 m5 mr mf n1 n2 n3 n4 n5 nr nf E))) Q := by
    intro Q hQ
    refine r_al rfl rfl ?_
    refine r_gf rfl rfl xg_44 rfl ?_
    refine r_ic rfl ?_
    refine r_al rfl rfl ?_
    refine r_gf rfl rfl xg_23 rfl ?_
    refine r_ic rfl ?_
    refine r_bi rfl (by decide) ?_
    refine r_s5n rfl rfl rfl c_ac23_44_0 ?_
    refine r_al rfl rfl ?_
    refine r_gf rfl rfl xg_44 rfl ?_
    refine r_ic rfl ?_
    refine r_al rfl rfl ?_
    refine r_gf rfl rfl xg_23 rfl ?_
    refine r_ic rfl ?_
    refine r_bi rfl (by decide) ?_
    refine r_s5n rfl rfl rfl c_ac23_44_1 ?_
    refine r_al rfl rfl ?_
    refine r_gf rfl rfl xg_44 rfl ?_
    refine r_ic rfl ?_
    refine r_al rfl rfl ?_
    refine r_gf rfl rfl xg_23 rfl ?_
    refine r_ic rfl ?_
    refine r_bi rfl (by decide) ?_
    refine r_s5n rfl rfl rfl c_ac23_44_2 ?_
    refine r_al rfl rfl ?_
    refine r_gf rfl rfl xg_44 rfl ?_
    refine r_ic rfl ?_
    refine r_al rfl rfl ?_
    refine r_gf rfl rfl xg_23 rfl ?_
    refine r_ic rfl ?_
    refine r_bi rfl (by decide) ?_
    refine r_s5n rfl rfl rfl c_ac23_44_3 ?_
    refine r_al rfl rfl ?_
    refine r_gf rfl rfl xg_44 rfl ?_
    refine r_ic rfl ?_
    refine r_al rfl rfl ?_
    refine r_gf rfl rfl xg_23 rfl ?_
    refine r_ic rfl ?_
    refine r_bi rfl (by decide) ?_
    refine r_s5n rfl rfl rfl c_ac23_44_4 ?_
    refine r_al rfl rfl ?_
    refine r_al rfl rfl ?_
    refine r_gf rfl rfl xg_44 rfl ?_
    refine r_pf rfl rfl xg_23 rfl xp_re ?_
    refine r_al rfl rfl ?_
    refine r_al rfl rfl ?_
    refine r_gf rfl rfl xg_44 rfl ?_
    refine r_pf rfl rfl xg_23 rfl xp_fl ?_
    exact r_retv rfl rfl hQ
  obtain ⟨r, h1, h2⟩ := rn_S (vs := [.ref 23, .ref 44]) (Q := fun r => r = (none, (cW ki ln bt rl cp cs ct cv rr dr ja ea ma a1 a2 a3 a4 a5 a6 a7 a8 jb eb mb b1 b2 b3 b4 b5 b6 b7 b8 mr mf (va_cpy m1 g1 0 0 10) (va_cpy m2 g2 0 0 16) (va_cpy m3 g3 0 0 16) (va_cpy m4 g4 0 0 64) (va_cpy m5 g5 0 0 8) (dW rt la rs rg pd du ds me tt gr su gp mk rf m1 m2 m3 m4 m5 mr mf n1 n2 n3 n4 n5 nr nf E)))) rfl (rn_up (N := 1000) (M := mm_fuel) (by decide) (main (fun r => r = (none, (cW ki ln bt rl cp cs ct cv rr dr ja ea ma a1 a2 a3 a4 a5 a6 a7 a8 jb eb mb b1 b2 b3 b4 b5 b6 b7 b8 mr mf (va_cpy m1 g1 0 0 10) (va_cpy m2 g2 0 0 16) (va_cpy m3 g3 0 0 16) (va_cpy m4 g4 0 0 64) (va_cpy m5 g5 0 0 8) (dW rt la rs rg pd du ds me tt gr su gp mk rf m1 m2 m3 m4 m5 mr mf n1 n2 n3 n4 n5 nr nf E)))) rfl))
  have h1 : sX5_copyFrom [.ref 23, .ref 44] (cW ki ln bt rl cp cs ct cv rr dr ja ea ma a1 a2 a3 a4 a5 a6 a7 a8 jb eb mb b1 b2 b3 b4 b5 b6 b7 b8 re fl g1 g2 g3 g4 g5 (dW rt la rs rg pd du ds me tt gr su gp mk rf m1 m2 m3 m4 m5 mr mf n1 n2 n3 n4 n5 nr nf E)) = some r := h1
  rw [h1, h2]
theorem c_ac23_50_0 : mm_acp [.ref 51, iv 0, .ref 24, iv 0, iv 10] (cW ki ln bt rl cp cs ct cv rr dr ja ea ma a1 a2 a3 a4 a5 a6 a7 a8 jb eb mb b1 b2 b3 b4 b5 b6 b7 b8 re fl g1 g2 g3 g4 g5 (dW rt la rs rg pd du ds me tt gr su gp mk rf m1 m2 m3 m4 m5 mr mf n1 n2 n3 n4 n5 nr nf E)) = some (none, (cW ki ln bt rl cp cs ct cv rr dr ja ea ma a1 a2 a3 a4 a5 a6 a7 a8 jb eb mb b1 b2 b3 b4 b5 b6 b7 b8 re fl (va_cpy n1 g1 0 0 10) g2 g3 g4 g5 (dW rt la rs rg pd du ds me tt gr su gp mk rf m1 m2 m3 m4 m5 mr mf n1 n2 n3 n4 n5 nr nf E))) := rfl
theorem c_ac23_50_1 : mm_acp [.ref 52, iv 0, .ref 25, iv 0, iv 16] (cW ki ln bt rl cp cs ct cv rr dr ja ea ma a1 a2 a3 a4 a5 a6 a7 a8 jb eb mb b1 b2 b3 b4 b5 b6 b7 b8 re fl g1 g2 g3 g4 g5 (dW rt la rs rg pd du ds me tt gr su gp mk rf m1 m2 m3 m4 m5 mr mf n1 n2 n3 n4 n5 nr nf E)) = some (none, (cW ki ln bt rl cp cs ct cv rr dr ja ea ma a1 a2 a3 a4 a5 a6 a7 a8 jb eb mb b1 b2 b3 b4 b5 b6 b7 b8 re fl g1 (va_cpy n2 g2 0 0 16) g3 g4 g5 (dW rt la rs rg pd du ds me tt gr su gp mk rf m1 m2 m3 m4 m5 mr mf n1 n2 n3 n4 n5 nr nf E))) := rfl
theorem c_ac23_50_2 : mm_acp [.ref 53, iv 0, .ref 26, iv 0, iv 16] (cW ki ln bt rl cp cs ct cv rr dr ja ea ma a1 a2 a3 a4 a5 a6 a7 a8 jb eb mb b1 b2 b3 b4 b5 b6 b7 b8 re fl g1 g2 g3 g4 g5 (dW rt la rs rg pd du ds me tt gr su gp mk rf m1 m2 m3 m4 m5 mr mf n1 n2 n3 n4 n5 nr nf E)) = some (none, (cW ki ln bt rl cp cs ct cv rr dr ja ea ma a1 a2 a3 a4 a5 a6 a7 a8 jb eb mb b1 b2 b3 b4 b5 b6 b7 b8 re fl g1 g2 (va_cpy n3 g3 0 0 16) g4 g5 (dW rt la rs rg pd du ds me tt gr su gp mk rf m1 m2 m3 m4 m5 mr mf n1 n2 n3 n4 n5 nr nf E))) := rfl
theorem c_ac23_50_3 : mm_acp [.ref 54, iv 0, .ref 27, iv 0, iv 64] (cW ki ln bt rl cp cs ct cv rr dr ja ea ma a1 a2 a3 a4 a5 a6 a7 a8 jb eb mb b1 b2 b3 b4 b5 b6 b7 b8 re fl g1 g2 g3 g4 g5 (dW rt la rs rg pd du ds me tt gr su gp mk rf m1 m2 m3 m4 m5 mr mf n1 n2 n3 n4 n5 nr nf E)) = some (none, (cW ki ln bt rl cp cs ct cv rr dr ja ea ma a1 a2 a3 a4 a5 a6 a7 a8 jb eb mb b1 b2 b3 b4 b5 b6 b7 b8 re fl g1 g2 g3 (va_cpy n4 g4 0 0 64) g5 (dW rt la rs rg pd du ds me tt gr su gp mk rf m1 m2 m3 m4 m5 mr mf n1 n2 n3 n4 n5 nr nf E))) := rfl
theorem c_ac23_50_4 : mm_acp [.ref 55, iv 0, .ref 28, iv 0, iv 8] (cW ki ln bt rl cp cs ct cv rr dr ja ea ma a1 a2 a3 a4 a5 a6 a7 a8 jb eb mb b1 b2 b3 b4 b5 b6 b7 b8 re fl g1 g2 g3 g4 g5 (dW rt la rs rg pd du ds me tt gr su gp mk rf m1 m2 m3 m4 m5 mr mf n1 n2 n3 n4 n5 nr nf E)) = some (none, (cW ki ln bt rl cp cs ct cv rr dr ja ea ma a1 a2 a3 a4 a5 a6 a7 a8 jb eb mb b1 b2 b3 b4 b5 b6 b7 b8 re fl g1 g2 g3 g4 (va_cpy n5 g5 0 0 8) (dW rt la rs rg pd du ds me tt gr su gp mk rf m1 m2 m3 m4 m5 mr mf n1 n2 n3 n4 n5 nr nf E))) := rfl
theorem c_copy23_50  : sX5_copyFrom [.ref 23, .ref 50] (cW ki ln bt rl cp cs ct cv rr dr ja ea ma a1 a2 a3 a4 a5 a6 a7 a8 jb eb mb b1 b2 b3 b4 b5 b6 b7 b8 re fl g1 g2 g3 g4 g5 (dW rt la rs rg pd du ds me tt gr su gp mk rf m1 m2 m3 m4 m5 mr mf n1 n2 n3 n4 n5 nr nf E)) = some (none, (cW ki ln bt rl cp cs ct cv rr dr ja ea ma a1 a2 a3 a4 a5 a6 a7 a8 jb eb mb b1 b2 b3 b4 b5 b6 b7 b8 nr nf (va_cpy n1 g1 0 0 10) (va_cpy n2 g2 0 0 16) (va_cpy n3 g3 0 0 16) (va_cpy n4 g4 0 0 64) (va_cpy n5 g5 0 0 8) (dW rt la rs rg pd du ds me tt gr su gp mk rf m1 m2 m3 m4 m5 mr mf n1 n2 n3 n4 n5 nr nf E))) := by
  have main : ∀ Q : mm_R → Prop, Q (none, (cW ki ln bt rl cp cs ct cv rr dr ja ea ma a1 a2 a3 a4 a5 a6 a7 a8 jb eb mb b1 b2 b3 b4 b5 b6 b7 b8 nr nf (va_cpy n1 g1 0 0 10) (va_cpy n2 g2 0 0 16) (va_cpy n3 g3 0 0 16) (va_cpy n4 g4 0 0 64) (va_cpy n5 g5 0 0 8) (dW rt la rs rg pd du ds me tt gr su gp mk rf m1 m2 m3 m4 m5 mr mf n1 n2 n3 n4 n5 nr nf E))) → rn_X5_copyFrom (1000) (0, [(0, .ref 23), (1, .ref 50)], [], (cW ki ln bt rl cp cs ct cv rr dr ja ea ma a1 a2 a3 a4 a5 a6 a7 a8 jb eb mb b1 b2 b3 b4 b5 b6 b7 b8 re fl g1 g2 g3 g4 g5 (dW rt la rs rg pd du ds me tt gr su gp mk rf m1 m2 m3 m4 m5 mr mf n1 n2 n3 n4 n5 nr nf E))) Q := by
    intro Q hQ
    refine r_al rfl rfl ?_
    refine r_gf rfl rfl xg_50 rfl ?_
    refine r_ic rfl ?_
    refine r_al rfl rfl ?_
    refine r_gf rfl rfl xg_23 rfl ?_
    refine r_ic rfl ?_
    refine r_bi rfl (by decide) ?_
    refine r_s5n rfl rfl rfl c_ac23_50_0 ?_
    refine r_al rfl rfl ?_
    refine r_gf rfl rfl xg_50 rfl ?_
    refine r_ic rfl ?_
    refine r_al rfl rfl ?_
    refine r_gf rfl rfl xg_23 rfl ?_
    refine r_ic rfl ?_
    refine r_bi rfl (by decide) ?_
    refine r_s5n rfl rfl rfl c_ac23_50_1 ?_
    refine r_al rfl rfl ?_
    refine r_gf rfl rfl xg_50 rfl ?_
    refine r_ic rfl ?_
    refine r_al rfl rfl ?_
    refine r_gf rfl rfl xg_23 rfl ?_
    refine r_ic rfl ?_
    refine r_bi rfl (by decide) ?_
    refine r_s5n rfl rfl rfl c_ac23_50_2 ?_
    refine r_al rfl rfl ?_
    refine r_gf rfl rfl xg_50 rfl ?_
    refine r_ic rfl ?_
    refine r_al rfl rfl ?_
    refine r_gf rfl rfl xg_23 rfl ?_
    refine r_ic rfl ?_
    refine r_bi rfl (by decide) ?_
    refine r_s5n rfl rfl rfl c_ac23_50_3 ?_
    refine r_al rfl rfl ?_
    refine r_gf rfl rfl xg_50 rfl ?_
    refine r_ic rfl ?_
    refine r_al rfl rfl ?_
    refine r_gf rfl rfl xg_23 rfl ?_
    refine r_ic rfl ?_
    refine r_bi rfl (by decide) ?_
    refine r_s5n rfl rfl rfl c_ac23_50_4 ?_
    refine r_al rfl rfl ?_
    refine r_al rfl rfl ?_
    refine r_gf rfl rfl xg_50 rfl ?_
    refine r_pf rfl rfl xg_23 rfl xp_re ?_
    refine r_al rfl rfl ?_
    refine r_al rfl rfl ?_
    refine r_gf rfl rfl xg_50 rfl ?_
    refine r_pf rfl rfl xg_23 rfl xp_fl ?_
    exact r_retv rfl rfl hQ
  obtain ⟨r, h1, h2⟩ := rn_S (vs := [.ref 23, .ref 50]) (Q := fun r => r = (none, (cW ki ln bt rl cp cs ct cv rr dr ja ea ma a1 a2 a3 a4 a5 a6 a7 a8 jb eb mb b1 b2 b3 b4 b5 b6 b7 b8 nr nf (va_cpy n1 g1 0 0 10) (va_cpy n2 g2 0 0 16) (va_cpy n3 g3 0 0 16) (va_cpy n4 g4 0 0 64) (va_cpy n5 g5 0 0 8) (dW rt la rs rg pd du ds me tt gr su gp mk rf m1 m2 m3 m4 m5 mr mf n1 n2 n3 n4 n5 nr nf E)))) rfl (rn_up (N := 1000) (M := mm_fuel) (by decide) (main (fun r => r = (none, (cW ki ln bt rl cp cs ct cv rr dr ja ea ma a1 a2 a3 a4 a5 a6 a7 a8 jb eb mb b1 b2 b3 b4 b5 b6 b7 b8 nr nf (va_cpy n1 g1 0 0 10) (va_cpy n2 g2 0 0 16) (va_cpy n3 g3 0 0 16) (va_cpy n4 g4 0 0 64) (va_cpy n5 g5 0 0 8) (dW rt la rs rg pd du ds me tt gr su gp mk rf m1 m2 m3 m4 m5 mr mf n1 n2 n3 n4 n5 nr nf E)))) rfl))
  have h1 : sX5_copyFrom [.ref 23, .ref 50] (cW ki ln bt rl cp cs ct cv rr dr ja ea ma a1 a2 a3 a4 a5 a6 a7 a8 jb eb mb b1 b2 b3 b4 b5 b6 b7 b8 re fl g1 g2 g3 g4 g5 (dW rt la rs rg pd du ds me tt gr su gp mk rf m1 m2 m3 m4 m5 mr mf n1 n2 n3 n4 n5 nr nf E)) = some r := h1
  rw [h1, h2]
abbrev rn_X5_coinsOfAll (N : Nat) (c : mm_C) (Q : mm_R → Prop) : Prop := rn (mm_gf gLX5) (mm_pf pLX5) (mm_mv vX5_coinsOfAll) (mm_mv zX5_coinsOfAll) (mm_kc kLX5) mm_gs0 mm_rf0 mm_ro (some .int) 3 (mm_ins iX5_coinsOfAll) N c Q
theorem coinsC_lp (k : rn_X5_coinsOfAll N (25, [(2, iv (((8 : Nat) : Int))), (1, iv (sumC g5 8)), (0, .ref 23)], [], (cW ki ln bt rl cp cs ct cv rr dr ja ea ma a1 a2 a3 a4 a5 a6 a7 a8 jb eb mb b1 b2 b3 b4 b5 b6 b7 b8 re fl g1 g2 g3 g4 g5 (dW rt la rs rg pd du ds me tt gr su gp mk rf m1 m2 m3 m4 m5 mr mf n1 n2 n3 n4 n5 nr nf E))) Q) : ∀ (m j : Nat), j + m = 8 → rn_X5_coinsOfAll (N + 20 * m + 20) (4, [(2, iv ((j : Int))), (1, iv (sumC g5 j)), (0, .ref 23)], [], (cW ki ln bt rl cp cs ct cv rr dr ja ea ma a1 a2 a3 a4 a5 a6 a7 a8 jb eb mb b1 b2 b3 b4 b5 b6 b7 b8 re fl g1 g2 g3 g4 g5 (dW rt la rs rg pd du ds me tt gr su gp mk rf m1 m2 m3 m4 m5 mr mf n1 n2 n3 n4 n5 nr nf E))) Q := by
  intro m
  induction m with
  | zero =>
    intro j hj
    have hj : j = 8 := by omega
    subst hj
    refine rn_up (N := N + 20) (by omega) ?_
    refine r_il rfl rfl ?_
    refine r_bi rfl (by decide) ?_
    refine r_cge rfl rfl (by omega) (by omega) (fun u1 => ?_) (fun u1 => ?_)
    · exact rn_up (by omega) k
    · omega
  | succ m ih =>
    intro j hj
    refine rn_up (N := N + 20 * m + 20 + 20) (by omega) ?_
    refine r_il rfl rfl ?_
    refine r_bi rfl (by decide) ?_
    refine r_cge rfl rfl (by omega) (by omega) (fun u1 => ?_) (fun u1 => ?_)
    · omega
    · refine r_il rfl rfl ?_
      refine r_al rfl rfl ?_
      refine r_gf rfl rfl xg_23 rfl ?_
      refine r_il rfl rfl ?_
      refine r_ia rfl xg_28 (by omega) (by omega) (by decide) ?_
      refine r_add rfl ?_
      refine r_is (lv' := [(1, _), (2, _), (0, _)]) rfl rfl rfl ?_
      refine r_inc (lv' := [(2, _), (1, _), (0, _)]) rfl rfl rfl rfl ?_
      refine r_goto rfl rfl ?_
      exact rn_up (by omega) (ih (j + 1) (by omega))
theorem c_coinsC  : sX5_coinsOfAll [.ref 23] (cW ki ln bt rl cp cs ct cv rr dr ja ea ma a1 a2 a3 a4 a5 a6 a7 a8 jb eb mb b1 b2 b3 b4 b5 b6 b7 b8 re fl g1 g2 g3 g4 g5 (dW rt la rs rg pd du ds me tt gr su gp mk rf m1 m2 m3 m4 m5 mr mf n1 n2 n3 n4 n5 nr nf E)) = some (some (iv (sumC g5 8)), (cW ki ln bt rl cp cs ct cv rr dr ja ea ma a1 a2 a3 a4 a5 a6 a7 a8 jb eb mb b1 b2 b3 b4 b5 b6 b7 b8 re fl g1 g2 g3 g4 g5 (dW rt la rs rg pd du ds me tt gr su gp mk rf m1 m2 m3 m4 m5 mr mf n1 n2 n3 n4 n5 nr nf E))) := by
  have main : ∀ Q : mm_R → Prop, Q (some (iv (sumC g5 8)), (cW ki ln bt rl cp cs ct cv rr dr ja ea ma a1 a2 a3 a4 a5 a6 a7 a8 jb eb mb b1 b2 b3 b4 b5 b6 b7 b8 re fl g1 g2 g3 g4 g5 (dW rt la rs rg pd du ds me tt gr su gp mk rf m1 m2 m3 m4 m5 mr mf n1 n2 n3 n4 n5 nr nf E))) → rn_X5_coinsOfAll (50 + 20 * 8 + 20 + 20) (0, [(0, .ref 23)], [], (cW ki ln bt rl cp cs ct cv rr dr ja ea ma a1 a2 a3 a4 a5 a6 a7 a8 jb eb mb b1 b2 b3 b4 b5 b6 b7 b8 re fl g1 g2 g3 g4 g5 (dW rt la rs rg pd du ds me tt gr su gp mk rf m1 m2 m3 m4 m5 mr mf n1 n2 n3 n4 n5 nr nf E))) Q := by
    intro Q hQ
    refine r_ic rfl ?_
    refine r_is (lv' := [(1, _), (0, _)]) rfl rfl rfl ?_
    refine r_ic rfl ?_
    refine r_is (lv' := [(2, _), (1, _), (0, _)]) rfl rfl rfl ?_
    refine rn_up (N := 50 + 20 * 8 + 20) (by decide) (coinsC_lp (N := 50) ?_ 8 0 rfl)
    refine r_il rfl rfl ?_
    exact r_ret rfl rfl hQ
  obtain ⟨r, h1, h2⟩ := rn_S (vs := [.ref 23]) (Q := fun r => r = (some (iv (sumC g5 8)), (cW ki ln bt rl cp cs ct cv rr dr ja ea ma a1 a2 a3 a4 a5 a6 a7 a8 jb eb mb b1 b2 b3 b4 b5 b6 b7 b8 re fl g1 g2 g3 g4 g5 (dW rt la rs rg pd du ds me tt gr su gp mk rf m1 m2 m3 m4 m5 mr mf n1 n2 n3 n4 n5 nr nf E)))) rfl (rn_up (N := 50 + 20 * 8 + 20 + 20) (M := mm_fuel) (by decide) (main (fun r => r = (some (iv (sumC g5 8)), (cW ki ln bt rl cp cs ct cv rr dr ja ea ma a1 a2 a3 a4 a5 a6 a7 a8 jb eb mb b1 b2 b3 b4 b5 b6 b7 b8 re fl g1 g2 g3 g4 g5 (dW rt la rs rg pd du ds me tt gr su gp mk rf m1 m2 m3 m4 m5 mr mf n1 n2 n3 n4 n5 nr nf E)))) rfl))
  have h1 : sX5_coinsOfAll [.ref 23] (cW ki ln bt rl cp cs ct cv rr dr ja ea ma a1 a2 a3 a4 a5 a6 a7 a8 jb eb mb b1 b2 b3 b4 b5 b6 b7 b8 re fl g1 g2 g3 g4 g5 (dW rt la rs rg pd du ds me tt gr su gp mk rf m1 m2 m3 m4 m5 mr mf n1 n2 n3 n4 n5 nr nf E)) = some r := h1
  rw [h1, h2]
abbrev rn_X11_keep (N : Nat) (c : mm_C) (Q : mm_R → Prop) : Prop := rn (mm_gf gLX11) (mm_pf pLX11) (mm_mv vX11_keep) (mm_mv zX11_keep) (mm_kc kLX11) mm_gs0 mm_rf0 mm_ro (some .int) 2 (mm_ins iX11_keep) N c Q
theorem c_keepCN (ha : -2147483648 ≤ a ∧ a ≤ 2147483647) (hb : i3 a 0 1 = false) : sX11_keep [.ref 0, iv (a)] (cW ki ln bt rl cp cs ct cv rr dr ja ea ma a1 a2 a3 a4 a5 a6 a7 a8 jb eb mb b1 b2 b3 b4 b5 b6 b7 b8 re fl g1 g2 g3 g4 g5 (dW rt la rs rg pd du ds me tt gr su gp mk rf m1 m2 m3 m4 m5 mr mf n1 n2 n3 n4 n5 nr nf E)) = some (some (iv (-1)), (cW ki ln bt rl cp cs ct cv rr dr ja ea ma a1 a2 a3 a4 a5 a6 a7 a8 jb eb mb b1 b2 b3 b4 b5 b6 b7 b8 re fl g1 g2 g3 g4 g5 (dW rt la rs rg pd du ds me tt gr su gp mk rf m1 m2 m3 m4 m5 mr mf n1 n2 n3 n4 n5 nr nf E))) := by
  have main : ∀ Q : mm_R → Prop, Q (some (iv (-1)), (cW ki ln bt rl cp cs ct cv rr dr ja ea ma a1 a2 a3 a4 a5 a6 a7 a8 jb eb mb b1 b2 b3 b4 b5 b6 b7 b8 re fl g1 g2 g3 g4 g5 (dW rt la rs rg pd du ds me tt gr su gp mk rf m1 m2 m3 m4 m5 mr mf n1 n2 n3 n4 n5 nr nf E))) → rn_X11_keep (1000) (0, [(0, .ref 0), (1, iv (a))], [], (cW ki ln bt rl cp cs ct cv rr dr ja ea ma a1 a2 a3 a4 a5 a6 a7 a8 jb eb mb b1 b2 b3 b4 b5 b6 b7 b8 re fl g1 g2 g3 g4 g5 (dW rt la rs rg pd du ds me tt gr su gp mk rf m1 m2 m3 m4 m5 mr mf n1 n2 n3 n4 n5 nr nf E))) Q := by
    intro Q hQ
    refine r_il rfl rfl ?_
    refine r_zlt rfl rfl (by omega) (fun u1 => ?_) (fun u1 => ?_)
    · refine r_ic rfl ?_
      exact r_ret rfl rfl hQ
    · refine r_il rfl rfl ?_
      refine r_ic rfl ?_
      refine r_clt rfl rfl (by omega) (by omega) (fun u2 => ?_) (fun u2 => ?_)
      · have e : i3 a 0 1 = true := by simp [i3]; omega
        rw [e] at hb
        cases hb
      · refine r_ic rfl ?_
        exact r_ret rfl rfl hQ
  obtain ⟨r, h1, h2⟩ := rn_S (vs := [.ref 0, iv (a)]) (Q := fun r => r = (some (iv (-1)), (cW ki ln bt rl cp cs ct cv rr dr ja ea ma a1 a2 a3 a4 a5 a6 a7 a8 jb eb mb b1 b2 b3 b4 b5 b6 b7 b8 re fl g1 g2 g3 g4 g5 (dW rt la rs rg pd du ds me tt gr su gp mk rf m1 m2 m3 m4 m5 mr mf n1 n2 n3 n4 n5 nr nf E)))) rfl (rn_up (N := 1000) (M := mm_fuel) (by decide) (main (fun r => r = (some (iv (-1)), (cW ki ln bt rl cp cs ct cv rr dr ja ea ma a1 a2 a3 a4 a5 a6 a7 a8 jb eb mb b1 b2 b3 b4 b5 b6 b7 b8 re fl g1 g2 g3 g4 g5 (dW rt la rs rg pd du ds me tt gr su gp mk rf m1 m2 m3 m4 m5 mr mf n1 n2 n3 n4 n5 nr nf E)))) rfl))
  have h1 : sX11_keep [.ref 0, iv (a)] (cW ki ln bt rl cp cs ct cv rr dr ja ea ma a1 a2 a3 a4 a5 a6 a7 a8 jb eb mb b1 b2 b3 b4 b5 b6 b7 b8 re fl g1 g2 g3 g4 g5 (dW rt la rs rg pd du ds me tt gr su gp mk rf m1 m2 m3 m4 m5 mr mf n1 n2 n3 n4 n5 nr nf E)) = some r := h1
  rw [h1, h2]
theorem c_keepC0 (hrf : rf 0 = some 44 ∧ rf 1 = some 50) : sX11_keep [.ref 0, iv (0)] (cW ki ln bt rl cp cs ct cv rr dr ja ea ma a1 a2 a3 a4 a5 a6 a7 a8 jb eb mb b1 b2 b3 b4 b5 b6 b7 b8 re fl g1 g2 g3 g4 g5 (dW rt la rs rg pd du ds me tt gr su gp mk rf m1 m2 m3 m4 m5 mr mf n1 n2 n3 n4 n5 nr nf E)) = some (some (iv (sumC g5 8)), (cW (oOr ki (oShl 1 0)) ln bt rl cp cs ct cv rr dr ja ea ma a1 a2 a3 a4 a5 a6 a7 a8 jb eb mb b1 b2 b3 b4 b5 b6 b7 b8 re fl g1 g2 g3 g4 g5 (dW rt la rs rg pd du ds me tt gr su gp mk rf (va_cpy g1 m1 0 0 10) (va_cpy g2 m2 0 0 16) (va_cpy g3 m3 0 0 16) (va_cpy g4 m4 0 0 64) (va_cpy g5 m5 0 0 8) re fl n1 n2 n3 n4 n5 nr nf E))) := by
  have main : ∀ Q : mm_R → Prop, Q (some (iv (sumC g5 8)), (cW (oOr ki (oShl 1 0)) ln bt rl cp cs ct cv rr dr ja ea ma a1 a2 a3 a4 a5 a6 a7 a8 jb eb mb b1 b2 b3 b4 b5 b6 b7 b8 re fl g1 g2 g3 g4 g5 (dW rt la rs rg pd du ds me tt gr su gp mk rf (va_cpy g1 m1 0 0 10) (va_cpy g2 m2 0 0 16) (va_cpy g3 m3 0 0 16) (va_cpy g4 m4 0 0 64) (va_cpy g5 m5 0 0 8) re fl n1 n2 n3 n4 n5 nr nf E))) → rn_X11_keep (1000) (0, [(0, .ref 0), (1, iv (0))], [], (cW ki ln bt rl cp cs ct cv rr dr ja ea ma a1 a2 a3 a4 a5 a6 a7 a8 jb eb mb b1 b2 b3 b4 b5 b6 b7 b8 re fl g1 g2 g3 g4 g5 (dW rt la rs rg pd du ds me tt gr su gp mk rf m1 m2 m3 m4 m5 mr mf n1 n2 n3 n4 n5 nr nf E))) Q := by
    intro Q hQ
    refine r_il rfl rfl ?_
    refine r_zlt rfl rfl (by decide) (fun u1 => ?_) (fun u1 => ?_)
    · exact absurd u1 (by decide)
    · refine r_il rfl rfl ?_
      refine r_ic rfl ?_
      refine r_clt rfl rfl (by decide) (by decide) (fun u2 => ?_) (fun u2 => ?_)
      · refine r_al rfl rfl ?_
        refine r_gf rfl rfl xg_0 rfl ?_
        refine r_il rfl rfl ?_
        refine r_aal rfl xg_43 (by decide) (by decide) (by decide) hrf.1 ?_
        refine r_al rfl rfl ?_
        refine r_gf rfl rfl xg_0 rfl ?_
        refine r_gf rfl rfl xg_4 rfl ?_
        refine r_v2n rfl rfl xg_44 rfl c_copy44_23 ?_
        refine r_al rfl rfl ?_
        refine r_dup rfl rfl ?_
        refine r_gf rfl rfl xg_0 rfl ?_
        refine r_ic rfl ?_
        refine r_il rfl rfl ?_
        refine r_shl rfl ?_
        refine r_or rfl ?_
        refine r_pf rfl rfl xg_0 rfl xp_ki ?_
        refine r_al rfl rfl ?_
        refine r_gf rfl rfl xg_0 rfl ?_
        refine r_gf rfl rfl xg_4 rfl ?_
        refine r_v1s rfl rfl xg_23 rfl c_coinsC ?_
        exact r_ret rfl rfl hQ
      · exact absurd u2 (by decide)
  obtain ⟨r, h1, h2⟩ := rn_S (vs := [.ref 0, iv (0)]) (Q := fun r => r = (some (iv (sumC g5 8)), (cW (oOr ki (oShl 1 0)) ln bt rl cp cs ct cv rr dr ja ea ma a1 a2 a3 a4 a5 a6 a7 a8 jb eb mb b1 b2 b3 b4 b5 b6 b7 b8 re fl g1 g2 g3 g4 g5 (dW rt la rs rg pd du ds me tt gr su gp mk rf (va_cpy g1 m1 0 0 10) (va_cpy g2 m2 0 0 16) (va_cpy g3 m3 0 0 16) (va_cpy g4 m4 0 0 64) (va_cpy g5 m5 0 0 8) re fl n1 n2 n3 n4 n5 nr nf E)))) rfl (rn_up (N := 1000) (M := mm_fuel) (by decide) (main (fun r => r = (some (iv (sumC g5 8)), (cW (oOr ki (oShl 1 0)) ln bt rl cp cs ct cv rr dr ja ea ma a1 a2 a3 a4 a5 a6 a7 a8 jb eb mb b1 b2 b3 b4 b5 b6 b7 b8 re fl g1 g2 g3 g4 g5 (dW rt la rs rg pd du ds me tt gr su gp mk rf (va_cpy g1 m1 0 0 10) (va_cpy g2 m2 0 0 16) (va_cpy g3 m3 0 0 16) (va_cpy g4 m4 0 0 64) (va_cpy g5 m5 0 0 8) re fl n1 n2 n3 n4 n5 nr nf E)))) rfl))
  have h1 : sX11_keep [.ref 0, iv (0)] (cW ki ln bt rl cp cs ct cv rr dr ja ea ma a1 a2 a3 a4 a5 a6 a7 a8 jb eb mb b1 b2 b3 b4 b5 b6 b7 b8 re fl g1 g2 g3 g4 g5 (dW rt la rs rg pd du ds me tt gr su gp mk rf m1 m2 m3 m4 m5 mr mf n1 n2 n3 n4 n5 nr nf E)) = some r := h1
  rw [h1, h2]
theorem c_keepC1 (hrf : rf 0 = some 44 ∧ rf 1 = some 50) : sX11_keep [.ref 0, iv (1)] (cW ki ln bt rl cp cs ct cv rr dr ja ea ma a1 a2 a3 a4 a5 a6 a7 a8 jb eb mb b1 b2 b3 b4 b5 b6 b7 b8 re fl g1 g2 g3 g4 g5 (dW rt la rs rg pd du ds me tt gr su gp mk rf m1 m2 m3 m4 m5 mr mf n1 n2 n3 n4 n5 nr nf E)) = some (some (iv (sumC g5 8)), (cW (oOr ki (oShl 1 1)) ln bt rl cp cs ct cv rr dr ja ea ma a1 a2 a3 a4 a5 a6 a7 a8 jb eb mb b1 b2 b3 b4 b5 b6 b7 b8 re fl g1 g2 g3 g4 g5 (dW rt la rs rg pd du ds me tt gr su gp mk rf m1 m2 m3 m4 m5 mr mf (va_cpy g1 n1 0 0 10) (va_cpy g2 n2 0 0 16) (va_cpy g3 n3 0 0 16) (va_cpy g4 n4 0 0 64) (va_cpy g5 n5 0 0 8) re fl E))) := by
  have main : ∀ Q : mm_R → Prop, Q (some (iv (sumC g5 8)), (cW (oOr ki (oShl 1 1)) ln bt rl cp cs ct cv rr dr ja ea ma a1 a2 a3 a4 a5 a6 a7 a8 jb eb mb b1 b2 b3 b4 b5 b6 b7 b8 re fl g1 g2 g3 g4 g5 (dW rt la rs rg pd du ds me tt gr su gp mk rf m1 m2 m3 m4 m5 mr mf (va_cpy g1 n1 0 0 10) (va_cpy g2 n2 0 0 16) (va_cpy g3 n3 0 0 16) (va_cpy g4 n4 0 0 64) (va_cpy g5 n5 0 0 8) re fl E))) → rn_X11_keep (1000) (0, [(0, .ref 0), (1, iv (1))], [], (cW ki ln bt rl cp cs ct cv rr dr ja ea ma a1 a2 a3 a4 a5 a6 a7 a8 jb eb mb b1 b2 b3 b4 b5 b6 b7 b8 re fl g1 g2 g3 g4 g5 (dW rt la rs rg pd du ds me tt gr su gp mk rf m1 m2 m3 m4 m5 mr mf n1 n2 n3 n4 n5 nr nf E))) Q := by
    intro Q hQ
    refine r_il rfl rfl ?_
    refine r_zlt rfl rfl (by decide) (fun u1 => ?_) (fun u1 => ?_)
    · exact absurd u1 (by decide)
    · refine r_il rfl rfl ?_
      refine r_ic rfl ?_
      refine r_clt rfl rfl (by decide) (by decide) (fun u2 => ?_) (fun u2 => ?_)
      · refine r_al rfl rfl ?_
        refine r_gf rfl rfl xg_0 rfl ?_
        refine r_il rfl rfl ?_
        refine r_aal rfl xg_43 (by decide) (by decide) (by decide) hrf.2 ?_
        refine r_al rfl rfl ?_
        refine r_gf rfl rfl xg_0 rfl ?_
        refine r_gf rfl rfl xg_4 rfl ?_
        refine r_v2n rfl rfl xg_50 rfl c_copy50_23 ?_
        refine r_al rfl rfl ?_
        refine r_dup rfl rfl ?_
        refine r_gf rfl rfl xg_0 rfl ?_
        refine r_ic rfl ?_
        refine r_il rfl rfl ?_
        refine r_shl rfl ?_
        refine r_or rfl ?_
        refine r_pf rfl rfl xg_0 rfl xp_ki ?_
        refine r_al rfl rfl ?_
        refine r_gf rfl rfl xg_0 rfl ?_
        refine r_gf rfl rfl xg_4 rfl ?_
        refine r_v1s rfl rfl xg_23 rfl c_coinsC ?_
        exact r_ret rfl rfl hQ
      · exact absurd u2 (by decide)
  obtain ⟨r, h1, h2⟩ := rn_S (vs := [.ref 0, iv (1)]) (Q := fun r => r = (some (iv (sumC g5 8)), (cW (oOr ki (oShl 1 1)) ln bt rl cp cs ct cv rr dr ja ea ma a1 a2 a3 a4 a5 a6 a7 a8 jb eb mb b1 b2 b3 b4 b5 b6 b7 b8 re fl g1 g2 g3 g4 g5 (dW rt la rs rg pd du ds me tt gr su gp mk rf m1 m2 m3 m4 m5 mr mf (va_cpy g1 n1 0 0 10) (va_cpy g2 n2 0 0 16) (va_cpy g3 n3 0 0 16) (va_cpy g4 n4 0 0 64) (va_cpy g5 n5 0 0 8) re fl E)))) rfl (rn_up (N := 1000) (M := mm_fuel) (by decide) (main (fun r => r = (some (iv (sumC g5 8)), (cW (oOr ki (oShl 1 1)) ln bt rl cp cs ct cv rr dr ja ea ma a1 a2 a3 a4 a5 a6 a7 a8 jb eb mb b1 b2 b3 b4 b5 b6 b7 b8 re fl g1 g2 g3 g4 g5 (dW rt la rs rg pd du ds me tt gr su gp mk rf m1 m2 m3 m4 m5 mr mf (va_cpy g1 n1 0 0 10) (va_cpy g2 n2 0 0 16) (va_cpy g3 n3 0 0 16) (va_cpy g4 n4 0 0 64) (va_cpy g5 n5 0 0 8) re fl E)))) rfl))
  have h1 : sX11_keep [.ref 0, iv (1)] (cW ki ln bt rl cp cs ct cv rr dr ja ea ma a1 a2 a3 a4 a5 a6 a7 a8 jb eb mb b1 b2 b3 b4 b5 b6 b7 b8 re fl g1 g2 g3 g4 g5 (dW rt la rs rg pd du ds me tt gr su gp mk rf m1 m2 m3 m4 m5 mr mf n1 n2 n3 n4 n5 nr nf E)) = some r := h1
  rw [h1, h2]
abbrev rn_X11_restore (N : Nat) (c : mm_C) (Q : mm_R → Prop) : Prop := rn (mm_gf gLX11) (mm_pf pLX11) (mm_mv vX11_restore) (mm_mv zX11_restore) (mm_kc kLX11) mm_gs0 mm_rf0 mm_ro (some .int) 2 (mm_ins iX11_restore) N c Q
theorem c_restCN (ha : -2147483648 ≤ a ∧ a ≤ 2147483647) (hb : i3 a 0 1 = false) : sX11_restore [.ref 0, iv (a)] (cW ki ln bt rl cp cs ct cv rr dr ja ea ma a1 a2 a3 a4 a5 a6 a7 a8 jb eb mb b1 b2 b3 b4 b5 b6 b7 b8 re fl g1 g2 g3 g4 g5 (dW rt la rs rg pd du ds me tt gr su gp mk rf m1 m2 m3 m4 m5 mr mf n1 n2 n3 n4 n5 nr nf E)) = some (some (iv (-1)), (cW ki ln bt rl cp cs ct cv rr dr ja ea ma a1 a2 a3 a4 a5 a6 a7 a8 jb eb mb b1 b2 b3 b4 b5 b6 b7 b8 re fl g1 g2 g3 g4 g5 (dW rt la rs rg pd du ds me tt gr su gp mk rf m1 m2 m3 m4 m5 mr mf n1 n2 n3 n4 n5 nr nf E))) := by
  have main : ∀ Q : mm_R → Prop, Q (some (iv (-1)), (cW ki ln bt rl cp cs ct cv rr dr ja ea ma a1 a2 a3 a4 a5 a6 a7 a8 jb eb mb b1 b2 b3 b4 b5 b6 b7 b8 re fl g1 g2 g3 g4 g5 (dW rt la rs rg pd du ds me tt gr su gp mk rf m1 m2 m3 m4 m5 mr mf n1 n2 n3 n4 n5 nr nf E))) → rn_X11_restore (1000) (0, [(0, .ref 0), (1, iv (a))], [], (cW ki ln bt rl cp cs ct cv rr dr ja ea ma a1 a2 a3 a4 a5 a6 a7 a8 jb eb mb b1 b2 b3 b4 b5 b6 b7 b8 re fl g1 g2 g3 g4 g5 (dW rt la rs rg pd du ds me tt gr su gp mk rf m1 m2 m3 m4 m5 mr mf n1 n2 n3 n4 n5 nr nf E))) Q := by
    intro Q hQ
    refine r_il rfl rfl ?_
    refine r_zlt rfl rfl (by omega) (fun u1 => ?_) (fun u1 => ?_)
    · refine r_ic rfl ?_
      exact r_ret rfl rfl hQ
    · refine r_il rfl rfl ?_
      refine r_ic rfl ?_
      refine r_clt rfl rfl (by omega) (by omega) (fun u2 => ?_) (fun u2 => ?_)
      · have e : i3 a 0 1 = true := by simp [i3]; omega
        rw [e] at hb
        cases hb
      · refine r_ic rfl ?_
        exact r_ret rfl rfl hQ
  obtain ⟨r, h1, h2⟩ := rn_S (vs := [.ref 0, iv (a)]) (Q := fun r => r = (some (iv (-1)), (cW ki ln bt rl cp cs ct cv rr dr ja ea ma a1 a2 a3 a4 a5 a6 a7 a8 jb eb mb b1 b2 b3 b4 b5 b6 b7 b8 re fl g1 g2 g3 g4 g5 (dW rt la rs rg pd du ds me tt gr su gp mk rf m1 m2 m3 m4 m5 mr mf n1 n2 n3 n4 n5 nr nf E)))) rfl (rn_up (N := 1000) (M := mm_fuel) (by decide) (main (fun r => r = (some (iv (-1)), (cW ki ln bt rl cp cs ct cv rr dr ja ea ma a1 a2 a3 a4 a5 a6 a7 a8 jb eb mb b1 b2 b3 b4 b5 b6 b7 b8 re fl g1 g2 g3 g4 g5 (dW rt la rs rg pd du ds me tt gr su gp mk rf m1 m2 m3 m4 m5 mr mf n1 n2 n3 n4 n5 nr nf E)))) rfl))
  have h1 : sX11_restore [.ref 0, iv (a)] (cW ki ln bt rl cp cs ct cv rr dr ja ea ma a1 a2 a3 a4 a5 a6 a7 a8 jb eb mb b1 b2 b3 b4 b5 b6 b7 b8 re fl g1 g2 g3 g4 g5 (dW rt la rs rg pd du ds me tt gr su gp mk rf m1 m2 m3 m4 m5 mr mf n1 n2 n3 n4 n5 nr nf E)) = some r := h1
  rw [h1, h2]
theorem c_restC0_0 (hz : zb (Int32.ofInt ki) 0 = false) (hrf : rf 0 = some 44 ∧ rf 1 = some 50) : sX11_restore [.ref 0, iv (0)] (cW ki ln bt rl cp cs ct cv rr dr ja ea ma a1 a2 a3 a4 a5 a6 a7 a8 jb eb mb b1 b2 b3 b4 b5 b6 b7 b8 re fl g1 g2 g3 g4 g5 (dW rt la rs rg pd du ds me tt gr su gp mk rf m1 m2 m3 m4 m5 mr mf n1 n2 n3 n4 n5 nr nf E)) = some (some (iv (-2)), (cW ki ln bt rl cp cs ct cv rr dr ja ea ma a1 a2 a3 a4 a5 a6 a7 a8 jb eb mb b1 b2 b3 b4 b5 b6 b7 b8 re fl g1 g2 g3 g4 g5 (dW rt la rs rg pd du ds me tt gr su gp mk rf m1 m2 m3 m4 m5 mr mf n1 n2 n3 n4 n5 nr nf E))) := by
  have main : ∀ Q : mm_R → Prop, Q (some (iv (-2)), (cW ki ln bt rl cp cs ct cv rr dr ja ea ma a1 a2 a3 a4 a5 a6 a7 a8 jb eb mb b1 b2 b3 b4 b5 b6 b7 b8 re fl g1 g2 g3 g4 g5 (dW rt la rs rg pd du ds me tt gr su gp mk rf m1 m2 m3 m4 m5 mr mf n1 n2 n3 n4 n5 nr nf E))) → rn_X11_restore (1000) (0, [(0, .ref 0), (1, iv (0))], [], (cW ki ln bt rl cp cs ct cv rr dr ja ea ma a1 a2 a3 a4 a5 a6 a7 a8 jb eb mb b1 b2 b3 b4 b5 b6 b7 b8 re fl g1 g2 g3 g4 g5 (dW rt la rs rg pd du ds me tt gr su gp mk rf m1 m2 m3 m4 m5 mr mf n1 n2 n3 n4 n5 nr nf E))) Q := by
    intro Q hQ
    refine r_il rfl rfl ?_
    refine r_zlt rfl rfl (by decide) (fun u1 => ?_) (fun u1 => ?_)
    · exact absurd u1 (by decide)
    · refine r_il rfl rfl ?_
      refine r_ic rfl ?_
      refine r_clt rfl rfl (by decide) (by decide) (fun u2 => ?_) (fun u2 => ?_)
      · refine r_al rfl rfl ?_
        refine r_gf rfl rfl xg_0 rfl ?_
        refine r_il rfl rfl ?_
        refine r_s2s rfl rfl rfl (c_isIn (by decide)) ?_
        rw [show zb (Int32.ofInt ki) (Int.toNat 0) = false from hz]
        refine r_zne rfl rfl (bi_r _) (fun u3 => ?_) (fun u3 => ?_)
        · exact absurd rfl u3
        · refine r_bi rfl (by decide) ?_
          exact r_ret rfl rfl hQ
      · exact absurd u2 (by decide)
  obtain ⟨r, h1, h2⟩ := rn_S (vs := [.ref 0, iv (0)]) (Q := fun r => r = (some (iv (-2)), (cW ki ln bt rl cp cs ct cv rr dr ja ea ma a1 a2 a3 a4 a5 a6 a7 a8 jb eb mb b1 b2 b3 b4 b5 b6 b7 b8 re fl g1 g2 g3 g4 g5 (dW rt la rs rg pd du ds me tt gr su gp mk rf m1 m2 m3 m4 m5 mr mf n1 n2 n3 n4 n5 nr nf E)))) rfl (rn_up (N := 1000) (M := mm_fuel) (by decide) (main (fun r => r = (some (iv (-2)), (cW ki ln bt rl cp cs ct cv rr dr ja ea ma a1 a2 a3 a4 a5 a6 a7 a8 jb eb mb b1 b2 b3 b4 b5 b6 b7 b8 re fl g1 g2 g3 g4 g5 (dW rt la rs rg pd du ds me tt gr su gp mk rf m1 m2 m3 m4 m5 mr mf n1 n2 n3 n4 n5 nr nf E)))) rfl))
  have h1 : sX11_restore [.ref 0, iv (0)] (cW ki ln bt rl cp cs ct cv rr dr ja ea ma a1 a2 a3 a4 a5 a6 a7 a8 jb eb mb b1 b2 b3 b4 b5 b6 b7 b8 re fl g1 g2 g3 g4 g5 (dW rt la rs rg pd du ds me tt gr su gp mk rf m1 m2 m3 m4 m5 mr mf n1 n2 n3 n4 n5 nr nf E)) = some r := h1
  rw [h1, h2]
theorem c_restC0_1 (hz : zb (Int32.ofInt ki) 0 = true) (hrf : rf 0 = some 44 ∧ rf 1 = some 50) : sX11_restore [.ref 0, iv (0)] (cW ki ln bt rl cp cs ct cv rr dr ja ea ma a1 a2 a3 a4 a5 a6 a7 a8 jb eb mb b1 b2 b3 b4 b5 b6 b7 b8 re fl g1 g2 g3 g4 g5 (dW rt la rs rg pd du ds me tt gr su gp mk rf m1 m2 m3 m4 m5 mr mf n1 n2 n3 n4 n5 nr nf E)) = some (some (iv (sumC (va_cpy m5 g5 0 0 8) 8)), (cW ki ln bt rl cp cs ct cv rr dr ja ea ma a1 a2 a3 a4 a5 a6 a7 a8 jb eb mb b1 b2 b3 b4 b5 b6 b7 b8 mr mf (va_cpy m1 g1 0 0 10) (va_cpy m2 g2 0 0 16) (va_cpy m3 g3 0 0 16) (va_cpy m4 g4 0 0 64) (va_cpy m5 g5 0 0 8) (dW rt la rs rg pd du ds me tt gr su gp mk rf m1 m2 m3 m4 m5 mr mf n1 n2 n3 n4 n5 nr nf E))) := by
  have main : ∀ Q : mm_R → Prop, Q (some (iv (sumC (va_cpy m5 g5 0 0 8) 8)), (cW ki ln bt rl cp cs ct cv rr dr ja ea ma a1 a2 a3 a4 a5 a6 a7 a8 jb eb mb b1 b2 b3 b4 b5 b6 b7 b8 mr mf (va_cpy m1 g1 0 0 10) (va_cpy m2 g2 0 0 16) (va_cpy m3 g3 0 0 16) (va_cpy m4 g4 0 0 64) (va_cpy m5 g5 0 0 8) (dW rt la rs rg pd du ds me tt gr su gp mk rf m1 m2 m3 m4 m5 mr mf n1 n2 n3 n4 n5 nr nf E))) → rn_X11_restore (1000) (0, [(0, .ref 0), (1, iv (0))], [], (cW ki ln bt rl cp cs ct cv rr dr ja ea ma a1 a2 a3 a4 a5 a6 a7 a8 jb eb mb b1 b2 b3 b4 b5 b6 b7 b8 re fl g1 g2 g3 g4 g5 (dW rt la rs rg pd du ds me tt gr su gp mk rf m1 m2 m3 m4 m5 mr mf n1 n2 n3 n4 n5 nr nf E))) Q := by
    intro Q hQ
    refine r_il rfl rfl ?_
    refine r_zlt rfl rfl (by decide) (fun u1 => ?_) (fun u1 => ?_)
    · exact absurd u1 (by decide)
    · refine r_il rfl rfl ?_
      refine r_ic rfl ?_
      refine r_clt rfl rfl (by decide) (by decide) (fun u2 => ?_) (fun u2 => ?_)
      · refine r_al rfl rfl ?_
        refine r_gf rfl rfl xg_0 rfl ?_
        refine r_il rfl rfl ?_
        refine r_s2s rfl rfl rfl (c_isIn (by decide)) ?_
        rw [show zb (Int32.ofInt ki) (Int.toNat 0) = true from hz]
        refine r_zne rfl rfl (bi_r _) (fun u3 => ?_) (fun u3 => ?_)
        · refine r_al rfl rfl ?_
          refine r_gf rfl rfl xg_0 rfl ?_
          refine r_gf rfl rfl xg_4 rfl ?_
          refine r_al rfl rfl ?_
          refine r_gf rfl rfl xg_0 rfl ?_
          refine r_il rfl rfl ?_
          refine r_aal rfl xg_43 (by decide) (by decide) (by decide) hrf.1 ?_
          refine r_v2n rfl rfl xg_23 rfl c_copy23_44 ?_
          refine r_al rfl rfl ?_
          refine r_gf rfl rfl xg_0 rfl ?_
          refine r_gf rfl rfl xg_4 rfl ?_
          refine r_v1s rfl rfl xg_23 rfl c_coinsC ?_
          exact r_ret rfl rfl hQ
        · exact absurd u3 (by decide)
      · exact absurd u2 (by decide)
  obtain ⟨r, h1, h2⟩ := rn_S (vs := [.ref 0, iv (0)]) (Q := fun r => r = (some (iv (sumC (va_cpy m5 g5 0 0 8) 8)), (cW ki ln bt rl cp cs ct cv rr dr ja ea ma a1 a2 a3 a4 a5 a6 a7 a8 jb eb mb b1 b2 b3 b4 b5 b6 b7 b8 mr mf (va_cpy m1 g1 0 0 10) (va_cpy m2 g2 0 0 16) (va_cpy m3 g3 0 0 16) (va_cpy m4 g4 0 0 64) (va_cpy m5 g5 0 0 8) (dW rt la rs rg pd du ds me tt gr su gp mk rf m1 m2 m3 m4 m5 mr mf n1 n2 n3 n4 n5 nr nf E)))) rfl (rn_up (N := 1000) (M := mm_fuel) (by decide) (main (fun r => r = (some (iv (sumC (va_cpy m5 g5 0 0 8) 8)), (cW ki ln bt rl cp cs ct cv rr dr ja ea ma a1 a2 a3 a4 a5 a6 a7 a8 jb eb mb b1 b2 b3 b4 b5 b6 b7 b8 mr mf (va_cpy m1 g1 0 0 10) (va_cpy m2 g2 0 0 16) (va_cpy m3 g3 0 0 16) (va_cpy m4 g4 0 0 64) (va_cpy m5 g5 0 0 8) (dW rt la rs rg pd du ds me tt gr su gp mk rf m1 m2 m3 m4 m5 mr mf n1 n2 n3 n4 n5 nr nf E)))) rfl))
  have h1 : sX11_restore [.ref 0, iv (0)] (cW ki ln bt rl cp cs ct cv rr dr ja ea ma a1 a2 a3 a4 a5 a6 a7 a8 jb eb mb b1 b2 b3 b4 b5 b6 b7 b8 re fl g1 g2 g3 g4 g5 (dW rt la rs rg pd du ds me tt gr su gp mk rf m1 m2 m3 m4 m5 mr mf n1 n2 n3 n4 n5 nr nf E)) = some r := h1
  rw [h1, h2]
theorem c_restC1_0 (hz : zb (Int32.ofInt ki) 1 = false) (hrf : rf 0 = some 44 ∧ rf 1 = some 50) : sX11_restore [.ref 0, iv (1)] (cW ki ln bt rl cp cs ct cv rr dr ja ea ma a1 a2 a3 a4 a5 a6 a7 a8 jb eb mb b1 b2 b3 b4 b5 b6 b7 b8 re fl g1 g2 g3 g4 g5 (dW rt la rs rg pd du ds me tt gr su gp mk rf m1 m2 m3 m4 m5 mr mf n1 n2 n3 n4 n5 nr nf E)) = some (some (iv (-2)), (cW ki ln bt rl cp cs ct cv rr dr ja ea ma a1 a2 a3 a4 a5 a6 a7 a8 jb eb mb b1 b2 b3 b4 b5 b6 b7 b8 re fl g1 g2 g3 g4 g5 (dW rt la rs rg pd du ds me tt gr su gp mk rf m1 m2 m3 m4 m5 mr mf n1 n2 n3 n4 n5 nr nf E))) := by
  have main : ∀ Q : mm_R → Prop, Q (some (iv (-2)), (cW ki ln bt rl cp cs ct cv rr dr ja ea ma a1 a2 a3 a4 a5 a6 a7 a8 jb eb mb b1 b2 b3 b4 b5 b6 b7 b8 re fl g1 g2 g3 g4 g5 (dW rt la rs rg pd du ds me tt gr su gp mk rf m1 m2 m3 m4 m5 mr mf n1 n2 n3 n4 n5 nr nf E))) → rn_X11_restore (1000) (0, [(0, .ref 0), (1, iv (1))], [], (cW ki ln bt rl cp cs ct cv rr dr ja ea ma a1 a2 a3 a4 a5 a6 a7 a8 jb eb mb b1 b2 b3 b4 b5 b6 b7 b8 re fl g1 g2 g3 g4 g5 (dW rt la rs rg pd du ds me tt gr su gp mk rf m1 m2 m3 m4 m5 mr mf n1 n2 n3 n4 n5 nr nf E))) Q := by
    intro Q hQ
    refine r_il rfl rfl ?_
    refine r_zlt rfl rfl (by decide) (fun u1 => ?_) (fun u1 => ?_)
    · exact absurd u1 (by decide)
    · refine r_il rfl rfl ?_
      refine r_ic rfl ?_
      refine r_clt rfl rfl (by decide) (by decide) (fun u2 => ?_) (fun u2 => ?_)
      · refine r_al rfl rfl ?_
        refine r_gf rfl rfl xg_0 rfl ?_
        refine r_il rfl rfl ?_
        refine r_s2s rfl rfl rfl (c_isIn (by decide)) ?_
        rw [show zb (Int32.ofInt ki) (Int.toNat 1) = false from hz]
        refine r_zne rfl rfl (bi_r _) (fun u3 => ?_) (fun u3 => ?_)
        · exact absurd rfl u3
        · refine r_bi rfl (by decide) ?_
          exact r_ret rfl rfl hQ
      · exact absurd u2 (by decide)
  obtain ⟨r, h1, h2⟩ := rn_S (vs := [.ref 0, iv (1)]) (Q := fun r => r = (some (iv (-2)), (cW ki ln bt rl cp cs ct cv rr dr ja ea ma a1 a2 a3 a4 a5 a6 a7 a8 jb eb mb b1 b2 b3 b4 b5 b6 b7 b8 re fl g1 g2 g3 g4 g5 (dW rt la rs rg pd du ds me tt gr su gp mk rf m1 m2 m3 m4 m5 mr mf n1 n2 n3 n4 n5 nr nf E)))) rfl (rn_up (N := 1000) (M := mm_fuel) (by decide) (main (fun r => r = (some (iv (-2)), (cW ki ln bt rl cp cs ct cv rr dr ja ea ma a1 a2 a3 a4 a5 a6 a7 a8 jb eb mb b1 b2 b3 b4 b5 b6 b7 b8 re fl g1 g2 g3 g4 g5 (dW rt la rs rg pd du ds me tt gr su gp mk rf m1 m2 m3 m4 m5 mr mf n1 n2 n3 n4 n5 nr nf E)))) rfl))
  have h1 : sX11_restore [.ref 0, iv (1)] (cW ki ln bt rl cp cs ct cv rr dr ja ea ma a1 a2 a3 a4 a5 a6 a7 a8 jb eb mb b1 b2 b3 b4 b5 b6 b7 b8 re fl g1 g2 g3 g4 g5 (dW rt la rs rg pd du ds me tt gr su gp mk rf m1 m2 m3 m4 m5 mr mf n1 n2 n3 n4 n5 nr nf E)) = some r := h1
  rw [h1, h2]
theorem c_restC1_1 (hz : zb (Int32.ofInt ki) 1 = true) (hrf : rf 0 = some 44 ∧ rf 1 = some 50) : sX11_restore [.ref 0, iv (1)] (cW ki ln bt rl cp cs ct cv rr dr ja ea ma a1 a2 a3 a4 a5 a6 a7 a8 jb eb mb b1 b2 b3 b4 b5 b6 b7 b8 re fl g1 g2 g3 g4 g5 (dW rt la rs rg pd du ds me tt gr su gp mk rf m1 m2 m3 m4 m5 mr mf n1 n2 n3 n4 n5 nr nf E)) = some (some (iv (sumC (va_cpy n5 g5 0 0 8) 8)), (cW ki ln bt rl cp cs ct cv rr dr ja ea ma a1 a2 a3 a4 a5 a6 a7 a8 jb eb mb b1 b2 b3 b4 b5 b6 b7 b8 nr nf (va_cpy n1 g1 0 0 10) (va_cpy n2 g2 0 0 16) (va_cpy n3 g3 0 0 16) (va_cpy n4 g4 0 0 64) (va_cpy n5 g5 0 0 8) (dW rt la rs rg pd du ds me tt gr su gp mk rf m1 m2 m3 m4 m5 mr mf n1 n2 n3 n4 n5 nr nf E))) := by
  have main : ∀ Q : mm_R → Prop, Q (some (iv (sumC (va_cpy n5 g5 0 0 8) 8)), (cW ki ln bt rl cp cs ct cv rr dr ja ea ma a1 a2 a3 a4 a5 a6 a7 a8 jb eb mb b1 b2 b3 b4 b5 b6 b7 b8 nr nf (va_cpy n1 g1 0 0 10) (va_cpy n2 g2 0 0 16) (va_cpy n3 g3 0 0 16) (va_cpy n4 g4 0 0 64) (va_cpy n5 g5 0 0 8) (dW rt la rs rg pd du ds me tt gr su gp mk rf m1 m2 m3 m4 m5 mr mf n1 n2 n3 n4 n5 nr nf E))) → rn_X11_restore (1000) (0, [(0, .ref 0), (1, iv (1))], [], (cW ki ln bt rl cp cs ct cv rr dr ja ea ma a1 a2 a3 a4 a5 a6 a7 a8 jb eb mb b1 b2 b3 b4 b5 b6 b7 b8 re fl g1 g2 g3 g4 g5 (dW rt la rs rg pd du ds me tt gr su gp mk rf m1 m2 m3 m4 m5 mr mf n1 n2 n3 n4 n5 nr nf E))) Q := by
    intro Q hQ
    refine r_il rfl rfl ?_
    refine r_zlt rfl rfl (by decide) (fun u1 => ?_) (fun u1 => ?_)
    · exact absurd u1 (by decide)
    · refine r_il rfl rfl ?_
      refine r_ic rfl ?_
      refine r_clt rfl rfl (by decide) (by decide) (fun u2 => ?_) (fun u2 => ?_)
      · refine r_al rfl rfl ?_
        refine r_gf rfl rfl xg_0 rfl ?_
        refine r_il rfl rfl ?_
        refine r_s2s rfl rfl rfl (c_isIn (by decide)) ?_
        rw [show zb (Int32.ofInt ki) (Int.toNat 1) = true from hz]
        refine r_zne rfl rfl (bi_r _) (fun u3 => ?_) (fun u3 => ?_)
        · refine r_al rfl rfl ?_
          refine r_gf rfl rfl xg_0 rfl ?_
          refine r_gf rfl rfl xg_4 rfl ?_
          refine r_al rfl rfl ?_
          refine r_gf rfl rfl xg_0 rfl ?_
          refine r_il rfl rfl ?_
          refine r_aal rfl xg_43 (by decide) (by decide) (by decide) hrf.2 ?_
          refine r_v2n rfl rfl xg_23 rfl c_copy23_50 ?_
          refine r_al rfl rfl ?_
          refine r_gf rfl rfl xg_0 rfl ?_
          refine r_gf rfl rfl xg_4 rfl ?_
          refine r_v1s rfl rfl xg_23 rfl c_coinsC ?_
          exact r_ret rfl rfl hQ
        · exact absurd u3 (by decide)
      · exact absurd u2 (by decide)
  obtain ⟨r, h1, h2⟩ := rn_S (vs := [.ref 0, iv (1)]) (Q := fun r => r = (some (iv (sumC (va_cpy n5 g5 0 0 8) 8)), (cW ki ln bt rl cp cs ct cv rr dr ja ea ma a1 a2 a3 a4 a5 a6 a7 a8 jb eb mb b1 b2 b3 b4 b5 b6 b7 b8 nr nf (va_cpy n1 g1 0 0 10) (va_cpy n2 g2 0 0 16) (va_cpy n3 g3 0 0 16) (va_cpy n4 g4 0 0 64) (va_cpy n5 g5 0 0 8) (dW rt la rs rg pd du ds me tt gr su gp mk rf m1 m2 m3 m4 m5 mr mf n1 n2 n3 n4 n5 nr nf E)))) rfl (rn_up (N := 1000) (M := mm_fuel) (by decide) (main (fun r => r = (some (iv (sumC (va_cpy n5 g5 0 0 8) 8)), (cW ki ln bt rl cp cs ct cv rr dr ja ea ma a1 a2 a3 a4 a5 a6 a7 a8 jb eb mb b1 b2 b3 b4 b5 b6 b7 b8 nr nf (va_cpy n1 g1 0 0 10) (va_cpy n2 g2 0 0 16) (va_cpy n3 g3 0 0 16) (va_cpy n4 g4 0 0 64) (va_cpy n5 g5 0 0 8) (dW rt la rs rg pd du ds me tt gr su gp mk rf m1 m2 m3 m4 m5 mr mf n1 n2 n3 n4 n5 nr nf E)))) rfl))
  have h1 : sX11_restore [.ref 0, iv (1)] (cW ki ln bt rl cp cs ct cv rr dr ja ea ma a1 a2 a3 a4 a5 a6 a7 a8 jb eb mb b1 b2 b3 b4 b5 b6 b7 b8 re fl g1 g2 g3 g4 g5 (dW rt la rs rg pd du ds me tt gr su gp mk rf m1 m2 m3 m4 m5 mr mf n1 n2 n3 n4 n5 nr nf E)) = some r := h1
  rw [h1, h2]
end KC
