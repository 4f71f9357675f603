/-! ===== balance: the class ===== -/
def cBf (c1 c2 c3 g1 : Nat → Int32) (p : Int) : Nat → Int
  | 0 => 0
  | j + 1 => (cBf c1 c2 c3 g1 p j + (bif decide ((c2 (Int.toNat (j : Int))).toInt = p) then cR c3 g1 (j : Int) else 0)) - (bif decide ((c1 (Int.toNat (j : Int))).toInt = p) then cR c3 g1 (j : Int) else 0)
theorem of_n (x b : Int) : Int32.ofInt ((Int32.ofInt x).toInt + b) = Int32.ofInt (x + b) := by rw [Int32.ofInt_add, Int32.ofInt_add, Int32.ofInt_toInt]
theorem or_p : ∀ p : Nat, p < 8 → ∀ m : Nat, m < 128 → m < 2 ^ p → oOr (m : Int) (oShl 1 (p : Int)) = ((m + 2 ^ p : Nat) : Int) ∧ m.testBit p = false ∧ oShl 1 (p : Int) = ((2 ^ p : Nat) : Int) := by decide +kernel
theorem an_p : ∀ p : Nat, p < 8 → ∀ n : Nat, n < 256 → oAnd (n : Int) (oXor (oShl 1 (p : Int)) (-1)) = (if n.testBit p then ((n - 2 ^ p : Nat) : Int) else (n : Int)) ∧ zb (Int32.ofInt (n : Int)) p = n.testBit p := by decide +kernel
theorem bTb_le {B : Nat → Int} : ∀ m n : Nat, n ≤ m → n < 256 → bTb B 256 n ≤ (n : Int) := by
  intro m
  induction m with
  | zero =>
    intro n h0 hn
    have e : n = 0 := by omega
    subst e
    have := bT_ge (B := B) (n := 0) (by decide)
    rw [bTb_e (by decide)]
    unfold bSt
    have : bMx (bTb B 256) 0 8 = 0 := by
      rcases bMx_at (T := bTb B 256) (n := 0) 8 with e | ⟨p, p1, p2, -⟩
      · exact e
      · rw [Nat.zero_testBit] at p2; cases p2
    rw [this]
    exact Int.le_refl _
  | succ m ih =>
    intro n h0 hn
    by_cases e : n = 0
    · exact ih n (by omega) hn
    · have g := bT_ge (B := B) hn
      have : bMx (bTb B 256) n 8 ≤ (n : Int) - 1 := bMx_le (by omega) 8 (fun p hp hb => by
        obtain ⟨s1, -⟩ := bt_sub p hp n hn hb
        have := p2_pos p
        have := ih (n - 2 ^ p) (by omega) (by omega)
        omega)
      omega
/-- the class's row of groups up to n -/
def gpI (B : Nat → Int) (n : Nat) (gp : Nat → Int32) : Prop := ∀ k : Nat, k < n → gp k = Int32.ofInt (bTb B 256 k)
def suI (B : Nat → Int) (n : Nat) (su : Nat → Int32) : Prop := ∀ k : Nat, k < n → su k = Int32.ofInt (bSU B k 8)
theorem gp_v {B : Nat → Int} {n k : Nat} {gp : Nat → Int32} (h : gpI B n gp) (hk : k < n) (hn : k < 256) : (gp k).toInt = bTb B 256 k := by
  rw [h k hk]
  have h1 := (bT_ge (B := B) hn).1
  have h2 := bTb_le (B := B) k k (Nat.le_refl _) hn
  exact iv_to ⟨by omega, by omega⟩
theorem su_s {B : Nat → Int} {p m : Nat} {su : Nat → Int32} (hp : p < 8) (hm : m < 2 ^ p) (h : suI B (2 ^ p + m) su) : suI B (2 ^ p + (m + 1)) (upd su (Int.toNat (oOr (m : Int) (oShl 1 (p : Int)))) (Int32.ofInt ((su (Int.toNat (m : Int))).toInt + B p))) := by
  have h7 : 2 ^ p ≤ 128 := Nat.pow_le_pow_right (n := 2) (by decide) (show p ≤ 7 by omega)
  obtain ⟨e1, e2, -⟩ := or_p p hp m (by omega) hm
  rw [e1, show Int.toNat ((m + 2 ^ p : Nat) : Int) = m + 2 ^ p from rfl, show Int.toNat (m : Int) = m from rfl]
  intro k hk
  by_cases e : k = m + 2 ^ p
  · subst e
    rw [upd_same, h m (by omega), of_n, bSU_add (by omega) hp e2 8 (by decide), if_pos hp]
  · rw [upd_ne e]
    exact h k (by omega)
section BC
variable {ki : Int} {ln : Int} {bt : Nat → Int32} {rl : Value} {cp : Int} {cs : Int} {ct : Int} {cv : Int} {rr : Nat} {dr : Nat} {ja : Int} {ea : Int} {ma : Int} {a1 : Nat → Int32} {a2 : Nat → Int32} {a3 : Nat → Int32} {a4 : Nat → Int32} {a5 : Nat → Int32} {a6 : Nat → Int32} {a7 : Nat → Int32} {a8 : Nat → Int32} {jb : Int} {eb : Int} {mb : Int} {b1 : Nat → Int32} {b2 : Nat → Int32} {b3 : Nat → Int32} {b4 : Nat → Int32} {b5 : Nat → Int32} {b6 : Nat → Int32} {b7 : Nat → Int32} {b8 : Nat → Int32} {re : Int} {fl : Int} {g1 : Nat → Int32} {g2 : Nat → Int32} {g3 : Nat → Int32} {g4 : Nat → Int32} {g5 : Nat → Int32} {rt : Int} {la : Int} {rs : Int} {rg : Int} {pd : Nat → Int32} {du : Nat → Int32} {ds : Nat → Int32} {me : Nat → Int32} {tt : Nat → Int32} {gr : Nat → Int32} {su : Nat → Int32} {gp : Nat → Int32} {mk : Int64} {rf : Nat → Option Nat} {m1 : Nat → Int32} {m2 : Nat → Int32} {m3 : Nat → Int32} {m4 : Nat → Int32} {m5 : Nat → Int32} {mr : Int} {mf : Int} {n1 : Nat → Int32} {n2 : Nat → Int32} {n3 : Nat → Int32} {n4 : Nat → Int32} {n5 : Nat → Int32} {nr : Int} {nf : Int} {E : List va_E} {p : Int} {B : Nat → Int} {Q : mm_R → Prop} {N : Nat}
abbrev rn_X6_balanceOf (N : Nat) (c : mm_C) (Q : mm_R → Prop) : Prop := rn (mm_gf gLX6) (mm_pf pLX6) (mm_mv vX6_balanceOf) (mm_mv zX6_balanceOf) (mm_kc kLX6) mm_gs0 mm_rf0 mm_ro (some .int) 5 (mm_ins iX6_balanceOf) N c Q
theorem bf_lp0 {m0 : Nat} (hm0 : m0 ≤ 10) (hp : -2147483648 ≤ p ∧ p ≤ 2147483647) (k : rn_X6_balanceOf N (74, [(4, iv (((m0 : Nat) : Int))), (3, iv (cBf a1 a2 a3 g1 p m0)), (2, .ref 5), (0, .ref 39), (1, iv (p))], [], (cW ki ln bt rl cp cs ct cv 5 14 ja (m0 : Int) ma a1 a2 a3 a4 a5 a6 a7 a8 jb eb mb b1 b2 b3 b4 b5 b6 b7 b8 re fl g1 g2 g3 g4 g5 (dW rt la rs rg pd du ds me tt gr su gp mk rf m1 m2 m3 m4 m5 mr mf n1 n2 n3 n4 n5 nr nf E))) Q) : ∀ (m j : Nat), j + m = m0 → rn_X6_balanceOf (N + 70 * m + 70) (13, [(4, iv ((j : Int))), (3, iv (cBf a1 a2 a3 g1 p j)), (2, .ref 5), (0, .ref 39), (1, iv (p))], [], (cW ki ln bt rl cp cs ct cv 5 14 ja (m0 : Int) ma a1 a2 a3 a4 a5 a6 a7 a8 jb eb mb b1 b2 b3 b4 b5 b6 b7 b8 re fl g1 g2 g3 g4 g5 (dW rt la rs rg pd du ds me tt gr su gp mk rf m1 m2 m3 m4 m5 mr mf n1 n2 n3 n4 n5 nr nf E))) Q := by
  intro m
  induction m with
  | zero =>
    intro j hj
    have hj : j = m0 := by omega
    subst hj
    refine rn_up (N := N + 70) (by omega) ?_
    refine r_ilw rfl rfl ?_
    refine r_al rfl rfl ?_
    refine r_gf rfl rfl xg_5 rfl ?_
    refine r_cge rfl rfl (by omega) (by omega) (fun u1 => ?_) (fun u1 => ?_)
    · exact rn_up (by omega) k
    · omega
  | succ m ih =>
    intro j hj
    obtain ⟨M, hM⟩ : ∃ M, M = N + 70 * m + 70 := ⟨_, rfl⟩
    rw [← hM] at ih
    refine rn_up (N := M + 70) (by omega) ?_
    refine r_ilw rfl rfl ?_
    refine r_al rfl rfl ?_
    refine r_gf rfl rfl xg_5 rfl ?_
    refine r_cge rfl rfl (by omega) (by omega) (fun u1 => ?_) (fun u1 => ?_)
    · omega
    · refine r_al rfl rfl ?_
      refine r_gf rfl rfl xg_5 rfl ?_
      refine r_ilw rfl rfl ?_
      refine r_ia rfl xg_7 (by omega) (by omega) (by decide) ?_
      refine r_il rfl rfl ?_
      have K2 : rn_X6_balanceOf (M + 15) (68, [(4, iv ((j : Int))), (3, iv ((cBf a1 a2 a3 g1 p j + (bif decide ((a2 (Int.toNat (j : Int))).toInt = p) then cR a3 g1 (j : Int) else 0)) - (bif decide ((a1 (Int.toNat (j : Int))).toInt = p) then cR a3 g1 (j : Int) else 0))), (2, .ref 5), (0, .ref 39), (1, iv (p))], [], (cW ki ln bt rl cp cs ct cv 5 14 ja (m0 : Int) ma a1 a2 a3 a4 a5 a6 a7 a8 jb eb mb b1 b2 b3 b4 b5 b6 b7 b8 re fl g1 g2 g3 g4 g5 (dW rt la rs rg pd du ds me tt gr su gp mk rf m1 m2 m3 m4 m5 mr mf n1 n2 n3 n4 n5 nr nf E))) Q := by
        refine r_inc (lv' := [(4, _), (3, _), (2, _), (0, _), (1, _)]) rfl rfl rfl rfl ?_
        refine r_goto rfl rfl ?_
        exact rn_up (by omega) (ih (j + 1) (by omega))
      have K : rn_X6_balanceOf (M + 40) (45, [(4, iv ((j : Int))), (3, iv (cBf a1 a2 a3 g1 p j + (bif decide ((a2 (Int.toNat (j : Int))).toInt = p) then cR a3 g1 (j : Int) else 0))), (2, .ref 5), (0, .ref 39), (1, iv (p))], [], (cW ki ln bt rl cp cs ct cv 5 14 ja (m0 : Int) ma a1 a2 a3 a4 a5 a6 a7 a8 jb eb mb b1 b2 b3 b4 b5 b6 b7 b8 re fl g1 g2 g3 g4 g5 (dW rt la rs rg pd du ds me tt gr su gp mk rf m1 m2 m3 m4 m5 mr mf n1 n2 n3 n4 n5 nr nf E))) Q := by
        refine r_al rfl rfl ?_
        refine r_gf rfl rfl xg_5 rfl ?_
        refine r_ilw rfl rfl ?_
        refine r_ia rfl xg_6 (by omega) (by omega) (by decide) ?_
        refine r_il rfl rfl ?_
        refine r_cne rfl rfl (as_r _) hp (fun u3 => ?_) (fun u3 => ?_)
        · rw [decide_eq_false u3, cond_false, Int.sub_zero] at K2
          exact rn_up (N := M + 15) (by omega) K2
        · refine r_il rfl rfl ?_
          refine r_al rfl rfl ?_
          refine r_gf rfl rfl xg_39 rfl ?_
          refine r_ilw rfl rfl ?_
          refine r_v2s rfl rfl xg_4 rfl (c_restC0 (by omega)) ?_
          refine r_sub rfl ?_
          refine r_is (lv' := [(3, _), (4, _), (2, _), (0, _), (1, _)]) rfl rfl rfl ?_
          refine rn_LE (a := [(4, iv ((j : Int))), (3, iv ((cBf a1 a2 a3 g1 p j + (bif decide ((a2 (Int.toNat (j : Int))).toInt = p) then cR a3 g1 (j : Int) else 0)) - (cR a3 g1 (j : Int)))), (2, .ref 5), (0, .ref 39), (1, iv (p))]) ⟨(List.forall_mem_cons.mpr ⟨(List.mem_cons_of_mem _ List.mem_cons_self), (List.forall_mem_cons.mpr ⟨List.mem_cons_self, (List.forall_mem_cons.mpr ⟨(List.mem_cons_of_mem _ (List.mem_cons_of_mem _ List.mem_cons_self)), (List.forall_mem_cons.mpr ⟨(List.mem_cons_of_mem _ (List.mem_cons_of_mem _ (List.mem_cons_of_mem _ List.mem_cons_self))), (List.forall_mem_cons.mpr ⟨(List.mem_cons_of_mem _ (List.mem_cons_of_mem _ (List.mem_cons_of_mem _ (List.mem_cons_of_mem _ List.mem_cons_self)))), (fun _ h => absurd h List.not_mem_nil)⟩)⟩)⟩)⟩)⟩), (by show List.Nodup [4, 3, 2, 0, 1]; decide), (by show List.Nodup [3, 4, 2, 0, 1]; decide)⟩ ?_
          rw [decide_eq_true u3, cond_true] at K2
          exact rn_up (N := M + 15) (by omega) K2
      refine r_cne rfl rfl (as_r _) hp (fun u2 => ?_) (fun u2 => ?_)
      · rw [decide_eq_false u2, cond_false, Int.add_zero] at K
        exact rn_up (N := M + 40) (by omega) K
      · refine r_il rfl rfl ?_
        refine r_al rfl rfl ?_
        refine r_gf rfl rfl xg_39 rfl ?_
        refine r_ilw rfl rfl ?_
        refine r_v2s rfl rfl xg_4 rfl (c_restC0 (by omega)) ?_
        refine r_add rfl ?_
        refine r_is (lv' := [(3, _), (4, _), (2, _), (0, _), (1, _)]) rfl rfl rfl ?_
        refine rn_LE (a := [(4, iv ((j : Int))), (3, iv ((cBf a1 a2 a3 g1 p j) + (cR a3 g1 (j : Int)))), (2, .ref 5), (0, .ref 39), (1, iv (p))]) ⟨(List.forall_mem_cons.mpr ⟨(List.mem_cons_of_mem _ List.mem_cons_self), (List.forall_mem_cons.mpr ⟨List.mem_cons_self, (List.forall_mem_cons.mpr ⟨(List.mem_cons_of_mem _ (List.mem_cons_of_mem _ List.mem_cons_self)), (List.forall_mem_cons.mpr ⟨(List.mem_cons_of_mem _ (List.mem_cons_of_mem _ (List.mem_cons_of_mem _ List.mem_cons_self))), (List.forall_mem_cons.mpr ⟨(List.mem_cons_of_mem _ (List.mem_cons_of_mem _ (List.mem_cons_of_mem _ (List.mem_cons_of_mem _ List.mem_cons_self)))), (fun _ h => absurd h List.not_mem_nil)⟩)⟩)⟩)⟩)⟩), (by show List.Nodup [4, 3, 2, 0, 1]; decide), (by show List.Nodup [3, 4, 2, 0, 1]; decide)⟩ ?_
        rw [decide_eq_true u2, cond_true] at K
        exact rn_up (N := M + 40) (by omega) K
theorem c_bf0 (hd : 0 ≤ ea ∧ ea ≤ 10) (hp : -2147483648 ≤ p ∧ p ≤ 2147483647) : sX6_balanceOf [.ref 39, iv p] (cW ki ln bt rl cp cs ct cv 5 14 ja ea ma a1 a2 a3 a4 a5 a6 a7 a8 jb eb mb b1 b2 b3 b4 b5 b6 b7 b8 re fl g1 g2 g3 g4 g5 (dW rt la rs rg pd du ds me tt gr su gp mk rf m1 m2 m3 m4 m5 mr mf n1 n2 n3 n4 n5 nr nf E)) = some (some (iv (cBf a1 a2 a3 g1 p ea.toNat)), (cW ki ln bt rl cp cs ct cv 5 14 ja ea ma a1 a2 a3 a4 a5 a6 a7 a8 jb eb mb b1 b2 b3 b4 b5 b6 b7 b8 re fl g1 g2 g3 g4 g5 (dW rt la rs rg pd du ds me tt gr su gp mk rf m1 m2 m3 m4 m5 mr mf n1 n2 n3 n4 n5 nr nf E))) := by
  obtain ⟨m0, rfl⟩ := Int.eq_ofNat_of_zero_le hd.1
  have hm0 : m0 ≤ 10 := by omega
  have main : ∀ Q : mm_R → Prop, Q (some (iv (cBf a1 a2 a3 g1 p m0)), (cW ki ln bt rl cp cs ct cv 5 14 ja (m0 : Int) ma a1 a2 a3 a4 a5 a6 a7 a8 jb eb mb b1 b2 b3 b4 b5 b6 b7 b8 re fl g1 g2 g3 g4 g5 (dW rt la rs rg pd du ds me tt gr su gp mk rf m1 m2 m3 m4 m5 mr mf n1 n2 n3 n4 n5 nr nf E))) → rn_X6_balanceOf (20 + 70 * 10 + 70 + 20) (0, [(0, .ref 39), (1, iv (p))], [], (cW ki ln bt rl cp cs ct cv 5 14 ja (m0 : Int) ma a1 a2 a3 a4 a5 a6 a7 a8 jb eb mb b1 b2 b3 b4 b5 b6 b7 b8 re fl g1 g2 g3 g4 g5 (dW rt la rs rg pd du ds me tt gr su gp mk rf m1 m2 m3 m4 m5 mr mf n1 n2 n3 n4 n5 nr nf E))) Q := by
    intro Q hQ
    refine r_al rfl rfl ?_
    refine r_gf rfl rfl xg_39 rfl ?_
    refine r_gf rfl rfl xg_4 rfl ?_
    refine r_as (lv' := [(2, _), (0, _), (1, _)]) rfl rfl rfl ?_
    refine r_ic rfl ?_
    refine r_is (lv' := [(3, _), (2, _), (0, _), (1, _)]) rfl rfl rfl ?_
    refine r_ic rfl ?_
    refine r_isw (lv' := [(4, _), (3, _), (2, _), (0, _), (1, _)]) rfl rfl rfl ?_
    refine rn_up (N := 20 + 70 * m0 + 70) (by omega) (bf_lp0 (N := 20) hm0 hp ?_ m0 0 (by omega))
    refine r_il rfl rfl ?_
    exact r_ret rfl rfl hQ
  obtain ⟨r, h1, h2⟩ := rn_S (vs := [.ref 39, iv p]) (Q := fun r => r = (some (iv (cBf a1 a2 a3 g1 p m0)), (cW ki ln bt rl cp cs ct cv 5 14 ja (m0 : Int) ma a1 a2 a3 a4 a5 a6 a7 a8 jb eb mb b1 b2 b3 b4 b5 b6 b7 b8 re fl g1 g2 g3 g4 g5 (dW rt la rs rg pd du ds me tt gr su gp mk rf m1 m2 m3 m4 m5 mr mf n1 n2 n3 n4 n5 nr nf E)))) rfl (rn_up (N := 20 + 70 * 10 + 70 + 20) (M := mm_fuel) (by decide) (main (fun r => r = (some (iv (cBf a1 a2 a3 g1 p m0)), (cW ki ln bt rl cp cs ct cv 5 14 ja (m0 : Int) ma a1 a2 a3 a4 a5 a6 a7 a8 jb eb mb b1 b2 b3 b4 b5 b6 b7 b8 re fl g1 g2 g3 g4 g5 (dW rt la rs rg pd du ds me tt gr su gp mk rf m1 m2 m3 m4 m5 mr mf n1 n2 n3 n4 n5 nr nf E)))) rfl))
  have h1 : sX6_balanceOf [.ref 39, iv p] (cW ki ln bt rl cp cs ct cv 5 14 ja (m0 : Int) ma a1 a2 a3 a4 a5 a6 a7 a8 jb eb mb b1 b2 b3 b4 b5 b6 b7 b8 re fl g1 g2 g3 g4 g5 (dW rt la rs rg pd du ds me tt gr su gp mk rf m1 m2 m3 m4 m5 mr mf n1 n2 n3 n4 n5 nr nf E)) = some r := h1
  rw [h1, h2]
  rfl
abbrev rn_X6_findSums (N : Nat) (c : mm_C) (Q : mm_R → Prop) : Prop := rn (mm_gf gLX6) (mm_pf pLX6) (mm_mv vX6_findSums) (mm_mv zX6_findSums) (mm_kc kLX6) mm_gs0 mm_rf0 mm_ro none 4 (mm_ins iX6_findSums) N c Q
theorem fs_in0 {pn : Nat} (hp : pn < 8) (k : ∀ su : Nat → Int32, suI (fun k : Nat => cBf a1 a2 a3 g1 (k : Int) ea.toNat) (2 ^ pn + 2 ^ pn) su → rn_X6_findSums N (54, [(3, iv (((2 ^ pn : Nat) : Int))), (2, iv (cBf a1 a2 a3 g1 (pn : Int) ea.toNat)), (1, iv ((pn : Int))), (0, .ref 39)], [], (cW ki ln bt rl cp cs ct cv 5 14 ja ea ma a1 a2 a3 a4 a5 a6 a7 a8 jb eb mb b1 b2 b3 b4 b5 b6 b7 b8 re fl g1 g2 g3 g4 g5 (dW rt la rs rg pd du ds me tt gr su gp mk rf m1 m2 m3 m4 m5 mr mf n1 n2 n3 n4 n5 nr nf E))) Q) : ∀ (m j : Nat) (su : Nat → Int32), j + m = 2 ^ pn → suI (fun k : Nat => cBf a1 a2 a3 g1 (k : Int) ea.toNat) (2 ^ pn + j) su → rn_X6_findSums (N + 40 * m + 40) (23, [(3, iv ((j : Int))), (2, iv (cBf a1 a2 a3 g1 (pn : Int) ea.toNat)), (1, iv ((pn : Int))), (0, .ref 39)], [], (cW ki ln bt rl cp cs ct cv 5 14 ja ea ma a1 a2 a3 a4 a5 a6 a7 a8 jb eb mb b1 b2 b3 b4 b5 b6 b7 b8 re fl g1 g2 g3 g4 g5 (dW rt la rs rg pd du ds me tt gr su gp mk rf m1 m2 m3 m4 m5 mr mf n1 n2 n3 n4 n5 nr nf E))) Q := by
  have h0 := p2_pos pn
  have h7 : 2 ^ pn ≤ 128 := Nat.pow_le_pow_right (n := 2) (by decide) (show pn ≤ 7 by omega)
  have h2 : oShl 1 (pn : Int) = ((2 ^ pn : Nat) : Int) := (or_p pn hp 0 (by decide) (p2_pos pn)).2.2
  intro m
  induction m with
  | zero =>
    intro j su hj hI
    have hj : j = 2 ^ pn := by omega
    subst hj
    refine rn_up (N := N + 40) (by omega) ?_
    refine r_il rfl rfl ?_
    refine r_ic rfl ?_
    refine r_il rfl rfl ?_
    refine r_shl rfl ?_
    refine r_eq h2 ?_
    refine r_cge rfl rfl (by omega) (by omega) (fun u1 => ?_) (fun u1 => ?_)
    · exact rn_up (by omega) (k su hI)
    · omega
  | succ m ih =>
    intro j su hj hI
    refine rn_up (N := N + 40 * m + 40 + 40) (by omega) ?_
    refine r_il rfl rfl ?_
    refine r_ic rfl ?_
    refine r_il rfl rfl ?_
    refine r_shl rfl ?_
    refine r_eq h2 ?_
    refine r_cge rfl rfl (by omega) (by omega) (fun u1 => ?_) (fun u1 => ?_)
    · omega
    · have e1 := (or_p pn hp j (by omega) (by omega)).1
      refine r_al rfl rfl ?_
      refine r_gf rfl rfl xg_39 rfl ?_
      refine r_il rfl rfl ?_
      refine r_ic rfl ?_
      refine r_il rfl rfl ?_
      refine r_shl rfl ?_
      refine r_or rfl ?_
      refine r_al rfl rfl ?_
      refine r_gf rfl rfl xg_39 rfl ?_
      refine r_il rfl rfl ?_
      refine r_ia rfl xg_40 (by omega) (by omega) (by decide) ?_
      refine r_il rfl rfl ?_
      refine r_add rfl ?_
      refine r_ias rfl xg_40 (by rw [e1]; omega) (by rw [e1]; omega) (by decide) xs_40 ?_
      refine r_inc (lv' := [(3, _), (2, _), (1, _), (0, _)]) rfl rfl rfl rfl ?_
      refine r_goto rfl rfl ?_
      exact rn_up (by omega) (ih (j + 1) _ (by omega) (su_s (B := (fun k : Nat => cBf a1 a2 a3 g1 (k : Int) ea.toNat)) hp (by omega) hI))
theorem fs_lp0 (hd : 0 ≤ ea ∧ ea ≤ 10) (k : ∀ su : Nat → Int32, suI (fun k : Nat => cBf a1 a2 a3 g1 (k : Int) ea.toNat) 256 su → rn_X6_findSums N (60, [(1, iv (((8 : Nat) : Int))), (0, .ref 39)], [], (cW ki ln bt rl cp cs ct cv 5 14 ja ea ma a1 a2 a3 a4 a5 a6 a7 a8 jb eb mb b1 b2 b3 b4 b5 b6 b7 b8 re fl g1 g2 g3 g4 g5 (dW rt la rs rg pd du ds me tt gr su gp mk rf m1 m2 m3 m4 m5 mr mf n1 n2 n3 n4 n5 nr nf E))) Q) : ∀ (m j : Nat) (su : Nat → Int32), j + m = 8 → suI (fun k : Nat => cBf a1 a2 a3 g1 (k : Int) ea.toNat) (2 ^ j) su → rn_X6_findSums (N + 5300 * m + 5300) (9, [(1, iv ((j : Int))), (0, .ref 39)], [], (cW ki ln bt rl cp cs ct cv 5 14 ja ea ma a1 a2 a3 a4 a5 a6 a7 a8 jb eb mb b1 b2 b3 b4 b5 b6 b7 b8 re fl g1 g2 g3 g4 g5 (dW rt la rs rg pd du ds me tt gr su gp mk rf m1 m2 m3 m4 m5 mr mf n1 n2 n3 n4 n5 nr nf E))) Q := by
  intro m
  induction m with
  | zero =>
    intro j su hj hI
    have hj : j = 8 := by omega
    subst hj
    refine rn_up (N := N + 5300) (by omega) ?_
    refine r_il rfl rfl ?_
    refine r_bi rfl (by decide) ?_
    refine r_cge rfl rfl (by omega) (by omega) (fun u1 => ?_) (fun u1 => ?_)
    · exact rn_up (by omega) (k su hI)
    · omega
  | succ m ih =>
    intro j su hj hI
    obtain ⟨M, hM⟩ : ∃ M, M = N + 5300 * m + 5300 := ⟨_, rfl⟩
    rw [← hM] at ih
    refine rn_up (N := M + 5300) (by omega) ?_
    refine r_il rfl rfl ?_
    refine r_bi rfl (by decide) ?_
    refine r_cge rfl rfl (by omega) (by omega) (fun u1 => ?_) (fun u1 => ?_)
    · omega
    · have h7 : 2 ^ j ≤ 128 := Nat.pow_le_pow_right (n := 2) (by decide) (show j ≤ 7 by omega)
      refine r_al rfl rfl ?_
      refine r_il rfl rfl ?_
      refine r_v2s rfl rfl xg_39 rfl (c_bf0 hd (by omega)) ?_
      refine r_is (lv' := [(2, _), (1, _), (0, _)]) rfl rfl rfl ?_
      refine r_ic rfl ?_
      refine r_is (lv' := [(3, _), (2, _), (1, _), (0, _)]) rfl rfl rfl ?_
      refine rn_up (N := (M + 20) + 40 * 2 ^ j + 40) (by omega) (fs_in0 (N := M + 20) (pn := j) (by omega) (fun su hI => ?_) (2 ^ j) 0 su (by omega) hI)
      refine r_inc (lv' := [(1, _), (3, _), (2, _), (0, _)]) rfl rfl rfl rfl ?_
      refine r_goto rfl rfl ?_
      refine rn_LE (a := [(1, iv ((j : Int) + 1)), (0, .ref 39)]) ⟨(List.forall_mem_cons.mpr ⟨List.mem_cons_self, (List.forall_mem_cons.mpr ⟨(List.mem_cons_of_mem _ (List.mem_cons_of_mem _ (List.mem_cons_of_mem _ List.mem_cons_self))), (fun _ h => absurd h List.not_mem_nil)⟩)⟩), (by show List.Nodup [1, 0]; decide), (by show List.Nodup [1, 3, 2, 0]; decide)⟩ ?_
      exact rn_up (by omega) (ih (j + 1) su (by omega) (by rw [Nat.pow_succ, Nat.mul_two]; exact hI))
theorem c_fs0 (hd : 0 ≤ ea ∧ ea ≤ 10) : ∃ su' : Nat → Int32, sX6_findSums [.ref 39] (cW ki ln bt rl cp cs ct cv 5 14 ja ea ma a1 a2 a3 a4 a5 a6 a7 a8 jb eb mb b1 b2 b3 b4 b5 b6 b7 b8 re fl g1 g2 g3 g4 g5 (dW rt la rs rg pd du ds me tt gr su gp mk rf m1 m2 m3 m4 m5 mr mf n1 n2 n3 n4 n5 nr nf E)) = some (none, (cW ki ln bt rl cp cs ct cv 5 14 ja ea ma a1 a2 a3 a4 a5 a6 a7 a8 jb eb mb b1 b2 b3 b4 b5 b6 b7 b8 re fl g1 g2 g3 g4 g5 (dW rt la rs rg pd du ds me tt gr su' gp mk rf m1 m2 m3 m4 m5 mr mf n1 n2 n3 n4 n5 nr nf E))) ∧ suI (fun k : Nat => cBf a1 a2 a3 g1 (k : Int) ea.toNat) 256 su' := by
  have main : rn_X6_findSums (20 + 5300 * 8 + 5300 + 20) (0, [(0, .ref 39)], [], (cW ki ln bt rl cp cs ct cv 5 14 ja ea ma a1 a2 a3 a4 a5 a6 a7 a8 jb eb mb b1 b2 b3 b4 b5 b6 b7 b8 re fl g1 g2 g3 g4 g5 (dW rt la rs rg pd du ds me tt gr su gp mk rf m1 m2 m3 m4 m5 mr mf n1 n2 n3 n4 n5 nr nf E))) (fun r => ∃ su' : Nat → Int32, r = (none, (cW ki ln bt rl cp cs ct cv 5 14 ja ea ma a1 a2 a3 a4 a5 a6 a7 a8 jb eb mb b1 b2 b3 b4 b5 b6 b7 b8 re fl g1 g2 g3 g4 g5 (dW rt la rs rg pd du ds me tt gr su' gp mk rf m1 m2 m3 m4 m5 mr mf n1 n2 n3 n4 n5 nr nf E))) ∧ suI (fun k : Nat => cBf a1 a2 a3 g1 (k : Int) ea.toNat) 256 su') := by
    refine r_al rfl rfl ?_
    refine r_gf rfl rfl xg_39 rfl ?_
    refine r_ic rfl ?_
    refine r_ic rfl ?_
    refine r_ias rfl xg_40 (by decide) (by decide) (by decide) xs_40 ?_
    refine r_ic rfl ?_
    refine r_is (lv' := [(1, _), (0, _)]) rfl rfl rfl ?_
    refine rn_up (N := 20 + 5300 * 8 + 5300) (by decide) (fs_lp0 (N := 20) hd (fun su hI => ?_) 8 0 _ rfl ?_)
    · exact r_retv rfl rfl ⟨su, rfl, hI⟩
    · intro k hk
      have e : k = 0 := by have : (2 : Nat) ^ 0 = 1 := rfl; omega
      subst e
      rw [show Int.toNat (0 : Int) = 0 from rfl, upd_same]
      have : ∀ j : Nat, bSU (fun k : Nat => cBf a1 a2 a3 g1 (k : Int) ea.toNat) 0 j = 0 := fun j => by
        induction j with
        | zero => rfl
        | succ j ih =>
          show bSU _ 0 j + (bif (0 : Nat).testBit j then _ else 0) = 0
          rw [ih, Nat.zero_testBit]
          rfl
      rw [this 8]
  obtain ⟨r, h1, su', h2, h3⟩ := rn_S (vs := [.ref 39]) rfl (rn_up (N := 20 + 5300 * 8 + 5300 + 20) (M := mm_fuel) (by decide) main)
  have h1 : sX6_findSums [.ref 39] (cW ki ln bt rl cp cs ct cv 5 14 ja ea ma a1 a2 a3 a4 a5 a6 a7 a8 jb eb mb b1 b2 b3 b4 b5 b6 b7 b8 re fl g1 g2 g3 g4 g5 (dW rt la rs rg pd du ds me tt gr su gp mk rf m1 m2 m3 m4 m5 mr mf n1 n2 n3 n4 n5 nr nf E)) = some r := h1
  exact ⟨su', by rw [h1, h2], h3⟩
abbrev rn_X6_mostGroupsIn (N : Nat) (c : mm_C) (Q : mm_R → Prop) : Prop := rn (mm_gf gLX6) (mm_pf pLX6) (mm_mv vX6_mostGroupsIn) (mm_mv zX6_mostGroupsIn) (mm_kc kLX6) mm_gs0 mm_rf0 mm_ro (some .int) 4 (mm_ins iX6_mostGroupsIn) N c Q
theorem mg_lp0 {n : Nat} (hn : n < 256) (hb : ∀ j : Nat, j ≤ 8 → bMx (bTb B 256) n j ≤ 255) (hG : gpI B n gp) (k : rn_X6_mostGroupsIn N (41, [(3, iv (((8 : Nat) : Int))), (2, iv (bMx (bTb B 256) n 8)), (0, .ref 39), (1, iv ((n : Int)))], [], (cW ki ln bt rl cp cs ct cv 5 14 ja ea ma a1 a2 a3 a4 a5 a6 a7 a8 jb eb mb b1 b2 b3 b4 b5 b6 b7 b8 re fl g1 g2 g3 g4 g5 (dW rt la rs rg pd du ds me tt gr su gp mk rf m1 m2 m3 m4 m5 mr mf n1 n2 n3 n4 n5 nr nf E))) Q) : ∀ (m j : Nat), j + m = 8 → rn_X6_mostGroupsIn (N + 50 * m + 50) (4, [(3, iv ((j : Int))), (2, iv (bMx (bTb B 256) n j)), (0, .ref 39), (1, iv ((n : Int)))], [], (cW ki ln bt rl cp cs ct cv 5 14 ja ea ma a1 a2 a3 a4 a5 a6 a7 a8 jb eb mb b1 b2 b3 b4 b5 b6 b7 b8 re fl g1 g2 g3 g4 g5 (dW rt la rs rg pd du ds me tt gr su gp mk rf m1 m2 m3 m4 m5 mr mf n1 n2 n3 n4 n5 nr nf E))) Q := by
  intro m
  induction m with
  | zero =>
    intro j hj
    have hj : j = 8 := by omega
    subst hj
    refine rn_up (N := N + 50) (by omega) ?_
    refine r_il rfl rfl ?_
    refine r_bi rfl (by decide) ?_
    refine r_cge rfl rfl (by omega) (by omega) (fun u1 => ?_) (fun u1 => ?_)
    · exact rn_up (by omega) k
    · omega
  | succ m ih =>
    intro j hj
    obtain ⟨M, hM⟩ : ∃ M, M = N + 50 * m + 50 := ⟨_, rfl⟩
    rw [← hM] at ih
    refine rn_up (N := M + 50) (by omega) ?_
    refine r_il rfl rfl ?_
    refine r_bi rfl (by decide) ?_
    refine r_cge rfl rfl (by omega) (by omega) (fun u1 => ?_) (fun u1 => ?_)
    · omega
    · obtain ⟨v1, v2⟩ := an_p j (by omega) n hn
      refine r_il rfl rfl ?_
      refine r_il rfl rfl ?_
      refine r_s2s rfl rfl rfl (c_isIn (by omega)) ?_
      refine r_zeq rfl rfl (bi_r _) (fun u2 => ?_) (fun u2 => ?_)
      · have u2 : n.testBit j = false := by rw [← v2]; exact bi_0 u2
        refine r_inc (lv' := [(3, _), (2, _), (0, _), (1, _)]) rfl rfl rfl rfl ?_
        refine r_goto rfl rfl ?_
        have e : bMx (bTb B 256) n j = bMx (bTb B 256) n (j + 1) := by show _ = (bif n.testBit j && _ then _ else _); rw [u2]; rfl
        rw [e]
        exact rn_up (by omega) (ih (j + 1) (by omega))
      · have u2 : n.testBit j = true := by rw [← v2]; exact bi_1 u2
        rw [u2, if_pos rfl] at v1
        have hs := (bt_sub j (by omega) n hn u2).1
        have hp2 := p2_pos j
        have hg := gp_v (k := n - 2 ^ j) hG (by omega) (by omega)
        refine r_il rfl rfl ?_
        refine r_al rfl rfl ?_
        refine r_gf rfl rfl xg_39 rfl ?_
        refine r_il rfl rfl ?_
        refine r_ic rfl ?_
        refine r_il rfl rfl ?_
        refine r_shl rfl ?_
        refine r_ic rfl ?_
        refine r_xor rfl ?_
        refine r_and rfl ?_
        refine r_eq v1 ?_
        refine r_ia rfl xg_41 (by omega) (by omega) (by decide) ?_
        refine r_s2s rfl rfl rfl (c_maxC (by have := bMx_0 (T := bTb B 256) (n := n) j; have := hb j (by omega); omega) (as_r _)) ?_
        refine r_is (lv' := [(2, _), (3, _), (0, _), (1, _)]) rfl rfl rfl ?_
        refine r_inc (lv' := [(3, _), (2, _), (0, _), (1, _)]) rfl rfl rfl rfl ?_
        refine r_goto rfl rfl ?_
        have e : mxI (bMx (bTb B 256) n j) (gp (n - 2 ^ j)).toInt = bMx (bTb B 256) n (j + 1) := by show _ = (bif n.testBit j && _ then _ else _); rw [u2, hg]; rfl
        rw [show Int.toNat ((n - 2 ^ j : Nat) : Int) = n - 2 ^ j from rfl, e]
        exact rn_up (by omega) (ih (j + 1) (by omega))
theorem c_mg0 {n : Nat} (hn : n < 256) (hn0 : n ≠ 0) (hb : ∀ j : Nat, j ≤ 8 → bMx (bTb B 256) n j ≤ 255) (hG : gpI B n gp) (hS : (su n).toInt = 0 ↔ bSU B n 8 = 0) : sX6_mostGroupsIn [.ref 39, iv ((n : Int))] (cW ki ln bt rl cp cs ct cv 5 14 ja ea ma a1 a2 a3 a4 a5 a6 a7 a8 jb eb mb b1 b2 b3 b4 b5 b6 b7 b8 re fl g1 g2 g3 g4 g5 (dW rt la rs rg pd du ds me tt gr su gp mk rf m1 m2 m3 m4 m5 mr mf n1 n2 n3 n4 n5 nr nf E)) = some (some (iv (bTb B 256 n)), (cW ki ln bt rl cp cs ct cv 5 14 ja ea ma a1 a2 a3 a4 a5 a6 a7 a8 jb eb mb b1 b2 b3 b4 b5 b6 b7 b8 re fl g1 g2 g3 g4 g5 (dW rt la rs rg pd du ds me tt gr su gp mk rf m1 m2 m3 m4 m5 mr mf n1 n2 n3 n4 n5 nr nf E))) := by
  have main : ∀ Q : mm_R → Prop, Q (some (iv (bTb B 256 n)), (cW ki ln bt rl cp cs ct cv 5 14 ja ea ma a1 a2 a3 a4 a5 a6 a7 a8 jb eb mb b1 b2 b3 b4 b5 b6 b7 b8 re fl g1 g2 g3 g4 g5 (dW rt la rs rg pd du ds me tt gr su gp mk rf m1 m2 m3 m4 m5 mr mf n1 n2 n3 n4 n5 nr nf E))) → rn_X6_mostGroupsIn (20 + 50 * 8 + 50 + 30) (0, [(0, .ref 39), (1, iv ((n : Int)))], [], (cW ki ln bt rl cp cs ct cv 5 14 ja ea ma a1 a2 a3 a4 a5 a6 a7 a8 jb eb mb b1 b2 b3 b4 b5 b6 b7 b8 re fl g1 g2 g3 g4 g5 (dW rt la rs rg pd du ds me tt gr su gp mk rf m1 m2 m3 m4 m5 mr mf n1 n2 n3 n4 n5 nr nf E))) Q := by
    intro Q hQ
    refine r_ic rfl ?_
    refine r_is (lv' := [(2, _), (0, _), (1, _)]) rfl rfl rfl ?_
    refine r_ic rfl ?_
    refine r_is (lv' := [(3, _), (2, _), (0, _), (1, _)]) rfl rfl rfl ?_
    refine rn_up (N := 20 + 50 * 8 + 50) (by decide) (mg_lp0 (N := 20) hn hb hG ?_ 8 0 rfl)
    refine r_al rfl rfl ?_
    refine r_gf rfl rfl xg_39 rfl ?_
    refine r_il rfl rfl ?_
    refine r_ia rfl xg_40 (by omega) (by omega) (by decide) ?_
    refine r_zne rfl rfl (as_r _) (fun u1 => ?_) (fun u1 => ?_)
    · have e : bTb B 256 n = bMx (bTb B 256) n 8 := by rw [bTb_e hn]; unfold bSt; rw [decide_eq_false (fun z => u1 (hS.mpr z)), Bool.and_false]; exact Int.add_zero _
      rw [e] at hQ
      refine r_il rfl rfl ?_
      exact r_ret rfl rfl hQ
    · have e : bTb B 256 n = bMx (bTb B 256) n 8 + 1 := by rw [bTb_e hn]; unfold bSt; rw [decide_eq_true (hS.mp u1), decide_eq_false hn0]; rfl
      rw [e] at hQ
      refine r_il rfl rfl ?_
      refine r_ic rfl ?_
      refine r_add rfl ?_
      refine r_goto rfl rfl ?_
      exact r_ret rfl rfl hQ
  obtain ⟨r, h1, h2⟩ := rn_S (vs := [.ref 39, iv ((n : Int))]) (Q := fun r => r = (some (iv (bTb B 256 n)), (cW ki ln bt rl cp cs ct cv 5 14 ja ea ma a1 a2 a3 a4 a5 a6 a7 a8 jb eb mb b1 b2 b3 b4 b5 b6 b7 b8 re fl g1 g2 g3 g4 g5 (dW rt la rs rg pd du ds me tt gr su gp mk rf m1 m2 m3 m4 m5 mr mf n1 n2 n3 n4 n5 nr nf E)))) rfl (rn_up (N := 20 + 50 * 8 + 50 + 30) (M := mm_fuel) (by decide) (main (fun r => r = (some (iv (bTb B 256 n)), (cW ki ln bt rl cp cs ct cv 5 14 ja ea ma a1 a2 a3 a4 a5 a6 a7 a8 jb eb mb b1 b2 b3 b4 b5 b6 b7 b8 re fl g1 g2 g3 g4 g5 (dW rt la rs rg pd du ds me tt gr su gp mk rf m1 m2 m3 m4 m5 mr mf n1 n2 n3 n4 n5 nr nf E)))) rfl))
  have h1 : sX6_mostGroupsIn [.ref 39, iv ((n : Int))] (cW ki ln bt rl cp cs ct cv 5 14 ja ea ma a1 a2 a3 a4 a5 a6 a7 a8 jb eb mb b1 b2 b3 b4 b5 b6 b7 b8 re fl g1 g2 g3 g4 g5 (dW rt la rs rg pd du ds me tt gr su gp mk rf m1 m2 m3 m4 m5 mr mf n1 n2 n3 n4 n5 nr nf E)) = some r := h1
  rw [h1, h2]
abbrev rn_X6_fewestPapers (N : Nat) (c : mm_C) (Q : mm_R → Prop) : Prop := rn (mm_gf gLX6) (mm_pf pLX6) (mm_mv vX6_fewestPapers) (mm_mv zX6_fewestPapers) (mm_kc kLX6) mm_gs0 mm_rf0 mm_ro (some .int) 2 (mm_ins iX6_fewestPapers) N c Q
theorem fp_lp0 (hSU : suI (fun k : Nat => cBf a1 a2 a3 g1 (k : Int) ea.toNat) 256 su) (hR : ∀ n : Nat, n < 256 → -2147483648 ≤ bSU (fun k : Nat => cBf a1 a2 a3 g1 (k : Int) ea.toNat) n 8 ∧ bSU (fun k : Nat => cBf a1 a2 a3 g1 (k : Int) ea.toNat) n 8 ≤ 2147483647) (k : ∀ gp : Nat → Int32, gpI (fun k : Nat => cBf a1 a2 a3 g1 (k : Int) ea.toNat) 256 gp → rn_X6_fewestPapers N (37, [(1, iv (((256 : Nat) : Int))), (0, .ref 39)], [], (cW ki ln bt rl cp cs ct cv 5 14 ja ea ma a1 a2 a3 a4 a5 a6 a7 a8 jb eb mb b1 b2 b3 b4 b5 b6 b7 b8 re fl g1 g2 g3 g4 g5 (dW rt la rs rg pd du ds me tt gr su gp mk rf m1 m2 m3 m4 m5 mr mf n1 n2 n3 n4 n5 nr nf E))) Q) : ∀ (m j : Nat) (gp : Nat → Int32), j + m = 256 → 1 ≤ j → gpI (fun k : Nat => cBf a1 a2 a3 g1 (k : Int) ea.toNat) j gp → rn_X6_fewestPapers (N + 40 * m + 40) (13, [(1, iv ((j : Int))), (0, .ref 39)], [], (cW ki ln bt rl cp cs ct cv 5 14 ja ea ma a1 a2 a3 a4 a5 a6 a7 a8 jb eb mb b1 b2 b3 b4 b5 b6 b7 b8 re fl g1 g2 g3 g4 g5 (dW rt la rs rg pd du ds me tt gr su gp mk rf m1 m2 m3 m4 m5 mr mf n1 n2 n3 n4 n5 nr nf E))) Q := by
  intro m
  induction m with
  | zero =>
    intro j gp hj h1 hG
    have hj : j = 256 := by omega
    subst hj
    refine rn_up (N := N + 40) (by omega) ?_
    refine r_il rfl rfl ?_
    refine r_si rfl (by decide) ?_
    refine r_cgt rfl rfl (by omega) (by omega) (fun u1 => ?_) (fun u1 => ?_)
    · exact rn_up (by omega) (k gp hG)
    · omega
  | succ m ih =>
    intro j gp hj h1 hG
    refine rn_up (N := N + 40 * m + 40 + 40) (by omega) ?_
    refine r_il rfl rfl ?_
    refine r_si rfl (by decide) ?_
    refine r_cgt rfl rfl (by omega) (by omega) (fun u1 => ?_) (fun u1 => ?_)
    · omega
    · have hs : (su j).toInt = 0 ↔ bSU (fun k : Nat => cBf a1 a2 a3 g1 (k : Int) ea.toNat) j 8 = 0 := by
        rw [hSU j (by omega), iv_to (hR j (by omega))]
      have hb : ∀ i : Nat, i ≤ 8 → bMx (bTb (fun k : Nat => cBf a1 a2 a3 g1 (k : Int) ea.toNat) 256) j i ≤ 255 := fun i hi => bMx_le (by decide) i (fun p hp hpb => by
        obtain ⟨s1, -⟩ := bt_sub p (by omega) j (by omega) hpb
        have := p2_pos p
        have := bTb_le (B := (fun k : Nat => cBf a1 a2 a3 g1 (k : Int) ea.toNat)) (j - 2 ^ p) (j - 2 ^ p) (Nat.le_refl _) (by omega)
        omega)
      refine r_al rfl rfl ?_
      refine r_gf rfl rfl xg_39 rfl ?_
      refine r_il rfl rfl ?_
      refine r_al rfl rfl ?_
      refine r_il rfl rfl ?_
      refine r_v2s rfl rfl xg_39 rfl (c_mg0 (B := (fun k : Nat => cBf a1 a2 a3 g1 (k : Int) ea.toNat)) (by omega) (by omega) hb hG hs) ?_
      refine r_ias rfl xg_41 (by omega) (by omega) (by decide) xs_41 ?_
      refine r_inc (lv' := [(1, _), (0, _)]) rfl rfl rfl rfl ?_
      refine r_goto rfl rfl ?_
      refine rn_up (by omega) (ih (j + 1) _ (by omega) (by omega) (fun k hk => ?_))
      by_cases e : k = j
      · subst e
        rw [show Int.toNat (k : Int) = k from rfl, upd_same]
      · rw [show Int.toNat (j : Int) = j from rfl, upd_ne e]
        exact hG k (by omega)
theorem c_fp0 (hd : 0 ≤ ea ∧ ea ≤ 10) (hR : ∀ n : Nat, n < 256 → -2147483648 ≤ bSU (fun k : Nat => cBf a1 a2 a3 g1 (k : Int) ea.toNat) n 8 ∧ bSU (fun k : Nat => cBf a1 a2 a3 g1 (k : Int) ea.toNat) n 8 ≤ 2147483647) : ∃ su' gp' : Nat → Int32, sX6_fewestPapers [.ref 39] (cW ki ln bt rl cp cs ct cv 5 14 ja ea ma a1 a2 a3 a4 a5 a6 a7 a8 jb eb mb b1 b2 b3 b4 b5 b6 b7 b8 re fl g1 g2 g3 g4 g5 (dW rt la rs rg pd du ds me tt gr su gp mk rf m1 m2 m3 m4 m5 mr mf n1 n2 n3 n4 n5 nr nf E)) = some (some (iv (8 - bTb (fun k : Nat => cBf a1 a2 a3 g1 (k : Int) ea.toNat) 256 255)), (cW ki ln bt rl cp cs ct cv 5 14 ja ea ma a1 a2 a3 a4 a5 a6 a7 a8 jb eb mb b1 b2 b3 b4 b5 b6 b7 b8 re fl g1 g2 g3 g4 g5 (dW rt la rs rg pd du ds me tt gr su' gp' mk rf m1 m2 m3 m4 m5 mr mf n1 n2 n3 n4 n5 nr nf E))) := by
  obtain ⟨su', hsu, hSU⟩ := c_fs0 (E := E) (ki := ki) (ln := ln) (bt := bt) (rl := rl) (cp := cp) (cs := cs) (ct := ct) (cv := cv) (ja := ja) (ea := ea) (ma := ma) (a1 := a1) (a2 := a2) (a3 := a3) (a4 := a4) (a5 := a5) (a6 := a6) (a7 := a7) (a8 := a8) (jb := jb) (eb := eb) (mb := mb) (b1 := b1) (b2 := b2) (b3 := b3) (b4 := b4) (b5 := b5) (b6 := b6) (b7 := b7) (b8 := b8) (re := re) (fl := fl) (g1 := g1) (g2 := g2) (g3 := g3) (g4 := g4) (g5 := g5) (rt := rt) (la := la) (rs := rs) (rg := rg) (pd := pd) (du := du) (ds := ds) (me := me) (tt := tt) (gr := gr) (su := su) (gp := gp) (mk := mk) (rf := rf) (m1 := m1) (m2 := m2) (m3 := m3) (m4 := m4) (m5 := m5) (mr := mr) (mf := mf) (n1 := n1) (n2 := n2) (n3 := n3) (n4 := n4) (n5 := n5) (nr := nr) (nf := nf) hd
  have main : rn_X6_fewestPapers (20 + 40 * 255 + 40 + 20) (0, [(0, .ref 39)], [], (cW ki ln bt rl cp cs ct cv 5 14 ja ea ma a1 a2 a3 a4 a5 a6 a7 a8 jb eb mb b1 b2 b3 b4 b5 b6 b7 b8 re fl g1 g2 g3 g4 g5 (dW rt la rs rg pd du ds me tt gr su gp mk rf m1 m2 m3 m4 m5 mr mf n1 n2 n3 n4 n5 nr nf E))) (fun r => ∃ gp' : Nat → Int32, r = (some (iv (8 - bTb (fun k : Nat => cBf a1 a2 a3 g1 (k : Int) ea.toNat) 256 255)), (cW ki ln bt rl cp cs ct cv 5 14 ja ea ma a1 a2 a3 a4 a5 a6 a7 a8 jb eb mb b1 b2 b3 b4 b5 b6 b7 b8 re fl g1 g2 g3 g4 g5 (dW rt la rs rg pd du ds me tt gr su' gp' mk rf m1 m2 m3 m4 m5 mr mf n1 n2 n3 n4 n5 nr nf E)))) := by
    refine r_al rfl rfl ?_
    refine r_v1n rfl rfl xg_39 rfl hsu ?_
    refine r_al rfl rfl ?_
    refine r_gf rfl rfl xg_39 rfl ?_
    refine r_ic rfl ?_
    refine r_ic rfl ?_
    refine r_ias rfl xg_41 (by decide) (by decide) (by decide) xs_41 ?_
    refine r_ic rfl ?_
    refine r_is (lv' := [(1, _), (0, _)]) rfl rfl rfl ?_
    refine rn_up (N := 20 + 40 * 255 + 40) (by decide) (fp_lp0 (N := 20) (su := su') hSU hR (fun gp hG => ?_) 255 1 _ rfl (by decide) ?_)
    · have hg := gp_v (k := 255) hG (by decide) (by decide)
      refine r_bi rfl (by decide) ?_
      refine r_al rfl rfl ?_
      refine r_gf rfl rfl xg_39 rfl ?_
      refine r_si rfl (by decide) ?_
      refine r_ia rfl xg_41 (by decide) (by decide) (by decide) ?_
      refine r_sub rfl ?_
      rw [show Int.toNat (255 : Int) = 255 from rfl, hg]
      exact r_ret rfl rfl ⟨gp, rfl⟩
    · intro k hk
      have e : k = 0 := by omega
      subst e
      rw [show Int.toNat (0 : Int) = 0 from rfl, upd_same]
      have h1 := bTb_le (B := (fun k : Nat => cBf a1 a2 a3 g1 (k : Int) ea.toNat)) 0 0 (Nat.le_refl _) (by decide)
      have h2 := (bT_ge (B := (fun k : Nat => cBf a1 a2 a3 g1 (k : Int) ea.toNat)) (n := 0) (by decide)).1
      rw [show bTb (fun k : Nat => cBf a1 a2 a3 g1 (k : Int) ea.toNat) 256 0 = 0 by omega]
  obtain ⟨r, h1, gp', h2⟩ := rn_S (vs := [.ref 39]) rfl (rn_up (N := 20 + 40 * 255 + 40 + 20) (M := mm_fuel) (by decide) main)
  have h1 : sX6_fewestPapers [.ref 39] (cW ki ln bt rl cp cs ct cv 5 14 ja ea ma a1 a2 a3 a4 a5 a6 a7 a8 jb eb mb b1 b2 b3 b4 b5 b6 b7 b8 re fl g1 g2 g3 g4 g5 (dW rt la rs rg pd du ds me tt gr su gp mk rf m1 m2 m3 m4 m5 mr mf n1 n2 n3 n4 n5 nr nf E)) = some r := h1
  exact ⟨su', gp', by rw [h1, h2]⟩
theorem bf_lp1 {m0 : Nat} (hm0 : m0 ≤ 10) (hp : -2147483648 ≤ p ∧ p ≤ 2147483647) (k : rn_X6_balanceOf N (74, [(4, iv (((m0 : Nat) : Int))), (3, iv (cBf b1 b2 b3 g1 p m0)), (2, .ref 14), (0, .ref 39), (1, iv (p))], [], (cW ki ln bt rl cp cs ct cv 14 5 ja ea ma a1 a2 a3 a4 a5 a6 a7 a8 jb (m0 : Int) mb b1 b2 b3 b4 b5 b6 b7 b8 re fl g1 g2 g3 g4 g5 (dW rt la rs rg pd du ds me tt gr su gp mk rf m1 m2 m3 m4 m5 mr mf n1 n2 n3 n4 n5 nr nf E))) Q) : ∀ (m j : Nat), j + m = m0 → rn_X6_balanceOf (N + 70 * m + 70) (13, [(4, iv ((j : Int))), (3, iv (cBf b1 b2 b3 g1 p j)), (2, .ref 14), (0, .ref 39), (1, iv (p))], [], (cW ki ln bt rl cp cs ct cv 14 5 ja ea ma a1 a2 a3 a4 a5 a6 a7 a8 jb (m0 : Int) mb b1 b2 b3 b4 b5 b6 b7 b8 re fl g1 g2 g3 g4 g5 (dW rt la rs rg pd du ds me tt gr su gp mk rf m1 m2 m3 m4 m5 mr mf n1 n2 n3 n4 n5 nr nf E))) Q := by
  intro m
  induction m with
  | zero =>
    intro j hj
    have hj : j = m0 := by omega
    subst hj
    refine rn_up (N := N + 70) (by omega) ?_
    refine r_ilw rfl rfl ?_
    refine r_al rfl rfl ?_
    refine r_gf rfl rfl xg_14 rfl ?_
    refine r_cge rfl rfl (by omega) (by omega) (fun u1 => ?_) (fun u1 => ?_)
    · exact rn_up (by omega) k
    · omega
  | succ m ih =>
    intro j hj
    obtain ⟨M, hM⟩ : ∃ M, M = N + 70 * m + 70 := ⟨_, rfl⟩
    rw [← hM] at ih
    refine rn_up (N := M + 70) (by omega) ?_
    refine r_ilw rfl rfl ?_
    refine r_al rfl rfl ?_
    refine r_gf rfl rfl xg_14 rfl ?_
    refine r_cge rfl rfl (by omega) (by omega) (fun u1 => ?_) (fun u1 => ?_)
    · omega
    · refine r_al rfl rfl ?_
      refine r_gf rfl rfl xg_14 rfl ?_
      refine r_ilw rfl rfl ?_
      refine r_ia rfl xg_16 (by omega) (by omega) (by decide) ?_
      refine r_il rfl rfl ?_
      have K2 : rn_X6_balanceOf (M + 15) (68, [(4, iv ((j : Int))), (3, iv ((cBf b1 b2 b3 g1 p j + (bif decide ((b2 (Int.toNat (j : Int))).toInt = p) then cR b3 g1 (j : Int) else 0)) - (bif decide ((b1 (Int.toNat (j : Int))).toInt = p) then cR b3 g1 (j : Int) else 0))), (2, .ref 14), (0, .ref 39), (1, iv (p))], [], (cW ki ln bt rl cp cs ct cv 14 5 ja ea ma a1 a2 a3 a4 a5 a6 a7 a8 jb (m0 : Int) mb b1 b2 b3 b4 b5 b6 b7 b8 re fl g1 g2 g3 g4 g5 (dW rt la rs rg pd du ds me tt gr su gp mk rf m1 m2 m3 m4 m5 mr mf n1 n2 n3 n4 n5 nr nf E))) Q := by
        refine r_inc (lv' := [(4, _), (3, _), (2, _), (0, _), (1, _)]) rfl rfl rfl rfl ?_
        refine r_goto rfl rfl ?_
        exact rn_up (by omega) (ih (j + 1) (by omega))
      have K : rn_X6_balanceOf (M + 40) (45, [(4, iv ((j : Int))), (3, iv (cBf b1 b2 b3 g1 p j + (bif decide ((b2 (Int.toNat (j : Int))).toInt = p) then cR b3 g1 (j : Int) else 0))), (2, .ref 14), (0, .ref 39), (1, iv (p))], [], (cW ki ln bt rl cp cs ct cv 14 5 ja ea ma a1 a2 a3 a4 a5 a6 a7 a8 jb (m0 : Int) mb b1 b2 b3 b4 b5 b6 b7 b8 re fl g1 g2 g3 g4 g5 (dW rt la rs rg pd du ds me tt gr su gp mk rf m1 m2 m3 m4 m5 mr mf n1 n2 n3 n4 n5 nr nf E))) Q := by
        refine r_al rfl rfl ?_
        refine r_gf rfl rfl xg_14 rfl ?_
        refine r_ilw rfl rfl ?_
        refine r_ia rfl xg_15 (by omega) (by omega) (by decide) ?_
        refine r_il rfl rfl ?_
        refine r_cne rfl rfl (as_r _) hp (fun u3 => ?_) (fun u3 => ?_)
        · rw [decide_eq_false u3, cond_false, Int.sub_zero] at K2
          exact rn_up (N := M + 15) (by omega) K2
        · refine r_il rfl rfl ?_
          refine r_al rfl rfl ?_
          refine r_gf rfl rfl xg_39 rfl ?_
          refine r_ilw rfl rfl ?_
          refine r_v2s rfl rfl xg_4 rfl (c_restC1 (by omega)) ?_
          refine r_sub rfl ?_
          refine r_is (lv' := [(3, _), (4, _), (2, _), (0, _), (1, _)]) rfl rfl rfl ?_
          refine rn_LE (a := [(4, iv ((j : Int))), (3, iv ((cBf b1 b2 b3 g1 p j + (bif decide ((b2 (Int.toNat (j : Int))).toInt = p) then cR b3 g1 (j : Int) else 0)) - (cR b3 g1 (j : Int)))), (2, .ref 14), (0, .ref 39), (1, iv (p))]) ⟨(List.forall_mem_cons.mpr ⟨(List.mem_cons_of_mem _ List.mem_cons_self), (List.forall_mem_cons.mpr ⟨List.mem_cons_self, (List.forall_mem_cons.mpr ⟨(List.mem_cons_of_mem _ (List.mem_cons_of_mem _ List.mem_cons_self)), (List.forall_mem_cons.mpr ⟨(List.mem_cons_of_mem _ (List.mem_cons_of_mem _ (List.mem_cons_of_mem _ List.mem_cons_self))), (List.forall_mem_cons.mpr ⟨(List.mem_cons_of_mem _ (List.mem_cons_of_mem _ (List.mem_cons_of_mem _ (List.mem_cons_of_mem _ List.mem_cons_self)))), (fun _ h => absurd h List.not_mem_nil)⟩)⟩)⟩)⟩)⟩), (by show List.Nodup [4, 3, 2, 0, 1]; decide), (by show List.Nodup [3, 4, 2, 0, 1]; decide)⟩ ?_
          rw [decide_eq_true u3, cond_true] at K2
          exact rn_up (N := M + 15) (by omega) K2
      refine r_cne rfl rfl (as_r _) hp (fun u2 => ?_) (fun u2 => ?_)
      · rw [decide_eq_false u2, cond_false, Int.add_zero] at K
        exact rn_up (N := M + 40) (by omega) K
      · refine r_il rfl rfl ?_
        refine r_al rfl rfl ?_
        refine r_gf rfl rfl xg_39 rfl ?_
        refine r_ilw rfl rfl ?_
        refine r_v2s rfl rfl xg_4 rfl (c_restC1 (by omega)) ?_
        refine r_add rfl ?_
        refine r_is (lv' := [(3, _), (4, _), (2, _), (0, _), (1, _)]) rfl rfl rfl ?_
        refine rn_LE (a := [(4, iv ((j : Int))), (3, iv ((cBf b1 b2 b3 g1 p j) + (cR b3 g1 (j : Int)))), (2, .ref 14), (0, .ref 39), (1, iv (p))]) ⟨(List.forall_mem_cons.mpr ⟨(List.mem_cons_of_mem _ List.mem_cons_self), (List.forall_mem_cons.mpr ⟨List.mem_cons_self, (List.forall_mem_cons.mpr ⟨(List.mem_cons_of_mem _ (List.mem_cons_of_mem _ List.mem_cons_self)), (List.forall_mem_cons.mpr ⟨(List.mem_cons_of_mem _ (List.mem_cons_of_mem _ (List.mem_cons_of_mem _ List.mem_cons_self))), (List.forall_mem_cons.mpr ⟨(List.mem_cons_of_mem _ (List.mem_cons_of_mem _ (List.mem_cons_of_mem _ (List.mem_cons_of_mem _ List.mem_cons_self)))), (fun _ h => absurd h List.not_mem_nil)⟩)⟩)⟩)⟩)⟩), (by show List.Nodup [4, 3, 2, 0, 1]; decide), (by show List.Nodup [3, 4, 2, 0, 1]; decide)⟩ ?_
        rw [decide_eq_true u2, cond_true] at K
        exact rn_up (N := M + 40) (by omega) K
theorem c_bf1 (hd : 0 ≤ eb ∧ eb ≤ 10) (hp : -2147483648 ≤ p ∧ p ≤ 2147483647) : sX6_balanceOf [.ref 39, iv p] (cW ki ln bt rl cp cs ct cv 14 5 ja ea ma a1 a2 a3 a4 a5 a6 a7 a8 jb eb mb b1 b2 b3 b4 b5 b6 b7 b8 re fl g1 g2 g3 g4 g5 (dW rt la rs rg pd du ds me tt gr su gp mk rf m1 m2 m3 m4 m5 mr mf n1 n2 n3 n4 n5 nr nf E)) = some (some (iv (cBf b1 b2 b3 g1 p eb.toNat)), (cW ki ln bt rl cp cs ct cv 14 5 ja ea ma a1 a2 a3 a4 a5 a6 a7 a8 jb eb mb b1 b2 b3 b4 b5 b6 b7 b8 re fl g1 g2 g3 g4 g5 (dW rt la rs rg pd du ds me tt gr su gp mk rf m1 m2 m3 m4 m5 mr mf n1 n2 n3 n4 n5 nr nf E))) := by
  obtain ⟨m0, rfl⟩ := Int.eq_ofNat_of_zero_le hd.1
  have hm0 : m0 ≤ 10 := by omega
  have main : ∀ Q : mm_R → Prop, Q (some (iv (cBf b1 b2 b3 g1 p m0)), (cW ki ln bt rl cp cs ct cv 14 5 ja ea ma a1 a2 a3 a4 a5 a6 a7 a8 jb (m0 : Int) mb b1 b2 b3 b4 b5 b6 b7 b8 re fl g1 g2 g3 g4 g5 (dW rt la rs rg pd du ds me tt gr su gp mk rf m1 m2 m3 m4 m5 mr mf n1 n2 n3 n4 n5 nr nf E))) → rn_X6_balanceOf (20 + 70 * 10 + 70 + 20) (0, [(0, .ref 39), (1, iv (p))], [], (cW ki ln bt rl cp cs ct cv 14 5 ja ea ma a1 a2 a3 a4 a5 a6 a7 a8 jb (m0 : Int) mb b1 b2 b3 b4 b5 b6 b7 b8 re fl g1 g2 g3 g4 g5 (dW rt la rs rg pd du ds me tt gr su gp mk rf m1 m2 m3 m4 m5 mr mf n1 n2 n3 n4 n5 nr nf E))) Q := by
    intro Q hQ
    refine r_al rfl rfl ?_
    refine r_gf rfl rfl xg_39 rfl ?_
    refine r_gf rfl rfl xg_4 rfl ?_
    refine r_as (lv' := [(2, _), (0, _), (1, _)]) rfl rfl rfl ?_
    refine r_ic rfl ?_
    refine r_is (lv' := [(3, _), (2, _), (0, _), (1, _)]) rfl rfl rfl ?_
    refine r_ic rfl ?_
    refine r_isw (lv' := [(4, _), (3, _), (2, _), (0, _), (1, _)]) rfl rfl rfl ?_
    refine rn_up (N := 20 + 70 * m0 + 70) (by omega) (bf_lp1 (N := 20) hm0 hp ?_ m0 0 (by omega))
    refine r_il rfl rfl ?_
    exact r_ret rfl rfl hQ
  obtain ⟨r, h1, h2⟩ := rn_S (vs := [.ref 39, iv p]) (Q := fun r => r = (some (iv (cBf b1 b2 b3 g1 p m0)), (cW ki ln bt rl cp cs ct cv 14 5 ja ea ma a1 a2 a3 a4 a5 a6 a7 a8 jb (m0 : Int) mb b1 b2 b3 b4 b5 b6 b7 b8 re fl g1 g2 g3 g4 g5 (dW rt la rs rg pd du ds me tt gr su gp mk rf m1 m2 m3 m4 m5 mr mf n1 n2 n3 n4 n5 nr nf E)))) rfl (rn_up (N := 20 + 70 * 10 + 70 + 20) (M := mm_fuel) (by decide) (main (fun r => r = (some (iv (cBf b1 b2 b3 g1 p m0)), (cW ki ln bt rl cp cs ct cv 14 5 ja ea ma a1 a2 a3 a4 a5 a6 a7 a8 jb (m0 : Int) mb b1 b2 b3 b4 b5 b6 b7 b8 re fl g1 g2 g3 g4 g5 (dW rt la rs rg pd du ds me tt gr su gp mk rf m1 m2 m3 m4 m5 mr mf n1 n2 n3 n4 n5 nr nf E)))) rfl))
  have h1 : sX6_balanceOf [.ref 39, iv p] (cW ki ln bt rl cp cs ct cv 14 5 ja ea ma a1 a2 a3 a4 a5 a6 a7 a8 jb (m0 : Int) mb b1 b2 b3 b4 b5 b6 b7 b8 re fl g1 g2 g3 g4 g5 (dW rt la rs rg pd du ds me tt gr su gp mk rf m1 m2 m3 m4 m5 mr mf n1 n2 n3 n4 n5 nr nf E)) = some r := h1
  rw [h1, h2]
  rfl
theorem fs_in1 {pn : Nat} (hp : pn < 8) (k : ∀ su : Nat → Int32, suI (fun k : Nat => cBf b1 b2 b3 g1 (k : Int) eb.toNat) (2 ^ pn + 2 ^ pn) su → rn_X6_findSums N (54, [(3, iv (((2 ^ pn : Nat) : Int))), (2, iv (cBf b1 b2 b3 g1 (pn : Int) eb.toNat)), (1, iv ((pn : Int))), (0, .ref 39)], [], (cW ki ln bt rl cp cs ct cv 14 5 ja ea ma a1 a2 a3 a4 a5 a6 a7 a8 jb eb mb b1 b2 b3 b4 b5 b6 b7 b8 re fl g1 g2 g3 g4 g5 (dW rt la rs rg pd du ds me tt gr su gp mk rf m1 m2 m3 m4 m5 mr mf n1 n2 n3 n4 n5 nr nf E))) Q) : ∀ (m j : Nat) (su : Nat → Int32), j + m = 2 ^ pn → suI (fun k : Nat => cBf b1 b2 b3 g1 (k : Int) eb.toNat) (2 ^ pn + j) su → rn_X6_findSums (N + 40 * m + 40) (23, [(3, iv ((j : Int))), (2, iv (cBf b1 b2 b3 g1 (pn : Int) eb.toNat)), (1, iv ((pn : Int))), (0, .ref 39)], [], (cW ki ln bt rl cp cs ct cv 14 5 ja ea ma a1 a2 a3 a4 a5 a6 a7 a8 jb eb mb b1 b2 b3 b4 b5 b6 b7 b8 re fl g1 g2 g3 g4 g5 (dW rt la rs rg pd du ds me tt gr su gp mk rf m1 m2 m3 m4 m5 mr mf n1 n2 n3 n4 n5 nr nf E))) Q := by
  have h0 := p2_pos pn
  have h7 : 2 ^ pn ≤ 128 := Nat.pow_le_pow_right (n := 2) (by decide) (show pn ≤ 7 by omega)
  have h2 : oShl 1 (pn : Int) = ((2 ^ pn : Nat) : Int) := (or_p pn hp 0 (by decide) (p2_pos pn)).2.2
  intro m
  induction m with
  | zero =>
    intro j su hj hI
    have hj : j = 2 ^ pn := by omega
    subst hj
    refine rn_up (N := N + 40) (by omega) ?_
    refine r_il rfl rfl ?_
    refine r_ic rfl ?_
    refine r_il rfl rfl ?_
    refine r_shl rfl ?_
    refine r_eq h2 ?_
    refine r_cge rfl rfl (by omega) (by omega) (fun u1 => ?_) (fun u1 => ?_)
    · exact rn_up (by omega) (k su hI)
    · omega
  | succ m ih =>
    intro j su hj hI
    refine rn_up (N := N + 40 * m + 40 + 40) (by omega) ?_
    refine r_il rfl rfl ?_
    refine r_ic rfl ?_
    refine r_il rfl rfl ?_
    refine r_shl rfl ?_
    refine r_eq h2 ?_
    refine r_cge rfl rfl (by omega) (by omega) (fun u1 => ?_) (fun u1 => ?_)
    · omega
    · have e1 := (or_p pn hp j (by omega) (by omega)).1
      refine r_al rfl rfl ?_
      refine r_gf rfl rfl xg_39 rfl ?_
      refine r_il rfl rfl ?_
      refine r_ic rfl ?_
      refine r_il rfl rfl ?_
      refine r_shl rfl ?_
      refine r_or rfl ?_
      refine r_al rfl rfl ?_
      refine r_gf rfl rfl xg_39 rfl ?_
      refine r_il rfl rfl ?_
      refine r_ia rfl xg_40 (by omega) (by omega) (by decide) ?_
      refine r_il rfl rfl ?_
      refine r_add rfl ?_
      refine r_ias rfl xg_40 (by rw [e1]; omega) (by rw [e1]; omega) (by decide) xs_40 ?_
      refine r_inc (lv' := [(3, _), (2, _), (1, _), (0, _)]) rfl rfl rfl rfl ?_
      refine r_goto rfl rfl ?_
      exact rn_up (by omega) (ih (j + 1) _ (by omega) (su_s (B := (fun k : Nat => cBf b1 b2 b3 g1 (k : Int) eb.toNat)) hp (by omega) hI))
theorem fs_lp1 (hd : 0 ≤ eb ∧ eb ≤ 10) (k : ∀ su : Nat → Int32, suI (fun k : Nat => cBf b1 b2 b3 g1 (k : Int) eb.toNat) 256 su → rn_X6_findSums N (60, [(1, iv (((8 : Nat) : Int))), (0, .ref 39)], [], (cW ki ln bt rl cp cs ct cv 14 5 ja ea ma a1 a2 a3 a4 a5 a6 a7 a8 jb eb mb b1 b2 b3 b4 b5 b6 b7 b8 re fl g1 g2 g3 g4 g5 (dW rt la rs rg pd du ds me tt gr su gp mk rf m1 m2 m3 m4 m5 mr mf n1 n2 n3 n4 n5 nr nf E))) Q) : ∀ (m j : Nat) (su : Nat → Int32), j + m = 8 → suI (fun k : Nat => cBf b1 b2 b3 g1 (k : Int) eb.toNat) (2 ^ j) su → rn_X6_findSums (N + 5300 * m + 5300) (9, [(1, iv ((j : Int))), (0, .ref 39)], [], (cW ki ln bt rl cp cs ct cv 14 5 ja ea ma a1 a2 a3 a4 a5 a6 a7 a8 jb eb mb b1 b2 b3 b4 b5 b6 b7 b8 re fl g1 g2 g3 g4 g5 (dW rt la rs rg pd du ds me tt gr su gp mk rf m1 m2 m3 m4 m5 mr mf n1 n2 n3 n4 n5 nr nf E))) Q := by
  intro m
  induction m with
  | zero =>
    intro j su hj hI
    have hj : j = 8 := by omega
    subst hj
    refine rn_up (N := N + 5300) (by omega) ?_
    refine r_il rfl rfl ?_
    refine r_bi rfl (by decide) ?_
    refine r_cge rfl rfl (by omega) (by omega) (fun u1 => ?_) (fun u1 => ?_)
    · exact rn_up (by omega) (k su hI)
    · omega
  | succ m ih =>
    intro j su hj hI
    obtain ⟨M, hM⟩ : ∃ M, M = N + 5300 * m + 5300 := ⟨_, rfl⟩
    rw [← hM] at ih
    refine rn_up (N := M + 5300) (by omega) ?_
    refine r_il rfl rfl ?_
    refine r_bi rfl (by decide) ?_
    refine r_cge rfl rfl (by omega) (by omega) (fun u1 => ?_) (fun u1 => ?_)
    · omega
    · have h7 : 2 ^ j ≤ 128 := Nat.pow_le_pow_right (n := 2) (by decide) (show j ≤ 7 by omega)
      refine r_al rfl rfl ?_
      refine r_il rfl rfl ?_
      refine r_v2s rfl rfl xg_39 rfl (c_bf1 hd (by omega)) ?_
      refine r_is (lv' := [(2, _), (1, _), (0, _)]) rfl rfl rfl ?_
      refine r_ic rfl ?_
      refine r_is (lv' := [(3, _), (2, _), (1, _), (0, _)]) rfl rfl rfl ?_
      refine rn_up (N := (M + 20) + 40 * 2 ^ j + 40) (by omega) (fs_in1 (N := M + 20) (pn := j) (by omega) (fun su hI => ?_) (2 ^ j) 0 su (by omega) hI)
      refine r_inc (lv' := [(1, _), (3, _), (2, _), (0, _)]) rfl rfl rfl rfl ?_
      refine r_goto rfl rfl ?_
      refine rn_LE (a := [(1, iv ((j : Int) + 1)), (0, .ref 39)]) ⟨(List.forall_mem_cons.mpr ⟨List.mem_cons_self, (List.forall_mem_cons.mpr ⟨(List.mem_cons_of_mem _ (List.mem_cons_of_mem _ (List.mem_cons_of_mem _ List.mem_cons_self))), (fun _ h => absurd h List.not_mem_nil)⟩)⟩), (by show List.Nodup [1, 0]; decide), (by show List.Nodup [1, 3, 2, 0]; decide)⟩ ?_
      exact rn_up (by omega) (ih (j + 1) su (by omega) (by rw [Nat.pow_succ, Nat.mul_two]; exact hI))
theorem c_fs1 (hd : 0 ≤ eb ∧ eb ≤ 10) : ∃ su' : Nat → Int32, sX6_findSums [.ref 39] (cW ki ln bt rl cp cs ct cv 14 5 ja ea ma a1 a2 a3 a4 a5 a6 a7 a8 jb eb mb b1 b2 b3 b4 b5 b6 b7 b8 re fl g1 g2 g3 g4 g5 (dW rt la rs rg pd du ds me tt gr su gp mk rf m1 m2 m3 m4 m5 mr mf n1 n2 n3 n4 n5 nr nf E)) = some (none, (cW ki ln bt rl cp cs ct cv 14 5 ja ea ma a1 a2 a3 a4 a5 a6 a7 a8 jb eb mb b1 b2 b3 b4 b5 b6 b7 b8 re fl g1 g2 g3 g4 g5 (dW rt la rs rg pd du ds me tt gr su' gp mk rf m1 m2 m3 m4 m5 mr mf n1 n2 n3 n4 n5 nr nf E))) ∧ suI (fun k : Nat => cBf b1 b2 b3 g1 (k : Int) eb.toNat) 256 su' := by
  have main : rn_X6_findSums (20 + 5300 * 8 + 5300 + 20) (0, [(0, .ref 39)], [], (cW ki ln bt rl cp cs ct cv 14 5 ja ea ma a1 a2 a3 a4 a5 a6 a7 a8 jb eb mb b1 b2 b3 b4 b5 b6 b7 b8 re fl g1 g2 g3 g4 g5 (dW rt la rs rg pd du ds me tt gr su gp mk rf m1 m2 m3 m4 m5 mr mf n1 n2 n3 n4 n5 nr nf E))) (fun r => ∃ su' : Nat → Int32, r = (none, (cW ki ln bt rl cp cs ct cv 14 5 ja ea ma a1 a2 a3 a4 a5 a6 a7 a8 jb eb mb b1 b2 b3 b4 b5 b6 b7 b8 re fl g1 g2 g3 g4 g5 (dW rt la rs rg pd du ds me tt gr su' gp mk rf m1 m2 m3 m4 m5 mr mf n1 n2 n3 n4 n5 nr nf E))) ∧ suI (fun k : Nat => cBf b1 b2 b3 g1 (k : Int) eb.toNat) 256 su') := by
    refine r_al rfl rfl ?_
    refine r_gf rfl rfl xg_39 rfl ?_
    refine r_ic rfl ?_
    refine r_ic rfl ?_
    refine r_ias rfl xg_40 (by decide) (by decide) (by decide) xs_40 ?_
    refine r_ic rfl ?_
    refine r_is (lv' := [(1, _), (0, _)]) rfl rfl rfl ?_
    refine rn_up (N := 20 + 5300 * 8 + 5300) (by decide) (fs_lp1 (N := 20) hd (fun su hI => ?_) 8 0 _ rfl ?_)
    · exact r_retv rfl rfl ⟨su, rfl, hI⟩
    · intro k hk
      have e : k = 0 := by have : (2 : Nat) ^ 0 = 1 := rfl; omega
      subst e
      rw [show Int.toNat (0 : Int) = 0 from rfl, upd_same]
      have : ∀ j : Nat, bSU (fun k : Nat => cBf b1 b2 b3 g1 (k : Int) eb.toNat) 0 j = 0 := fun j => by
        induction j with
        | zero => rfl
        | succ j ih =>
          show bSU _ 0 j + (bif (0 : Nat).testBit j then _ else 0) = 0
          rw [ih, Nat.zero_testBit]
          rfl
      rw [this 8]
  obtain ⟨r, h1, su', h2, h3⟩ := rn_S (vs := [.ref 39]) rfl (rn_up (N := 20 + 5300 * 8 + 5300 + 20) (M := mm_fuel) (by decide) main)
  have h1 : sX6_findSums [.ref 39] (cW ki ln bt rl cp cs ct cv 14 5 ja ea ma a1 a2 a3 a4 a5 a6 a7 a8 jb eb mb b1 b2 b3 b4 b5 b6 b7 b8 re fl g1 g2 g3 g4 g5 (dW rt la rs rg pd du ds me tt gr su gp mk rf m1 m2 m3 m4 m5 mr mf n1 n2 n3 n4 n5 nr nf E)) = some r := h1
  exact ⟨su', by rw [h1, h2], h3⟩
theorem mg_lp1 {n : Nat} (hn : n < 256) (hb : ∀ j : Nat, j ≤ 8 → bMx (bTb B 256) n j ≤ 255) (hG : gpI B n gp) (k : rn_X6_mostGroupsIn N (41, [(3, iv (((8 : Nat) : Int))), (2, iv (bMx (bTb B 256) n 8)), (0, .ref 39), (1, iv ((n : Int)))], [], (cW ki ln bt rl cp cs ct cv 14 5 ja ea ma a1 a2 a3 a4 a5 a6 a7 a8 jb eb mb b1 b2 b3 b4 b5 b6 b7 b8 re fl g1 g2 g3 g4 g5 (dW rt la rs rg pd du ds me tt gr su gp mk rf m1 m2 m3 m4 m5 mr mf n1 n2 n3 n4 n5 nr nf E))) Q) : ∀ (m j : Nat), j + m = 8 → rn_X6_mostGroupsIn (N + 50 * m + 50) (4, [(3, iv ((j : Int))), (2, iv (bMx (bTb B 256) n j)), (0, .ref 39), (1, iv ((n : Int)))], [], (cW ki ln bt rl cp cs ct cv 14 5 ja ea ma a1 a2 a3 a4 a5 a6 a7 a8 jb eb mb b1 b2 b3 b4 b5 b6 b7 b8 re fl g1 g2 g3 g4 g5 (dW rt la rs rg pd du ds me tt gr su gp mk rf m1 m2 m3 m4 m5 mr mf n1 n2 n3 n4 n5 nr nf E))) Q := by
  intro m
  induction m with
  | zero =>
    intro j hj
    have hj : j = 8 := by omega
    subst hj
    refine rn_up (N := N + 50) (by omega) ?_
    refine r_il rfl rfl ?_
    refine r_bi rfl (by decide) ?_
    refine r_cge rfl rfl (by omega) (by omega) (fun u1 => ?_) (fun u1 => ?_)
    · exact rn_up (by omega) k
    · omega
  | succ m ih =>
    intro j hj
    obtain ⟨M, hM⟩ : ∃ M, M = N + 50 * m + 50 := ⟨_, rfl⟩
    rw [← hM] at ih
    refine rn_up (N := M + 50) (by omega) ?_
    refine r_il rfl rfl ?_
    refine r_bi rfl (by decide) ?_
    refine r_cge rfl rfl (by omega) (by omega) (fun u1 => ?_) (fun u1 => ?_)
    · omega
    · obtain ⟨v1, v2⟩ := an_p j (by omega) n hn
      refine r_il rfl rfl ?_
      refine r_il rfl rfl ?_
      refine r_s2s rfl rfl rfl (c_isIn (by omega)) ?_
      refine r_zeq rfl rfl (bi_r _) (fun u2 => ?_) (fun u2 => ?_)
      · have u2 : n.testBit j = false := by rw [← v2]; exact bi_0 u2
        refine r_inc (lv' := [(3, _), (2, _), (0, _), (1, _)]) rfl rfl rfl rfl ?_
        refine r_goto rfl rfl ?_
        have e : bMx (bTb B 256) n j = bMx (bTb B 256) n (j + 1) := by show _ = (bif n.testBit j && _ then _ else _); rw [u2]; rfl
        rw [e]
        exact rn_up (by omega) (ih (j + 1) (by omega))
      · have u2 : n.testBit j = true := by rw [← v2]; exact bi_1 u2
        rw [u2, if_pos rfl] at v1
        have hs := (bt_sub j (by omega) n hn u2).1
        have hp2 := p2_pos j
        have hg := gp_v (k := n - 2 ^ j) hG (by omega) (by omega)
        refine r_il rfl rfl ?_
        refine r_al rfl rfl ?_
        refine r_gf rfl rfl xg_39 rfl ?_
        refine r_il rfl rfl ?_
        refine r_ic rfl ?_
        refine r_il rfl rfl ?_
        refine r_shl rfl ?_
        refine r_ic rfl ?_
        refine r_xor rfl ?_
        refine r_and rfl ?_
        refine r_eq v1 ?_
        refine r_ia rfl xg_41 (by omega) (by omega) (by decide) ?_
        refine r_s2s rfl rfl rfl (c_maxC (by have := bMx_0 (T := bTb B 256) (n := n) j; have := hb j (by omega); omega) (as_r _)) ?_
        refine r_is (lv' := [(2, _), (3, _), (0, _), (1, _)]) rfl rfl rfl ?_
        refine r_inc (lv' := [(3, _), (2, _), (0, _), (1, _)]) rfl rfl rfl rfl ?_
        refine r_goto rfl rfl ?_
        have e : mxI (bMx (bTb B 256) n j) (gp (n - 2 ^ j)).toInt = bMx (bTb B 256) n (j + 1) := by show _ = (bif n.testBit j && _ then _ else _); rw [u2, hg]; rfl
        rw [show Int.toNat ((n - 2 ^ j : Nat) : Int) = n - 2 ^ j from rfl, e]
        exact rn_up (by omega) (ih (j + 1) (by omega))
theorem c_mg1 {n : Nat} (hn : n < 256) (hn0 : n ≠ 0) (hb : ∀ j : Nat, j ≤ 8 → bMx (bTb B 256) n j ≤ 255) (hG : gpI B n gp) (hS : (su n).toInt = 0 ↔ bSU B n 8 = 0) : sX6_mostGroupsIn [.ref 39, iv ((n : Int))] (cW ki ln bt rl cp cs ct cv 14 5 ja ea ma a1 a2 a3 a4 a5 a6 a7 a8 jb eb mb b1 b2 b3 b4 b5 b6 b7 b8 re fl g1 g2 g3 g4 g5 (dW rt la rs rg pd du ds me tt gr su gp mk rf m1 m2 m3 m4 m5 mr mf n1 n2 n3 n4 n5 nr nf E)) = some (some (iv (bTb B 256 n)), (cW ki ln bt rl cp cs ct cv 14 5 ja ea ma a1 a2 a3 a4 a5 a6 a7 a8 jb eb mb b1 b2 b3 b4 b5 b6 b7 b8 re fl g1 g2 g3 g4 g5 (dW rt la rs rg pd du ds me tt gr su gp mk rf m1 m2 m3 m4 m5 mr mf n1 n2 n3 n4 n5 nr nf E))) := by
  have main : ∀ Q : mm_R → Prop, Q (some (iv (bTb B 256 n)), (cW ki ln bt rl cp cs ct cv 14 5 ja ea ma a1 a2 a3 a4 a5 a6 a7 a8 jb eb mb b1 b2 b3 b4 b5 b6 b7 b8 re fl g1 g2 g3 g4 g5 (dW rt la rs rg pd du ds me tt gr su gp mk rf m1 m2 m3 m4 m5 mr mf n1 n2 n3 n4 n5 nr nf E))) → rn_X6_mostGroupsIn (20 + 50 * 8 + 50 + 30) (0, [(0, .ref 39), (1, iv ((n : Int)))], [], (cW ki ln bt rl cp cs ct cv 14 5 ja ea ma a1 a2 a3 a4 a5 a6 a7 a8 jb eb mb b1 b2 b3 b4 b5 b6 b7 b8 re fl g1 g2 g3 g4 g5 (dW rt la rs rg pd du ds me tt gr su gp mk rf m1 m2 m3 m4 m5 mr mf n1 n2 n3 n4 n5 nr nf E))) Q := by
    intro Q hQ
    refine r_ic rfl ?_
    refine r_is (lv' := [(2, _), (0, _), (1, _)]) rfl rfl rfl ?_
    refine r_ic rfl ?_
    refine r_is (lv' := [(3, _), (2, _), (0, _), (1, _)]) rfl rfl rfl ?_
    refine rn_up (N := 20 + 50 * 8 + 50) (by decide) (mg_lp1 (N := 20) hn hb hG ?_ 8 0 rfl)
    refine r_al rfl rfl ?_
    refine r_gf rfl rfl xg_39 rfl ?_
    refine r_il rfl rfl ?_
    refine r_ia rfl xg_40 (by omega) (by omega) (by decide) ?_
    refine r_zne rfl rfl (as_r _) (fun u1 => ?_) (fun u1 => ?_)
    · have e : bTb B 256 n = bMx (bTb B 256) n 8 := by rw [bTb_e hn]; unfold bSt; rw [decide_eq_false (fun z => u1 (hS.mpr z)), Bool.and_false]; exact Int.add_zero _
      rw [e] at hQ
      refine r_il rfl rfl ?_
      exact r_ret rfl rfl hQ
    · have e : bTb B 256 n = bMx (bTb B 256) n 8 + 1 := by rw [bTb_e hn]; unfold bSt; rw [decide_eq_true (hS.mp u1), decide_eq_false hn0]; rfl
      rw [e] at hQ
      refine r_il rfl rfl ?_
      refine r_ic rfl ?_
      refine r_add rfl ?_
      refine r_goto rfl rfl ?_
      exact r_ret rfl rfl hQ
  obtain ⟨r, h1, h2⟩ := rn_S (vs := [.ref 39, iv ((n : Int))]) (Q := fun r => r = (some (iv (bTb B 256 n)), (cW ki ln bt rl cp cs ct cv 14 5 ja ea ma a1 a2 a3 a4 a5 a6 a7 a8 jb eb mb b1 b2 b3 b4 b5 b6 b7 b8 re fl g1 g2 g3 g4 g5 (dW rt la rs rg pd du ds me tt gr su gp mk rf m1 m2 m3 m4 m5 mr mf n1 n2 n3 n4 n5 nr nf E)))) rfl (rn_up (N := 20 + 50 * 8 + 50 + 30) (M := mm_fuel) (by decide) (main (fun r => r = (some (iv (bTb B 256 n)), (cW ki ln bt rl cp cs ct cv 14 5 ja ea ma a1 a2 a3 a4 a5 a6 a7 a8 jb eb mb b1 b2 b3 b4 b5 b6 b7 b8 re fl g1 g2 g3 g4 g5 (dW rt la rs rg pd du ds me tt gr su gp mk rf m1 m2 m3 m4 m5 mr mf n1 n2 n3 n4 n5 nr nf E)))) rfl))
  have h1 : sX6_mostGroupsIn [.ref 39, iv ((n : Int))] (cW ki ln bt rl cp cs ct cv 14 5 ja ea ma a1 a2 a3 a4 a5 a6 a7 a8 jb eb mb b1 b2 b3 b4 b5 b6 b7 b8 re fl g1 g2 g3 g4 g5 (dW rt la rs rg pd du ds me tt gr su gp mk rf m1 m2 m3 m4 m5 mr mf n1 n2 n3 n4 n5 nr nf E)) = some r := h1
  rw [h1, h2]
theorem fp_lp1 (hSU : suI (fun k : Nat => cBf b1 b2 b3 g1 (k : Int) eb.toNat) 256 su) (hR : ∀ n : Nat, n < 256 → -2147483648 ≤ bSU (fun k : Nat => cBf b1 b2 b3 g1 (k : Int) eb.toNat) n 8 ∧ bSU (fun k : Nat => cBf b1 b2 b3 g1 (k : Int) eb.toNat) n 8 ≤ 2147483647) (k : ∀ gp : Nat → Int32, gpI (fun k : Nat => cBf b1 b2 b3 g1 (k : Int) eb.toNat) 256 gp → rn_X6_fewestPapers N (37, [(1, iv (((256 : Nat) : Int))), (0, .ref 39)], [], (cW ki ln bt rl cp cs ct cv 14 5 ja ea ma a1 a2 a3 a4 a5 a6 a7 a8 jb eb mb b1 b2 b3 b4 b5 b6 b7 b8 re fl g1 g2 g3 g4 g5 (dW rt la rs rg pd du ds me tt gr su gp mk rf m1 m2 m3 m4 m5 mr mf n1 n2 n3 n4 n5 nr nf E))) Q) : ∀ (m j : Nat) (gp : Nat → Int32), j + m = 256 → 1 ≤ j → gpI (fun k : Nat => cBf b1 b2 b3 g1 (k : Int) eb.toNat) j gp → rn_X6_fewestPapers (N + 40 * m + 40) (13, [(1, iv ((j : Int))), (0, .ref 39)], [], (cW ki ln bt rl cp cs ct cv 14 5 ja ea ma a1 a2 a3 a4 a5 a6 a7 a8 jb eb mb b1 b2 b3 b4 b5 b6 b7 b8 re fl g1 g2 g3 g4 g5 (dW rt la rs rg pd du ds me tt gr su gp mk rf m1 m2 m3 m4 m5 mr mf n1 n2 n3 n4 n5 nr nf E))) Q := by
  intro m
  induction m with
  | zero =>
    intro j gp hj h1 hG
    have hj : j = 256 := by omega
    subst hj
    refine rn_up (N := N + 40) (by omega) ?_
    refine r_il rfl rfl ?_
    refine r_si rfl (by decide) ?_
    refine r_cgt rfl rfl (by omega) (by omega) (fun u1 => ?_) (fun u1 => ?_)
    · exact rn_up (by omega) (k gp hG)
    · omega
  | succ m ih =>
    intro j gp hj h1 hG
    refine rn_up (N := N + 40 * m + 40 + 40) (by omega) ?_
    refine r_il rfl rfl ?_
    refine r_si rfl (by decide) ?_
    refine r_cgt rfl rfl (by omega) (by omega) (fun u1 => ?_) (fun u1 => ?_)
    · omega
    · have hs : (su j).toInt = 0 ↔ bSU (fun k : Nat => cBf b1 b2 b3 g1 (k : Int) eb.toNat) j 8 = 0 := by
        rw [hSU j (by omega), iv_to (hR j (by omega))]
      have hb : ∀ i : Nat, i ≤ 8 → bMx (bTb (fun k : Nat => cBf b1 b2 b3 g1 (k : Int) eb.toNat) 256) j i ≤ 255 := fun i hi => bMx_le (by decide) i (fun p hp hpb => by
        obtain ⟨s1, -⟩ := bt_sub p (by omega) j (by omega) hpb
        have := p2_pos p
        have := bTb_le (B := (fun k : Nat => cBf b1 b2 b3 g1 (k : Int) eb.toNat)) (j - 2 ^ p) (j - 2 ^ p) (Nat.le_refl _) (by omega)
        omega)
      refine r_al rfl rfl ?_
      refine r_gf rfl rfl xg_39 rfl ?_
      refine r_il rfl rfl ?_
      refine r_al rfl rfl ?_
      refine r_il rfl rfl ?_
      refine r_v2s rfl rfl xg_39 rfl (c_mg1 (B := (fun k : Nat => cBf b1 b2 b3 g1 (k : Int) eb.toNat)) (by omega) (by omega) hb hG hs) ?_
      refine r_ias rfl xg_41 (by omega) (by omega) (by decide) xs_41 ?_
      refine r_inc (lv' := [(1, _), (0, _)]) rfl rfl rfl rfl ?_
      refine r_goto rfl rfl ?_
      refine rn_up (by omega) (ih (j + 1) _ (by omega) (by omega) (fun k hk => ?_))
      by_cases e : k = j
      · subst e
        rw [show Int.toNat (k : Int) = k from rfl, upd_same]
      · rw [show Int.toNat (j : Int) = j from rfl, upd_ne e]
        exact hG k (by omega)
theorem c_fp1 (hd : 0 ≤ eb ∧ eb ≤ 10) (hR : ∀ n : Nat, n < 256 → -2147483648 ≤ bSU (fun k : Nat => cBf b1 b2 b3 g1 (k : Int) eb.toNat) n 8 ∧ bSU (fun k : Nat => cBf b1 b2 b3 g1 (k : Int) eb.toNat) n 8 ≤ 2147483647) : ∃ su' gp' : Nat → Int32, sX6_fewestPapers [.ref 39] (cW ki ln bt rl cp cs ct cv 14 5 ja ea ma a1 a2 a3 a4 a5 a6 a7 a8 jb eb mb b1 b2 b3 b4 b5 b6 b7 b8 re fl g1 g2 g3 g4 g5 (dW rt la rs rg pd du ds me tt gr su gp mk rf m1 m2 m3 m4 m5 mr mf n1 n2 n3 n4 n5 nr nf E)) = some (some (iv (8 - bTb (fun k : Nat => cBf b1 b2 b3 g1 (k : Int) eb.toNat) 256 255)), (cW ki ln bt rl cp cs ct cv 14 5 ja ea ma a1 a2 a3 a4 a5 a6 a7 a8 jb eb mb b1 b2 b3 b4 b5 b6 b7 b8 re fl g1 g2 g3 g4 g5 (dW rt la rs rg pd du ds me tt gr su' gp' mk rf m1 m2 m3 m4 m5 mr mf n1 n2 n3 n4 n5 nr nf E))) := by
  obtain ⟨su', hsu, hSU⟩ := c_fs1 (E := E) (ki := ki) (ln := ln) (bt := bt) (rl := rl) (cp := cp) (cs := cs) (ct := ct) (cv := cv) (ja := ja) (ea := ea) (ma := ma) (a1 := a1) (a2 := a2) (a3 := a3) (a4 := a4) (a5 := a5) (a6 := a6) (a7 := a7) (a8 := a8) (jb := jb) (eb := eb) (mb := mb) (b1 := b1) (b2 := b2) (b3 := b3) (b4 := b4) (b5 := b5) (b6 := b6) (b7 := b7) (b8 := b8) (re := re) (fl := fl) (g1 := g1) (g2 := g2) (g3 := g3) (g4 := g4) (g5 := g5) (rt := rt) (la := la) (rs := rs) (rg := rg) (pd := pd) (du := du) (ds := ds) (me := me) (tt := tt) (gr := gr) (su := su) (gp := gp) (mk := mk) (rf := rf) (m1 := m1) (m2 := m2) (m3 := m3) (m4 := m4) (m5 := m5) (mr := mr) (mf := mf) (n1 := n1) (n2 := n2) (n3 := n3) (n4 := n4) (n5 := n5) (nr := nr) (nf := nf) hd
  have main : rn_X6_fewestPapers (20 + 40 * 255 + 40 + 20) (0, [(0, .ref 39)], [], (cW ki ln bt rl cp cs ct cv 14 5 ja ea ma a1 a2 a3 a4 a5 a6 a7 a8 jb eb mb b1 b2 b3 b4 b5 b6 b7 b8 re fl g1 g2 g3 g4 g5 (dW rt la rs rg pd du ds me tt gr su gp mk rf m1 m2 m3 m4 m5 mr mf n1 n2 n3 n4 n5 nr nf E))) (fun r => ∃ gp' : Nat → Int32, r = (some (iv (8 - bTb (fun k : Nat => cBf b1 b2 b3 g1 (k : Int) eb.toNat) 256 255)), (cW ki ln bt rl cp cs ct cv 14 5 ja ea ma a1 a2 a3 a4 a5 a6 a7 a8 jb eb mb b1 b2 b3 b4 b5 b6 b7 b8 re fl g1 g2 g3 g4 g5 (dW rt la rs rg pd du ds me tt gr su' gp' mk rf m1 m2 m3 m4 m5 mr mf n1 n2 n3 n4 n5 nr nf E)))) := by
    refine r_al rfl rfl ?_
    refine r_v1n rfl rfl xg_39 rfl hsu ?_
    refine r_al rfl rfl ?_
    refine r_gf rfl rfl xg_39 rfl ?_
    refine r_ic rfl ?_
    refine r_ic rfl ?_
    refine r_ias rfl xg_41 (by decide) (by decide) (by decide) xs_41 ?_
    refine r_ic rfl ?_
    refine r_is (lv' := [(1, _), (0, _)]) rfl rfl rfl ?_
    refine rn_up (N := 20 + 40 * 255 + 40) (by decide) (fp_lp1 (N := 20) (su := su') hSU hR (fun gp hG => ?_) 255 1 _ rfl (by decide) ?_)
    · have hg := gp_v (k := 255) hG (by decide) (by decide)
      refine r_bi rfl (by decide) ?_
      refine r_al rfl rfl ?_
      refine r_gf rfl rfl xg_39 rfl ?_
      refine r_si rfl (by decide) ?_
      refine r_ia rfl xg_41 (by decide) (by decide) (by decide) ?_
      refine r_sub rfl ?_
      rw [show Int.toNat (255 : Int) = 255 from rfl, hg]
      exact r_ret rfl rfl ⟨gp, rfl⟩
    · intro k hk
      have e : k = 0 := by omega
      subst e
      rw [show Int.toNat (0 : Int) = 0 from rfl, upd_same]
      have h1 := bTb_le (B := (fun k : Nat => cBf b1 b2 b3 g1 (k : Int) eb.toNat)) 0 0 (Nat.le_refl _) (by decide)
      have h2 := (bT_ge (B := (fun k : Nat => cBf b1 b2 b3 g1 (k : Int) eb.toNat)) (n := 0) (by decide)).1
      rw [show bTb (fun k : Nat => cBf b1 b2 b3 g1 (k : Int) eb.toNat) 256 0 = 0 by omega]
  obtain ⟨r, h1, gp', h2⟩ := rn_S (vs := [.ref 39]) rfl (rn_up (N := 20 + 40 * 255 + 40 + 20) (M := mm_fuel) (by decide) main)
  have h1 : sX6_fewestPapers [.ref 39] (cW ki ln bt rl cp cs ct cv 14 5 ja ea ma a1 a2 a3 a4 a5 a6 a7 a8 jb eb mb b1 b2 b3 b4 b5 b6 b7 b8 re fl g1 g2 g3 g4 g5 (dW rt la rs rg pd du ds me tt gr su gp mk rf m1 m2 m3 m4 m5 mr mf n1 n2 n3 n4 n5 nr nf E)) = some r := h1
  exact ⟨su', gp', by rw [h1, h2]⟩
end BC
