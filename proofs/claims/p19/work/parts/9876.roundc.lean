/-! ===== rounds: the class ===== -/
theorem of_n2 (x b : Int) : Int32.ofInt ((Int32.ofInt x).toInt + b) = Int32.ofInt (x + b) := by rw [Int32.ofInt_add, Int32.ofInt_add, Int32.ofInt_toInt]
theorem mx_q (u w : Int) : mxI 0 (mnI u w) = lsr (if u < 0 then 0 else u) (rkW w) := by
  unfold mxI mnI lsr rkW
  by_cases h1 : w < u <;> by_cases h2 : u < 0 <;> by_cases h3 : w < 0 <;> by_cases h4 : 0 < w <;> by_cases h5 : 0 < u <;> by_cases h6 : u < w <;> simp [h1, h2, h3, h4, h5, h6] <;> omega
section RCP
variable {db sn : Int} {de sd s : Nat → Int32} {R : Nat → Int}
def dui (db sn : Int) (de sd s : Nat → Int32) (R : Nat → Int) (j : Nat) (du : Nat → Int32) : Prop := ∀ k : Nat, k < 26 → du k = Int32.ofInt (bif decide (k < j) && rkP db sn k then rkD de sd s R k else 0)
def dsi (db sn : Int) (de sd s : Nat → Int32) (R : Nat → Int) (j : Nat) (ds : Nat → Int32) : Prop := ∀ p : Nat, p < 8 → ds p = Int32.ofInt (rkA db sn de sd s R (p : Int) j)
def mei (db sn : Int) (de sd s : Nat → Int32) (R : Nat → Int) (j : Nat) (me : Nat → Int32) : Prop := ∀ p : Nat, p < 8 → me p = Int32.ofInt (rkH db sn de sd s R (p : Int) j)
theorem dui_s {du : Nat → Int32} {j : Nat} (h : dui db sn de sd s R j du) (hP : rkP db sn j = true) : dui db sn de sd s R (j + 1) (upd du j (Int32.ofInt (rkD de sd s R j))) := fun k hk => by
  by_cases e : k = j
  · subst e
    rw [upd_same, decide_eq_true (show k < k + 1 by omega), hP]; rfl
  · rw [upd_ne e, h k hk]
    by_cases q : k < j
    · rw [decide_eq_true q, decide_eq_true (show k < j + 1 by omega)]
    · rw [decide_eq_false q, decide_eq_false (show ¬ k < j + 1 by omega)]
theorem dui_k {du : Nat → Int32} {j : Nat} (h : dui db sn de sd s R j du) (hP : rkP db sn j = false ∨ rkD de sd s R j = 0) : dui db sn de sd s R (j + 1) du := fun k hk => by
  rw [h k hk]
  by_cases e : k = j
  · subst e
    rw [decide_eq_false (show ¬ k < k by omega), decide_eq_true (show k < k + 1 by omega), Bool.false_and, Bool.true_and, cond_false]
    rcases hP with q | q
    · rw [q]; rfl
    · rw [q]; cases rkP db sn k <;> rfl
  · by_cases q : k < j
    · rw [decide_eq_true q, decide_eq_true (show k < j + 1 by omega)]
    · rw [decide_eq_false q, decide_eq_false (show ¬ k < j + 1 by omega)]
theorem dsi_s {ds : Nat → Int32} {j p : Nat} (h : dsi db sn de sd s R j ds) (hP : rkP db sn j = true) (hp : rkO de sd j = (p : Int)) (h8 : p < 8) : dsi db sn de sd s R (j + 1) (upd ds p (Int32.ofInt ((ds p).toInt + rkD de sd s R j))) := fun k hk => by
  show _ = Int32.ofInt (rkA db sn de sd s R (k : Int) j + (bif rkP db sn j && decide (rkO de sd j = (k : Int)) then rkD de sd s R j else 0))
  by_cases e : k = p
  · subst e
    rw [upd_same, h k hk, of_n2, hP, decide_eq_true hp]; rfl
  · rw [upd_ne e, h k hk, decide_eq_false (by omega), Bool.and_false, cond_false, Int.add_zero]
theorem dsi_k {ds : Nat → Int32} {j : Nat} (h : dsi db sn de sd s R j ds) (hP : rkP db sn j = false ∨ rkD de sd s R j = 0) : dsi db sn de sd s R (j + 1) ds := fun k hk => by
  show _ = Int32.ofInt (rkA db sn de sd s R (k : Int) j + (bif rkP db sn j && decide (rkO de sd j = (k : Int)) then rkD de sd s R j else 0))
  have e : (bif rkP db sn j && decide (rkO de sd j = (k : Int)) then rkD de sd s R j else 0) = 0 := by
    rcases hP with q | q
    · rw [q]; rfl
    · rw [q]; cases (rkP db sn j && decide (rkO de sd j = (k : Int))) <;> rfl
  rw [e, Int.add_zero]
  exact h k hk
theorem mei_s {me : Nat → Int32} {j p : Nat} {x : Int} (h : mei db sn de sd s R j me) (hP : rkP db sn j = true) (hp : rkT de sd j = (p : Int)) (hx : x = R j) : mei db sn de sd s R (j + 1) (upd me p (Int32.ofInt ((me p).toInt + x))) := fun k hk => by
  show _ = Int32.ofInt (rkH db sn de sd s R (k : Int) j + (bif rkP db sn j && decide (rkT de sd j = (k : Int)) then R j else 0))
  by_cases e : k = p
  · subst e
    rw [upd_same, h k hk, of_n2, hP, decide_eq_true hp, hx]; rfl
  · rw [upd_ne e, h k hk, decide_eq_false (by omega), Bool.and_false, cond_false, Int.add_zero]
theorem mei_k {me : Nat → Int32} {j : Nat} (h : mei db sn de sd s R j me) (hP : rkP db sn j = false) : mei db sn de sd s R (j + 1) me := fun k hk => by
  show _ = Int32.ofInt (rkH db sn de sd s R (k : Int) j + (bif rkP db sn j && decide (rkT de sd j = (k : Int)) then R j else 0))
  rw [hP, Bool.false_and, cond_false, Int.add_zero]
  exact h k hk
theorem gap_ {T : Nat → Prop} (hs : ∀ j : Nat, rkP db sn j = false → T j → T (j + 1)) {a : Nat} : ∀ m : Nat, (∀ k : Nat, a ≤ k → k < a + m → rkP db sn k = false) → T a → T (a + m)
  | 0, _, h => h
  | m + 1, hk, h => hs (a + m) (hk _ (by omega) (by omega)) (gap_ hs m (fun k h1 h2 => hk k h1 (by omega)) h)
theorem gap_d {T : Nat → Prop} (hd : 0 ≤ db ∧ db ≤ 10) (hs : ∀ j : Nat, rkP db sn j = false → T j → T (j + 1)) (h : T db.toNat) : T 10 := by
  have := gap_ (db := db) (sn := sn) hs (a := db.toNat) (10 - db.toNat) (fun k h1 h2 => by rw [rkP_d (by omega)]; exact decide_eq_false (by omega)) h
  rw [show db.toNat + (10 - db.toNat) = 10 by omega] at this
  exact this
theorem gap_s {T : Nat → Prop} (hn : 0 ≤ sn ∧ sn ≤ 16) (hs : ∀ j : Nat, rkP db sn j = false → T j → T (j + 1)) (h : T (10 + sn.toNat)) : T 26 := by
  have := gap_ (db := db) (sn := sn) hs (a := 10 + sn.toNat) (16 - sn.toNat) (fun k h1 h2 => by rw [rkP_s (by omega)]; exact decide_eq_false (by omega)) h
  rw [show 10 + sn.toNat + (16 - sn.toNat) = 26 by omega] at this
  exact this
/-- the class's rows below n -/
def rcI (db sn : Int) (de sd s : Nat → Int32) (n : Nat) (pd : Nat → Int32) : Prop := ∀ a k : Nat, a < n → k < 26 → pd (26 * a + k) = Int32.ofInt (rkR db sn de sd s a k)
def rcJ (db sn : Int) (de sd s : Nat → Int32) (n j : Nat) (pd : Nat → Int32) : Prop := rcI db sn de sd s n pd ∧ ∀ k : Nat, k < j → pd (26 * n + k) = Int32.ofInt (rkR db sn de sd s n k)
theorem rcJ_s {pd : Nat → Int32} {n j : Nat} {x : Int} (hj : j < 26) (h : rcJ db sn de sd s n j pd) (e : x = rkR db sn de sd s n j) : rcJ db sn de sd s n (j + 1) (upd pd (26 * n + j) (Int32.ofInt x)) := by
  refine ⟨fun a k ha hk => ?_, fun k hk => ?_⟩
  · rw [upd_ne (by omega)]; exact h.1 a k ha hk
  · by_cases q : k = j
    · subst q
      rw [upd_same, e]
    · rw [upd_ne (by omega)]; exact h.2 k (by omega)
theorem rcJ_e {pd : Nat → Int32} {n : Nat} (h : rcJ db sn de sd s n 26 pd) : rcI db sn de sd s (n + 1) pd := fun a k ha hk => by
  by_cases e : a = n
  · subst e; exact h.2 k hk
  · exact h.1 a k (by omega) hk
theorem rkV_0 (h a : Int) : rkV 0 h a = 0 := by
  unfold rkV
  rw [Int.zero_mul, Int.zero_ediv]
  cases decide (a ≤ h) <;> rfl
theorem rkE_k {n : Nat → Int} {p : Int} {j : Nat} (h : rkP db sn j = false) : rkE db sn de sd s n p (j + 1) = rkE db sn de sd s n p j := by
  show (rkE db sn de sd s n p j + (bif rkP db sn j && decide (rkT de sd j = p) then n j else 0)) - (bif rkP db sn j && decide (rkO de sd j = p) then n j else 0) = _
  rw [h, Bool.false_and, Bool.false_and, cond_false, Int.add_zero, Int.sub_zero]
theorem rkE_s {n : Nat → Int} {p : Int} {j : Nat} (h : rkP db sn j = true) : rkE db sn de sd s n p j + (bi (decide (p = rkT de sd j)) - bi (decide (p = rkO de sd j))) * n j = rkE db sn de sd s n p (j + 1) := by
  show _ = (rkE db sn de sd s n p j + (bif rkP db sn j && decide (rkT de sd j = p) then n j else 0)) - (bif rkP db sn j && decide (rkO de sd j = p) then n j else 0)
  rw [h, Bool.true_and, Bool.true_and]
  by_cases h1 : p = rkT de sd j
  · rw [decide_eq_true h1, decide_eq_true h1.symm]
    by_cases h2 : p = rkO de sd j
    · rw [decide_eq_true h2, decide_eq_true h2.symm]
      show _ + (1 - 1) * n j = _ + n j - n j
      omega
    · rw [decide_eq_false h2, decide_eq_false (show ¬ rkO de sd j = p from fun z => h2 z.symm)]
      show _ + (1 - 0) * n j = _ + n j - 0
      omega
  · rw [decide_eq_false h1, decide_eq_false (show ¬ rkT de sd j = p from fun z => h1 z.symm)]
    by_cases h2 : p = rkO de sd j
    · rw [decide_eq_true h2, decide_eq_true h2.symm]
      show _ + (0 - 1) * n j = _ + 0 - n j
      omega
    · rw [decide_eq_false h2, decide_eq_false (show ¬ rkO de sd j = p from fun z => h2 z.symm)]
      show _ + (0 - 0) * n j = _ + 0 - 0
      omega
end RCP
section RC
variable {ki : Int} {ln : Int} {bt : Nat → Int32} {rl : Value} {cp : Int} {cs : Int} {ct : Int} {cv : Int} {rr : Nat} {dr : Nat} {ja : Int} {ea : Int} {ma : Int} {a1 : Nat → Int32} {a2 : Nat → Int32} {a3 : Nat → Int32} {a4 : Nat → Int32} {a5 : Nat → Int32} {a6 : Nat → Int32} {a7 : Nat → Int32} {a8 : Nat → Int32} {jb : Int} {eb : Int} {mb : Int} {b1 : Nat → Int32} {b2 : Nat → Int32} {b3 : Nat → Int32} {b4 : Nat → Int32} {b5 : Nat → Int32} {b6 : Nat → Int32} {b7 : Nat → Int32} {b8 : Nat → Int32} {re : Int} {fl : Int} {g1 : Nat → Int32} {g2 : Nat → Int32} {g3 : Nat → Int32} {g4 : Nat → Int32} {g5 : Nat → Int32} {rt : Int} {la : Int} {rs : Int} {rg : Int} {pd : Nat → Int32} {du : Nat → Int32} {ds : Nat → Int32} {me : Nat → Int32} {tt : Nat → Int32} {gr : Nat → Int32} {su : Nat → Int32} {gp : Nat → Int32} {mk : Int64} {rf : Nat → Option Nat} {m1 : Nat → Int32} {m2 : Nat → Int32} {m3 : Nat → Int32} {m4 : Nat → Int32} {m5 : Nat → Int32} {mr : Int} {mf : Int} {n1 : Nat → Int32} {n2 : Nat → Int32} {n3 : Nat → Int32} {n4 : Nat → Int32} {n5 : Nat → Int32} {nr : Int} {nf : Int} {E : List va_E} {s de sd : Nat → Int32} {r n : Nat} {a b p B x : Int} {Q : mm_R → Prop} {N : Nat}
theorem flx_33 (k : rn_J7_fill_53178 N (20, [(2, iv (((26 : Nat) : Int))), (3, iv (((26 : Nat) : Int))), (0, .ref 33), (1, iv (0))], [], (cW ki ln bt rl cp cs ct cv rr dr ja ea ma a1 a2 a3 a4 a5 a6 a7 a8 jb eb mb b1 b2 b3 b4 b5 b6 b7 b8 re fl g1 g2 g3 g4 g5 (dW rt la rs rg pd (cpy 26 du zz) ds me tt gr su gp mk rf m1 m2 m3 m4 m5 mr mf n1 n2 n3 n4 n5 nr nf E))) Q) : ∀ (m j : Nat), j + m = 26 → rn_J7_fill_53178 (N + 20 * m + 20) (5, [(2, iv ((j : Int))), (3, iv (((26 : Nat) : Int))), (0, .ref 33), (1, iv (0))], [], (cW ki ln bt rl cp cs ct cv rr dr ja ea ma a1 a2 a3 a4 a5 a6 a7 a8 jb eb mb b1 b2 b3 b4 b5 b6 b7 b8 re fl g1 g2 g3 g4 g5 (dW rt la rs rg pd (cpy j du zz) ds me tt gr su gp mk rf m1 m2 m3 m4 m5 mr mf n1 n2 n3 n4 n5 nr nf E))) Q := by
  intro m
  induction m with
  | zero =>
    intro j hj
    have hj : j = 26 := by omega
    subst hj
    refine rn_up (N := N + 20) (by omega) ?_
    refine r_il rfl rfl ?_
    refine r_il rfl rfl ?_
    refine r_cge rfl rfl (by omega) (by omega) (fun u1 => ?_) (fun u1 => ?_)
    · exact rn_up (by omega) k
    · omega
  | succ m ih =>
    intro j hj
    refine rn_up (N := N + 20 * m + 20 + 20) (by omega) ?_
    refine r_il rfl rfl ?_
    refine r_il rfl rfl ?_
    refine r_cge rfl rfl (by omega) (by omega) (fun u1 => ?_) (fun u1 => ?_)
    · omega
    · refine r_al rfl rfl ?_
      refine r_il rfl rfl ?_
      refine r_il rfl rfl ?_
      refine r_ias rfl xg_33 (by omega) (by omega) (by decide) xs_33 ?_
      refine r_inc (lv' := [(2, _), (3, _), (0, _), (1, _)]) rfl rfl rfl rfl ?_
      refine r_goto rfl rfl ?_
      rw [show Int.toNat (j : Int) = j from rfl, cpy_s (show Int32.ofInt 0 = zz j from rfl)]
      exact rn_up (by omega) (ih (j + 1) (by omega))
theorem c_fillx33  : sJ7_fill_53178 [.ref 33, iv (0)] (cW ki ln bt rl cp cs ct cv rr dr ja ea ma a1 a2 a3 a4 a5 a6 a7 a8 jb eb mb b1 b2 b3 b4 b5 b6 b7 b8 re fl g1 g2 g3 g4 g5 (dW rt la rs rg pd du ds me tt gr su gp mk rf m1 m2 m3 m4 m5 mr mf n1 n2 n3 n4 n5 nr nf E)) = some (none, (cW ki ln bt rl cp cs ct cv rr dr ja ea ma a1 a2 a3 a4 a5 a6 a7 a8 jb eb mb b1 b2 b3 b4 b5 b6 b7 b8 re fl g1 g2 g3 g4 g5 (dW rt la rs rg pd (cpy 26 du zz) ds me tt gr su gp mk rf m1 m2 m3 m4 m5 mr mf n1 n2 n3 n4 n5 nr nf E))) := by
  have main : ∀ Q : mm_R → Prop, Q (none, (cW ki ln bt rl cp cs ct cv rr dr ja ea ma a1 a2 a3 a4 a5 a6 a7 a8 jb eb mb b1 b2 b3 b4 b5 b6 b7 b8 re fl g1 g2 g3 g4 g5 (dW rt la rs rg pd (cpy 26 du zz) ds me tt gr su gp mk rf m1 m2 m3 m4 m5 mr mf n1 n2 n3 n4 n5 nr nf E))) → rn_J7_fill_53178 (3000) (0, [(0, .ref 33), (1, iv (0))], [], (cW ki ln bt rl cp cs ct cv rr dr ja ea ma a1 a2 a3 a4 a5 a6 a7 a8 jb eb mb b1 b2 b3 b4 b5 b6 b7 b8 re fl g1 g2 g3 g4 g5 (dW rt la rs rg pd du ds me tt gr su gp mk rf m1 m2 m3 m4 m5 mr mf n1 n2 n3 n4 n5 nr nf E))) Q := by
    intro Q hQ
    refine r_ic rfl ?_
    refine r_is (lv' := [(2, _), (0, _), (1, _)]) rfl rfl rfl ?_
    refine r_al rfl rfl ?_
    refine r_al1 rfl xg_33 rfl ?_
    refine r_is (lv' := [(3, _), (2, _), (0, _), (1, _)]) rfl rfl rfl ?_
    rw [← cpy_0 du zz]
    refine rn_up (N := 10 + 20 * 26 + 20) (by decide) (flx_33 ?_ 26 0 rfl)
    exact r_retv rfl rfl hQ
  obtain ⟨rz, h1, h2⟩ := rn_S (vs := [.ref 33, iv (0)]) (Q := fun rz => rz = (none, (cW ki ln bt rl cp cs ct cv rr dr ja ea ma a1 a2 a3 a4 a5 a6 a7 a8 jb eb mb b1 b2 b3 b4 b5 b6 b7 b8 re fl g1 g2 g3 g4 g5 (dW rt la rs rg pd (cpy 26 du zz) ds me tt gr su gp mk rf m1 m2 m3 m4 m5 mr mf n1 n2 n3 n4 n5 nr nf E)))) rfl (rn_up (N := 3000) (M := mm_fuel) (by decide) (main (fun rz => rz = (none, (cW ki ln bt rl cp cs ct cv rr dr ja ea ma a1 a2 a3 a4 a5 a6 a7 a8 jb eb mb b1 b2 b3 b4 b5 b6 b7 b8 re fl g1 g2 g3 g4 g5 (dW rt la rs rg pd (cpy 26 du zz) ds me tt gr su gp mk rf m1 m2 m3 m4 m5 mr mf n1 n2 n3 n4 n5 nr nf E)))) rfl))
  have h1 : sJ7_fill_53178 [.ref 33, iv (0)] (cW ki ln bt rl cp cs ct cv rr dr ja ea ma a1 a2 a3 a4 a5 a6 a7 a8 jb eb mb b1 b2 b3 b4 b5 b6 b7 b8 re fl g1 g2 g3 g4 g5 (dW rt la rs rg pd du ds me tt gr su gp mk rf m1 m2 m3 m4 m5 mr mf n1 n2 n3 n4 n5 nr nf E)) = some rz := h1
  rw [h1, h2]
theorem flx_34 (k : rn_J7_fill_53178 N (20, [(2, iv (((8 : Nat) : Int))), (3, iv (((8 : Nat) : Int))), (0, .ref 34), (1, iv (0))], [], (cW ki ln bt rl cp cs ct cv rr dr ja ea ma a1 a2 a3 a4 a5 a6 a7 a8 jb eb mb b1 b2 b3 b4 b5 b6 b7 b8 re fl g1 g2 g3 g4 g5 (dW rt la rs rg pd du (cpy 8 ds zz) me tt gr su gp mk rf m1 m2 m3 m4 m5 mr mf n1 n2 n3 n4 n5 nr nf E))) Q) : ∀ (m j : Nat), j + m = 8 → rn_J7_fill_53178 (N + 20 * m + 20) (5, [(2, iv ((j : Int))), (3, iv (((8 : Nat) : Int))), (0, .ref 34), (1, iv (0))], [], (cW ki ln bt rl cp cs ct cv rr dr ja ea ma a1 a2 a3 a4 a5 a6 a7 a8 jb eb mb b1 b2 b3 b4 b5 b6 b7 b8 re fl g1 g2 g3 g4 g5 (dW rt la rs rg pd du (cpy j ds zz) me tt gr su gp mk rf m1 m2 m3 m4 m5 mr mf n1 n2 n3 n4 n5 nr nf E))) Q := by
  intro m
  induction m with
  | zero =>
    intro j hj
    have hj : j = 8 := by omega
    subst hj
    refine rn_up (N := N + 20) (by omega) ?_
    refine r_il rfl rfl ?_
    refine r_il rfl rfl ?_
    refine r_cge rfl rfl (by omega) (by omega) (fun u1 => ?_) (fun u1 => ?_)
    · exact rn_up (by omega) k
    · omega
  | succ m ih =>
    intro j hj
    refine rn_up (N := N + 20 * m + 20 + 20) (by omega) ?_
    refine r_il rfl rfl ?_
    refine r_il rfl rfl ?_
    refine r_cge rfl rfl (by omega) (by omega) (fun u1 => ?_) (fun u1 => ?_)
    · omega
    · refine r_al rfl rfl ?_
      refine r_il rfl rfl ?_
      refine r_il rfl rfl ?_
      refine r_ias rfl xg_34 (by omega) (by omega) (by decide) xs_34 ?_
      refine r_inc (lv' := [(2, _), (3, _), (0, _), (1, _)]) rfl rfl rfl rfl ?_
      refine r_goto rfl rfl ?_
      rw [show Int.toNat (j : Int) = j from rfl, cpy_s (show Int32.ofInt 0 = zz j from rfl)]
      exact rn_up (by omega) (ih (j + 1) (by omega))
theorem c_fillx34  : sJ7_fill_53178 [.ref 34, iv (0)] (cW ki ln bt rl cp cs ct cv rr dr ja ea ma a1 a2 a3 a4 a5 a6 a7 a8 jb eb mb b1 b2 b3 b4 b5 b6 b7 b8 re fl g1 g2 g3 g4 g5 (dW rt la rs rg pd du ds me tt gr su gp mk rf m1 m2 m3 m4 m5 mr mf n1 n2 n3 n4 n5 nr nf E)) = some (none, (cW ki ln bt rl cp cs ct cv rr dr ja ea ma a1 a2 a3 a4 a5 a6 a7 a8 jb eb mb b1 b2 b3 b4 b5 b6 b7 b8 re fl g1 g2 g3 g4 g5 (dW rt la rs rg pd du (cpy 8 ds zz) me tt gr su gp mk rf m1 m2 m3 m4 m5 mr mf n1 n2 n3 n4 n5 nr nf E))) := by
  have main : ∀ Q : mm_R → Prop, Q (none, (cW ki ln bt rl cp cs ct cv rr dr ja ea ma a1 a2 a3 a4 a5 a6 a7 a8 jb eb mb b1 b2 b3 b4 b5 b6 b7 b8 re fl g1 g2 g3 g4 g5 (dW rt la rs rg pd du (cpy 8 ds zz) me tt gr su gp mk rf m1 m2 m3 m4 m5 mr mf n1 n2 n3 n4 n5 nr nf E))) → rn_J7_fill_53178 (3000) (0, [(0, .ref 34), (1, iv (0))], [], (cW ki ln bt rl cp cs ct cv rr dr ja ea ma a1 a2 a3 a4 a5 a6 a7 a8 jb eb mb b1 b2 b3 b4 b5 b6 b7 b8 re fl g1 g2 g3 g4 g5 (dW rt la rs rg pd du ds me tt gr su gp mk rf m1 m2 m3 m4 m5 mr mf n1 n2 n3 n4 n5 nr nf E))) Q := by
    intro Q hQ
    refine r_ic rfl ?_
    refine r_is (lv' := [(2, _), (0, _), (1, _)]) rfl rfl rfl ?_
    refine r_al rfl rfl ?_
    refine r_al1 rfl xg_34 rfl ?_
    refine r_is (lv' := [(3, _), (2, _), (0, _), (1, _)]) rfl rfl rfl ?_
    rw [← cpy_0 ds zz]
    refine rn_up (N := 10 + 20 * 8 + 20) (by decide) (flx_34 ?_ 8 0 rfl)
    exact r_retv rfl rfl hQ
  obtain ⟨rz, h1, h2⟩ := rn_S (vs := [.ref 34, iv (0)]) (Q := fun rz => rz = (none, (cW ki ln bt rl cp cs ct cv rr dr ja ea ma a1 a2 a3 a4 a5 a6 a7 a8 jb eb mb b1 b2 b3 b4 b5 b6 b7 b8 re fl g1 g2 g3 g4 g5 (dW rt la rs rg pd du (cpy 8 ds zz) me tt gr su gp mk rf m1 m2 m3 m4 m5 mr mf n1 n2 n3 n4 n5 nr nf E)))) rfl (rn_up (N := 3000) (M := mm_fuel) (by decide) (main (fun rz => rz = (none, (cW ki ln bt rl cp cs ct cv rr dr ja ea ma a1 a2 a3 a4 a5 a6 a7 a8 jb eb mb b1 b2 b3 b4 b5 b6 b7 b8 re fl g1 g2 g3 g4 g5 (dW rt la rs rg pd du (cpy 8 ds zz) me tt gr su gp mk rf m1 m2 m3 m4 m5 mr mf n1 n2 n3 n4 n5 nr nf E)))) rfl))
  have h1 : sJ7_fill_53178 [.ref 34, iv (0)] (cW ki ln bt rl cp cs ct cv rr dr ja ea ma a1 a2 a3 a4 a5 a6 a7 a8 jb eb mb b1 b2 b3 b4 b5 b6 b7 b8 re fl g1 g2 g3 g4 g5 (dW rt la rs rg pd du ds me tt gr su gp mk rf m1 m2 m3 m4 m5 mr mf n1 n2 n3 n4 n5 nr nf E)) = some rz := h1
  rw [h1, h2]
abbrev rn_X9_signFor (N : Nat) (c : mm_C) (Q : mm_R → Prop) : Prop := rn (mm_gf gLX9) (mm_pf pLX9) (mm_mv vX9_signFor) (mm_mv zX9_signFor) (mm_kc kLX9) mm_gs0 mm_rf0 mm_ro (some .int) 3 (mm_ins iX9_signFor) N c Q
theorem c_signFor {mw : List va_E} (ha : -2147483648 ≤ a ∧ a ≤ 2147483647) (hb : -2147483648 ≤ b ∧ b ≤ 2147483647) (hx : -2147483648 ≤ x ∧ x ≤ 2147483647) : sX9_signFor [iv (a), iv (b), iv (x)] mw = some (some (iv (bi (decide (a = b)) - bi (decide (a = x)))), mw) := by
  have main : ∀ Q : mm_R → Prop, Q (some (iv (bi (decide (a = b)) - bi (decide (a = x)))), mw) → rn_X9_signFor (1000) (0, [(0, iv (a)), (1, iv (b)), (2, iv (x))], [], mw) Q := by
    intro Q hQ
    refine r_il rfl rfl ?_
    refine r_il rfl rfl ?_
    refine r_cne rfl rfl ha hb (fun u1 => ?_) (fun u1 => ?_)
    · refine r_ic rfl ?_
      refine r_il rfl rfl ?_
      refine r_il rfl rfl ?_
      refine r_cne rfl rfl ha hx (fun u2 => ?_) (fun u2 => ?_)
      · rw [decide_eq_false u1, decide_eq_false u2] at hQ
        refine r_ic rfl ?_
        refine r_sub rfl ?_
        exact r_ret rfl rfl hQ
      · rw [decide_eq_false u1, decide_eq_true u2] at hQ
        refine r_ic rfl ?_
        refine r_goto rfl rfl ?_
        refine r_sub rfl ?_
        exact r_ret rfl rfl hQ
    · refine r_ic rfl ?_
      refine r_goto rfl rfl ?_
      refine r_il rfl rfl ?_
      refine r_il rfl rfl ?_
      refine r_cne rfl rfl ha hx (fun u2 => ?_) (fun u2 => ?_)
      · rw [decide_eq_true u1, decide_eq_false u2] at hQ
        refine r_ic rfl ?_
        refine r_sub rfl ?_
        exact r_ret rfl rfl hQ
      · rw [decide_eq_true u1, decide_eq_true u2] at hQ
        refine r_ic rfl ?_
        refine r_goto rfl rfl ?_
        refine r_sub rfl ?_
        exact r_ret rfl rfl hQ
  obtain ⟨rz, h1, h2⟩ := rn_S (vs := [iv (a), iv (b), iv (x)]) (Q := fun rz => rz = (some (iv (bi (decide (a = b)) - bi (decide (a = x)))), mw)) rfl (rn_up (N := 1000) (M := mm_fuel) (by decide) (main (fun rz => rz = (some (iv (bi (decide (a = b)) - bi (decide (a = x)))), mw)) rfl))
  have h1 : sX9_signFor [iv (a), iv (b), iv (x)] mw = some rz := h1
  rw [h1, h2]
abbrev rn_X9_payInFull (N : Nat) (c : mm_C) (Q : mm_R → Prop) : Prop := rn (mm_gf gLX9) (mm_pf pLX9) (mm_mv vX9_payInFull) (mm_mv zX9_payInFull) (mm_kc kLX9) mm_gs0 mm_rf0 mm_ro none 2 (mm_ins iX9_payInFull) N c Q
theorem pf_lp0 (hP : PH ea ma re fl a1 a2 a3 a4 a5 a6 a7 a8 g1 g2 g3 g4 g5 s de sd) (k : ∀ pd : Nat → Int32, rcJ ea ma de sd s 0 26 pd → rn_X9_payInFull N (43, [(1, iv (((26 : Nat) : Int))), (0, .ref 31)], [], (cW ki ln bt rl cp cs ct cv 5 14 ja ea ma a1 a2 a3 a4 a5 a6 a7 a8 jb eb mb b1 b2 b3 b4 b5 b6 b7 b8 re fl g1 g2 g3 g4 g5 (dW rt la rs rg pd du ds me tt gr su gp mk rf m1 m2 m3 m4 m5 mr mf n1 n2 n3 n4 n5 nr nf E))) Q) : ∀ (m j : Nat) (pd : Nat → Int32), j + m = 26 → rcJ ea ma de sd s 0 j pd → rn_X9_payInFull (N + 40 * m + 40) (2, [(1, iv ((j : Int))), (0, .ref 31)], [], (cW ki ln bt rl cp cs ct cv 5 14 ja ea ma a1 a2 a3 a4 a5 a6 a7 a8 jb eb mb b1 b2 b3 b4 b5 b6 b7 b8 re fl g1 g2 g3 g4 g5 (dW rt la rs rg pd du ds me tt gr su gp mk rf m1 m2 m3 m4 m5 mr mf n1 n2 n3 n4 n5 nr nf E))) Q := by
  obtain ⟨hL, hRd, hRs, hV, hd, hn, hS, hE, hRS, hX⟩ := id hP
  intro m
  induction m with
  | zero =>
    intro j pd hj hJ
    have hj : j = 26 := by omega
    subst hj
    refine rn_up (N := N + 40) (by omega) ?_
    refine r_il rfl rfl ?_
    refine r_bi rfl (by decide) ?_
    refine r_cge rfl rfl (by omega) (by omega) (fun u1 => ?_) (fun u1 => ?_)
    · exact rn_up (by omega) (k pd hJ)
    · omega
  | succ m ih =>
    intro j pd hj hJ
    refine rn_up (N := N + 40 * m + 40 + 40) (by omega) ?_
    refine r_il rfl rfl ?_
    refine r_bi rfl (by decide) ?_
    refine r_cge rfl rfl (by omega) (by omega) (fun u1 => ?_) (fun u1 => ?_)
    · omega
    · refine r_al rfl rfl ?_
      refine r_gf rfl rfl xg_31 rfl ?_
      refine r_il rfl rfl ?_
      refine r_al rfl rfl ?_
      refine r_gf rfl rfl xg_31 rfl ?_
      refine r_il rfl rfl ?_
      refine r_v2s rfl rfl xg_4 rfl (c_isDebtC0 (by omega) (by omega)) ?_
      refine r_zeq rfl rfl (bi_r _) (fun u2 => ?_) (fun u2 => ?_)
      · have u3 : ¬ (j : Int) < ea := fun z => by
          have h0 := bi_0 u2
          have h1 : i3 (j : Int) 0 (ea - 1) = true := by simp [i3]; omega
          rw [h1] at h0
          cases h0
        refine r_ic rfl ?_
        refine r_ias rfl xg_32 (by omega) (by omega) (by decide) xs_32 ?_
        refine r_inc (lv' := [(1, _), (0, _)]) rfl rfl rfl rfl ?_
        refine r_goto rfl rfl ?_
        have hJ2 := rcJ_s (x := 0) (by omega) hJ (show 0 = (bif decide ((j : Int) < ea) then fR de s (j : Int) else 0) by rw [decide_eq_false u3]; rfl)
        rw [show 26 * 0 + j = Int.toNat (j : Int) by omega] at hJ2
        exact rn_up (by omega) (ih (j + 1) _ (by omega) hJ2)
      · have u3 := i3_t (bi_1 u2)
        have ec : cR a3 g1 (j : Int) = fR de s (j : Int) := cR_eq hL hRd (by omega) hd.2
        refine r_al rfl rfl ?_
        refine r_gf rfl rfl xg_31 rfl ?_
        refine r_il rfl rfl ?_
        refine r_v2s rfl rfl xg_4 rfl (c_restC0 (by omega)) ?_
        refine r_goto rfl rfl ?_
        refine r_ias rfl xg_32 (by omega) (by omega) (by decide) xs_32 ?_
        refine r_inc (lv' := [(1, _), (0, _)]) rfl rfl rfl rfl ?_
        refine r_goto rfl rfl ?_
        have hJ2 := rcJ_s (x := cR a3 g1 (j : Int)) (by omega) hJ (show cR a3 g1 (j : Int) = (bif decide ((j : Int) < ea) then fR de s (j : Int) else 0) by rw [decide_eq_true (by omega), ec]; rfl)
        rw [show 26 * 0 + j = Int.toNat (j : Int) by omega] at hJ2
        exact rn_up (by omega) (ih (j + 1) _ (by omega) hJ2)
theorem c_pf0 (hP : PH ea ma re fl a1 a2 a3 a4 a5 a6 a7 a8 g1 g2 g3 g4 g5 s de sd) : ∃ pd' : Nat → Int32, sX9_payInFull [.ref 31] (cW ki ln bt rl cp cs ct cv 5 14 ja ea ma a1 a2 a3 a4 a5 a6 a7 a8 jb eb mb b1 b2 b3 b4 b5 b6 b7 b8 re fl g1 g2 g3 g4 g5 (dW rt la rs rg pd du ds me tt gr su gp mk rf m1 m2 m3 m4 m5 mr mf n1 n2 n3 n4 n5 nr nf E)) = some (none, (cW ki ln bt rl cp cs ct cv 5 14 ja ea ma a1 a2 a3 a4 a5 a6 a7 a8 jb eb mb b1 b2 b3 b4 b5 b6 b7 b8 re fl g1 g2 g3 g4 g5 (dW rt la rs rg pd' du ds me tt gr su gp mk rf m1 m2 m3 m4 m5 mr mf n1 n2 n3 n4 n5 nr nf E))) ∧ rcI ea ma de sd s 1 pd' := by
  have main : rn_X9_payInFull (20 + 40 * 26 + 40 + 20) (0, [(0, .ref 31)], [], (cW ki ln bt rl cp cs ct cv 5 14 ja ea ma a1 a2 a3 a4 a5 a6 a7 a8 jb eb mb b1 b2 b3 b4 b5 b6 b7 b8 re fl g1 g2 g3 g4 g5 (dW rt la rs rg pd du ds me tt gr su gp mk rf m1 m2 m3 m4 m5 mr mf n1 n2 n3 n4 n5 nr nf E))) (fun x => ∃ pd' : Nat → Int32, x = (none, (cW ki ln bt rl cp cs ct cv 5 14 ja ea ma a1 a2 a3 a4 a5 a6 a7 a8 jb eb mb b1 b2 b3 b4 b5 b6 b7 b8 re fl g1 g2 g3 g4 g5 (dW rt la rs rg pd' du ds me tt gr su gp mk rf m1 m2 m3 m4 m5 mr mf n1 n2 n3 n4 n5 nr nf E))) ∧ rcI ea ma de sd s 1 pd') := by
    refine r_ic rfl ?_
    refine r_is (lv' := [(1, _), (0, _)]) rfl rfl rfl ?_
    refine rn_up (N := 20 + 40 * 26 + 40) (by decide) (pf_lp0 (N := 20) hP (fun pd hJ => ?_) 26 0 pd rfl ⟨fun a k ha _ => by omega, fun k hk => by omega⟩)
    exact r_retv rfl rfl ⟨pd, rfl, rcJ_e hJ⟩
  obtain ⟨x, h1, pd', h2, h3⟩ := rn_S (vs := [.ref 31]) rfl (rn_up (N := 20 + 40 * 26 + 40 + 20) (M := mm_fuel) (by decide) main)
  have h1 : sX9_payInFull [.ref 31] (cW ki ln bt rl cp cs ct cv 5 14 ja ea ma a1 a2 a3 a4 a5 a6 a7 a8 jb eb mb b1 b2 b3 b4 b5 b6 b7 b8 re fl g1 g2 g3 g4 g5 (dW rt la rs rg pd du ds me tt gr su gp mk rf m1 m2 m3 m4 m5 mr mf n1 n2 n3 n4 n5 nr nf E)) = some x := h1
  exact ⟨pd', by rw [h1, h2], h3⟩
abbrev rn_X9_findDues (N : Nat) (c : mm_C) (Q : mm_R → Prop) : Prop := rn (mm_gf gLX9) (mm_pf pLX9) (mm_mv vX9_findDues) (mm_mv zX9_findDues) (mm_kc kLX9) mm_gs0 mm_rf0 mm_ro none 6 (mm_ins iX9_findDues) N c Q
theorem fd_10 (hP : PH ea ma re fl a1 a2 a3 a4 a5 a6 a7 a8 g1 g2 g3 g4 g5 s de sd) (hr : r < 200) (hB : B = 26 * (r : Int)) (hrow : ∀ k : Nat, k < 26 → pd (26 * r + k) = Int32.ofInt ((rkR ea ma de sd s r) k)) (k : ∀ du ds : Nat → Int32, dui ea ma de sd s (rkR ea ma de sd s r) ea.toNat du → dsi ea ma de sd s (rkR ea ma de sd s r) ea.toNat ds → rn_X9_findDues N (74, [(3, iv (((ea.toNat : Nat) : Int))), (2, .ref 5), (0, .ref 31), (1, iv (B))], [], (cW ki ln bt rl cp cs ct cv 5 14 ja ea ma a1 a2 a3 a4 a5 a6 a7 a8 jb eb mb b1 b2 b3 b4 b5 b6 b7 b8 re fl g1 g2 g3 g4 g5 (dW rt la rs rg pd du ds me tt gr su gp mk rf m1 m2 m3 m4 m5 mr mf n1 n2 n3 n4 n5 nr nf E))) Q) : ∀ (m j : Nat) (du ds : Nat → Int32), j + m = ea.toNat → dui ea ma de sd s (rkR ea ma de sd s r) j du → dsi ea ma de sd s (rkR ea ma de sd s r) j ds → rn_X9_findDues (N + 60 * m + 60) (26, [(3, iv ((j : Int))), (2, .ref 5), (0, .ref 31), (1, iv (B))], [], (cW ki ln bt rl cp cs ct cv 5 14 ja ea ma a1 a2 a3 a4 a5 a6 a7 a8 jb eb mb b1 b2 b3 b4 b5 b6 b7 b8 re fl g1 g2 g3 g4 g5 (dW rt la rs rg pd du ds me tt gr su gp mk rf m1 m2 m3 m4 m5 mr mf n1 n2 n3 n4 n5 nr nf E))) Q := by
  obtain ⟨hL, hRd, hRs, hV, hd, hn, hS, hE, hRS, hX⟩ := id hP
  intro m
  induction m with
  | zero =>
    intro j du ds hj hU hD
    have hj : j = ea.toNat := by omega
    subst hj
    refine rn_up (N := N + 60) (by omega) ?_
    refine r_il rfl rfl ?_
    refine r_al rfl rfl ?_
    refine r_gf rfl rfl xg_5 rfl ?_
    refine r_cge rfl rfl (by omega) (by omega) (fun u1 => ?_) (fun u1 => ?_)
    · exact rn_up (by omega) (k du ds hU hD)
    · omega
  | succ m ih =>
    intro j du ds hj hU hD
    refine rn_up (N := N + 60 * m + 60 + 60) (by omega) ?_
    refine r_il rfl rfl ?_
    refine r_al rfl rfl ?_
    refine r_gf rfl rfl xg_5 rfl ?_
    refine r_cge rfl rfl (by omega) (by omega) (fun u1 => ?_) (fun u1 => ?_)
    · omega
    · obtain ⟨e1, -, hd0, -⟩ := P_de hP (d := (j : Int)) ⟨by omega, by omega⟩
      obtain ⟨w, hw⟩ := Int.eq_ofNat_of_zero_le hd0.1
      rw [hw] at e1
      have hpj : rkP ea ma j = true := by rw [rkP_d (by omega)]; exact decide_eq_true (by omega)
      have hoj : rkO de sd j = (w : Int) := by unfold rkO; rw [decide_eq_true (by omega)]; exact hw
      have eD : rkD de sd s (rkR ea ma de sd s r) j = fR de s (j : Int) := by unfold rkD; rw [decide_eq_true (by omega)]; rfl
      have hDr := rkD_r hRS hE hS hX (rkR_r (sn := ma) hd.2 hRS hE hS hX r) (show j < 26 by omega)
      have ec : cR a3 g1 (j : Int) = rkD de sd s (rkR ea ma de sd s r) j := (cR_eq hL hRd (by omega) hd.2).trans eD.symm
      have eu : (upd du (Int.toNat (j : Int)) (Int32.ofInt (rkD de sd s (rkR ea ma de sd s r) j)) (Int.toNat (j : Int))).toInt = rkD de sd s (rkR ea ma de sd s r) j := by rw [upd_same]; exact iv_to ⟨by omega, by omega⟩
      refine r_al rfl rfl ?_
      refine r_gf rfl rfl xg_31 rfl ?_
      refine r_il rfl rfl ?_
      refine r_al rfl rfl ?_
      refine r_gf rfl rfl xg_31 rfl ?_
      refine r_il rfl rfl ?_
      refine r_v2s rfl rfl xg_4 rfl (c_restC0 (by omega)) ?_
      refine r_eq ec ?_
      refine r_ias rfl xg_33 (by omega) (by omega) (by decide) xs_33 ?_
      refine r_al rfl rfl ?_
      refine r_gf rfl rfl xg_31 rfl ?_
      refine r_al rfl rfl ?_
      refine r_gf rfl rfl xg_5 rfl ?_
      refine r_il rfl rfl ?_
      refine r_ia rfl xg_6 (by omega) (by omega) (by decide) ?_
      refine r_eq e1 ?_
      refine r_dup2 rfl rfl rfl ?_
      refine r_ia rfl xg_34 (by omega) (by omega) (by decide) ?_
      refine r_al rfl rfl ?_
      refine r_gf rfl rfl xg_31 rfl ?_
      refine r_il rfl rfl ?_
      refine r_ia rfl xg_33 (by omega) (by omega) (by decide) ?_
      refine r_eq eu ?_
      refine r_add rfl ?_
      refine r_ias rfl xg_34 (by omega) (by omega) (by decide) xs_34 ?_
      refine r_inc (lv' := [(3, _), (2, _), (0, _), (1, _)]) rfl rfl rfl rfl ?_
      refine r_goto rfl rfl ?_
      exact rn_up (by omega) (ih (j + 1) _ _ (by omega) (dui_s hU hpj) (dsi_s hD hpj hoj (by omega)))
theorem fd_20 (hP : PH ea ma re fl a1 a2 a3 a4 a5 a6 a7 a8 g1 g2 g3 g4 g5 s de sd) (hr : r < 200) (hB : B = 26 * (r : Int)) (hrow : ∀ k : Nat, k < 26 → pd (26 * r + k) = Int32.ofInt ((rkR ea ma de sd s r) k)) (k : ∀ du ds : Nat → Int32, dui ea ma de sd s (rkR ea ma de sd s r) (10 + ma.toNat) du → dsi ea ma de sd s (rkR ea ma de sd s r) (10 + ma.toNat) ds → rn_X9_findDues N (189, [(3, iv (((ma.toNat : Nat) : Int))), (2, .ref 5), (0, .ref 31), (1, iv (B))], [], (cW ki ln bt rl cp cs ct cv 5 14 ja ea ma a1 a2 a3 a4 a5 a6 a7 a8 jb eb mb b1 b2 b3 b4 b5 b6 b7 b8 re fl g1 g2 g3 g4 g5 (dW rt la rs rg pd du ds me tt gr su gp mk rf m1 m2 m3 m4 m5 mr mf n1 n2 n3 n4 n5 nr nf E))) Q) : ∀ (m j : Nat) (du ds : Nat → Int32), j + m = ma.toNat → dui ea ma de sd s (rkR ea ma de sd s r) (10 + j) du → dsi ea ma de sd s (rkR ea ma de sd s r) (10 + j) ds → rn_X9_findDues (N + 90 * m + 90) (76, [(3, iv ((j : Int))), (2, .ref 5), (0, .ref 31), (1, iv (B))], [], (cW ki ln bt rl cp cs ct cv 5 14 ja ea ma a1 a2 a3 a4 a5 a6 a7 a8 jb eb mb b1 b2 b3 b4 b5 b6 b7 b8 re fl g1 g2 g3 g4 g5 (dW rt la rs rg pd du ds me tt gr su gp mk rf m1 m2 m3 m4 m5 mr mf n1 n2 n3 n4 n5 nr nf E))) Q := by
  obtain ⟨hL, hRd, hRs, hV, hd, hn, hS, hE, hRS, hX⟩ := id hP
  intro m
  induction m with
  | zero =>
    intro j du ds hj hU hD
    have hj : j = ma.toNat := by omega
    subst hj
    refine rn_up (N := N + 90) (by omega) ?_
    refine r_il rfl rfl ?_
    refine r_al rfl rfl ?_
    refine r_gf rfl rfl xg_5 rfl ?_
    refine r_cge rfl rfl (by omega) (by omega) (fun u1 => ?_) (fun u1 => ?_)
    · exact rn_up (by omega) (k du ds hU hD)
    · omega
  | succ m ih =>
    intro j du ds hj hU hD
    refine rn_up (N := N + 90 * m + 90 + 90) (by omega) ?_
    refine r_il rfl rfl ?_
    refine r_al rfl rfl ?_
    refine r_gf rfl rfl xg_5 rfl ?_
    refine r_cge rfl rfl (by omega) (by omega) (fun u1 => ?_) (fun u1 => ?_)
    · omega
    · obtain ⟨e4, e5, e6, -, hp4, hp5, -⟩ := P_st hP (i := (j : Int)) ⟨by omega, by omega⟩
      obtain ⟨w, hw⟩ := Int.eq_ofNat_of_zero_le hp4.1
      obtain ⟨d, hdd⟩ := Int.eq_ofNat_of_zero_le hp5.1
      rw [hw] at e4
      rw [hdd] at e5
      have ek : ((10 + j : Nat) : Int) - 10 = (j : Int) := by omega
      have hpj : rkP ea ma (10 + j) = true := by rw [rkP_s (by omega)]; exact decide_eq_true (by omega)
      have hoj : rkO de sd (10 + j) = (w : Int) := by unfold rkO; rw [decide_eq_false (by omega), cond_false, ek]; exact hw
      have hR := rkR_r (sn := ma) hd.2 hRS hE hS hX r
      have hDr := rkD_r hRS hE hS hX hR (show 10 + j < 26 by omega)
      have hRd2 := hR d (by omega)
      have hf := fR_9 hRS hE hX (show 0 ≤ (d : Int) ∧ (d : Int) ≤ 9 by omega)
      have ec : cR a3 g1 (d : Int) = fR de s (d : Int) := cR_eq hL hRd (by omega) hd.2
      have hcl := cL_eq hL (show 0 ≤ (j : Int) ∧ (j : Int) < ma by omega) hn.2
      have eD : rkD de sd s (rkR ea ma de sd s r) (10 + j) = (bif decide ((sd (Int.toNat (5 * (j : Int) + 2))).toInt = 3) then 0 else lsr (fL s (j : Int)) (rkW (fR de s (d : Int) - (rkR ea ma de sd s r) d))) := by
        unfold rkD
        rw [decide_eq_false (by omega), cond_false, ek, hdd]
        rfl
      have hpv : (pd (Int.toNat (B + (d : Int)))).toInt = (rkR ea ma de sd s r) d := by
        rw [show Int.toNat (B + (d : Int)) = 26 * r + d by omega, hrow d (by omega)]
        exact iv_to ⟨by omega, by omega⟩
      have eu : (upd du (Int.toNat (10 + (j : Int))) (Int32.ofInt (rkD de sd s (rkR ea ma de sd s r) (10 + j))) (Int.toNat (10 + (j : Int)))).toInt = rkD de sd s (rkR ea ma de sd s r) (10 + j) := by rw [upd_same]; exact iv_to ⟨by omega, by omega⟩
      refine r_al rfl rfl ?_
      refine r_gf rfl rfl xg_5 rfl ?_
      refine r_il rfl rfl ?_
      refine r_ia rfl xg_11 (by omega) (by omega) (by decide) ?_
      refine r_ic rfl ?_
      refine r_ceq rfl rfl (as_r _) (by decide) (fun u2 => ?_) (fun u2 => ?_)
      · rw [e6] at u2
        have z0 : rkD de sd s (rkR ea ma de sd s r) (10 + j) = 0 := by rw [eD, decide_eq_true u2]; rfl
        refine r_inc (lv' := [(3, _), (2, _), (0, _), (1, _)]) rfl rfl rfl rfl ?_
        refine r_goto rfl rfl ?_
        exact rn_up (by omega) (ih (j + 1) _ _ (by omega) (dui_k hU (Or.inr z0)) (dsi_k hD (Or.inr z0)))
      · rw [e6] at u2
        rw [decide_eq_false u2, cond_false] at eD
        refine r_al rfl rfl ?_
        refine r_gf rfl rfl xg_31 rfl ?_
        refine r_il rfl rfl ?_
        refine r_v2s rfl rfl xg_4 rfl (c_isRelC0 (by omega)) ?_
        refine r_zne rfl rfl (bi_r _) (fun u3 => ?_) (fun u3 => ?_)
        · have z0 : rkD de sd s (rkR ea ma de sd s r) (10 + j) = 0 := by
            have hz : cL g3 g2 re (j : Int) = 0 := by unfold cL; rw [bi_1 u3]; rfl
            rw [eD, hcl, hz, nrm_s (by decide), if_neg (by decide)]
            have := rkW_0 (fR de s (d : Int) - (rkR ea ma de sd s r) d)
            unfold lsr
            by_cases y : 0 < rkW (fR de s (d : Int) - (rkR ea ma de sd s r) d)
            · rw [decide_eq_true y]; rfl
            · rw [decide_eq_false y, cond_false]; omega
          refine r_inc (lv' := [(3, _), (2, _), (0, _), (1, _)]) rfl rfl rfl rfl ?_
          refine r_goto rfl rfl ?_
          exact rn_up (by omega) (ih (j + 1) _ _ (by omega) (dui_k hU (Or.inr z0)) (dsi_k hD (Or.inr z0)))
        · have hmr : -2147483648 ≤ mnI (nrm (cL g3 g2 re (j : Int))) (fR de s (d : Int) - (rkR ea ma de sd s r) d) ∧ mnI (nrm (cL g3 g2 re (j : Int))) (fR de s (d : Int) - (rkR ea ma de sd s r) d) ≤ 2147483647 := by
            have := nrm_r (cL g3 g2 re (j : Int))
            unfold mnI
            cases decide (fR de s (d : Int) - (rkR ea ma de sd s r) d < nrm (cL g3 g2 re (j : Int))) with
            | true => rw [cond_true]; omega
            | false => rw [cond_false]; exact this
          have ev : mxI 0 (mnI (nrm (cL g3 g2 re (j : Int))) (fR de s (d : Int) - (rkR ea ma de sd s r) d)) = rkD de sd s (rkR ea ma de sd s r) (10 + j) := by rw [mx_q, ← hcl, eD]
          refine r_al rfl rfl ?_
          refine r_gf rfl rfl xg_5 rfl ?_
          refine r_il rfl rfl ?_
          refine r_ia rfl xg_10 (by omega) (by omega) (by decide) ?_
          refine r_eq e5 ?_
          refine r_isw (lv' := [(4, _), (3, _), (2, _), (0, _), (1, _)]) rfl rfl rfl ?_
          refine r_al rfl rfl ?_
          refine r_gf rfl rfl xg_31 rfl ?_
          refine r_ilw rfl rfl ?_
          refine r_v2s rfl rfl xg_4 rfl (c_restC0 (by omega)) ?_
          refine r_eq ec ?_
          refine r_al rfl rfl ?_
          refine r_gf rfl rfl xg_31 rfl ?_
          refine r_il rfl rfl ?_
          refine r_ilw rfl rfl ?_
          refine r_add rfl ?_
          refine r_ia rfl xg_32 (by omega) (by omega) (by decide) ?_
          refine r_eq hpv ?_
          refine r_sub rfl ?_
          refine r_isw (lv' := [(5, _), (4, _), (3, _), (2, _), (0, _), (1, _)]) rfl rfl rfl ?_
          refine r_al rfl rfl ?_
          refine r_gf rfl rfl xg_31 rfl ?_
          refine r_bi rfl (by decide) ?_
          refine r_il rfl rfl ?_
          refine r_add rfl ?_
          refine r_ic rfl ?_
          refine r_al rfl rfl ?_
          refine r_gf rfl rfl xg_31 rfl ?_
          refine r_il rfl rfl ?_
          refine r_v2s rfl rfl xg_4 rfl (c_leftC0 (by omega)) ?_
          refine r_nrm ?_
          refine r_ilw rfl rfl ?_
          refine r_s2s rfl rfl rfl (c_minC (nrm_r _) (by omega)) ?_
          refine r_s2s rfl rfl rfl (c_maxC (by decide) hmr) ?_
          refine r_eq ev ?_
          refine r_ias rfl xg_33 (by omega) (by omega) (by decide) xs_33 ?_
          refine r_al rfl rfl ?_
          refine r_gf rfl rfl xg_31 rfl ?_
          refine r_al rfl rfl ?_
          refine r_gf rfl rfl xg_5 rfl ?_
          refine r_il rfl rfl ?_
          refine r_ia rfl xg_9 (by omega) (by omega) (by decide) ?_
          refine r_eq e4 ?_
          refine r_dup2 rfl rfl rfl ?_
          refine r_ia rfl xg_34 (by omega) (by omega) (by decide) ?_
          refine r_al rfl rfl ?_
          refine r_gf rfl rfl xg_31 rfl ?_
          refine r_bi rfl (by decide) ?_
          refine r_il rfl rfl ?_
          refine r_add rfl ?_
          refine r_ia rfl xg_33 (by omega) (by omega) (by decide) ?_
          refine r_eq eu ?_
          refine r_add rfl ?_
          refine r_ias rfl xg_34 (by omega) (by omega) (by decide) xs_34 ?_
          refine r_inc (lv' := [(3, _), (5, _), (4, _), (2, _), (0, _), (1, _)]) rfl rfl rfl rfl ?_
          refine r_goto rfl rfl ?_
          refine rn_LE (a := [(3, iv ((j : Int) + 1)), (2, .ref 5), (0, .ref 31), (1, iv (B))]) ⟨(List.forall_mem_cons.mpr ⟨List.mem_cons_self, (List.forall_mem_cons.mpr ⟨(List.mem_cons_of_mem _ (List.mem_cons_of_mem _ (List.mem_cons_of_mem _ List.mem_cons_self))), (List.forall_mem_cons.mpr ⟨(List.mem_cons_of_mem _ (List.mem_cons_of_mem _ (List.mem_cons_of_mem _ (List.mem_cons_of_mem _ List.mem_cons_self)))), (List.forall_mem_cons.mpr ⟨(List.mem_cons_of_mem _ (List.mem_cons_of_mem _ (List.mem_cons_of_mem _ (List.mem_cons_of_mem _ (List.mem_cons_of_mem _ List.mem_cons_self))))), (fun _ h => absurd h List.not_mem_nil)⟩)⟩)⟩)⟩), (by show List.Nodup [3, 2, 0, 1]; decide), (by show List.Nodup [3, 5, 4, 2, 0, 1]; decide)⟩ ?_
          have hU2 := dui_s hU hpj
          have hD2 := dsi_s hD hpj hoj (by omega)
          refine rn_up (by omega) (ih (j + 1) _ _ (by omega) ?_ hD2)
          rw [show Int.toNat (10 + (j : Int)) = 10 + j by omega]
          exact hU2
theorem c_fd0 (hP : PH ea ma re fl a1 a2 a3 a4 a5 a6 a7 a8 g1 g2 g3 g4 g5 s de sd) (hr : r < 200) (hB : B = 26 * (r : Int)) (hrow : ∀ k : Nat, k < 26 → pd (26 * r + k) = Int32.ofInt ((rkR ea ma de sd s r) k)) : ∃ du' ds' : Nat → Int32, sX9_findDues [.ref 31, iv B] (cW ki ln bt rl cp cs ct cv 5 14 ja ea ma a1 a2 a3 a4 a5 a6 a7 a8 jb eb mb b1 b2 b3 b4 b5 b6 b7 b8 re fl g1 g2 g3 g4 g5 (dW rt la rs rg pd du ds me tt gr su gp mk rf m1 m2 m3 m4 m5 mr mf n1 n2 n3 n4 n5 nr nf E)) = some (none, (cW ki ln bt rl cp cs ct cv 5 14 ja ea ma a1 a2 a3 a4 a5 a6 a7 a8 jb eb mb b1 b2 b3 b4 b5 b6 b7 b8 re fl g1 g2 g3 g4 g5 (dW rt la rs rg pd du' ds' me tt gr su gp mk rf m1 m2 m3 m4 m5 mr mf n1 n2 n3 n4 n5 nr nf E))) ∧ dui ea ma de sd s (rkR ea ma de sd s r) 26 du' ∧ dsi ea ma de sd s (rkR ea ma de sd s r) 26 ds' := by
  obtain ⟨hL, hRd, hRs, hV, hd, hn, hS, hE, hRS, hX⟩ := id hP
  have main : rn_X9_findDues (20 + 90 * 16 + 90 + 20 + 60 * 10 + 60 + 20) (0, [(0, .ref 31), (1, iv (B))], [], (cW ki ln bt rl cp cs ct cv 5 14 ja ea ma a1 a2 a3 a4 a5 a6 a7 a8 jb eb mb b1 b2 b3 b4 b5 b6 b7 b8 re fl g1 g2 g3 g4 g5 (dW rt la rs rg pd du ds me tt gr su gp mk rf m1 m2 m3 m4 m5 mr mf n1 n2 n3 n4 n5 nr nf E))) (fun x => ∃ du' ds' : Nat → Int32, x = (none, (cW ki ln bt rl cp cs ct cv 5 14 ja ea ma a1 a2 a3 a4 a5 a6 a7 a8 jb eb mb b1 b2 b3 b4 b5 b6 b7 b8 re fl g1 g2 g3 g4 g5 (dW rt la rs rg pd du' ds' me tt gr su gp mk rf m1 m2 m3 m4 m5 mr mf n1 n2 n3 n4 n5 nr nf E))) ∧ dui ea ma de sd s (rkR ea ma de sd s r) 26 du' ∧ dsi ea ma de sd s (rkR ea ma de sd s r) 26 ds') := by
    refine r_al rfl rfl ?_
    refine r_gf rfl rfl xg_31 rfl ?_
    refine r_gf rfl rfl xg_4 rfl ?_
    refine r_as (lv' := [(2, _), (0, _), (1, _)]) rfl rfl rfl ?_
    refine r_al rfl rfl ?_
    refine r_gf rfl rfl xg_31 rfl ?_
    refine r_ic rfl ?_
    refine r_s2n rfl rfl rfl c_fillx33 ?_
    refine r_al rfl rfl ?_
    refine r_gf rfl rfl xg_31 rfl ?_
    refine r_ic rfl ?_
    refine r_s2n rfl rfl rfl c_fillx34 ?_
    refine r_ic rfl ?_
    refine r_is (lv' := [(3, _), (2, _), (0, _), (1, _)]) rfl rfl rfl ?_
    have hU0 : dui ea ma de sd s (rkR ea ma de sd s r) 0 (cpy 26 du zz) := fun k hk => by
      rw [cpz_lt hk]; rfl
    have hD0 : dsi ea ma de sd s (rkR ea ma de sd s r) 0 (cpy 8 ds zz) := fun k hk => by
      rw [cpz_lt hk]; rfl
    refine rn_up (N := (20 + 90 * 16 + 90 + 20) + 60 * ea.toNat + 60) (by omega) (fd_10 (N := 20 + 90 * 16 + 90 + 20) hP hr hB hrow (fun du ds hU hD => ?_) ea.toNat 0 _ _ (by omega) hU0 hD0)
    refine r_ic rfl ?_
    refine r_is (lv' := [(3, _), (2, _), (0, _), (1, _)]) rfl rfl rfl ?_
    have hU1 : dui ea ma de sd s (rkR ea ma de sd s r) 10 du := gap_d (sn := ma) (T := fun j => dui ea ma de sd s (rkR ea ma de sd s r) j du) hd (fun j hj h => dui_k h (Or.inl hj)) hU
    have hD1 : dsi ea ma de sd s (rkR ea ma de sd s r) 10 ds := gap_d (sn := ma) (T := fun j => dsi ea ma de sd s (rkR ea ma de sd s r) j ds) hd (fun j hj h => dsi_k h (Or.inl hj)) hD
    refine rn_up (N := 20 + 90 * ma.toNat + 90) (by omega) (fd_20 (N := 20) hP hr hB hrow (fun du ds hU hD => ?_) ma.toNat 0 _ _ (by omega) hU1 hD1)
    exact r_retv rfl rfl ⟨du, ds, rfl, gap_s (db := ea) (T := fun j => dui ea ma de sd s (rkR ea ma de sd s r) j du) hn (fun j hj h => dui_k h (Or.inl hj)) hU, gap_s (db := ea) (T := fun j => dsi ea ma de sd s (rkR ea ma de sd s r) j ds) hn (fun j hj h => dsi_k h (Or.inl hj)) hD⟩
  obtain ⟨x, h1, du', ds', h2, h3⟩ := rn_S (vs := [.ref 31, iv B]) rfl (rn_up (N := 20 + 90 * 16 + 90 + 20 + 60 * 10 + 60 + 20) (M := mm_fuel) (by decide) main)
  have h1 : sX9_findDues [.ref 31, iv B] (cW ki ln bt rl cp cs ct cv 5 14 ja ea ma a1 a2 a3 a4 a5 a6 a7 a8 jb eb mb b1 b2 b3 b4 b5 b6 b7 b8 re fl g1 g2 g3 g4 g5 (dW rt la rs rg pd du ds me tt gr su gp mk rf m1 m2 m3 m4 m5 mr mf n1 n2 n3 n4 n5 nr nf E)) = some x := h1
  exact ⟨du', ds', by rw [h1, h2], h3⟩
abbrev rn_X9_findMeans (N : Nat) (c : mm_C) (Q : mm_R → Prop) : Prop := rn (mm_gf gLX9) (mm_pf pLX9) (mm_mv vX9_findMeans) (mm_mv zX9_findMeans) (mm_kc kLX9) mm_gs0 mm_rf0 mm_ro none 4 (mm_ins iX9_findMeans) N c Q
theorem c_acpm0 : mm_acp [.ref 28, iv 0, .ref 35, iv 0, iv 8] (cW ki ln bt rl cp cs ct cv 5 14 ja ea ma a1 a2 a3 a4 a5 a6 a7 a8 jb eb mb b1 b2 b3 b4 b5 b6 b7 b8 re fl g1 g2 g3 g4 g5 (dW rt la rs rg pd du ds me tt gr su gp mk rf m1 m2 m3 m4 m5 mr mf n1 n2 n3 n4 n5 nr nf E)) = some (none, (cW ki ln bt rl cp cs ct cv 5 14 ja ea ma a1 a2 a3 a4 a5 a6 a7 a8 jb eb mb b1 b2 b3 b4 b5 b6 b7 b8 re fl g1 g2 g3 g4 g5 (dW rt la rs rg pd du ds (va_cpy g5 me 0 0 8) tt gr su gp mk rf m1 m2 m3 m4 m5 mr mf n1 n2 n3 n4 n5 nr nf E))) := rfl
theorem fm_10 (hP : PH ea ma re fl a1 a2 a3 a4 a5 a6 a7 a8 g1 g2 g3 g4 g5 s de sd) (hr : r < 200) (hB : B = 26 * (r : Int)) (hrow : ∀ k : Nat, k < 26 → pd (26 * r + k) = Int32.ofInt ((rkR ea ma de sd s r) k)) (k : ∀ me : Nat → Int32, mei ea ma de sd s (rkR ea ma de sd s r) (ea.toNat) me → rn_X9_findMeans N (67, [(3, iv (((ea.toNat : Nat) : Int))), (2, .ref 5), (0, .ref 31), (1, iv (B))], [], (cW ki ln bt rl cp cs ct cv 5 14 ja ea ma a1 a2 a3 a4 a5 a6 a7 a8 jb eb mb b1 b2 b3 b4 b5 b6 b7 b8 re fl g1 g2 g3 g4 g5 (dW rt la rs rg pd du ds me tt gr su gp mk rf m1 m2 m3 m4 m5 mr mf n1 n2 n3 n4 n5 nr nf E))) Q) : ∀ (m j : Nat) (me : Nat → Int32), j + m = ea.toNat → mei ea ma de sd s (rkR ea ma de sd s r) (j) me → rn_X9_findMeans (N + 40 * m + 40) (31, [(3, iv ((j : Int))), (2, .ref 5), (0, .ref 31), (1, iv (B))], [], (cW ki ln bt rl cp cs ct cv 5 14 ja ea ma a1 a2 a3 a4 a5 a6 a7 a8 jb eb mb b1 b2 b3 b4 b5 b6 b7 b8 re fl g1 g2 g3 g4 g5 (dW rt la rs rg pd du ds me tt gr su gp mk rf m1 m2 m3 m4 m5 mr mf n1 n2 n3 n4 n5 nr nf E))) Q := by
  obtain ⟨hL, hRd, hRs, hV, hd, hn, hS, hE, hRS, hX⟩ := id hP
  intro m
  induction m with
  | zero =>
    intro j me hj hU
    have hj : j = ea.toNat := by omega
    subst hj
    refine rn_up (N := N + 40) (by omega) ?_
    refine r_il rfl rfl ?_
    refine r_al rfl rfl ?_
    refine r_gf rfl rfl xg_5 rfl ?_
    refine r_cge rfl rfl (by omega) (by omega) (fun u1 => ?_) (fun u1 => ?_)
    · exact rn_up (by omega) (k me hU)
    · omega
  | succ m ih =>
    intro j me hj hU
    refine rn_up (N := N + 40 * m + 40 + 40) (by omega) ?_
    refine r_il rfl rfl ?_
    refine r_al rfl rfl ?_
    refine r_gf rfl rfl xg_5 rfl ?_
    refine r_cge rfl rfl (by omega) (by omega) (fun u1 => ?_) (fun u1 => ?_)
    · omega
    · obtain ⟨-, e2, -, hd0⟩ := P_de hP (d := (j : Int)) ⟨by omega, by omega⟩
      obtain ⟨w, hw⟩ := Int.eq_ofNat_of_zero_le hd0.1
      rw [hw] at e2
      have hpj : rkP ea ma j = true := by rw [rkP_d (by omega)]; exact decide_eq_true (by omega)
      have hoj : rkT de sd j = (w : Int) := by unfold rkT; rw [decide_eq_true (by omega)]; exact hw
      have hR := rkR_r (sn := ma) hd.2 hRS hE hS hX r j (by omega)
      have hpv : (pd (Int.toNat (B + (j : Int)))).toInt = (rkR ea ma de sd s r) j := by
        rw [show Int.toNat (B + (j : Int)) = 26 * r + j by omega, hrow j (by omega)]
        exact iv_to ⟨by omega, by omega⟩
      refine r_al rfl rfl ?_
      refine r_gf rfl rfl xg_31 rfl ?_
      refine r_al rfl rfl ?_
      refine r_gf rfl rfl xg_5 rfl ?_
      refine r_il rfl rfl ?_
      refine r_ia rfl xg_7 (by omega) (by omega) (by decide) ?_
      refine r_eq e2 ?_
      refine r_dup2 rfl rfl rfl ?_
      refine r_ia rfl xg_35 (by omega) (by omega) (by decide) ?_
      refine r_al rfl rfl ?_
      refine r_gf rfl rfl xg_31 rfl ?_
      refine r_il rfl rfl ?_
      refine r_il rfl rfl ?_
      refine r_add rfl ?_
      refine r_ia rfl xg_32 (by omega) (by omega) (by decide) ?_
      refine r_eq hpv ?_
      refine r_add rfl ?_
      refine r_ias rfl xg_35 (by omega) (by omega) (by decide) xs_35 ?_
      refine r_inc (lv' := [(3, _), (2, _), (0, _), (1, _)]) rfl rfl rfl rfl ?_
      refine r_goto rfl rfl ?_
      exact rn_up (by omega) (ih (j + 1) _ (by omega) (mei_s hU hpj hoj rfl))
theorem fm_20 (hP : PH ea ma re fl a1 a2 a3 a4 a5 a6 a7 a8 g1 g2 g3 g4 g5 s de sd) (hr : r < 200) (hB : B = 26 * (r : Int)) (hrow : ∀ k : Nat, k < 26 → pd (26 * r + k) = Int32.ofInt ((rkR ea ma de sd s r) k)) (k : ∀ me : Nat → Int32, mei ea ma de sd s (rkR ea ma de sd s r) (10 + ma.toNat) me → rn_X9_findMeans N (113, [(3, iv (((ma.toNat : Nat) : Int))), (2, .ref 5), (0, .ref 31), (1, iv (B))], [], (cW ki ln bt rl cp cs ct cv 5 14 ja ea ma a1 a2 a3 a4 a5 a6 a7 a8 jb eb mb b1 b2 b3 b4 b5 b6 b7 b8 re fl g1 g2 g3 g4 g5 (dW rt la rs rg pd du ds me tt gr su gp mk rf m1 m2 m3 m4 m5 mr mf n1 n2 n3 n4 n5 nr nf E))) Q) : ∀ (m j : Nat) (me : Nat → Int32), j + m = ma.toNat → mei ea ma de sd s (rkR ea ma de sd s r) (10 + j) me → rn_X9_findMeans (N + 50 * m + 50) (69, [(3, iv ((j : Int))), (2, .ref 5), (0, .ref 31), (1, iv (B))], [], (cW ki ln bt rl cp cs ct cv 5 14 ja ea ma a1 a2 a3 a4 a5 a6 a7 a8 jb eb mb b1 b2 b3 b4 b5 b6 b7 b8 re fl g1 g2 g3 g4 g5 (dW rt la rs rg pd du ds me tt gr su gp mk rf m1 m2 m3 m4 m5 mr mf n1 n2 n3 n4 n5 nr nf E))) Q := by
  obtain ⟨hL, hRd, hRs, hV, hd, hn, hS, hE, hRS, hX⟩ := id hP
  intro m
  induction m with
  | zero =>
    intro j me hj hU
    have hj : j = ma.toNat := by omega
    subst hj
    refine rn_up (N := N + 50) (by omega) ?_
    refine r_il rfl rfl ?_
    refine r_al rfl rfl ?_
    refine r_gf rfl rfl xg_5 rfl ?_
    refine r_cge rfl rfl (by omega) (by omega) (fun u1 => ?_) (fun u1 => ?_)
    · exact rn_up (by omega) (k me hU)
    · omega
  | succ m ih =>
    intro j me hj hU
    refine rn_up (N := N + 50 * m + 50 + 50) (by omega) ?_
    refine r_il rfl rfl ?_
    refine r_al rfl rfl ?_
    refine r_gf rfl rfl xg_5 rfl ?_
    refine r_cge rfl rfl (by omega) (by omega) (fun u1 => ?_) (fun u1 => ?_)
    · omega
    · obtain ⟨-, e5, -, -, -, hp5, -⟩ := P_st hP (i := (j : Int)) ⟨by omega, by omega⟩
      obtain ⟨d, hdd⟩ := Int.eq_ofNat_of_zero_le hp5.1
      rw [hdd] at e5
      obtain ⟨-, e2, -, hd0⟩ := P_de hP (d := (d : Int)) ⟨by omega, by omega⟩
      obtain ⟨w, hw⟩ := Int.eq_ofNat_of_zero_le hd0.1
      rw [hw] at e2
      have ek : ((10 + j : Nat) : Int) - 10 = (j : Int) := by omega
      have hpj : rkP ea ma (10 + j) = true := by rw [rkP_s (by omega)]; exact decide_eq_true (by omega)
      have hoj : rkT de sd (10 + j) = (w : Int) := by unfold rkT; rw [decide_eq_false (by omega), cond_false, ek, hdd]; exact hw
      have hR := rkR_r (sn := ma) hd.2 hRS hE hS hX r (10 + j) (by omega)
      have hpv : (pd (Int.toNat (B + 10 + (j : Int)))).toInt = (rkR ea ma de sd s r) (10 + j) := by
        rw [show Int.toNat (B + 10 + (j : Int)) = 26 * r + (10 + j) by omega, hrow (10 + j) (by omega)]
        exact iv_to ⟨by omega, by omega⟩
      refine r_al rfl rfl ?_
      refine r_gf rfl rfl xg_31 rfl ?_
      refine r_al rfl rfl ?_
      refine r_gf rfl rfl xg_5 rfl ?_
      refine r_al rfl rfl ?_
      refine r_gf rfl rfl xg_5 rfl ?_
      refine r_il rfl rfl ?_
      refine r_ia rfl xg_10 (by omega) (by omega) (by decide) ?_
      refine r_eq e5 ?_
      refine r_ia rfl xg_7 (by omega) (by omega) (by decide) ?_
      refine r_eq e2 ?_
      refine r_dup2 rfl rfl rfl ?_
      refine r_ia rfl xg_35 (by omega) (by omega) (by decide) ?_
      refine r_al rfl rfl ?_
      refine r_gf rfl rfl xg_31 rfl ?_
      refine r_il rfl rfl ?_
      refine r_bi rfl (by decide) ?_
      refine r_add rfl ?_
      refine r_il rfl rfl ?_
      refine r_add rfl ?_
      refine r_ia rfl xg_32 (by omega) (by omega) (by decide) ?_
      refine r_eq hpv ?_
      refine r_add rfl ?_
      refine r_ias rfl xg_35 (by omega) (by omega) (by decide) xs_35 ?_
      refine r_inc (lv' := [(3, _), (2, _), (0, _), (1, _)]) rfl rfl rfl rfl ?_
      refine r_goto rfl rfl ?_
      exact rn_up (by omega) (ih (j + 1) _ (by omega) (mei_s hU hpj hoj rfl))
theorem c_fm0 (hP : PH ea ma re fl a1 a2 a3 a4 a5 a6 a7 a8 g1 g2 g3 g4 g5 s de sd) (hr : r < 200) (hB : B = 26 * (r : Int)) (hrow : ∀ k : Nat, k < 26 → pd (26 * r + k) = Int32.ofInt ((rkR ea ma de sd s r) k)) : ∃ me' : Nat → Int32, sX9_findMeans [.ref 31, iv B] (cW ki ln bt rl cp cs ct cv 5 14 ja ea ma a1 a2 a3 a4 a5 a6 a7 a8 jb eb mb b1 b2 b3 b4 b5 b6 b7 b8 re fl g1 g2 g3 g4 g5 (dW rt la rs rg pd du ds me tt gr su gp mk rf m1 m2 m3 m4 m5 mr mf n1 n2 n3 n4 n5 nr nf E)) = some (none, (cW ki ln bt rl cp cs ct cv 5 14 ja ea ma a1 a2 a3 a4 a5 a6 a7 a8 jb eb mb b1 b2 b3 b4 b5 b6 b7 b8 re fl g1 g2 g3 g4 g5 (dW rt la rs rg pd du ds me' tt gr su gp mk rf m1 m2 m3 m4 m5 mr mf n1 n2 n3 n4 n5 nr nf E))) ∧ mei ea ma de sd s (rkR ea ma de sd s r) 26 me' := by
  obtain ⟨hL, hRd, hRs, hV, hd, hn, hS, hE, hRS, hX⟩ := id hP
  have main : rn_X9_findMeans (20 + 50 * 16 + 50 + 20 + 40 * 10 + 40 + 30) (0, [(0, .ref 31), (1, iv (B))], [], (cW ki ln bt rl cp cs ct cv 5 14 ja ea ma a1 a2 a3 a4 a5 a6 a7 a8 jb eb mb b1 b2 b3 b4 b5 b6 b7 b8 re fl g1 g2 g3 g4 g5 (dW rt la rs rg pd du ds me tt gr su gp mk rf m1 m2 m3 m4 m5 mr mf n1 n2 n3 n4 n5 nr nf E))) (fun x => ∃ me' : Nat → Int32, x = (none, (cW ki ln bt rl cp cs ct cv 5 14 ja ea ma a1 a2 a3 a4 a5 a6 a7 a8 jb eb mb b1 b2 b3 b4 b5 b6 b7 b8 re fl g1 g2 g3 g4 g5 (dW rt la rs rg pd du ds me' tt gr su gp mk rf m1 m2 m3 m4 m5 mr mf n1 n2 n3 n4 n5 nr nf E))) ∧ mei ea ma de sd s (rkR ea ma de sd s r) 26 me') := by
    refine r_al rfl rfl ?_
    refine r_gf rfl rfl xg_31 rfl ?_
    refine r_gf rfl rfl xg_4 rfl ?_
    refine r_as (lv' := [(2, _), (0, _), (1, _)]) rfl rfl rfl ?_
    refine r_al rfl rfl ?_
    refine r_gf rfl rfl xg_31 rfl ?_
    refine r_gf rfl rfl xg_4 rfl ?_
    refine r_gf rfl rfl xg_23 rfl ?_
    refine r_ic rfl ?_
    refine r_al rfl rfl ?_
    refine r_gf rfl rfl xg_31 rfl ?_
    refine r_ic rfl ?_
    refine r_bi rfl (by decide) ?_
    refine r_s5n rfl rfl rfl c_acpm0 ?_
    refine r_ic rfl ?_
    refine r_is (lv' := [(3, _), (2, _), (0, _), (1, _)]) rfl rfl rfl ?_
    have hU0 : mei ea ma de sd s (rkR ea ma de sd s r) 0 (va_cpy g5 me 0 0 8) := fun k hk => by
      have e : va_cpy g5 me 0 0 8 k = g5 k := by unfold va_cpy; simp [hk]
      rw [e, hL.2.2.2.2.1 k hk]
      show s (122 + k) = Int32.ofInt (s (Int.toNat (122 + (k : Int)))).toInt
      rw [Int32.ofInt_toInt, show Int.toNat (122 + (k : Int)) = 122 + k by omega]
    refine rn_up (N := (20 + 50 * 16 + 50 + 20) + 40 * ea.toNat + 40) (by omega) (fm_10 (N := 20 + 50 * 16 + 50 + 20) hP hr hB hrow (fun me hU => ?_) ea.toNat 0 _ (by omega) hU0)
    refine r_ic rfl ?_
    refine r_is (lv' := [(3, _), (2, _), (0, _), (1, _)]) rfl rfl rfl ?_
    have hU1 : mei ea ma de sd s (rkR ea ma de sd s r) 10 me := gap_d (sn := ma) (T := fun j => mei ea ma de sd s (rkR ea ma de sd s r) j me) hd (fun j hj h => mei_k h hj) hU
    refine rn_up (N := 20 + 50 * ma.toNat + 50) (by omega) (fm_20 (N := 20) hP hr hB hrow (fun me hU => ?_) ma.toNat 0 _ (by omega) hU1)
    exact r_retv rfl rfl ⟨me, rfl, gap_s (db := ea) (T := fun j => mei ea ma de sd s (rkR ea ma de sd s r) j me) hn (fun j hj h => mei_k h hj) hU⟩
  obtain ⟨x, h1, me', h2, h3⟩ := rn_S (vs := [.ref 31, iv B]) rfl (rn_up (N := 20 + 50 * 16 + 50 + 20 + 40 * 10 + 40 + 30) (M := mm_fuel) (by decide) main)
  have h1 : sX9_findMeans [.ref 31, iv B] (cW ki ln bt rl cp cs ct cv 5 14 ja ea ma a1 a2 a3 a4 a5 a6 a7 a8 jb eb mb b1 b2 b3 b4 b5 b6 b7 b8 re fl g1 g2 g3 g4 g5 (dW rt la rs rg pd du ds me tt gr su gp mk rf m1 m2 m3 m4 m5 mr mf n1 n2 n3 n4 n5 nr nf E)) = some x := h1
  exact ⟨me', by rw [h1, h2], h3⟩
abbrev rn_X9_paymentOf (N : Nat) (c : mm_C) (Q : mm_R → Prop) : Prop := rn (mm_gf gLX9) (mm_pf pLX9) (mm_mv vX9_paymentOf) (mm_mv zX9_paymentOf) (mm_kc kLX9) mm_gs0 mm_rf0 mm_ro (some .int) 3 (mm_ins iX9_paymentOf) N c Q
theorem c_pay10 (hP : PH ea ma re fl a1 a2 a3 a4 a5 a6 a7 a8 g1 g2 g3 g4 g5 s de sd) {i : Nat} (hi : i < 26) (hpi : rkP ea ma i = true) (hU : dui ea ma de sd s (rkR ea ma de sd s r) 26 du) (hD : dsi ea ma de sd s (rkR ea ma de sd s r) 26 ds) (hM : mei ea ma de sd s (rkR ea ma de sd s r) 26 me) : sX9_paymentOf [.ref 31, iv ((i : Int))] (cW ki ln bt rl cp cs ct cv 5 14 ja ea ma a1 a2 a3 a4 a5 a6 a7 a8 jb eb mb b1 b2 b3 b4 b5 b6 b7 b8 re fl g1 g2 g3 g4 g5 (dW rt la rs rg pd du ds me tt gr su gp mk rf m1 m2 m3 m4 m5 mr mf n1 n2 n3 n4 n5 nr nf E)) = some (some (iv (rkV (rkD de sd s (rkR ea ma de sd s r) i) (rkH ea ma de sd s (rkR ea ma de sd s r) (rkO de sd i) 26) (rkA ea ma de sd s (rkR ea ma de sd s r) (rkO de sd i) 26))), (cW ki ln bt rl cp cs ct cv 5 14 ja ea ma a1 a2 a3 a4 a5 a6 a7 a8 jb eb mb b1 b2 b3 b4 b5 b6 b7 b8 re fl g1 g2 g3 g4 g5 (dW rt la rs rg pd du ds me tt gr su gp mk rf m1 m2 m3 m4 m5 mr mf n1 n2 n3 n4 n5 nr nf E))) := by
  have main : ∀ Q : mm_R → Prop, Q (some (iv (rkV (rkD de sd s (rkR ea ma de sd s r) i) (rkH ea ma de sd s (rkR ea ma de sd s r) (rkO de sd i) 26) (rkA ea ma de sd s (rkR ea ma de sd s r) (rkO de sd i) 26))), (cW ki ln bt rl cp cs ct cv 5 14 ja ea ma a1 a2 a3 a4 a5 a6 a7 a8 jb eb mb b1 b2 b3 b4 b5 b6 b7 b8 re fl g1 g2 g3 g4 g5 (dW rt la rs rg pd du ds me tt gr su gp mk rf m1 m2 m3 m4 m5 mr mf n1 n2 n3 n4 n5 nr nf E))) → rn_X9_paymentOf (1000) (0, [(0, .ref 31), (1, iv ((i : Int)))], [], (cW ki ln bt rl cp cs ct cv 5 14 ja ea ma a1 a2 a3 a4 a5 a6 a7 a8 jb eb mb b1 b2 b3 b4 b5 b6 b7 b8 re fl g1 g2 g3 g4 g5 (dW rt la rs rg pd du ds me tt gr su gp mk rf m1 m2 m3 m4 m5 mr mf n1 n2 n3 n4 n5 nr nf E))) Q := by
    intro Q hQ
    obtain ⟨hL, hRd, hRs, hV, hd, hn, hS, hE, hRS, hX⟩ := id hP
    have hR := rkR_r (sn := ma) hd.2 hRS hE hS hX r
    have hor := rkO_r hE hS hi
    obtain ⟨w, hw⟩ := Int.eq_ofNat_of_zero_le hor.1
    have hw8 : w < 8 := by omega
    have hDr := rkD_r hRS hE hS hX hR hi
    have hHr := rkH_r (db := ea) (sn := ma) (de := de) (sd := sd) hRS hR (show 0 ≤ (w : Int) ∧ (w : Int) ≤ 7 by omega) 26 (Nat.le_refl _)
    have hAr := rkA_r (db := ea) (sn := ma) hRS hE hS hX hR (p := (w : Int)) 26 (Nat.le_refl _)
    rw [hw] at hQ
    have eu : (du (Int.toNat (i : Int))).toInt = rkD de sd s (rkR ea ma de sd s r) i := by
      rw [show Int.toNat (i : Int) = i from rfl, hU i hi, decide_eq_true hi, hpi, Bool.true_and, cond_true]
      exact iv_to ⟨by omega, by omega⟩
    have es : (ds (Int.toNat (w : Int))).toInt = rkA ea ma de sd s (rkR ea ma de sd s r) (w : Int) 26 := by
      rw [show Int.toNat (w : Int) = w from rfl, hD w hw8]
      exact iv_to ⟨by omega, by omega⟩
    have em : (me (Int.toNat (w : Int))).toInt = rkH ea ma de sd s (rkR ea ma de sd s r) (w : Int) 26 := by
      rw [show Int.toNat (w : Int) = w from rfl, hM w hw8]
      exact iv_to ⟨by omega, by omega⟩
    have p0 : 0 ≤ rkD de sd s (rkR ea ma de sd s r) i * rkH ea ma de sd s (rkR ea ma de sd s r) (w : Int) 26 := Int.mul_nonneg hDr.1 hHr.1
    have p1 : rkD de sd s (rkR ea ma de sd s r) i * rkH ea ma de sd s (rkR ea ma de sd s r) (w : Int) 26 ≤ 999 * 36000 := Int.mul_le_mul hDr.2 (by omega) hHr.1 (by decide)
    refine r_il rfl rfl ?_
    refine r_bi rfl (by decide) ?_
    have K : rn_X9_paymentOf 100 (36, [(0, .ref 31), (1, iv ((i : Int)))], [iv ((w : Int))], (cW ki ln bt rl cp cs ct cv 5 14 ja ea ma a1 a2 a3 a4 a5 a6 a7 a8 jb eb mb b1 b2 b3 b4 b5 b6 b7 b8 re fl g1 g2 g3 g4 g5 (dW rt la rs rg pd du ds me tt gr su gp mk rf m1 m2 m3 m4 m5 mr mf n1 n2 n3 n4 n5 nr nf E))) Q := by
      refine r_is (lv' := [(2, _), (0, _), (1, _)]) rfl rfl rfl ?_
      refine r_al rfl rfl ?_
      refine r_gf rfl rfl xg_31 rfl ?_
      refine r_il rfl rfl ?_
      refine r_ia rfl xg_35 (by omega) (by omega) (by decide) ?_
      refine r_eq em ?_
      refine r_al rfl rfl ?_
      refine r_gf rfl rfl xg_31 rfl ?_
      refine r_il rfl rfl ?_
      refine r_ia rfl xg_34 (by omega) (by omega) (by decide) ?_
      refine r_eq es ?_
      refine r_cge rfl rfl (by omega) (by omega) (fun u1 => ?_) (fun u1 => ?_)
      · have e : rkV (rkD de sd s (rkR ea ma de sd s r) i) (rkH ea ma de sd s (rkR ea ma de sd s r) (w : Int) 26) (rkA ea ma de sd s (rkR ea ma de sd s r) (w : Int) 26) = rkD de sd s (rkR ea ma de sd s r) i := by unfold rkV; rw [decide_eq_true (by omega)]; rfl
        rw [e] at hQ
        refine r_al rfl rfl ?_
        refine r_gf rfl rfl xg_31 rfl ?_
        refine r_il rfl rfl ?_
        refine r_ia rfl xg_33 (by omega) (by omega) (by decide) ?_
        refine r_eq eu ?_
        exact r_ret rfl rfl hQ
      · refine r_al rfl rfl ?_
        refine r_gf rfl rfl xg_31 rfl ?_
        refine r_il rfl rfl ?_
        refine r_ia rfl xg_34 (by omega) (by omega) (by decide) ?_
        refine r_eq es ?_
        refine r_zgt rfl rfl (by omega) (fun u2 => ?_) (fun u2 => ?_)
        · have e : rkV (rkD de sd s (rkR ea ma de sd s r) i) (rkH ea ma de sd s (rkR ea ma de sd s r) (w : Int) 26) (rkA ea ma de sd s (rkR ea ma de sd s r) (w : Int) 26) = rkD de sd s (rkR ea ma de sd s r) i * rkH ea ma de sd s (rkR ea ma de sd s r) (w : Int) 26 / rkA ea ma de sd s (rkR ea ma de sd s r) (w : Int) 26 := by unfold rkV; rw [decide_eq_false (by omega)]; rfl
          rw [e] at hQ
          refine r_al rfl rfl ?_
          refine r_gf rfl rfl xg_31 rfl ?_
          refine r_il rfl rfl ?_
          refine r_ia rfl xg_33 (by omega) (by omega) (by decide) ?_
          refine r_eq eu ?_
          refine r_al rfl rfl ?_
          refine r_gf rfl rfl xg_31 rfl ?_
          refine r_il rfl rfl ?_
          refine r_ia rfl xg_35 (by omega) (by omega) (by decide) ?_
          refine r_eq em ?_
          refine r_mul rfl ?_
          refine r_al rfl rfl ?_
          refine r_gf rfl rfl xg_31 rfl ?_
          refine r_il rfl rfl ?_
          refine r_ia rfl xg_34 (by omega) (by omega) (by decide) ?_
          refine r_eq es ?_
          refine r_div rfl ⟨p0, by omega⟩ (by omega) ?_
          exact r_ret rfl rfl hQ
        · omega
    refine r_cge rfl rfl (by omega) (by omega) (fun u1 => ?_) (fun u1 => ?_)
    · have hq : ((i : Int) - 10) < ma := by
        rw [rkP_s (by omega)] at hpi
        exact of_decide_eq_true hpi
      obtain ⟨e4, -⟩ := P_st hP (i := (i : Int) - 10) ⟨by omega, by omega⟩
      have e4 : (a4 (Int.toNat ((i : Int) - 10))).toInt = (w : Int) := by
        rw [e4, ← hw]
        unfold rkO
        rw [decide_eq_false (by omega)]
        rfl
      refine r_al rfl rfl ?_
      refine r_gf rfl rfl xg_31 rfl ?_
      refine r_gf rfl rfl xg_4 rfl ?_
      refine r_gf rfl rfl xg_5 rfl ?_
      refine r_il rfl rfl ?_
      refine r_bi rfl (by decide) ?_
      refine r_sub rfl ?_
      refine r_ia rfl xg_9 (by omega) (by omega) (by decide) ?_
      refine r_eq e4 ?_
      exact rn_up (N := 100) (by decide) K
    · have hq : (i : Int) < ea := by
        rw [rkP_d (by omega)] at hpi
        exact of_decide_eq_true hpi
      obtain ⟨e1, -⟩ := P_de hP (d := (i : Int)) ⟨by omega, by omega⟩
      have e1 : (a1 (Int.toNat (i : Int))).toInt = (w : Int) := by
        rw [e1, ← hw]
        unfold rkO
        rw [decide_eq_true (by omega)]
        rfl
      refine r_al rfl rfl ?_
      refine r_gf rfl rfl xg_31 rfl ?_
      refine r_gf rfl rfl xg_4 rfl ?_
      refine r_gf rfl rfl xg_5 rfl ?_
      refine r_il rfl rfl ?_
      refine r_ia rfl xg_6 (by omega) (by omega) (by decide) ?_
      refine r_eq e1 ?_
      refine r_goto rfl rfl ?_
      exact rn_up (N := 100) (by decide) K
  obtain ⟨rz, h1, h2⟩ := rn_S (vs := [.ref 31, iv ((i : Int))]) (Q := fun rz => rz = (some (iv (rkV (rkD de sd s (rkR ea ma de sd s r) i) (rkH ea ma de sd s (rkR ea ma de sd s r) (rkO de sd i) 26) (rkA ea ma de sd s (rkR ea ma de sd s r) (rkO de sd i) 26))), (cW ki ln bt rl cp cs ct cv 5 14 ja ea ma a1 a2 a3 a4 a5 a6 a7 a8 jb eb mb b1 b2 b3 b4 b5 b6 b7 b8 re fl g1 g2 g3 g4 g5 (dW rt la rs rg pd du ds me tt gr su gp mk rf m1 m2 m3 m4 m5 mr mf n1 n2 n3 n4 n5 nr nf E)))) rfl (rn_up (N := 1000) (M := mm_fuel) (by decide) (main (fun rz => rz = (some (iv (rkV (rkD de sd s (rkR ea ma de sd s r) i) (rkH ea ma de sd s (rkR ea ma de sd s r) (rkO de sd i) 26) (rkA ea ma de sd s (rkR ea ma de sd s r) (rkO de sd i) 26))), (cW ki ln bt rl cp cs ct cv 5 14 ja ea ma a1 a2 a3 a4 a5 a6 a7 a8 jb eb mb b1 b2 b3 b4 b5 b6 b7 b8 re fl g1 g2 g3 g4 g5 (dW rt la rs rg pd du ds me tt gr su gp mk rf m1 m2 m3 m4 m5 mr mf n1 n2 n3 n4 n5 nr nf E)))) rfl))
  have h1 : sX9_paymentOf [.ref 31, iv ((i : Int))] (cW ki ln bt rl cp cs ct cv 5 14 ja ea ma a1 a2 a3 a4 a5 a6 a7 a8 jb eb mb b1 b2 b3 b4 b5 b6 b7 b8 re fl g1 g2 g3 g4 g5 (dW rt la rs rg pd du ds me tt gr su gp mk rf m1 m2 m3 m4 m5 mr mf n1 n2 n3 n4 n5 nr nf E)) = some rz := h1
  rw [h1, h2]
abbrev rn_X9_payRound (N : Nat) (c : mm_C) (Q : mm_R → Prop) : Prop := rn (mm_gf gLX9) (mm_pf pLX9) (mm_mv vX9_payRound) (mm_mv zX9_payRound) (mm_kc kLX9) mm_gs0 mm_rf0 mm_ro none 5 (mm_ins iX9_payRound) N c Q
theorem pr_lp0 (hP : PH ea ma re fl a1 a2 a3 a4 a5 a6 a7 a8 g1 g2 g3 g4 g5 s de sd) (hr : r < 200) (hU : dui ea ma de sd s (rkR ea ma de sd s r) 26 du) (hD : dsi ea ma de sd s (rkR ea ma de sd s r) 26 ds) (hM : mei ea ma de sd s (rkR ea ma de sd s r) 26 me) (k : ∀ pd : Nat → Int32, rcJ ea ma de sd s (r + 1) 26 pd → rn_X9_payRound N (67, [(4, iv (((26 : Nat) : Int))), (3, iv (((r : Int) + 1) * 26)), (2, iv (((r : Int) + 1 - 1) * 26)), (0, .ref 31), (1, iv ((r : Int) + 1))], [], (cW ki ln bt rl cp cs ct cv 5 14 ja ea ma a1 a2 a3 a4 a5 a6 a7 a8 jb eb mb b1 b2 b3 b4 b5 b6 b7 b8 re fl g1 g2 g3 g4 g5 (dW rt la rs rg pd du ds me tt gr su gp mk rf m1 m2 m3 m4 m5 mr mf n1 n2 n3 n4 n5 nr nf E))) Q) : ∀ (m j : Nat) (pd : Nat → Int32), j + m = 26 → rcJ ea ma de sd s (r + 1) j pd → rn_X9_payRound (N + 40 * m + 40) (25, [(4, iv ((j : Int))), (3, iv (((r : Int) + 1) * 26)), (2, iv (((r : Int) + 1 - 1) * 26)), (0, .ref 31), (1, iv ((r : Int) + 1))], [], (cW ki ln bt rl cp cs ct cv 5 14 ja ea ma a1 a2 a3 a4 a5 a6 a7 a8 jb eb mb b1 b2 b3 b4 b5 b6 b7 b8 re fl g1 g2 g3 g4 g5 (dW rt la rs rg pd du ds me tt gr su gp mk rf m1 m2 m3 m4 m5 mr mf n1 n2 n3 n4 n5 nr nf E))) Q := by
  obtain ⟨hL, hRd, hRs, hV, hd, hn, hS, hE, hRS, hX⟩ := id hP
  intro m
  induction m with
  | zero =>
    intro j pd hj hJ
    have hj : j = 26 := by omega
    subst hj
    refine rn_up (N := N + 40) (by omega) ?_
    refine r_ilw rfl rfl ?_
    refine r_bi rfl (by decide) ?_
    refine r_cge rfl rfl (by omega) (by omega) (fun u1 => ?_) (fun u1 => ?_)
    · exact rn_up (by omega) (k pd hJ)
    · omega
  | succ m ih =>
    intro j pd hj hJ
    refine rn_up (N := N + 40 * m + 40 + 40) (by omega) ?_
    refine r_ilw rfl rfl ?_
    refine r_bi rfl (by decide) ?_
    refine r_cge rfl rfl (by omega) (by omega) (fun u1 => ?_) (fun u1 => ?_)
    · omega
    · have hDr := rkD_r hRS hE hS hX (rkR_r (sn := ma) hd.2 hRS hE hS hX r) (show j < 26 by omega)
      have eu : (du (Int.toNat (j : Int))).toInt = (bif rkP ea ma j then rkD de sd s (rkR ea ma de sd s r) j else 0) := by
        rw [show Int.toNat (j : Int) = j from rfl, hU j (by omega), decide_eq_true (show j < 26 by omega), Bool.true_and]
        cases rkP ea ma j with
        | true => exact iv_to ⟨by rw [cond_true]; omega, by rw [cond_true]; omega⟩
        | false => rfl
      refine r_al rfl rfl ?_
      refine r_gf rfl rfl xg_31 rfl ?_
      refine r_il rfl rfl ?_
      refine r_ilw rfl rfl ?_
      refine r_add rfl ?_
      refine r_al rfl rfl ?_
      refine r_gf rfl rfl xg_31 rfl ?_
      refine r_ilw rfl rfl ?_
      refine r_ia rfl xg_33 (by omega) (by omega) (by decide) ?_
      refine r_zne rfl rfl (as_r _) (fun u2 => ?_) (fun u2 => ?_)
      · rw [eu] at u2
        have hpj : rkP ea ma j = true := by
          cases hb : rkP ea ma j with
          | true => rfl
          | false => rw [hb] at u2; exact absurd rfl u2
        have eV : rkV (rkD de sd s (rkR ea ma de sd s r) j) (rkH ea ma de sd s (rkR ea ma de sd s r) (rkO de sd j) 26) (rkA ea ma de sd s (rkR ea ma de sd s r) (rkO de sd j) 26) = rkR ea ma de sd s (r + 1) j := by
          show _ = rkY ea ma de sd s (rkR ea ma de sd s r) j
          unfold rkY
          rw [hpj]
          rfl
        refine r_al rfl rfl ?_
        refine r_ilw rfl rfl ?_
        refine r_v2s rfl rfl xg_31 rfl (c_pay10 hP (by omega) hpj hU hD hM) ?_
        refine r_ias rfl xg_32 (by omega) (by omega) (by decide) xs_32 ?_
        refine r_inc (lv' := [(4, _), (3, _), (2, _), (0, _), (1, _)]) rfl rfl rfl rfl ?_
        refine r_goto rfl rfl ?_
        have hJ2 := rcJ_s (x := rkV (rkD de sd s (rkR ea ma de sd s r) j) (rkH ea ma de sd s (rkR ea ma de sd s r) (rkO de sd j) 26) (rkA ea ma de sd s (rkR ea ma de sd s r) (rkO de sd j) 26)) (by omega) hJ eV
        rw [show 26 * (r + 1) + j = Int.toNat (((r : Int) + 1) * 26 + (j : Int)) by omega] at hJ2
        exact rn_up (by omega) (ih (j + 1) _ (by omega) hJ2)
      · rw [eu] at u2
        have e0 : 0 = rkR ea ma de sd s (r + 1) j := by
          show _ = rkY ea ma de sd s (rkR ea ma de sd s r) j
          unfold rkY
          cases hb : rkP ea ma j with
          | false => rfl
          | true =>
            rw [hb, cond_true] at u2
            rw [u2, cond_true, rkV_0]
        refine r_ic rfl ?_
        refine r_goto rfl rfl ?_
        refine r_ias rfl xg_32 (by omega) (by omega) (by decide) xs_32 ?_
        refine r_inc (lv' := [(4, _), (3, _), (2, _), (0, _), (1, _)]) rfl rfl rfl rfl ?_
        refine r_goto rfl rfl ?_
        have hJ2 := rcJ_s (x := 0) (by omega) hJ e0
        rw [show 26 * (r + 1) + j = Int.toNat (((r : Int) + 1) * 26 + (j : Int)) by omega] at hJ2
        exact rn_up (by omega) (ih (j + 1) _ (by omega) hJ2)
theorem c_pr0 (hP : PH ea ma re fl a1 a2 a3 a4 a5 a6 a7 a8 g1 g2 g3 g4 g5 s de sd) (hr : r < 200) (hI : rcI ea ma de sd s (r + 1) pd) : ∃ pd' du' ds' me' : Nat → Int32, sX9_payRound [.ref 31, iv ((r : Int) + 1)] (cW ki ln bt rl cp cs ct cv 5 14 ja ea ma a1 a2 a3 a4 a5 a6 a7 a8 jb eb mb b1 b2 b3 b4 b5 b6 b7 b8 re fl g1 g2 g3 g4 g5 (dW rt la rs rg pd du ds me tt gr su gp mk rf m1 m2 m3 m4 m5 mr mf n1 n2 n3 n4 n5 nr nf E)) = some (none, (cW ki ln bt rl cp cs ct cv 5 14 ja ea ma a1 a2 a3 a4 a5 a6 a7 a8 jb eb mb b1 b2 b3 b4 b5 b6 b7 b8 re fl g1 g2 g3 g4 g5 (dW rt la rs rg pd' du' ds' me' tt gr su gp mk rf m1 m2 m3 m4 m5 mr mf n1 n2 n3 n4 n5 nr nf E))) ∧ rcI ea ma de sd s (r + 2) pd' := by
  obtain ⟨du', ds', hfd, hU, hD⟩ := c_fd0 (E := E) (ki := ki) (ln := ln) (bt := bt) (rl := rl) (cp := cp) (cs := cs) (ct := ct) (cv := cv) (ja := ja) (ea := ea) (ma := ma) (a1 := a1) (a2 := a2) (a3 := a3) (a4 := a4) (a5 := a5) (a6 := a6) (a7 := a7) (a8 := a8) (jb := jb) (eb := eb) (mb := mb) (b1 := b1) (b2 := b2) (b3 := b3) (b4 := b4) (b5 := b5) (b6 := b6) (b7 := b7) (b8 := b8) (re := re) (fl := fl) (g1 := g1) (g2 := g2) (g3 := g3) (g4 := g4) (g5 := g5) (rt := rt) (la := la) (rs := rs) (rg := rg) (pd := pd) (du := du) (ds := ds) (me := me) (tt := tt) (gr := gr) (su := su) (gp := gp) (mk := mk) (rf := rf) (m1 := m1) (m2 := m2) (m3 := m3) (m4 := m4) (m5 := m5) (mr := mr) (mf := mf) (n1 := n1) (n2 := n2) (n3 := n3) (n4 := n4) (n5 := n5) (nr := nr) (nf := nf) (B := ((r : Int) + 1 - 1) * 26) hP hr (by omega) (fun k hk => hI r k (by omega) hk)
  obtain ⟨me', hfm, hM⟩ := c_fm0 (E := E) (ki := ki) (ln := ln) (bt := bt) (rl := rl) (cp := cp) (cs := cs) (ct := ct) (cv := cv) (ja := ja) (ea := ea) (ma := ma) (a1 := a1) (a2 := a2) (a3 := a3) (a4 := a4) (a5 := a5) (a6 := a6) (a7 := a7) (a8 := a8) (jb := jb) (eb := eb) (mb := mb) (b1 := b1) (b2 := b2) (b3 := b3) (b4 := b4) (b5 := b5) (b6 := b6) (b7 := b7) (b8 := b8) (re := re) (fl := fl) (g1 := g1) (g2 := g2) (g3 := g3) (g4 := g4) (g5 := g5) (rt := rt) (la := la) (rs := rs) (rg := rg) (pd := pd) (me := me) (tt := tt) (gr := gr) (su := su) (gp := gp) (mk := mk) (rf := rf) (m1 := m1) (m2 := m2) (m3 := m3) (m4 := m4) (m5 := m5) (mr := mr) (mf := mf) (n1 := n1) (n2 := n2) (n3 := n3) (n4 := n4) (n5 := n5) (nr := nr) (nf := nf) (du := du') (ds := ds') (B := ((r : Int) + 1 - 1) * 26) hP hr (by omega) (fun k hk => hI r k (by omega) hk)
  have main : rn_X9_payRound (20 + 40 * 26 + 40 + 40) (0, [(0, .ref 31), (1, iv ((r : Int) + 1))], [], (cW ki ln bt rl cp cs ct cv 5 14 ja ea ma a1 a2 a3 a4 a5 a6 a7 a8 jb eb mb b1 b2 b3 b4 b5 b6 b7 b8 re fl g1 g2 g3 g4 g5 (dW rt la rs rg pd du ds me tt gr su gp mk rf m1 m2 m3 m4 m5 mr mf n1 n2 n3 n4 n5 nr nf E))) (fun x => ∃ pd' du' ds' me' : Nat → Int32, x = (none, (cW ki ln bt rl cp cs ct cv 5 14 ja ea ma a1 a2 a3 a4 a5 a6 a7 a8 jb eb mb b1 b2 b3 b4 b5 b6 b7 b8 re fl g1 g2 g3 g4 g5 (dW rt la rs rg pd' du' ds' me' tt gr su gp mk rf m1 m2 m3 m4 m5 mr mf n1 n2 n3 n4 n5 nr nf E))) ∧ rcI ea ma de sd s (r + 2) pd') := by
    refine r_il rfl rfl ?_
    refine r_ic rfl ?_
    refine r_sub rfl ?_
    refine r_bi rfl (by decide) ?_
    refine r_mul rfl ?_
    refine r_is (lv' := [(2, _), (0, _), (1, _)]) rfl rfl rfl ?_
    refine r_il rfl rfl ?_
    refine r_bi rfl (by decide) ?_
    refine r_mul rfl ?_
    refine r_is (lv' := [(3, _), (2, _), (0, _), (1, _)]) rfl rfl rfl ?_
    refine r_al rfl rfl ?_
    refine r_il rfl rfl ?_
    refine r_v2n rfl rfl xg_31 rfl hfd ?_
    refine r_al rfl rfl ?_
    refine r_il rfl rfl ?_
    refine r_v2n rfl rfl xg_31 rfl hfm ?_
    refine r_ic rfl ?_
    refine r_isw (lv' := [(4, _), (3, _), (2, _), (0, _), (1, _)]) rfl rfl rfl ?_
    refine rn_up (N := 20 + 40 * 26 + 40) (by decide) (pr_lp0 (N := 20) hP hr hU hD hM (fun pd hJ => ?_) 26 0 pd rfl ⟨hI, fun k hk => by omega⟩)
    exact r_retv rfl rfl ⟨pd, du', ds', me', rfl, rcJ_e hJ⟩
  obtain ⟨x, h1, pd', du1, ds1, me1, h2, h3⟩ := rn_S (vs := [.ref 31, iv ((r : Int) + 1)]) rfl (rn_up (N := 20 + 40 * 26 + 40 + 40) (M := mm_fuel) (by decide) main)
  have h1 : sX9_payRound [.ref 31, iv ((r : Int) + 1)] (cW ki ln bt rl cp cs ct cv 5 14 ja ea ma a1 a2 a3 a4 a5 a6 a7 a8 jb eb mb b1 b2 b3 b4 b5 b6 b7 b8 re fl g1 g2 g3 g4 g5 (dW rt la rs rg pd du ds me tt gr su gp mk rf m1 m2 m3 m4 m5 mr mf n1 n2 n3 n4 n5 nr nf E)) = some x := h1
  exact ⟨pd', du1, ds1, me1, by rw [h1, h2], h3⟩
abbrev rn_X9_paysSame (N : Nat) (c : mm_C) (Q : mm_R → Prop) : Prop := rn (mm_gf gLX9) (mm_pf pLX9) (mm_mv vX9_paysSame) (mm_mv zX9_paysSame) (mm_kc kLX9) mm_gs0 mm_rf0 mm_ro (some .boolean) 4 (mm_ins iX9_paysSame) N c Q
theorem ps_lp0 (hP : PH ea ma re fl a1 a2 a3 a4 a5 a6 a7 a8 g1 g2 g3 g4 g5 s de sd) {i n m0 : Nat} (hi : i < m0) (hn2 : n < m0) (hm : m0 ≤ 201) (hI : rcI ea ma de sd s m0 pd) (k : Q (some (iv (bi (rwS (rkR ea ma de sd s) i n 26))), (cW ki ln bt rl cp cs ct cv 5 14 ja ea ma a1 a2 a3 a4 a5 a6 a7 a8 jb eb mb b1 b2 b3 b4 b5 b6 b7 b8 re fl g1 g2 g3 g4 g5 (dW rt la rs rg pd du ds me tt gr su gp mk rf m1 m2 m3 m4 m5 mr mf n1 n2 n3 n4 n5 nr nf E)))) : ∀ (m j : Nat), j + m = 26 → rwS (rkR ea ma de sd s) i n j = true → rn_X9_paysSame (40 * m + 40) (2, [(3, iv ((j : Int))), (0, .ref 31), (1, iv ((i : Int) * 26)), (2, iv ((n : Int) * 26))], [], (cW ki ln bt rl cp cs ct cv 5 14 ja ea ma a1 a2 a3 a4 a5 a6 a7 a8 jb eb mb b1 b2 b3 b4 b5 b6 b7 b8 re fl g1 g2 g3 g4 g5 (dW rt la rs rg pd du ds me tt gr su gp mk rf m1 m2 m3 m4 m5 mr mf n1 n2 n3 n4 n5 nr nf E))) Q := by
  obtain ⟨hL, hRd, hRs, hV, hd, hn, hS, hE, hRS, hX⟩ := id hP
  intro m
  induction m with
  | zero =>
    intro j hj hs
    have hj : j = 26 := by omega
    subst hj
    rw [hs] at k
    refine rn_up (N := 40) (by omega) ?_
    refine r_il rfl rfl ?_
    refine r_bi rfl (by decide) ?_
    refine r_cge rfl rfl (by omega) (by omega) (fun u1 => ?_) (fun u1 => ?_)
    · refine r_ic rfl ?_
      exact r_retb rfl rfl (by omega) k
    · omega
  | succ m ih =>
    intro j hj hs
    refine rn_up (N := (40 * m + 40) + 40) (by omega) ?_
    refine r_il rfl rfl ?_
    refine r_bi rfl (by decide) ?_
    refine r_cge rfl rfl (by omega) (by omega) (fun u1 => ?_) (fun u1 => ?_)
    · omega
    · have ra := rkR_r (sn := ma) hd.2 hRS hE hS hX i j (by omega)
      have rb := rkR_r (sn := ma) hd.2 hRS hE hS hX n j (by omega)
      have ea' : (pd (Int.toNat ((i : Int) * 26 + (j : Int)))).toInt = (rkR ea ma de sd s) i j := by
        rw [show Int.toNat ((i : Int) * 26 + (j : Int)) = 26 * i + j by omega, hI i j hi (by omega)]
        exact iv_to ⟨by omega, by omega⟩
      have eb' : (pd (Int.toNat ((n : Int) * 26 + (j : Int)))).toInt = (rkR ea ma de sd s) n j := by
        rw [show Int.toNat ((n : Int) * 26 + (j : Int)) = 26 * n + j by omega, hI n j hn2 (by omega)]
        exact iv_to ⟨by omega, by omega⟩
      refine r_al rfl rfl ?_
      refine r_gf rfl rfl xg_31 rfl ?_
      refine r_il rfl rfl ?_
      refine r_il rfl rfl ?_
      refine r_add rfl ?_
      refine r_ia rfl xg_32 (by omega) (by omega) (by decide) ?_
      refine r_al rfl rfl ?_
      refine r_gf rfl rfl xg_31 rfl ?_
      refine r_il rfl rfl ?_
      refine r_il rfl rfl ?_
      refine r_add rfl ?_
      refine r_ia rfl xg_32 (by omega) (by omega) (by decide) ?_
      refine r_ceq rfl rfl (as_r _) (as_r _) (fun u3 => ?_) (fun u3 => ?_)
      · rw [ea', eb'] at u3
        refine r_inc (lv' := [(3, _), (0, _), (1, _), (2, _)]) rfl rfl rfl rfl ?_
        refine r_goto rfl rfl ?_
        exact rn_up (by omega) (ih (j + 1) (by omega) (rwS_s hs u3))
      · rw [ea', eb'] at u3
        rw [rwS_f (k := j) (by omega) u3] at k
        refine r_ic rfl ?_
        exact r_retb rfl rfl (by omega) k
theorem c_ps0 (hP : PH ea ma re fl a1 a2 a3 a4 a5 a6 a7 a8 g1 g2 g3 g4 g5 s de sd) {i n m0 : Nat} (hi : i < m0) (hn2 : n < m0) (hm : m0 ≤ 201) (hI : rcI ea ma de sd s m0 pd) : sX9_paysSame [.ref 31, iv ((i : Int) * 26), iv ((n : Int) * 26)] (cW ki ln bt rl cp cs ct cv 5 14 ja ea ma a1 a2 a3 a4 a5 a6 a7 a8 jb eb mb b1 b2 b3 b4 b5 b6 b7 b8 re fl g1 g2 g3 g4 g5 (dW rt la rs rg pd du ds me tt gr su gp mk rf m1 m2 m3 m4 m5 mr mf n1 n2 n3 n4 n5 nr nf E)) = some (some (iv (bi (rwS (rkR ea ma de sd s) i n 26))), (cW ki ln bt rl cp cs ct cv 5 14 ja ea ma a1 a2 a3 a4 a5 a6 a7 a8 jb eb mb b1 b2 b3 b4 b5 b6 b7 b8 re fl g1 g2 g3 g4 g5 (dW rt la rs rg pd du ds me tt gr su gp mk rf m1 m2 m3 m4 m5 mr mf n1 n2 n3 n4 n5 nr nf E))) := by
  have main : ∀ Q : mm_R → Prop, Q (some (iv (bi (rwS (rkR ea ma de sd s) i n 26))), (cW ki ln bt rl cp cs ct cv 5 14 ja ea ma a1 a2 a3 a4 a5 a6 a7 a8 jb eb mb b1 b2 b3 b4 b5 b6 b7 b8 re fl g1 g2 g3 g4 g5 (dW rt la rs rg pd du ds me tt gr su gp mk rf m1 m2 m3 m4 m5 mr mf n1 n2 n3 n4 n5 nr nf E))) → rn_X9_paysSame (40 * 26 + 40 + 20) (0, [(0, .ref 31), (1, iv ((i : Int) * 26)), (2, iv ((n : Int) * 26))], [], (cW ki ln bt rl cp cs ct cv 5 14 ja ea ma a1 a2 a3 a4 a5 a6 a7 a8 jb eb mb b1 b2 b3 b4 b5 b6 b7 b8 re fl g1 g2 g3 g4 g5 (dW rt la rs rg pd du ds me tt gr su gp mk rf m1 m2 m3 m4 m5 mr mf n1 n2 n3 n4 n5 nr nf E))) Q := by
    intro Q hQ
    refine r_ic rfl ?_
    refine r_is (lv' := [(3, _), (0, _), (1, _), (2, _)]) rfl rfl rfl ?_
    exact rn_up (N := 40 * 26 + 40) (by decide) (ps_lp0 hP hi hn2 hm hI hQ 26 0 rfl rfl)
  obtain ⟨x, h1, h2⟩ := rn_S (vs := [.ref 31, iv ((i : Int) * 26), iv ((n : Int) * 26)]) (Q := fun x => x = (some (iv (bi (rwS (rkR ea ma de sd s) i n 26))), (cW ki ln bt rl cp cs ct cv 5 14 ja ea ma a1 a2 a3 a4 a5 a6 a7 a8 jb eb mb b1 b2 b3 b4 b5 b6 b7 b8 re fl g1 g2 g3 g4 g5 (dW rt la rs rg pd du ds me tt gr su gp mk rf m1 m2 m3 m4 m5 mr mf n1 n2 n3 n4 n5 nr nf E)))) rfl (rn_up (N := 40 * 26 + 40 + 20) (M := mm_fuel) (by decide) (main (fun x => x = (some (iv (bi (rwS (rkR ea ma de sd s) i n 26))), (cW ki ln bt rl cp cs ct cv 5 14 ja ea ma a1 a2 a3 a4 a5 a6 a7 a8 jb eb mb b1 b2 b3 b4 b5 b6 b7 b8 re fl g1 g2 g3 g4 g5 (dW rt la rs rg pd du ds me tt gr su gp mk rf m1 m2 m3 m4 m5 mr mf n1 n2 n3 n4 n5 nr nf E)))) rfl))
  have h1 : sX9_paysSame [.ref 31, iv ((i : Int) * 26), iv ((n : Int) * 26)] (cW ki ln bt rl cp cs ct cv 5 14 ja ea ma a1 a2 a3 a4 a5 a6 a7 a8 jb eb mb b1 b2 b3 b4 b5 b6 b7 b8 re fl g1 g2 g3 g4 g5 (dW rt la rs rg pd du ds me tt gr su gp mk rf m1 m2 m3 m4 m5 mr mf n1 n2 n3 n4 n5 nr nf E)) = some x := h1
  rw [h1, h2]
abbrev rn_X9_roundLike (N : Nat) (c : mm_C) (Q : mm_R → Prop) : Prop := rn (mm_gf gLX9) (mm_pf pLX9) (mm_mv vX9_roundLike) (mm_mv zX9_roundLike) (mm_kc kLX9) mm_gs0 mm_rf0 mm_ro (some .int) 3 (mm_ins iX9_roundLike) N c Q
theorem rl_lp0 (hP : PH ea ma re fl a1 a2 a3 a4 a5 a6 a7 a8 g1 g2 g3 g4 g5 s de sd) {n : Nat} (hn2 : n ≤ 200) (hI : rcI ea ma de sd s (n + 1) pd) (k : Q (some (iv (rwN (rkR ea ma de sd s) n n)), (cW ki ln bt rl cp cs ct cv 5 14 ja ea ma a1 a2 a3 a4 a5 a6 a7 a8 jb eb mb b1 b2 b3 b4 b5 b6 b7 b8 re fl g1 g2 g3 g4 g5 (dW rt la rs rg pd du ds me tt gr su gp mk rf m1 m2 m3 m4 m5 mr mf n1 n2 n3 n4 n5 nr nf E)))) : ∀ (j : Nat) (x : Int), j ≤ n → x = (j : Int) - 1 → rwN (rkR ea ma de sd s) n j = rwN (rkR ea ma de sd s) n n → rn_X9_roundLike (40 * j + 40) (4, [(2, iv (x)), (0, .ref 31), (1, iv ((n : Int)))], [], (cW ki ln bt rl cp cs ct cv 5 14 ja ea ma a1 a2 a3 a4 a5 a6 a7 a8 jb eb mb b1 b2 b3 b4 b5 b6 b7 b8 re fl g1 g2 g3 g4 g5 (dW rt la rs rg pd du ds me tt gr su gp mk rf m1 m2 m3 m4 m5 mr mf n1 n2 n3 n4 n5 nr nf E))) Q := by
  intro j
  induction j with
  | zero =>
    intro x hj hx he
    rw [← he] at k
    refine r_il rfl rfl ?_
    refine r_zlt rfl rfl (by omega) (fun u1 => ?_) (fun u1 => ?_)
    · refine r_ic rfl ?_
      exact r_ret rfl rfl k
    · omega
  | succ j ih =>
    intro x hj hx he
    have hx : x = (j : Int) := by omega
    subst hx
    refine rn_up (N := (40 * j + 40) + 40) (by omega) ?_
    refine r_il rfl rfl ?_
    refine r_zlt rfl rfl (by omega) (fun u1 => ?_) (fun u1 => ?_)
    · omega
    · refine r_al rfl rfl ?_
      refine r_il rfl rfl ?_
      refine r_bi rfl (by decide) ?_
      refine r_mul rfl ?_
      refine r_il rfl rfl ?_
      refine r_bi rfl (by decide) ?_
      refine r_mul rfl ?_
      refine r_v3s rfl rfl xg_31 rfl (c_ps0 (m0 := n + 1) hP (by omega) (by omega) (by omega) hI) ?_
      refine r_zeq rfl rfl (bi_r _) (fun u2 => ?_) (fun u2 => ?_)
      · have e : rwN (rkR ea ma de sd s) n (j + 1) = rwN (rkR ea ma de sd s) n j := by show (bif rwS (rkR ea ma de sd s) j n 26 then (j : Int) else rwN (rkR ea ma de sd s) n j) = _; rw [bi_0 u2]; rfl
        rw [e] at he
        refine r_inc (lv' := [(2, _), (0, _), (1, _)]) rfl rfl rfl rfl ?_
        refine r_goto rfl rfl ?_
        exact rn_up (by omega) (ih _ (by omega) (by omega) he)
      · have e : rwN (rkR ea ma de sd s) n (j + 1) = (j : Int) := by show (bif rwS (rkR ea ma de sd s) j n 26 then (j : Int) else rwN (rkR ea ma de sd s) n j) = _; rw [bi_1 u2]; rfl
        rw [← he, e] at k
        refine r_il rfl rfl ?_
        exact r_ret rfl rfl k
theorem c_rl0 (hP : PH ea ma re fl a1 a2 a3 a4 a5 a6 a7 a8 g1 g2 g3 g4 g5 s de sd) {n : Nat} (hn2 : n ≤ 200) (hI : rcI ea ma de sd s (n + 1) pd) : sX9_roundLike [.ref 31, iv (n : Int)] (cW ki ln bt rl cp cs ct cv 5 14 ja ea ma a1 a2 a3 a4 a5 a6 a7 a8 jb eb mb b1 b2 b3 b4 b5 b6 b7 b8 re fl g1 g2 g3 g4 g5 (dW rt la rs rg pd du ds me tt gr su gp mk rf m1 m2 m3 m4 m5 mr mf n1 n2 n3 n4 n5 nr nf E)) = some (some (iv (rwN (rkR ea ma de sd s) n n)), (cW ki ln bt rl cp cs ct cv 5 14 ja ea ma a1 a2 a3 a4 a5 a6 a7 a8 jb eb mb b1 b2 b3 b4 b5 b6 b7 b8 re fl g1 g2 g3 g4 g5 (dW rt la rs rg pd du ds me tt gr su gp mk rf m1 m2 m3 m4 m5 mr mf n1 n2 n3 n4 n5 nr nf E))) := by
  have main : ∀ Q : mm_R → Prop, Q (some (iv (rwN (rkR ea ma de sd s) n n)), (cW ki ln bt rl cp cs ct cv 5 14 ja ea ma a1 a2 a3 a4 a5 a6 a7 a8 jb eb mb b1 b2 b3 b4 b5 b6 b7 b8 re fl g1 g2 g3 g4 g5 (dW rt la rs rg pd du ds me tt gr su gp mk rf m1 m2 m3 m4 m5 mr mf n1 n2 n3 n4 n5 nr nf E))) → rn_X9_roundLike (40 * 200 + 40 + 20) (0, [(0, .ref 31), (1, iv ((n : Int)))], [], (cW ki ln bt rl cp cs ct cv 5 14 ja ea ma a1 a2 a3 a4 a5 a6 a7 a8 jb eb mb b1 b2 b3 b4 b5 b6 b7 b8 re fl g1 g2 g3 g4 g5 (dW rt la rs rg pd du ds me tt gr su gp mk rf m1 m2 m3 m4 m5 mr mf n1 n2 n3 n4 n5 nr nf E))) Q := by
    intro Q hQ
    refine r_il rfl rfl ?_
    refine r_ic rfl ?_
    refine r_sub rfl ?_
    refine r_is (lv' := [(2, _), (0, _), (1, _)]) rfl rfl rfl ?_
    exact rn_up (N := 40 * n + 40) (by omega) (rl_lp0 hP hn2 hI hQ n _ (Nat.le_refl _) rfl rfl)
  obtain ⟨x, h1, h2⟩ := rn_S (vs := [.ref 31, iv (n : Int)]) (Q := fun x => x = (some (iv (rwN (rkR ea ma de sd s) n n)), (cW ki ln bt rl cp cs ct cv 5 14 ja ea ma a1 a2 a3 a4 a5 a6 a7 a8 jb eb mb b1 b2 b3 b4 b5 b6 b7 b8 re fl g1 g2 g3 g4 g5 (dW rt la rs rg pd du ds me tt gr su gp mk rf m1 m2 m3 m4 m5 mr mf n1 n2 n3 n4 n5 nr nf E)))) rfl (rn_up (N := 40 * 200 + 40 + 20) (M := mm_fuel) (by decide) (main (fun x => x = (some (iv (rwN (rkR ea ma de sd s) n n)), (cW ki ln bt rl cp cs ct cv 5 14 ja ea ma a1 a2 a3 a4 a5 a6 a7 a8 jb eb mb b1 b2 b3 b4 b5 b6 b7 b8 re fl g1 g2 g3 g4 g5 (dW rt la rs rg pd du ds me tt gr su gp mk rf m1 m2 m3 m4 m5 mr mf n1 n2 n3 n4 n5 nr nf E)))) rfl))
  have h1 : sX9_roundLike [.ref 31, iv (n : Int)] (cW ki ln bt rl cp cs ct cv 5 14 ja ea ma a1 a2 a3 a4 a5 a6 a7 a8 jb eb mb b1 b2 b3 b4 b5 b6 b7 b8 re fl g1 g2 g3 g4 g5 (dW rt la rs rg pd du ds me tt gr su gp mk rf m1 m2 m3 m4 m5 mr mf n1 n2 n3 n4 n5 nr nf E)) = some x := h1
  rw [h1, h2]
abbrev rn_X9_run (N : Nat) (c : mm_C) (Q : mm_R → Prop) : Prop := rn (mm_gf gLX9) (mm_pf pLX9) (mm_mv vX9_run) (mm_mv zX9_run) (mm_kc kLX9) mm_gs0 mm_rf0 mm_ro none 3 (mm_ins iX9_run) N c Q
theorem ru_lp0 (hP : PH ea ma re fl a1 a2 a3 a4 a5 a6 a7 a8 g1 g2 g3 g4 g5 s de sd) : ∀ (m n : Nat) (pd du ds me : Nat → Int32), n + m = 200 → rgo (rkR ea ma de sd s) m n = (rgo (rkR ea ma de sd s) 200 0) → rwD (rkR ea ma de sd s) (n + 1) → rcI ea ma de sd s (n + 1) pd → rn_X9_run (60 * m + 60) (23, [(1, iv ((n : Int) + 1)), (0, .ref 31)], [], (cW ki ln bt rl cp cs ct cv 5 14 ja ea ma a1 a2 a3 a4 a5 a6 a7 a8 jb eb mb b1 b2 b3 b4 b5 b6 b7 b8 re fl g1 g2 g3 g4 g5 (dW rt ((n : Int)) (-9) (-9) pd du ds me tt gr su gp mk rf m1 m2 m3 m4 m5 mr mf n1 n2 n3 n4 n5 nr nf E))) (fun x => ∃ pd' du' ds' me' : Nat → Int32, x = (none, (cW ki ln bt rl cp cs ct cv 5 14 ja ea ma a1 a2 a3 a4 a5 a6 a7 a8 jb eb mb b1 b2 b3 b4 b5 b6 b7 b8 re fl g1 g2 g3 g4 g5 (dW rt (((rgo (rkR ea ma de sd s) 200 0).1 : Nat) : Int) (bif decide ((rgo (rkR ea ma de sd s) 200 0).2 = 1) then (((rgo (rkR ea ma de sd s) 200 0).1 : Nat) : Int) else -9) (bif decide ((rgo (rkR ea ma de sd s) 200 0).2 = 1) then 0 else (rgo (rkR ea ma de sd s) 200 0).2) pd' du' ds' me' tt gr su gp mk rf m1 m2 m3 m4 m5 mr mf n1 n2 n3 n4 n5 nr nf E))) ∧ rcI ea ma de sd s ((rgo (rkR ea ma de sd s) 200 0).1 + 1) pd') := by
  obtain ⟨hL, hRd, hRs, hV, hd, hn, hS, hE, hRS, hX⟩ := id hP
  intro m
  induction m with
  | zero =>
    intro n pd du ds me hj hg hD hI
    have hj : n = 200 := by omega
    subst hj
    rw [← hg]
    refine rn_up (N := 60) (by omega) ?_
    refine r_il rfl rfl ?_
    refine r_si rfl (by decide) ?_
    refine r_cgt rfl rfl (by omega) (by omega) (fun u1 => ?_) (fun u1 => ?_)
    · exact r_retv rfl rfl ⟨pd, du, ds, me, rfl, hI⟩
    · omega
  | succ m ih =>
    intro n pd du ds me hj hg hD hI
    refine rn_up (N := (60 * m + 60) + 60) (by omega) ?_
    obtain ⟨pd1, du1, ds1, me1, hpr, hI1⟩ := c_pr0 (E := E) (ki := ki) (ln := ln) (bt := bt) (rl := rl) (cp := cp) (cs := cs) (ct := ct) (cv := cv) (ja := ja) (ea := ea) (ma := ma) (a1 := a1) (a2 := a2) (a3 := a3) (a4 := a4) (a5 := a5) (a6 := a6) (a7 := a7) (a8 := a8) (jb := jb) (eb := eb) (mb := mb) (b1 := b1) (b2 := b2) (b3 := b3) (b4 := b4) (b5 := b5) (b6 := b6) (b7 := b7) (b8 := b8) (re := re) (fl := fl) (g1 := g1) (g2 := g2) (g3 := g3) (g4 := g4) (g5 := g5) (rt := rt) (pd := pd) (du := du) (ds := ds) (me := me) (tt := tt) (gr := gr) (su := su) (gp := gp) (mk := mk) (rf := rf) (m1 := m1) (m2 := m2) (m3 := m3) (m4 := m4) (m5 := m5) (mr := mr) (mf := mf) (n1 := n1) (n2 := n2) (n3 := n3) (n4 := n4) (n5 := n5) (nr := nr) (nf := nf) (la := (n : Int)) (rs := -9) (rg := -9) (r := n) hP (by omega) hI
    have hrl := c_rl0 (E := E) (ki := ki) (ln := ln) (bt := bt) (rl := rl) (cp := cp) (cs := cs) (ct := ct) (cv := cv) (ja := ja) (ea := ea) (ma := ma) (a1 := a1) (a2 := a2) (a3 := a3) (a4 := a4) (a5 := a5) (a6 := a6) (a7 := a7) (a8 := a8) (jb := jb) (eb := eb) (mb := mb) (b1 := b1) (b2 := b2) (b3 := b3) (b4 := b4) (b5 := b5) (b6 := b6) (b7 := b7) (b8 := b8) (re := re) (fl := fl) (g1 := g1) (g2 := g2) (g3 := g3) (g4 := g4) (g5 := g5) (rt := rt) (tt := tt) (gr := gr) (su := su) (gp := gp) (mk := mk) (rf := rf) (m1 := m1) (m2 := m2) (m3 := m3) (m4 := m4) (m5 := m5) (mr := mr) (mf := mf) (n1 := n1) (n2 := n2) (n3 := n3) (n4 := n4) (n5 := n5) (nr := nr) (nf := nf) (pd := pd1) (du := du1) (ds := ds1) (me := me1) (la := (n : Int) + 1) (rs := -9) (rg := -9) (n := n + 1) hP (by omega) hI1
    rw [show ((n + 1 : Nat) : Int) = (n : Int) + 1 from rfl] at hrl
    have hor := rw_or hD
    refine r_il rfl rfl ?_
    refine r_si rfl (by decide) ?_
    refine r_cgt rfl rfl (by omega) (by omega) (fun u1 => ?_) (fun u1 => ?_)
    · omega
    · refine r_al rfl rfl ?_
      refine r_il rfl rfl ?_
      refine r_v2n rfl rfl xg_31 rfl hpr ?_
      refine r_al rfl rfl ?_
      refine r_il rfl rfl ?_
      refine r_pf rfl rfl xg_31 rfl xp_la ?_
      refine r_al rfl rfl ?_
      refine r_il rfl rfl ?_
      refine r_v2s rfl rfl xg_31 rfl hrl ?_
      rcases hor with ⟨o1, o2, o3⟩ | ⟨i, o0, o1, o2⟩
      · refine r_eq o1 ?_
        refine r_is (lv' := [(2, _), (1, _), (0, _)]) rfl rfl rfl ?_
        refine r_il rfl rfl ?_
        refine r_il rfl rfl ?_
        refine r_ic rfl ?_
        refine r_sub rfl ?_
        refine r_cne rfl rfl (by omega) (by omega) (fun u2 => ?_) (fun u2 => ?_)
        · refine r_il rfl rfl ?_
          refine r_zlt rfl rfl (by decide) (fun u3 => ?_) (fun u3 => ?_)
          · refine r_inc (lv' := [(1, _), (2, _), (0, _)]) rfl rfl rfl rfl ?_
            refine r_goto rfl rfl ?_
            refine rn_LE (a := [(1, iv ((n : Int) + 1 + 1)), (0, .ref 31)]) ⟨(List.forall_mem_cons.mpr ⟨List.mem_cons_self, (List.forall_mem_cons.mpr ⟨(List.mem_cons_of_mem _ (List.mem_cons_of_mem _ List.mem_cons_self)), (fun _ h => absurd h List.not_mem_nil)⟩)⟩), (by show List.Nodup [1, 0]; decide), (by show List.Nodup [1, 2, 0]; decide)⟩ ?_
            exact rn_up (by omega) (ih (n + 1) pd1 du1 ds1 me1 (by omega) (by rw [← hg, rgo_n o2]) o3 hI1)
          · omega
        · omega
      · have hne : ¬ rwO (rkR ea ma de sd s) (n + 1) (n + 1) = -9 := by omega
        rw [← hg, rgo_y hne]
        refine r_eq o1 ?_
        refine r_is (lv' := [(2, _), (1, _), (0, _)]) rfl rfl rfl ?_
        refine r_il rfl rfl ?_
        refine r_il rfl rfl ?_
        refine r_ic rfl ?_
        refine r_sub rfl ?_
        refine r_cne rfl rfl (by omega) (by omega) (fun u2 => ?_) (fun u2 => ?_)
        · refine r_il rfl rfl ?_
          refine r_zlt rfl rfl (by omega) (fun u3 => ?_) (fun u3 => ?_)
          · omega
          · refine r_al rfl rfl ?_
            refine r_il rfl rfl ?_
            refine r_il rfl rfl ?_
            refine r_sub rfl ?_
            refine r_pf rfl rfl xg_31 rfl xp_rg ?_
            have hn1 : ¬ rwO (rkR ea ma de sd s) (n + 1) (n + 1) = 1 := by omega
            show rn_X9_run _ _ (fun x => ∃ pd' du' ds' me' : Nat → Int32, x = (none, (cW ki ln bt rl cp cs ct cv 5 14 ja ea ma a1 a2 a3 a4 a5 a6 a7 a8 jb eb mb b1 b2 b3 b4 b5 b6 b7 b8 re fl g1 g2 g3 g4 g5 (dW rt ((n + 1 : Nat) : Int) (bif decide (rwO (rkR ea ma de sd s) (n + 1) (n + 1) = 1) then ((n + 1 : Nat) : Int) else -9) (bif decide (rwO (rkR ea ma de sd s) (n + 1) (n + 1) = 1) then 0 else rwO (rkR ea ma de sd s) (n + 1) (n + 1)) pd' du' ds' me' tt gr su gp mk rf m1 m2 m3 m4 m5 mr mf n1 n2 n3 n4 n5 nr nf E))) ∧ rcI ea ma de sd s (n + 1 + 1) pd')
            rw [decide_eq_false hn1, o2]
            exact r_retv rfl rfl ⟨pd1, du1, ds1, me1, rfl, hI1⟩
        · refine r_al rfl rfl ?_
          refine r_il rfl rfl ?_
          refine r_pf rfl rfl xg_31 rfl xp_rs ?_
          refine r_al rfl rfl ?_
          refine r_ic rfl ?_
          refine r_pf rfl rfl xg_31 rfl xp_rg ?_
          have hn1 : rwO (rkR ea ma de sd s) (n + 1) (n + 1) = 1 := by omega
          show rn_X9_run _ _ (fun x => ∃ pd' du' ds' me' : Nat → Int32, x = (none, (cW ki ln bt rl cp cs ct cv 5 14 ja ea ma a1 a2 a3 a4 a5 a6 a7 a8 jb eb mb b1 b2 b3 b4 b5 b6 b7 b8 re fl g1 g2 g3 g4 g5 (dW rt ((n + 1 : Nat) : Int) (bif decide (rwO (rkR ea ma de sd s) (n + 1) (n + 1) = 1) then ((n + 1 : Nat) : Int) else -9) (bif decide (rwO (rkR ea ma de sd s) (n + 1) (n + 1) = 1) then 0 else rwO (rkR ea ma de sd s) (n + 1) (n + 1)) pd' du' ds' me' tt gr su gp mk rf m1 m2 m3 m4 m5 mr mf n1 n2 n3 n4 n5 nr nf E))) ∧ rcI ea ma de sd s (n + 1 + 1) pd')
          rw [decide_eq_true hn1]
          exact r_retv rfl rfl ⟨pd1, du1, ds1, me1, rfl, hI1⟩
theorem c_run0 (hP : PH ea ma re fl a1 a2 a3 a4 a5 a6 a7 a8 g1 g2 g3 g4 g5 s de sd) : ∃ pd' du' ds' me' : Nat → Int32, sX9_run [.ref 31] (cW ki ln bt rl cp cs ct cv 5 14 ja ea ma a1 a2 a3 a4 a5 a6 a7 a8 jb eb mb b1 b2 b3 b4 b5 b6 b7 b8 re fl g1 g2 g3 g4 g5 (dW rt la rs rg pd du ds me tt gr su gp mk rf m1 m2 m3 m4 m5 mr mf n1 n2 n3 n4 n5 nr nf E)) = some (none, (cW ki ln bt rl cp cs ct cv 5 14 ja ea ma a1 a2 a3 a4 a5 a6 a7 a8 jb eb mb b1 b2 b3 b4 b5 b6 b7 b8 re fl g1 g2 g3 g4 g5 (dW rt (((rgo (rkR ea ma de sd s) 200 0).1 : Nat) : Int) (bif decide ((rgo (rkR ea ma de sd s) 200 0).2 = 1) then (((rgo (rkR ea ma de sd s) 200 0).1 : Nat) : Int) else -9) (bif decide ((rgo (rkR ea ma de sd s) 200 0).2 = 1) then 0 else (rgo (rkR ea ma de sd s) 200 0).2) pd' du' ds' me' tt gr su gp mk rf m1 m2 m3 m4 m5 mr mf n1 n2 n3 n4 n5 nr nf E))) ∧ rcI ea ma de sd s ((rgo (rkR ea ma de sd s) 200 0).1 + 1) pd' := by
  obtain ⟨pd1, hpf, hI1⟩ := c_pf0 (E := E) (ki := ki) (ln := ln) (bt := bt) (rl := rl) (cp := cp) (cs := cs) (ct := ct) (cv := cv) (ja := ja) (ea := ea) (ma := ma) (a1 := a1) (a2 := a2) (a3 := a3) (a4 := a4) (a5 := a5) (a6 := a6) (a7 := a7) (a8 := a8) (jb := jb) (eb := eb) (mb := mb) (b1 := b1) (b2 := b2) (b3 := b3) (b4 := b4) (b5 := b5) (b6 := b6) (b7 := b7) (b8 := b8) (re := re) (fl := fl) (g1 := g1) (g2 := g2) (g3 := g3) (g4 := g4) (g5 := g5) (rt := rt) (pd := pd) (du := du) (ds := ds) (me := me) (tt := tt) (gr := gr) (su := su) (gp := gp) (mk := mk) (rf := rf) (m1 := m1) (m2 := m2) (m3 := m3) (m4 := m4) (m5 := m5) (mr := mr) (mf := mf) (n1 := n1) (n2 := n2) (n3 := n3) (n4 := n4) (n5 := n5) (nr := nr) (nf := nf) (la := 0) (rs := -9) (rg := -9) hP
  have main : rn_X9_run (60 * 200 + 60 + 30) (0, [(0, .ref 31)], [], (cW ki ln bt rl cp cs ct cv 5 14 ja ea ma a1 a2 a3 a4 a5 a6 a7 a8 jb eb mb b1 b2 b3 b4 b5 b6 b7 b8 re fl g1 g2 g3 g4 g5 (dW rt la rs rg pd du ds me tt gr su gp mk rf m1 m2 m3 m4 m5 mr mf n1 n2 n3 n4 n5 nr nf E))) (fun x => ∃ pd' du' ds' me' : Nat → Int32, x = (none, (cW ki ln bt rl cp cs ct cv 5 14 ja ea ma a1 a2 a3 a4 a5 a6 a7 a8 jb eb mb b1 b2 b3 b4 b5 b6 b7 b8 re fl g1 g2 g3 g4 g5 (dW rt (((rgo (rkR ea ma de sd s) 200 0).1 : Nat) : Int) (bif decide ((rgo (rkR ea ma de sd s) 200 0).2 = 1) then (((rgo (rkR ea ma de sd s) 200 0).1 : Nat) : Int) else -9) (bif decide ((rgo (rkR ea ma de sd s) 200 0).2 = 1) then 0 else (rgo (rkR ea ma de sd s) 200 0).2) pd' du' ds' me' tt gr su gp mk rf m1 m2 m3 m4 m5 mr mf n1 n2 n3 n4 n5 nr nf E))) ∧ rcI ea ma de sd s ((rgo (rkR ea ma de sd s) 200 0).1 + 1) pd') := by
    refine r_al rfl rfl ?_
    refine r_bi rfl (by decide) ?_
    refine r_pf rfl rfl xg_31 rfl xp_rs ?_
    refine r_al rfl rfl ?_
    refine r_bi rfl (by decide) ?_
    refine r_pf rfl rfl xg_31 rfl xp_rg ?_
    refine r_al rfl rfl ?_
    refine r_ic rfl ?_
    refine r_pf rfl rfl xg_31 rfl xp_la ?_
    refine r_al rfl rfl ?_
    refine r_v1n rfl rfl xg_31 rfl hpf ?_
    refine r_ic rfl ?_
    refine r_is (lv' := [(1, _), (0, _)]) rfl rfl rfl ?_
    exact rn_up (N := 60 * 200 + 60) (by decide) (ru_lp0 hP 200 0 pd1 du ds me rfl rfl (fun a b h1 h2 => by omega) hI1)
  obtain ⟨x, h1, pd1, du1, ds1, me1, h2, h3⟩ := rn_S (vs := [.ref 31]) rfl (rn_up (N := 60 * 200 + 60 + 30) (M := mm_fuel) (by decide) main)
  have h1 : sX9_run [.ref 31] (cW ki ln bt rl cp cs ct cv 5 14 ja ea ma a1 a2 a3 a4 a5 a6 a7 a8 jb eb mb b1 b2 b3 b4 b5 b6 b7 b8 re fl g1 g2 g3 g4 g5 (dW rt la rs rg pd du ds me tt gr su gp mk rf m1 m2 m3 m4 m5 mr mf n1 n2 n3 n4 n5 nr nf E)) = some x := h1
  exact ⟨pd1, du1, ds1, me1, by rw [h1, h2], h3⟩
abbrev rn_X9_lastByDebtor (N : Nat) (c : mm_C) (Q : mm_R → Prop) : Prop := rn (mm_gf gLX9) (mm_pf pLX9) (mm_mv vX9_lastByDebtor) (mm_mv zX9_lastByDebtor) (mm_kc kLX9) mm_gs0 mm_rf0 mm_ro (some .int) 2 (mm_ins iX9_lastByDebtor) N c Q
theorem c_lbd0 (hP : PH ea ma re fl a1 a2 a3 a4 a5 a6 a7 a8 g1 g2 g3 g4 g5 s de sd) {l : Nat} (hl : l ≤ 200) (hla : la = (l : Int)) (hb : 0 ≤ B) (hk : B < 26) (hI : rcI ea ma de sd s (l + 1) pd) : sX9_lastByDebtor [.ref 31, iv (B)] (cW ki ln bt rl cp cs ct cv 5 14 ja ea ma a1 a2 a3 a4 a5 a6 a7 a8 jb eb mb b1 b2 b3 b4 b5 b6 b7 b8 re fl g1 g2 g3 g4 g5 (dW rt la rs rg pd du ds me tt gr su gp mk rf m1 m2 m3 m4 m5 mr mf n1 n2 n3 n4 n5 nr nf E)) = some (some (iv ((rkR ea ma de sd s) l (Int.toNat (B)))), (cW ki ln bt rl cp cs ct cv 5 14 ja ea ma a1 a2 a3 a4 a5 a6 a7 a8 jb eb mb b1 b2 b3 b4 b5 b6 b7 b8 re fl g1 g2 g3 g4 g5 (dW rt la rs rg pd du ds me tt gr su gp mk rf m1 m2 m3 m4 m5 mr mf n1 n2 n3 n4 n5 nr nf E))) := by
  have main : ∀ Q : mm_R → Prop, Q (some (iv ((rkR ea ma de sd s) l (Int.toNat (B)))), (cW ki ln bt rl cp cs ct cv 5 14 ja ea ma a1 a2 a3 a4 a5 a6 a7 a8 jb eb mb b1 b2 b3 b4 b5 b6 b7 b8 re fl g1 g2 g3 g4 g5 (dW rt la rs rg pd du ds me tt gr su gp mk rf m1 m2 m3 m4 m5 mr mf n1 n2 n3 n4 n5 nr nf E))) → rn_X9_lastByDebtor (1000) (0, [(0, .ref 31), (1, iv (B))], [], (cW ki ln bt rl cp cs ct cv 5 14 ja ea ma a1 a2 a3 a4 a5 a6 a7 a8 jb eb mb b1 b2 b3 b4 b5 b6 b7 b8 re fl g1 g2 g3 g4 g5 (dW rt la rs rg pd du ds me tt gr su gp mk rf m1 m2 m3 m4 m5 mr mf n1 n2 n3 n4 n5 nr nf E))) Q := by
    intro Q hQ
    obtain ⟨hL, hRd, hRs, hV, hd, hn, hS, hE, hRS, hX⟩ := id hP
    have hR := rkR_r (sn := ma) hd.2 hRS hE hS hX l (Int.toNat (B)) (by omega)
    have e : (pd (Int.toNat (la * 26 + B))).toInt = (rkR ea ma de sd s) l (Int.toNat (B)) := by
      rw [show Int.toNat (la * 26 + B) = 26 * l + Int.toNat (B) by omega, hI l _ (by omega) (by omega)]
      exact iv_to ⟨by omega, by omega⟩
    rw [← e] at hQ
    refine r_al rfl rfl ?_
    refine r_gf rfl rfl xg_31 rfl ?_
    refine r_al rfl rfl ?_
    refine r_gf rfl rfl xg_31 rfl ?_
    refine r_bi rfl (by decide) ?_
    refine r_mul rfl ?_
    refine r_il rfl rfl ?_
    refine r_add rfl ?_
    refine r_ia rfl xg_32 (by omega) (by omega) (by decide) ?_
    exact r_ret rfl rfl hQ
  obtain ⟨rz, h1, h2⟩ := rn_S (vs := [.ref 31, iv (B)]) (Q := fun rz => rz = (some (iv ((rkR ea ma de sd s) l (Int.toNat (B)))), (cW ki ln bt rl cp cs ct cv 5 14 ja ea ma a1 a2 a3 a4 a5 a6 a7 a8 jb eb mb b1 b2 b3 b4 b5 b6 b7 b8 re fl g1 g2 g3 g4 g5 (dW rt la rs rg pd du ds me tt gr su gp mk rf m1 m2 m3 m4 m5 mr mf n1 n2 n3 n4 n5 nr nf E)))) rfl (rn_up (N := 1000) (M := mm_fuel) (by decide) (main (fun rz => rz = (some (iv ((rkR ea ma de sd s) l (Int.toNat (B)))), (cW ki ln bt rl cp cs ct cv 5 14 ja ea ma a1 a2 a3 a4 a5 a6 a7 a8 jb eb mb b1 b2 b3 b4 b5 b6 b7 b8 re fl g1 g2 g3 g4 g5 (dW rt la rs rg pd du ds me tt gr su gp mk rf m1 m2 m3 m4 m5 mr mf n1 n2 n3 n4 n5 nr nf E)))) rfl))
  have h1 : sX9_lastByDebtor [.ref 31, iv (B)] (cW ki ln bt rl cp cs ct cv 5 14 ja ea ma a1 a2 a3 a4 a5 a6 a7 a8 jb eb mb b1 b2 b3 b4 b5 b6 b7 b8 re fl g1 g2 g3 g4 g5 (dW rt la rs rg pd du ds me tt gr su gp mk rf m1 m2 m3 m4 m5 mr mf n1 n2 n3 n4 n5 nr nf E)) = some rz := h1
  rw [h1, h2]
abbrev rn_X9_lastByStanding (N : Nat) (c : mm_C) (Q : mm_R → Prop) : Prop := rn (mm_gf gLX9) (mm_pf pLX9) (mm_mv vX9_lastByStanding) (mm_mv zX9_lastByStanding) (mm_kc kLX9) mm_gs0 mm_rf0 mm_ro (some .int) 2 (mm_ins iX9_lastByStanding) N c Q
theorem c_lbs0 (hP : PH ea ma re fl a1 a2 a3 a4 a5 a6 a7 a8 g1 g2 g3 g4 g5 s de sd) {l : Nat} (hl : l ≤ 200) (hla : la = (l : Int)) (hb : 0 ≤ B) (hk : 10 + B < 26) (hI : rcI ea ma de sd s (l + 1) pd) : sX9_lastByStanding [.ref 31, iv (B)] (cW ki ln bt rl cp cs ct cv 5 14 ja ea ma a1 a2 a3 a4 a5 a6 a7 a8 jb eb mb b1 b2 b3 b4 b5 b6 b7 b8 re fl g1 g2 g3 g4 g5 (dW rt la rs rg pd du ds me tt gr su gp mk rf m1 m2 m3 m4 m5 mr mf n1 n2 n3 n4 n5 nr nf E)) = some (some (iv ((rkR ea ma de sd s) l (Int.toNat (10 + B)))), (cW ki ln bt rl cp cs ct cv 5 14 ja ea ma a1 a2 a3 a4 a5 a6 a7 a8 jb eb mb b1 b2 b3 b4 b5 b6 b7 b8 re fl g1 g2 g3 g4 g5 (dW rt la rs rg pd du ds me tt gr su gp mk rf m1 m2 m3 m4 m5 mr mf n1 n2 n3 n4 n5 nr nf E))) := by
  have main : ∀ Q : mm_R → Prop, Q (some (iv ((rkR ea ma de sd s) l (Int.toNat (10 + B)))), (cW ki ln bt rl cp cs ct cv 5 14 ja ea ma a1 a2 a3 a4 a5 a6 a7 a8 jb eb mb b1 b2 b3 b4 b5 b6 b7 b8 re fl g1 g2 g3 g4 g5 (dW rt la rs rg pd du ds me tt gr su gp mk rf m1 m2 m3 m4 m5 mr mf n1 n2 n3 n4 n5 nr nf E))) → rn_X9_lastByStanding (1000) (0, [(0, .ref 31), (1, iv (B))], [], (cW ki ln bt rl cp cs ct cv 5 14 ja ea ma a1 a2 a3 a4 a5 a6 a7 a8 jb eb mb b1 b2 b3 b4 b5 b6 b7 b8 re fl g1 g2 g3 g4 g5 (dW rt la rs rg pd du ds me tt gr su gp mk rf m1 m2 m3 m4 m5 mr mf n1 n2 n3 n4 n5 nr nf E))) Q := by
    intro Q hQ
    obtain ⟨hL, hRd, hRs, hV, hd, hn, hS, hE, hRS, hX⟩ := id hP
    have hR := rkR_r (sn := ma) hd.2 hRS hE hS hX l (Int.toNat (10 + B)) (by omega)
    have e : (pd (Int.toNat (la * 26 + 10 + B))).toInt = (rkR ea ma de sd s) l (Int.toNat (10 + B)) := by
      rw [show Int.toNat (la * 26 + 10 + B) = 26 * l + Int.toNat (10 + B) by omega, hI l _ (by omega) (by omega)]
      exact iv_to ⟨by omega, by omega⟩
    rw [← e] at hQ
    refine r_al rfl rfl ?_
    refine r_gf rfl rfl xg_31 rfl ?_
    refine r_al rfl rfl ?_
    refine r_gf rfl rfl xg_31 rfl ?_
    refine r_bi rfl (by decide) ?_
    refine r_mul rfl ?_
    refine r_bi rfl (by decide) ?_
    refine r_add rfl ?_
    refine r_il rfl rfl ?_
    refine r_add rfl ?_
    refine r_ia rfl xg_32 (by omega) (by omega) (by decide) ?_
    exact r_ret rfl rfl hQ
  obtain ⟨rz, h1, h2⟩ := rn_S (vs := [.ref 31, iv (B)]) (Q := fun rz => rz = (some (iv ((rkR ea ma de sd s) l (Int.toNat (10 + B)))), (cW ki ln bt rl cp cs ct cv 5 14 ja ea ma a1 a2 a3 a4 a5 a6 a7 a8 jb eb mb b1 b2 b3 b4 b5 b6 b7 b8 re fl g1 g2 g3 g4 g5 (dW rt la rs rg pd du ds me tt gr su gp mk rf m1 m2 m3 m4 m5 mr mf n1 n2 n3 n4 n5 nr nf E)))) rfl (rn_up (N := 1000) (M := mm_fuel) (by decide) (main (fun rz => rz = (some (iv ((rkR ea ma de sd s) l (Int.toNat (10 + B)))), (cW ki ln bt rl cp cs ct cv 5 14 ja ea ma a1 a2 a3 a4 a5 a6 a7 a8 jb eb mb b1 b2 b3 b4 b5 b6 b7 b8 re fl g1 g2 g3 g4 g5 (dW rt la rs rg pd du ds me tt gr su gp mk rf m1 m2 m3 m4 m5 mr mf n1 n2 n3 n4 n5 nr nf E)))) rfl))
  have h1 : sX9_lastByStanding [.ref 31, iv (B)] (cW ki ln bt rl cp cs ct cv 5 14 ja ea ma a1 a2 a3 a4 a5 a6 a7 a8 jb eb mb b1 b2 b3 b4 b5 b6 b7 b8 re fl g1 g2 g3 g4 g5 (dW rt la rs rg pd du ds me tt gr su gp mk rf m1 m2 m3 m4 m5 mr mf n1 n2 n3 n4 n5 nr nf E)) = some rz := h1
  rw [h1, h2]
abbrev rn_X9_endOf (N : Nat) (c : mm_C) (Q : mm_R → Prop) : Prop := rn (mm_gf gLX9) (mm_pf pLX9) (mm_mv vX9_endOf) (mm_mv zX9_endOf) (mm_kc kLX9) mm_gs0 mm_rf0 mm_ro (some .int) 5 (mm_ins iX9_endOf) N c Q
theorem eo_10 (hP : PH ea ma re fl a1 a2 a3 a4 a5 a6 a7 a8 g1 g2 g3 g4 g5 s de sd) {l : Nat} (hl : l ≤ 200) (hla : la = (l : Int)) (hp : 0 ≤ p ∧ p ≤ 7) (hI : rcI ea ma de sd s (l + 1) pd) (k : rn_X9_endOf N (67, [(4, iv (((ea.toNat : Nat) : Int))), (3, iv (rkE ea ma de sd s ((rkR ea ma de sd s) l) p (ea.toNat))), (2, .ref 5), (0, .ref 31), (1, iv (p))], [], (cW ki ln bt rl cp cs ct cv 5 14 ja ea ma a1 a2 a3 a4 a5 a6 a7 a8 jb eb mb b1 b2 b3 b4 b5 b6 b7 b8 re fl g1 g2 g3 g4 g5 (dW rt la rs rg pd du ds me tt gr su gp mk rf m1 m2 m3 m4 m5 mr mf n1 n2 n3 n4 n5 nr nf E))) Q) : ∀ (m j : Nat), j + m = ea.toNat → rn_X9_endOf (N + 50 * m + 50) (24, [(4, iv ((j : Int))), (3, iv (rkE ea ma de sd s ((rkR ea ma de sd s) l) p (j))), (2, .ref 5), (0, .ref 31), (1, iv (p))], [], (cW ki ln bt rl cp cs ct cv 5 14 ja ea ma a1 a2 a3 a4 a5 a6 a7 a8 jb eb mb b1 b2 b3 b4 b5 b6 b7 b8 re fl g1 g2 g3 g4 g5 (dW rt la rs rg pd du ds me tt gr su gp mk rf m1 m2 m3 m4 m5 mr mf n1 n2 n3 n4 n5 nr nf E))) Q := by
  obtain ⟨hL, hRd, hRs, hV, hd, hn, hS, hE, hRS, hX⟩ := id hP
  intro m
  induction m with
  | zero =>
    intro j hj
    have hj : j = ea.toNat := by omega
    subst hj
    refine rn_up (N := N + 50) (by omega) ?_
    refine r_ilw rfl rfl ?_
    refine r_al rfl rfl ?_
    refine r_gf rfl rfl xg_5 rfl ?_
    refine r_cge rfl rfl (by omega) (by omega) (fun u1 => ?_) (fun u1 => ?_)
    · exact rn_up (by omega) k
    · omega
  | succ m ih =>
    intro j hj
    refine rn_up (N := N + 50 * m + 50 + 50) (by omega) ?_
    refine r_ilw rfl rfl ?_
    refine r_al rfl rfl ?_
    refine r_gf rfl rfl xg_5 rfl ?_
    refine r_cge rfl rfl (by omega) (by omega) (fun u1 => ?_) (fun u1 => ?_)
    · omega
    · obtain ⟨e1, e2, v1, v2⟩ := P_de hP (d := (j : Int)) ⟨by omega, by omega⟩
      have hpj : rkP ea ma j = true := by rw [rkP_d (by omega)]; exact decide_eq_true (by omega)
      have eT : rkT de sd j = (de (Int.toNat (3 * (j : Int) + 1))).toInt := by unfold rkT; rw [decide_eq_true (by omega)]; rfl
      have eO : rkO de sd j = (de (Int.toNat (3 * (j : Int)))).toInt := by unfold rkO; rw [decide_eq_true (by omega)]; rfl
      rw [← eT] at e2 v2
      rw [← eO] at e1 v1
      refine r_il rfl rfl ?_
      refine r_il rfl rfl ?_
      refine r_al rfl rfl ?_
      refine r_gf rfl rfl xg_5 rfl ?_
      refine r_ilw rfl rfl ?_
      refine r_ia rfl xg_7 (by omega) (by omega) (by decide) ?_
      refine r_eq e2 ?_
      refine r_al rfl rfl ?_
      refine r_gf rfl rfl xg_5 rfl ?_
      refine r_ilw rfl rfl ?_
      refine r_ia rfl xg_6 (by omega) (by omega) (by decide) ?_
      refine r_eq e1 ?_
      refine r_s3s rfl rfl rfl (c_signFor (by omega) (by omega) (by omega)) ?_
      refine r_al rfl rfl ?_
      refine r_ilw rfl rfl ?_
      refine r_v2s rfl rfl xg_31 rfl (c_lbd0 hP hl hla (by omega) (by omega) hI) ?_
      refine r_mul rfl ?_
      refine r_add rfl ?_
      have en : (rkR ea ma de sd s) l (Int.toNat (j : Int)) = ((rkR ea ma de sd s) l) j := by rw [show Int.toNat ((j : Int)) = j by omega]
      have es : rkE ea ma de sd s ((rkR ea ma de sd s) l) p j + (bi (decide (p = rkT de sd j)) - bi (decide (p = rkO de sd j))) * (rkR ea ma de sd s) l (Int.toNat (j : Int)) = rkE ea ma de sd s ((rkR ea ma de sd s) l) p (j + 1) := by rw [en]; exact rkE_s hpj
      refine r_eq es ?_
      refine r_is (lv' := [(3, _), (4, _), (2, _), (0, _), (1, _)]) rfl rfl rfl ?_
      refine r_inc (lv' := [(4, _), (3, _), (2, _), (0, _), (1, _)]) rfl rfl rfl rfl ?_
      refine r_goto rfl rfl ?_
      exact rn_up (by omega) (ih (j + 1) (by omega))
theorem eo_20 (hP : PH ea ma re fl a1 a2 a3 a4 a5 a6 a7 a8 g1 g2 g3 g4 g5 s de sd) {l : Nat} (hl : l ≤ 200) (hla : la = (l : Int)) (hp : 0 ≤ p ∧ p ≤ 7) (hI : rcI ea ma de sd s (l + 1) pd) (k : rn_X9_endOf N (118, [(4, iv (((ma.toNat : Nat) : Int))), (3, iv (rkE ea ma de sd s ((rkR ea ma de sd s) l) p (10 + ma.toNat))), (2, .ref 5), (0, .ref 31), (1, iv (p))], [], (cW ki ln bt rl cp cs ct cv 5 14 ja ea ma a1 a2 a3 a4 a5 a6 a7 a8 jb eb mb b1 b2 b3 b4 b5 b6 b7 b8 re fl g1 g2 g3 g4 g5 (dW rt la rs rg pd du ds me tt gr su gp mk rf m1 m2 m3 m4 m5 mr mf n1 n2 n3 n4 n5 nr nf E))) Q) : ∀ (m j : Nat), j + m = ma.toNat → rn_X9_endOf (N + 50 * m + 50) (70, [(4, iv ((j : Int))), (3, iv (rkE ea ma de sd s ((rkR ea ma de sd s) l) p (10 + j))), (2, .ref 5), (0, .ref 31), (1, iv (p))], [], (cW ki ln bt rl cp cs ct cv 5 14 ja ea ma a1 a2 a3 a4 a5 a6 a7 a8 jb eb mb b1 b2 b3 b4 b5 b6 b7 b8 re fl g1 g2 g3 g4 g5 (dW rt la rs rg pd du ds me tt gr su gp mk rf m1 m2 m3 m4 m5 mr mf n1 n2 n3 n4 n5 nr nf E))) Q := by
  obtain ⟨hL, hRd, hRs, hV, hd, hn, hS, hE, hRS, hX⟩ := id hP
  intro m
  induction m with
  | zero =>
    intro j hj
    have hj : j = ma.toNat := by omega
    subst hj
    refine rn_up (N := N + 50) (by omega) ?_
    refine r_ilw rfl rfl ?_
    refine r_al rfl rfl ?_
    refine r_gf rfl rfl xg_5 rfl ?_
    refine r_cge rfl rfl (by omega) (by omega) (fun u1 => ?_) (fun u1 => ?_)
    · exact rn_up (by omega) k
    · omega
  | succ m ih =>
    intro j hj
    refine rn_up (N := N + 50 * m + 50 + 50) (by omega) ?_
    refine r_ilw rfl rfl ?_
    refine r_al rfl rfl ?_
    refine r_gf rfl rfl xg_5 rfl ?_
    refine r_cge rfl rfl (by omega) (by omega) (fun u1 => ?_) (fun u1 => ?_)
    · omega
    · obtain ⟨e4, e5, -, -, v1, hp5, -⟩ := P_st hP (i := (j : Int)) ⟨by omega, by omega⟩
      obtain ⟨d, hdd⟩ := Int.eq_ofNat_of_zero_le hp5.1
      rw [hdd] at e5
      obtain ⟨-, e2, -, v2⟩ := P_de hP (d := (d : Int)) ⟨by omega, by omega⟩
      have ek : ((10 + j : Nat) : Int) - 10 = (j : Int) := by omega
      have hpj : rkP ea ma (10 + j) = true := by rw [rkP_s (by omega)]; exact decide_eq_true (by omega)
      have eT : rkT de sd (10 + j) = (de (Int.toNat (3 * (d : Int) + 1))).toInt := by unfold rkT; rw [decide_eq_false (by omega), cond_false, ek, hdd]
      have eO : rkO de sd (10 + j) = (sd (Int.toNat (5 * (j : Int)))).toInt := by unfold rkO; rw [decide_eq_false (by omega), cond_false, ek]
      rw [← eT] at e2 v2
      rw [← eO] at e4 v1
      refine r_il rfl rfl ?_
      refine r_il rfl rfl ?_
      refine r_al rfl rfl ?_
      refine r_gf rfl rfl xg_5 rfl ?_
      refine r_al rfl rfl ?_
      refine r_gf rfl rfl xg_5 rfl ?_
      refine r_ilw rfl rfl ?_
      refine r_ia rfl xg_10 (by omega) (by omega) (by decide) ?_
      refine r_eq e5 ?_
      refine r_ia rfl xg_7 (by omega) (by omega) (by decide) ?_
      refine r_eq e2 ?_
      refine r_al rfl rfl ?_
      refine r_gf rfl rfl xg_5 rfl ?_
      refine r_ilw rfl rfl ?_
      refine r_ia rfl xg_9 (by omega) (by omega) (by decide) ?_
      refine r_eq e4 ?_
      refine r_s3s rfl rfl rfl (c_signFor (by omega) (by omega) (by omega)) ?_
      refine r_al rfl rfl ?_
      refine r_ilw rfl rfl ?_
      refine r_v2s rfl rfl xg_31 rfl (c_lbs0 hP hl hla (by omega) (by omega) hI) ?_
      refine r_mul rfl ?_
      refine r_add rfl ?_
      have en : (rkR ea ma de sd s) l (Int.toNat (10 + (j : Int))) = ((rkR ea ma de sd s) l) (10 + j) := by rw [show Int.toNat (10 + (j : Int)) = (10 + j) by omega]
      have es : rkE ea ma de sd s ((rkR ea ma de sd s) l) p (10 + j) + (bi (decide (p = rkT de sd (10 + j))) - bi (decide (p = rkO de sd (10 + j)))) * (rkR ea ma de sd s) l (Int.toNat (10 + (j : Int))) = rkE ea ma de sd s ((rkR ea ma de sd s) l) p (10 + j + 1) := by rw [en]; exact rkE_s hpj
      refine r_eq es ?_
      refine r_is (lv' := [(3, _), (4, _), (2, _), (0, _), (1, _)]) rfl rfl rfl ?_
      refine r_inc (lv' := [(4, _), (3, _), (2, _), (0, _), (1, _)]) rfl rfl rfl rfl ?_
      refine r_goto rfl rfl ?_
      exact rn_up (by omega) (ih (j + 1) (by omega))
theorem c_eo0 (hP : PH ea ma re fl a1 a2 a3 a4 a5 a6 a7 a8 g1 g2 g3 g4 g5 s de sd) {l : Nat} (hl : l ≤ 200) (hla : la = (l : Int)) (hp : 0 ≤ p ∧ p ≤ 7) (hI : rcI ea ma de sd s (l + 1) pd) : sX9_endOf [.ref 31, iv (p)] (cW ki ln bt rl cp cs ct cv 5 14 ja ea ma a1 a2 a3 a4 a5 a6 a7 a8 jb eb mb b1 b2 b3 b4 b5 b6 b7 b8 re fl g1 g2 g3 g4 g5 (dW rt la rs rg pd du ds me tt gr su gp mk rf m1 m2 m3 m4 m5 mr mf n1 n2 n3 n4 n5 nr nf E)) = some (some (iv (rkE ea ma de sd s ((rkR ea ma de sd s) l) p 26)), (cW ki ln bt rl cp cs ct cv 5 14 ja ea ma a1 a2 a3 a4 a5 a6 a7 a8 jb eb mb b1 b2 b3 b4 b5 b6 b7 b8 re fl g1 g2 g3 g4 g5 (dW rt la rs rg pd du ds me tt gr su gp mk rf m1 m2 m3 m4 m5 mr mf n1 n2 n3 n4 n5 nr nf E))) := by
  have main : ∀ Q : mm_R → Prop, Q (some (iv (rkE ea ma de sd s ((rkR ea ma de sd s) l) p 26)), (cW ki ln bt rl cp cs ct cv 5 14 ja ea ma a1 a2 a3 a4 a5 a6 a7 a8 jb eb mb b1 b2 b3 b4 b5 b6 b7 b8 re fl g1 g2 g3 g4 g5 (dW rt la rs rg pd du ds me tt gr su gp mk rf m1 m2 m3 m4 m5 mr mf n1 n2 n3 n4 n5 nr nf E))) → rn_X9_endOf (20 + 50 * 16 + 50 + 20 + 50 * 10 + 50 + 30) (0, [(0, .ref 31), (1, iv (p))], [], (cW ki ln bt rl cp cs ct cv 5 14 ja ea ma a1 a2 a3 a4 a5 a6 a7 a8 jb eb mb b1 b2 b3 b4 b5 b6 b7 b8 re fl g1 g2 g3 g4 g5 (dW rt la rs rg pd du ds me tt gr su gp mk rf m1 m2 m3 m4 m5 mr mf n1 n2 n3 n4 n5 nr nf E))) Q := by
    intro Q hQ
    obtain ⟨hL, hRd, hRs, hV, hd, hn, hS, hE, hRS, hX⟩ := id hP
    obtain ⟨w, hw⟩ := Int.eq_ofNat_of_zero_le hp.1
    have eb' : (g5 (Int.toNat p)).toInt = rkE ea ma de sd s ((rkR ea ma de sd s) l) p 0 := by
      show _ = (s (Int.toNat (122 + p))).toInt
      rw [hw, show Int.toNat (w : Int) = w from rfl, hL.2.2.2.2.1 w (by omega), show Int.toNat (122 + (w : Int)) = 122 + w by omega]
    refine r_al rfl rfl ?_
    refine r_gf rfl rfl xg_31 rfl ?_
    refine r_gf rfl rfl xg_4 rfl ?_
    refine r_as (lv' := [(2, _), (0, _), (1, _)]) rfl rfl rfl ?_
    refine r_al rfl rfl ?_
    refine r_gf rfl rfl xg_31 rfl ?_
    refine r_gf rfl rfl xg_4 rfl ?_
    refine r_gf rfl rfl xg_23 rfl ?_
    refine r_il rfl rfl ?_
    refine r_ia rfl xg_28 (by omega) (by omega) (by decide) ?_
    refine r_eq eb' ?_
    refine r_is (lv' := [(3, _), (2, _), (0, _), (1, _)]) rfl rfl rfl ?_
    refine r_ic rfl ?_
    refine r_isw (lv' := [(4, _), (3, _), (2, _), (0, _), (1, _)]) rfl rfl rfl ?_
    refine rn_up (N := (20 + 50 * 16 + 50 + 20) + 50 * ea.toNat + 50) (by omega) (eo_10 (N := 20 + 50 * 16 + 50 + 20) hP hl hla hp hI ?_ ea.toNat 0 (by omega))
    refine r_ic rfl ?_
    refine r_isw (lv' := [(4, _), (3, _), (2, _), (0, _), (1, _)]) rfl rfl rfl ?_
    have g1' : rkE ea ma de sd s ((rkR ea ma de sd s) l) p ea.toNat = rkE ea ma de sd s ((rkR ea ma de sd s) l) p 10 := (gap_d (sn := ma) (T := fun j => rkE ea ma de sd s ((rkR ea ma de sd s) l) p ea.toNat = rkE ea ma de sd s ((rkR ea ma de sd s) l) p j) hd (fun j hj h => h.trans (rkE_k hj).symm) rfl)
    have g2' : rkE ea ma de sd s ((rkR ea ma de sd s) l) p (10 + ma.toNat) = rkE ea ma de sd s ((rkR ea ma de sd s) l) p 26 := (gap_s (db := ea) (T := fun j => rkE ea ma de sd s ((rkR ea ma de sd s) l) p (10 + ma.toNat) = rkE ea ma de sd s ((rkR ea ma de sd s) l) p j) hn (fun j hj h => h.trans (rkE_k hj).symm) rfl)
    rw [g1']
    refine rn_up (N := 20 + 50 * ma.toNat + 50) (by omega) (eo_20 (N := 20) hP hl hla hp hI ?_ ma.toNat 0 (by omega))
    rw [g2']
    refine r_il rfl rfl ?_
    exact r_ret rfl rfl hQ
  obtain ⟨rz, h1, h2⟩ := rn_S (vs := [.ref 31, iv (p)]) (Q := fun rz => rz = (some (iv (rkE ea ma de sd s ((rkR ea ma de sd s) l) p 26)), (cW ki ln bt rl cp cs ct cv 5 14 ja ea ma a1 a2 a3 a4 a5 a6 a7 a8 jb eb mb b1 b2 b3 b4 b5 b6 b7 b8 re fl g1 g2 g3 g4 g5 (dW rt la rs rg pd du ds me tt gr su gp mk rf m1 m2 m3 m4 m5 mr mf n1 n2 n3 n4 n5 nr nf E)))) rfl (rn_up (N := 20 + 50 * 16 + 50 + 20 + 50 * 10 + 50 + 30) (M := mm_fuel) (by decide) (main (fun rz => rz = (some (iv (rkE ea ma de sd s ((rkR ea ma de sd s) l) p 26)), (cW ki ln bt rl cp cs ct cv 5 14 ja ea ma a1 a2 a3 a4 a5 a6 a7 a8 jb eb mb b1 b2 b3 b4 b5 b6 b7 b8 re fl g1 g2 g3 g4 g5 (dW rt la rs rg pd du ds me tt gr su gp mk rf m1 m2 m3 m4 m5 mr mf n1 n2 n3 n4 n5 nr nf E)))) rfl))
  have h1 : sX9_endOf [.ref 31, iv (p)] (cW ki ln bt rl cp cs ct cv 5 14 ja ea ma a1 a2 a3 a4 a5 a6 a7 a8 jb eb mb b1 b2 b3 b4 b5 b6 b7 b8 re fl g1 g2 g3 g4 g5 (dW rt la rs rg pd du ds me tt gr su gp mk rf m1 m2 m3 m4 m5 mr mf n1 n2 n3 n4 n5 nr nf E)) = some rz := h1
  rw [h1, h2]
abbrev rn_X11_rounds (N : Nat) (c : mm_C) (Q : mm_R → Prop) : Prop := rn (mm_gf gLX11) (mm_pf pLX11) (mm_mv vX11_rounds) (mm_mv zX11_rounds) (mm_kc kLX11) mm_gs0 mm_rf0 mm_ro (some .int) 2 (mm_ins iX11_rounds) N c Q
theorem c_roundsC0_1 (hP : PH ea ma re fl a1 a2 a3 a4 a5 a6 a7 a8 g1 g2 g3 g4 g5 s de sd) (hr : -2147483648 ≤ a ∧ a ≤ 2147483647) (ha : i3 a 0 1 = true) : ∃ pd' du' ds' me' : Nat → Int32, sX11_rounds [.ref 0, iv (a)] (cW ki ln bt rl cp cs ct cv 5 14 ja ea ma a1 a2 a3 a4 a5 a6 a7 a8 jb eb mb b1 b2 b3 b4 b5 b6 b7 b8 re fl g1 g2 g3 g4 g5 (dW rt la rs rg pd du ds me tt gr su gp mk rf m1 m2 m3 m4 m5 mr mf n1 n2 n3 n4 n5 nr nf E)) = some (some (iv (bif decide (a = 0) then (bif decide ((rgo (rkR ea ma de sd s) 200 0).2 = 1) then (((rgo (rkR ea ma de sd s) 200 0).1 : Nat) : Int) else -9) else (bif decide ((rgo (rkR ea ma de sd s) 200 0).2 = 1) then 0 else (rgo (rkR ea ma de sd s) 200 0).2))), (cW ki ln bt rl cp cs ct cv 5 14 ja ea ma a1 a2 a3 a4 a5 a6 a7 a8 jb eb mb b1 b2 b3 b4 b5 b6 b7 b8 re fl g1 g2 g3 g4 g5 (dW rt (((rgo (rkR ea ma de sd s) 200 0).1 : Nat) : Int) (bif decide ((rgo (rkR ea ma de sd s) 200 0).2 = 1) then (((rgo (rkR ea ma de sd s) 200 0).1 : Nat) : Int) else -9) (bif decide ((rgo (rkR ea ma de sd s) 200 0).2 = 1) then 0 else (rgo (rkR ea ma de sd s) 200 0).2) pd' du' ds' me' tt gr su gp mk rf m1 m2 m3 m4 m5 mr mf n1 n2 n3 n4 n5 nr nf E))) := by
  obtain ⟨pd', du', ds', me', hru, hI⟩ := c_run0 (E := E) (ki := ki) (ln := ln) (bt := bt) (rl := rl) (cp := cp) (cs := cs) (ct := ct) (cv := cv) (ja := ja) (ea := ea) (ma := ma) (a1 := a1) (a2 := a2) (a3 := a3) (a4 := a4) (a5 := a5) (a6 := a6) (a7 := a7) (a8 := a8) (jb := jb) (eb := eb) (mb := mb) (b1 := b1) (b2 := b2) (b3 := b3) (b4 := b4) (b5 := b5) (b6 := b6) (b7 := b7) (b8 := b8) (re := re) (fl := fl) (g1 := g1) (g2 := g2) (g3 := g3) (g4 := g4) (g5 := g5) (rt := rt) (la := la) (rs := rs) (rg := rg) (pd := pd) (du := du) (ds := ds) (me := me) (tt := tt) (gr := gr) (su := su) (gp := gp) (mk := mk) (rf := rf) (m1 := m1) (m2 := m2) (m3 := m3) (m4 := m4) (m5 := m5) (mr := mr) (mf := mf) (n1 := n1) (n2 := n2) (n3 := n3) (n4 := n4) (n5 := n5) (nr := nr) (nf := nf) hP
  have hgr := rgo_r (R := (rkR ea ma de sd s)) 200 0
  have main : ∀ Q : mm_R → Prop, Q (some (iv (bif decide (a = 0) then (bif decide ((rgo (rkR ea ma de sd s) 200 0).2 = 1) then (((rgo (rkR ea ma de sd s) 200 0).1 : Nat) : Int) else -9) else (bif decide ((rgo (rkR ea ma de sd s) 200 0).2 = 1) then 0 else (rgo (rkR ea ma de sd s) 200 0).2))), (cW ki ln bt rl cp cs ct cv 5 14 ja ea ma a1 a2 a3 a4 a5 a6 a7 a8 jb eb mb b1 b2 b3 b4 b5 b6 b7 b8 re fl g1 g2 g3 g4 g5 (dW rt (((rgo (rkR ea ma de sd s) 200 0).1 : Nat) : Int) (bif decide ((rgo (rkR ea ma de sd s) 200 0).2 = 1) then (((rgo (rkR ea ma de sd s) 200 0).1 : Nat) : Int) else -9) (bif decide ((rgo (rkR ea ma de sd s) 200 0).2 = 1) then 0 else (rgo (rkR ea ma de sd s) 200 0).2) pd' du' ds' me' tt gr su gp mk rf m1 m2 m3 m4 m5 mr mf n1 n2 n3 n4 n5 nr nf E))) → rn_X11_rounds 200 (0, [(0, .ref 0), (1, iv (a))], [], (cW ki ln bt rl cp cs ct cv 5 14 ja ea ma a1 a2 a3 a4 a5 a6 a7 a8 jb eb mb b1 b2 b3 b4 b5 b6 b7 b8 re fl g1 g2 g3 g4 g5 (dW rt la rs rg pd du ds me tt gr su gp mk rf m1 m2 m3 m4 m5 mr mf n1 n2 n3 n4 n5 nr nf E))) Q := by
    intro Q hQ
    have va := i3_t ha
    refine r_il rfl rfl ?_
    refine r_zlt rfl rfl (by omega) (fun u1 => ?_) (fun u1 => ?_)
    · omega
    · refine r_il rfl rfl ?_
      refine r_ic rfl ?_
      refine r_cle rfl rfl (by omega) (by decide) (fun u2 => ?_) (fun u2 => ?_)
      · refine r_al rfl rfl ?_
        refine r_gf rfl rfl xg_0 rfl ?_
        refine r_v1n rfl rfl xg_31 rfl hru ?_
        refine r_il rfl rfl ?_
        refine r_zne rfl rfl (by omega) (fun u3 => ?_) (fun u3 => ?_)
        · rw [decide_eq_false u3, cond_false] at hQ
          refine r_al rfl rfl ?_
          refine r_gf rfl rfl xg_0 rfl ?_
          refine r_gf rfl rfl xg_31 rfl ?_
          exact r_ret rfl rfl hQ
        · rw [decide_eq_true u3, cond_true] at hQ
          refine r_al rfl rfl ?_
          refine r_gf rfl rfl xg_0 rfl ?_
          refine r_gf rfl rfl xg_31 rfl ?_
          refine r_goto rfl rfl ?_
          exact r_ret rfl rfl hQ
      · omega
  obtain ⟨x, h1, h2⟩ := rn_S (vs := [.ref 0, iv (a)]) (Q := fun x => x = (some (iv (bif decide (a = 0) then (bif decide ((rgo (rkR ea ma de sd s) 200 0).2 = 1) then (((rgo (rkR ea ma de sd s) 200 0).1 : Nat) : Int) else -9) else (bif decide ((rgo (rkR ea ma de sd s) 200 0).2 = 1) then 0 else (rgo (rkR ea ma de sd s) 200 0).2))), (cW ki ln bt rl cp cs ct cv 5 14 ja ea ma a1 a2 a3 a4 a5 a6 a7 a8 jb eb mb b1 b2 b3 b4 b5 b6 b7 b8 re fl g1 g2 g3 g4 g5 (dW rt (((rgo (rkR ea ma de sd s) 200 0).1 : Nat) : Int) (bif decide ((rgo (rkR ea ma de sd s) 200 0).2 = 1) then (((rgo (rkR ea ma de sd s) 200 0).1 : Nat) : Int) else -9) (bif decide ((rgo (rkR ea ma de sd s) 200 0).2 = 1) then 0 else (rgo (rkR ea ma de sd s) 200 0).2) pd' du' ds' me' tt gr su gp mk rf m1 m2 m3 m4 m5 mr mf n1 n2 n3 n4 n5 nr nf E)))) rfl (rn_up (N := 200) (M := mm_fuel) (by decide) (main _ rfl))
  have h1 : sX11_rounds [.ref 0, iv (a)] (cW ki ln bt rl cp cs ct cv 5 14 ja ea ma a1 a2 a3 a4 a5 a6 a7 a8 jb eb mb b1 b2 b3 b4 b5 b6 b7 b8 re fl g1 g2 g3 g4 g5 (dW rt la rs rg pd du ds me tt gr su gp mk rf m1 m2 m3 m4 m5 mr mf n1 n2 n3 n4 n5 nr nf E)) = some x := h1
  exact ⟨pd', du', ds', me', by rw [h1, h2]⟩
theorem c_roundsC0_0 (hr : -2147483648 ≤ a ∧ a ≤ 2147483647) (ha : i3 a 0 1 = false) : sX11_rounds [.ref 0, iv (a)] (cW ki ln bt rl cp cs ct cv 5 14 ja ea ma a1 a2 a3 a4 a5 a6 a7 a8 jb eb mb b1 b2 b3 b4 b5 b6 b7 b8 re fl g1 g2 g3 g4 g5 (dW rt la rs rg pd du ds me tt gr su gp mk rf m1 m2 m3 m4 m5 mr mf n1 n2 n3 n4 n5 nr nf E)) = some (some (iv (-1)), (cW ki ln bt rl cp cs ct cv 5 14 ja ea ma a1 a2 a3 a4 a5 a6 a7 a8 jb eb mb b1 b2 b3 b4 b5 b6 b7 b8 re fl g1 g2 g3 g4 g5 (dW rt la rs rg pd du ds me tt gr su gp mk rf m1 m2 m3 m4 m5 mr mf n1 n2 n3 n4 n5 nr nf E))) := by
  have main : ∀ Q : mm_R → Prop, Q (some (iv (-1)), (cW ki ln bt rl cp cs ct cv 5 14 ja ea ma a1 a2 a3 a4 a5 a6 a7 a8 jb eb mb b1 b2 b3 b4 b5 b6 b7 b8 re fl g1 g2 g3 g4 g5 (dW rt la rs rg pd du ds me tt gr su gp mk rf m1 m2 m3 m4 m5 mr mf n1 n2 n3 n4 n5 nr nf E))) → rn_X11_rounds (1000) (0, [(0, .ref 0), (1, iv (a))], [], (cW ki ln bt rl cp cs ct cv 5 14 ja ea ma a1 a2 a3 a4 a5 a6 a7 a8 jb eb mb b1 b2 b3 b4 b5 b6 b7 b8 re fl g1 g2 g3 g4 g5 (dW rt la rs rg pd du ds me tt gr su gp mk rf m1 m2 m3 m4 m5 mr mf n1 n2 n3 n4 n5 nr nf E))) Q := by
    intro Q hQ
    refine r_il rfl rfl ?_
    refine r_zlt rfl rfl hr (fun u1 => ?_) (fun u1 => ?_)
    · refine r_ic rfl ?_
      exact r_ret rfl rfl hQ
    · refine r_il rfl rfl ?_
      refine r_ic rfl ?_
      refine r_cle rfl rfl hr (by decide) (fun u2 => ?_) (fun u2 => ?_)
      · have e : i3 a 0 1 = true := by simp [i3]; omega
        rw [e] at ha
        cases ha
      · refine r_ic rfl ?_
        exact r_ret rfl rfl hQ
  obtain ⟨rz, h1, h2⟩ := rn_S (vs := [.ref 0, iv (a)]) (Q := fun rz => rz = (some (iv (-1)), (cW ki ln bt rl cp cs ct cv 5 14 ja ea ma a1 a2 a3 a4 a5 a6 a7 a8 jb eb mb b1 b2 b3 b4 b5 b6 b7 b8 re fl g1 g2 g3 g4 g5 (dW rt la rs rg pd du ds me tt gr su gp mk rf m1 m2 m3 m4 m5 mr mf n1 n2 n3 n4 n5 nr nf E)))) rfl (rn_up (N := 1000) (M := mm_fuel) (by decide) (main (fun rz => rz = (some (iv (-1)), (cW ki ln bt rl cp cs ct cv 5 14 ja ea ma a1 a2 a3 a4 a5 a6 a7 a8 jb eb mb b1 b2 b3 b4 b5 b6 b7 b8 re fl g1 g2 g3 g4 g5 (dW rt la rs rg pd du ds me tt gr su gp mk rf m1 m2 m3 m4 m5 mr mf n1 n2 n3 n4 n5 nr nf E)))) rfl))
  have h1 : sX11_rounds [.ref 0, iv (a)] (cW ki ln bt rl cp cs ct cv 5 14 ja ea ma a1 a2 a3 a4 a5 a6 a7 a8 jb eb mb b1 b2 b3 b4 b5 b6 b7 b8 re fl g1 g2 g3 g4 g5 (dW rt la rs rg pd du ds me tt gr su gp mk rf m1 m2 m3 m4 m5 mr mf n1 n2 n3 n4 n5 nr nf E)) = some rz := h1
  rw [h1, h2]
abbrev rn_X11_end (N : Nat) (c : mm_C) (Q : mm_R → Prop) : Prop := rn (mm_gf gLX11) (mm_pf pLX11) (mm_mv vX11_end) (mm_mv zX11_end) (mm_kc kLX11) mm_gs0 mm_rf0 mm_ro (some .int) 2 (mm_ins iX11_end) N c Q
theorem c_endC0_1 (hP : PH ea ma re fl a1 a2 a3 a4 a5 a6 a7 a8 g1 g2 g3 g4 g5 s de sd) (hr : -2147483648 ≤ a ∧ a ≤ 2147483647) (ha : i3 a 0 7 = true) : ∃ pd' du' ds' me' : Nat → Int32, sX11_end [.ref 0, iv (a)] (cW ki ln bt rl cp cs ct cv 5 14 ja ea ma a1 a2 a3 a4 a5 a6 a7 a8 jb eb mb b1 b2 b3 b4 b5 b6 b7 b8 re fl g1 g2 g3 g4 g5 (dW rt la rs rg pd du ds me tt gr su gp mk rf m1 m2 m3 m4 m5 mr mf n1 n2 n3 n4 n5 nr nf E)) = some (some (iv (rkE ea ma de sd s ((rkR ea ma de sd s) (rgo (rkR ea ma de sd s) 200 0).1) a 26)), (cW ki ln bt rl cp cs ct cv 5 14 ja ea ma a1 a2 a3 a4 a5 a6 a7 a8 jb eb mb b1 b2 b3 b4 b5 b6 b7 b8 re fl g1 g2 g3 g4 g5 (dW rt (((rgo (rkR ea ma de sd s) 200 0).1 : Nat) : Int) (bif decide ((rgo (rkR ea ma de sd s) 200 0).2 = 1) then (((rgo (rkR ea ma de sd s) 200 0).1 : Nat) : Int) else -9) (bif decide ((rgo (rkR ea ma de sd s) 200 0).2 = 1) then 0 else (rgo (rkR ea ma de sd s) 200 0).2) pd' du' ds' me' tt gr su gp mk rf m1 m2 m3 m4 m5 mr mf n1 n2 n3 n4 n5 nr nf E))) := by
  obtain ⟨pd', du', ds', me', hru, hI⟩ := c_run0 (E := E) (ki := ki) (ln := ln) (bt := bt) (rl := rl) (cp := cp) (cs := cs) (ct := ct) (cv := cv) (ja := ja) (ea := ea) (ma := ma) (a1 := a1) (a2 := a2) (a3 := a3) (a4 := a4) (a5 := a5) (a6 := a6) (a7 := a7) (a8 := a8) (jb := jb) (eb := eb) (mb := mb) (b1 := b1) (b2 := b2) (b3 := b3) (b4 := b4) (b5 := b5) (b6 := b6) (b7 := b7) (b8 := b8) (re := re) (fl := fl) (g1 := g1) (g2 := g2) (g3 := g3) (g4 := g4) (g5 := g5) (rt := rt) (la := la) (rs := rs) (rg := rg) (pd := pd) (du := du) (ds := ds) (me := me) (tt := tt) (gr := gr) (su := su) (gp := gp) (mk := mk) (rf := rf) (m1 := m1) (m2 := m2) (m3 := m3) (m4 := m4) (m5 := m5) (mr := mr) (mf := mf) (n1 := n1) (n2 := n2) (n3 := n3) (n4 := n4) (n5 := n5) (nr := nr) (nf := nf) hP
  have hgr := rgo_r (R := (rkR ea ma de sd s)) 200 0
  have main : ∀ Q : mm_R → Prop, Q (some (iv (rkE ea ma de sd s ((rkR ea ma de sd s) (rgo (rkR ea ma de sd s) 200 0).1) a 26)), (cW ki ln bt rl cp cs ct cv 5 14 ja ea ma a1 a2 a3 a4 a5 a6 a7 a8 jb eb mb b1 b2 b3 b4 b5 b6 b7 b8 re fl g1 g2 g3 g4 g5 (dW rt (((rgo (rkR ea ma de sd s) 200 0).1 : Nat) : Int) (bif decide ((rgo (rkR ea ma de sd s) 200 0).2 = 1) then (((rgo (rkR ea ma de sd s) 200 0).1 : Nat) : Int) else -9) (bif decide ((rgo (rkR ea ma de sd s) 200 0).2 = 1) then 0 else (rgo (rkR ea ma de sd s) 200 0).2) pd' du' ds' me' tt gr su gp mk rf m1 m2 m3 m4 m5 mr mf n1 n2 n3 n4 n5 nr nf E))) → rn_X11_end 200 (0, [(0, .ref 0), (1, iv (a))], [], (cW ki ln bt rl cp cs ct cv 5 14 ja ea ma a1 a2 a3 a4 a5 a6 a7 a8 jb eb mb b1 b2 b3 b4 b5 b6 b7 b8 re fl g1 g2 g3 g4 g5 (dW rt la rs rg pd du ds me tt gr su gp mk rf m1 m2 m3 m4 m5 mr mf n1 n2 n3 n4 n5 nr nf E))) Q := by
    intro Q hQ
    have va := i3_t ha
    refine r_il rfl rfl ?_
    refine r_s1s rfl rfl rfl (c_isPersonC hr) ?_
    rw [ha]
    refine r_zne rfl rfl (bi_r _) (fun u1 => ?_) (fun u1 => ?_)
    · refine r_al rfl rfl ?_
      refine r_gf rfl rfl xg_0 rfl ?_
      refine r_v1n rfl rfl xg_31 rfl hru ?_
      refine r_al rfl rfl ?_
      refine r_gf rfl rfl xg_0 rfl ?_
      refine r_il rfl rfl ?_
      refine r_v2s rfl rfl xg_31 rfl (c_eo0 (l := (rgo (rkR ea ma de sd s) 200 0).1) hP (by omega) rfl va hI) ?_
      exact r_ret rfl rfl hQ
    · exact absurd u1 (by decide)
  obtain ⟨x, h1, h2⟩ := rn_S (vs := [.ref 0, iv (a)]) (Q := fun x => x = (some (iv (rkE ea ma de sd s ((rkR ea ma de sd s) (rgo (rkR ea ma de sd s) 200 0).1) a 26)), (cW ki ln bt rl cp cs ct cv 5 14 ja ea ma a1 a2 a3 a4 a5 a6 a7 a8 jb eb mb b1 b2 b3 b4 b5 b6 b7 b8 re fl g1 g2 g3 g4 g5 (dW rt (((rgo (rkR ea ma de sd s) 200 0).1 : Nat) : Int) (bif decide ((rgo (rkR ea ma de sd s) 200 0).2 = 1) then (((rgo (rkR ea ma de sd s) 200 0).1 : Nat) : Int) else -9) (bif decide ((rgo (rkR ea ma de sd s) 200 0).2 = 1) then 0 else (rgo (rkR ea ma de sd s) 200 0).2) pd' du' ds' me' tt gr su gp mk rf m1 m2 m3 m4 m5 mr mf n1 n2 n3 n4 n5 nr nf E)))) rfl (rn_up (N := 200) (M := mm_fuel) (by decide) (main _ rfl))
  have h1 : sX11_end [.ref 0, iv (a)] (cW ki ln bt rl cp cs ct cv 5 14 ja ea ma a1 a2 a3 a4 a5 a6 a7 a8 jb eb mb b1 b2 b3 b4 b5 b6 b7 b8 re fl g1 g2 g3 g4 g5 (dW rt la rs rg pd du ds me tt gr su gp mk rf m1 m2 m3 m4 m5 mr mf n1 n2 n3 n4 n5 nr nf E)) = some x := h1
  exact ⟨pd', du', ds', me', by rw [h1, h2]⟩
theorem c_endC0_0 (hr : -2147483648 ≤ a ∧ a ≤ 2147483647) (ha : i3 a 0 7 = false) : sX11_end [.ref 0, iv (a)] (cW ki ln bt rl cp cs ct cv 5 14 ja ea ma a1 a2 a3 a4 a5 a6 a7 a8 jb eb mb b1 b2 b3 b4 b5 b6 b7 b8 re fl g1 g2 g3 g4 g5 (dW rt la rs rg pd du ds me tt gr su gp mk rf m1 m2 m3 m4 m5 mr mf n1 n2 n3 n4 n5 nr nf E)) = some (some (iv (-1000000)), (cW ki ln bt rl cp cs ct cv 5 14 ja ea ma a1 a2 a3 a4 a5 a6 a7 a8 jb eb mb b1 b2 b3 b4 b5 b6 b7 b8 re fl g1 g2 g3 g4 g5 (dW rt la rs rg pd du ds me tt gr su gp mk rf m1 m2 m3 m4 m5 mr mf n1 n2 n3 n4 n5 nr nf E))) := by
  have main : ∀ Q : mm_R → Prop, Q (some (iv (-1000000)), (cW ki ln bt rl cp cs ct cv 5 14 ja ea ma a1 a2 a3 a4 a5 a6 a7 a8 jb eb mb b1 b2 b3 b4 b5 b6 b7 b8 re fl g1 g2 g3 g4 g5 (dW rt la rs rg pd du ds me tt gr su gp mk rf m1 m2 m3 m4 m5 mr mf n1 n2 n3 n4 n5 nr nf E))) → rn_X11_end (1000) (0, [(0, .ref 0), (1, iv (a))], [], (cW ki ln bt rl cp cs ct cv 5 14 ja ea ma a1 a2 a3 a4 a5 a6 a7 a8 jb eb mb b1 b2 b3 b4 b5 b6 b7 b8 re fl g1 g2 g3 g4 g5 (dW rt la rs rg pd du ds me tt gr su gp mk rf m1 m2 m3 m4 m5 mr mf n1 n2 n3 n4 n5 nr nf E))) Q := by
    intro Q hQ
    refine r_il rfl rfl ?_
    refine r_s1s rfl rfl rfl (c_isPersonC hr) ?_
    rw [ha]
    refine r_zne rfl rfl (bi_r _) (fun u1 => ?_) (fun u1 => ?_)
    · exact absurd rfl u1
    · refine r_ldc (v := iv (-1000000)) rfl rfl ?_
      exact r_ret rfl rfl hQ
  obtain ⟨rz, h1, h2⟩ := rn_S (vs := [.ref 0, iv (a)]) (Q := fun rz => rz = (some (iv (-1000000)), (cW ki ln bt rl cp cs ct cv 5 14 ja ea ma a1 a2 a3 a4 a5 a6 a7 a8 jb eb mb b1 b2 b3 b4 b5 b6 b7 b8 re fl g1 g2 g3 g4 g5 (dW rt la rs rg pd du ds me tt gr su gp mk rf m1 m2 m3 m4 m5 mr mf n1 n2 n3 n4 n5 nr nf E)))) rfl (rn_up (N := 1000) (M := mm_fuel) (by decide) (main (fun rz => rz = (some (iv (-1000000)), (cW ki ln bt rl cp cs ct cv 5 14 ja ea ma a1 a2 a3 a4 a5 a6 a7 a8 jb eb mb b1 b2 b3 b4 b5 b6 b7 b8 re fl g1 g2 g3 g4 g5 (dW rt la rs rg pd du ds me tt gr su gp mk rf m1 m2 m3 m4 m5 mr mf n1 n2 n3 n4 n5 nr nf E)))) rfl))
  have h1 : sX11_end [.ref 0, iv (a)] (cW ki ln bt rl cp cs ct cv 5 14 ja ea ma a1 a2 a3 a4 a5 a6 a7 a8 jb eb mb b1 b2 b3 b4 b5 b6 b7 b8 re fl g1 g2 g3 g4 g5 (dW rt la rs rg pd du ds me tt gr su gp mk rf m1 m2 m3 m4 m5 mr mf n1 n2 n3 n4 n5 nr nf E)) = some rz := h1
  rw [h1, h2]
abbrev rn_X11_bears (N : Nat) (c : mm_C) (Q : mm_R → Prop) : Prop := rn (mm_gf gLX11) (mm_pf pLX11) (mm_mv vX11_bears) (mm_mv zX11_bears) (mm_kc kLX11) mm_gs0 mm_rf0 mm_ro (some .int) 3 (mm_ins iX11_bears) N c Q
theorem c_bearsC0_1 (hP : PH ea ma re fl a1 a2 a3 a4 a5 a6 a7 a8 g1 g2 g3 g4 g5 s de sd) (hr : -2147483648 ≤ a ∧ a ≤ 2147483647) (hb : -2147483648 ≤ b ∧ b ≤ 2147483647) (ha : fTH ea ma a b = true) : ∃ pd' du' ds' me' : Nat → Int32, sX11_bears [.ref 0, iv (a), iv (b)] (cW ki ln bt rl cp cs ct cv 5 14 ja ea ma a1 a2 a3 a4 a5 a6 a7 a8 jb eb mb b1 b2 b3 b4 b5 b6 b7 b8 re fl g1 g2 g3 g4 g5 (dW rt la rs rg pd du ds me tt gr su gp mk rf m1 m2 m3 m4 m5 mr mf n1 n2 n3 n4 n5 nr nf E)) = some (some (iv ((rkR ea ma de sd s) (rgo (rkR ea ma de sd s) 200 0).1 (Int.toNat (bif decide (a = 1) then 10 + b else b)))), (cW ki ln bt rl cp cs ct cv 5 14 ja ea ma a1 a2 a3 a4 a5 a6 a7 a8 jb eb mb b1 b2 b3 b4 b5 b6 b7 b8 re fl g1 g2 g3 g4 g5 (dW rt (((rgo (rkR ea ma de sd s) 200 0).1 : Nat) : Int) (bif decide ((rgo (rkR ea ma de sd s) 200 0).2 = 1) then (((rgo (rkR ea ma de sd s) 200 0).1 : Nat) : Int) else -9) (bif decide ((rgo (rkR ea ma de sd s) 200 0).2 = 1) then 0 else (rgo (rkR ea ma de sd s) 200 0).2) pd' du' ds' me' tt gr su gp mk rf m1 m2 m3 m4 m5 mr mf n1 n2 n3 n4 n5 nr nf E))) := by
  obtain ⟨pd', du', ds', me', hru, hI⟩ := c_run0 (E := E) (ki := ki) (ln := ln) (bt := bt) (rl := rl) (cp := cp) (cs := cs) (ct := ct) (cv := cv) (ja := ja) (ea := ea) (ma := ma) (a1 := a1) (a2 := a2) (a3 := a3) (a4 := a4) (a5 := a5) (a6 := a6) (a7 := a7) (a8 := a8) (jb := jb) (eb := eb) (mb := mb) (b1 := b1) (b2 := b2) (b3 := b3) (b4 := b4) (b5 := b5) (b6 := b6) (b7 := b7) (b8 := b8) (re := re) (fl := fl) (g1 := g1) (g2 := g2) (g3 := g3) (g4 := g4) (g5 := g5) (rt := rt) (la := la) (rs := rs) (rg := rg) (pd := pd) (du := du) (ds := ds) (me := me) (tt := tt) (gr := gr) (su := su) (gp := gp) (mk := mk) (rf := rf) (m1 := m1) (m2 := m2) (m3 := m3) (m4 := m4) (m5 := m5) (mr := mr) (mf := mf) (n1 := n1) (n2 := n2) (n3 := n3) (n4 := n4) (n5 := n5) (nr := nr) (nf := nf) hP
  have hgr := rgo_r (R := (rkR ea ma de sd s)) 200 0
  have main : ∀ Q : mm_R → Prop, Q (some (iv ((rkR ea ma de sd s) (rgo (rkR ea ma de sd s) 200 0).1 (Int.toNat (bif decide (a = 1) then 10 + b else b)))), (cW ki ln bt rl cp cs ct cv 5 14 ja ea ma a1 a2 a3 a4 a5 a6 a7 a8 jb eb mb b1 b2 b3 b4 b5 b6 b7 b8 re fl g1 g2 g3 g4 g5 (dW rt (((rgo (rkR ea ma de sd s) 200 0).1 : Nat) : Int) (bif decide ((rgo (rkR ea ma de sd s) 200 0).2 = 1) then (((rgo (rkR ea ma de sd s) 200 0).1 : Nat) : Int) else -9) (bif decide ((rgo (rkR ea ma de sd s) 200 0).2 = 1) then 0 else (rgo (rkR ea ma de sd s) 200 0).2) pd' du' ds' me' tt gr su gp mk rf m1 m2 m3 m4 m5 mr mf n1 n2 n3 n4 n5 nr nf E))) → rn_X11_bears 200 (0, [(0, .ref 0), (1, iv (a)), (2, iv (b))], [], (cW ki ln bt rl cp cs ct cv 5 14 ja ea ma a1 a2 a3 a4 a5 a6 a7 a8 jb eb mb b1 b2 b3 b4 b5 b6 b7 b8 re fl g1 g2 g3 g4 g5 (dW rt la rs rg pd du ds me tt gr su gp mk rf m1 m2 m3 m4 m5 mr mf n1 n2 n3 n4 n5 nr nf E))) Q := by
    intro Q hQ
    have hdb := hP.2.2.2.2.1
    have hsn := hP.2.2.2.2.2.1
    have hq : (a = 1 ∧ 0 ≤ b ∧ b < ma) ∨ (a = 0 ∧ 0 ≤ b ∧ b < ea) := by
      have ht := ha
      unfold fTH at ht
      rw [Bool.and_eq_true] at ht
      have h1 := i3_t ht.1
      by_cases e : a = 1
      · have h2 := ht.2
        rw [decide_eq_true e, cond_true] at h2
        have h2 := i3_t h2
        omega
      · have h2 := ht.2
        rw [decide_eq_false e, cond_false] at h2
        have h2 := i3_t h2
        omega
    refine r_al rfl rfl ?_
    refine r_il rfl rfl ?_
    refine r_il rfl rfl ?_
    refine r_v3s rfl rfl xg_0 rfl (c_isPay0 hr hb hP.2.2.2.2.1 hP.2.2.2.2.2.1) ?_
    rw [ha]
    refine r_zne rfl rfl (bi_r _) (fun u1 => ?_) (fun u1 => ?_)
    · refine r_al rfl rfl ?_
      refine r_gf rfl rfl xg_0 rfl ?_
      refine r_v1n rfl rfl xg_31 rfl hru ?_
      refine r_il rfl rfl ?_
      refine r_ic rfl ?_
      refine r_cne rfl rfl hr (by decide) (fun u2 => ?_) (fun u2 => ?_)
      · rw [decide_eq_false u2, cond_false] at hQ
        refine r_al rfl rfl ?_
        refine r_gf rfl rfl xg_0 rfl ?_
        refine r_il rfl rfl ?_
        refine r_v2s rfl rfl xg_31 rfl (c_lbd0 (l := (rgo (rkR ea ma de sd s) 200 0).1) hP (by omega) rfl (by omega) (by omega) hI) ?_
        exact r_ret rfl rfl hQ
      · rw [decide_eq_true u2, cond_true] at hQ
        refine r_al rfl rfl ?_
        refine r_gf rfl rfl xg_0 rfl ?_
        refine r_il rfl rfl ?_
        refine r_v2s rfl rfl xg_31 rfl (c_lbs0 (l := (rgo (rkR ea ma de sd s) 200 0).1) hP (by omega) rfl (by omega) (by omega) hI) ?_
        refine r_goto rfl rfl ?_
        exact r_ret rfl rfl hQ
    · exact absurd u1 (by decide)
  obtain ⟨x, h1, h2⟩ := rn_S (vs := [.ref 0, iv (a), iv (b)]) (Q := fun x => x = (some (iv ((rkR ea ma de sd s) (rgo (rkR ea ma de sd s) 200 0).1 (Int.toNat (bif decide (a = 1) then 10 + b else b)))), (cW ki ln bt rl cp cs ct cv 5 14 ja ea ma a1 a2 a3 a4 a5 a6 a7 a8 jb eb mb b1 b2 b3 b4 b5 b6 b7 b8 re fl g1 g2 g3 g4 g5 (dW rt (((rgo (rkR ea ma de sd s) 200 0).1 : Nat) : Int) (bif decide ((rgo (rkR ea ma de sd s) 200 0).2 = 1) then (((rgo (rkR ea ma de sd s) 200 0).1 : Nat) : Int) else -9) (bif decide ((rgo (rkR ea ma de sd s) 200 0).2 = 1) then 0 else (rgo (rkR ea ma de sd s) 200 0).2) pd' du' ds' me' tt gr su gp mk rf m1 m2 m3 m4 m5 mr mf n1 n2 n3 n4 n5 nr nf E)))) rfl (rn_up (N := 200) (M := mm_fuel) (by decide) (main _ rfl))
  have h1 : sX11_bears [.ref 0, iv (a), iv (b)] (cW ki ln bt rl cp cs ct cv 5 14 ja ea ma a1 a2 a3 a4 a5 a6 a7 a8 jb eb mb b1 b2 b3 b4 b5 b6 b7 b8 re fl g1 g2 g3 g4 g5 (dW rt la rs rg pd du ds me tt gr su gp mk rf m1 m2 m3 m4 m5 mr mf n1 n2 n3 n4 n5 nr nf E)) = some x := h1
  exact ⟨pd', du', ds', me', by rw [h1, h2]⟩
theorem c_bearsC0_0 (hdb : 0 ≤ ea ∧ ea ≤ 10) (hsn : 0 ≤ ma ∧ ma ≤ 16) (hr : -2147483648 ≤ a ∧ a ≤ 2147483647) (hb : -2147483648 ≤ b ∧ b ≤ 2147483647) (ha : fTH ea ma a b = false) : sX11_bears [.ref 0, iv (a), iv (b)] (cW ki ln bt rl cp cs ct cv 5 14 ja ea ma a1 a2 a3 a4 a5 a6 a7 a8 jb eb mb b1 b2 b3 b4 b5 b6 b7 b8 re fl g1 g2 g3 g4 g5 (dW rt la rs rg pd du ds me tt gr su gp mk rf m1 m2 m3 m4 m5 mr mf n1 n2 n3 n4 n5 nr nf E)) = some (some (iv (-1)), (cW ki ln bt rl cp cs ct cv 5 14 ja ea ma a1 a2 a3 a4 a5 a6 a7 a8 jb eb mb b1 b2 b3 b4 b5 b6 b7 b8 re fl g1 g2 g3 g4 g5 (dW rt la rs rg pd du ds me tt gr su gp mk rf m1 m2 m3 m4 m5 mr mf n1 n2 n3 n4 n5 nr nf E))) := by
  have main : ∀ Q : mm_R → Prop, Q (some (iv (-1)), (cW ki ln bt rl cp cs ct cv 5 14 ja ea ma a1 a2 a3 a4 a5 a6 a7 a8 jb eb mb b1 b2 b3 b4 b5 b6 b7 b8 re fl g1 g2 g3 g4 g5 (dW rt la rs rg pd du ds me tt gr su gp mk rf m1 m2 m3 m4 m5 mr mf n1 n2 n3 n4 n5 nr nf E))) → rn_X11_bears (1000) (0, [(0, .ref 0), (1, iv (a)), (2, iv (b))], [], (cW ki ln bt rl cp cs ct cv 5 14 ja ea ma a1 a2 a3 a4 a5 a6 a7 a8 jb eb mb b1 b2 b3 b4 b5 b6 b7 b8 re fl g1 g2 g3 g4 g5 (dW rt la rs rg pd du ds me tt gr su gp mk rf m1 m2 m3 m4 m5 mr mf n1 n2 n3 n4 n5 nr nf E))) Q := by
    intro Q hQ
    refine r_al rfl rfl ?_
    refine r_il rfl rfl ?_
    refine r_il rfl rfl ?_
    refine r_v3s rfl rfl xg_0 rfl (c_isPay0 hr hb hdb hsn) ?_
    rw [ha]
    refine r_zne rfl rfl (bi_r _) (fun u1 => ?_) (fun u1 => ?_)
    · exact absurd rfl u1
    · refine r_ic rfl ?_
      exact r_ret rfl rfl hQ
  obtain ⟨rz, h1, h2⟩ := rn_S (vs := [.ref 0, iv (a), iv (b)]) (Q := fun rz => rz = (some (iv (-1)), (cW ki ln bt rl cp cs ct cv 5 14 ja ea ma a1 a2 a3 a4 a5 a6 a7 a8 jb eb mb b1 b2 b3 b4 b5 b6 b7 b8 re fl g1 g2 g3 g4 g5 (dW rt la rs rg pd du ds me tt gr su gp mk rf m1 m2 m3 m4 m5 mr mf n1 n2 n3 n4 n5 nr nf E)))) rfl (rn_up (N := 1000) (M := mm_fuel) (by decide) (main (fun rz => rz = (some (iv (-1)), (cW ki ln bt rl cp cs ct cv 5 14 ja ea ma a1 a2 a3 a4 a5 a6 a7 a8 jb eb mb b1 b2 b3 b4 b5 b6 b7 b8 re fl g1 g2 g3 g4 g5 (dW rt la rs rg pd du ds me tt gr su gp mk rf m1 m2 m3 m4 m5 mr mf n1 n2 n3 n4 n5 nr nf E)))) rfl))
  have h1 : sX11_bears [.ref 0, iv (a), iv (b)] (cW ki ln bt rl cp cs ct cv 5 14 ja ea ma a1 a2 a3 a4 a5 a6 a7 a8 jb eb mb b1 b2 b3 b4 b5 b6 b7 b8 re fl g1 g2 g3 g4 g5 (dW rt la rs rg pd du ds me tt gr su gp mk rf m1 m2 m3 m4 m5 mr mf n1 n2 n3 n4 n5 nr nf E)) = some rz := h1
  rw [h1, h2]
theorem pf_lp1 (hP : PH eb mb re fl b1 b2 b3 b4 b5 b6 b7 b8 g1 g2 g3 g4 g5 s de sd) (k : ∀ pd : Nat → Int32, rcJ eb mb de sd s 0 26 pd → rn_X9_payInFull N (43, [(1, iv (((26 : Nat) : Int))), (0, .ref 31)], [], (cW ki ln bt rl cp cs ct cv 14 5 ja ea ma a1 a2 a3 a4 a5 a6 a7 a8 jb eb mb b1 b2 b3 b4 b5 b6 b7 b8 re fl g1 g2 g3 g4 g5 (dW rt la rs rg pd du ds me tt gr su gp mk rf m1 m2 m3 m4 m5 mr mf n1 n2 n3 n4 n5 nr nf E))) Q) : ∀ (m j : Nat) (pd : Nat → Int32), j + m = 26 → rcJ eb mb de sd s 0 j pd → rn_X9_payInFull (N + 40 * m + 40) (2, [(1, iv ((j : Int))), (0, .ref 31)], [], (cW ki ln bt rl cp cs ct cv 14 5 ja ea ma a1 a2 a3 a4 a5 a6 a7 a8 jb eb mb b1 b2 b3 b4 b5 b6 b7 b8 re fl g1 g2 g3 g4 g5 (dW rt la rs rg pd du ds me tt gr su gp mk rf m1 m2 m3 m4 m5 mr mf n1 n2 n3 n4 n5 nr nf E))) Q := by
  obtain ⟨hL, hRd, hRs, hV, hd, hn, hS, hE, hRS, hX⟩ := id hP
  intro m
  induction m with
  | zero =>
    intro j pd hj hJ
    have hj : j = 26 := by omega
    subst hj
    refine rn_up (N := N + 40) (by omega) ?_
    refine r_il rfl rfl ?_
    refine r_bi rfl (by decide) ?_
    refine r_cge rfl rfl (by omega) (by omega) (fun u1 => ?_) (fun u1 => ?_)
    · exact rn_up (by omega) (k pd hJ)
    · omega
  | succ m ih =>
    intro j pd hj hJ
    refine rn_up (N := N + 40 * m + 40 + 40) (by omega) ?_
    refine r_il rfl rfl ?_
    refine r_bi rfl (by decide) ?_
    refine r_cge rfl rfl (by omega) (by omega) (fun u1 => ?_) (fun u1 => ?_)
    · omega
    · refine r_al rfl rfl ?_
      refine r_gf rfl rfl xg_31 rfl ?_
      refine r_il rfl rfl ?_
      refine r_al rfl rfl ?_
      refine r_gf rfl rfl xg_31 rfl ?_
      refine r_il rfl rfl ?_
      refine r_v2s rfl rfl xg_4 rfl (c_isDebtC1 (by omega) (by omega)) ?_
      refine r_zeq rfl rfl (bi_r _) (fun u2 => ?_) (fun u2 => ?_)
      · have u3 : ¬ (j : Int) < eb := fun z => by
          have h0 := bi_0 u2
          have h1 : i3 (j : Int) 0 (eb - 1) = true := by simp [i3]; omega
          rw [h1] at h0
          cases h0
        refine r_ic rfl ?_
        refine r_ias rfl xg_32 (by omega) (by omega) (by decide) xs_32 ?_
        refine r_inc (lv' := [(1, _), (0, _)]) rfl rfl rfl rfl ?_
        refine r_goto rfl rfl ?_
        have hJ2 := rcJ_s (x := 0) (by omega) hJ (show 0 = (bif decide ((j : Int) < eb) then fR de s (j : Int) else 0) by rw [decide_eq_false u3]; rfl)
        rw [show 26 * 0 + j = Int.toNat (j : Int) by omega] at hJ2
        exact rn_up (by omega) (ih (j + 1) _ (by omega) hJ2)
      · have u3 := i3_t (bi_1 u2)
        have ec : cR b3 g1 (j : Int) = fR de s (j : Int) := cR_eq hL hRd (by omega) hd.2
        refine r_al rfl rfl ?_
        refine r_gf rfl rfl xg_31 rfl ?_
        refine r_il rfl rfl ?_
        refine r_v2s rfl rfl xg_4 rfl (c_restC1 (by omega)) ?_
        refine r_goto rfl rfl ?_
        refine r_ias rfl xg_32 (by omega) (by omega) (by decide) xs_32 ?_
        refine r_inc (lv' := [(1, _), (0, _)]) rfl rfl rfl rfl ?_
        refine r_goto rfl rfl ?_
        have hJ2 := rcJ_s (x := cR b3 g1 (j : Int)) (by omega) hJ (show cR b3 g1 (j : Int) = (bif decide ((j : Int) < eb) then fR de s (j : Int) else 0) by rw [decide_eq_true (by omega), ec]; rfl)
        rw [show 26 * 0 + j = Int.toNat (j : Int) by omega] at hJ2
        exact rn_up (by omega) (ih (j + 1) _ (by omega) hJ2)
theorem c_pf1 (hP : PH eb mb re fl b1 b2 b3 b4 b5 b6 b7 b8 g1 g2 g3 g4 g5 s de sd) : ∃ pd' : Nat → Int32, sX9_payInFull [.ref 31] (cW ki ln bt rl cp cs ct cv 14 5 ja ea ma a1 a2 a3 a4 a5 a6 a7 a8 jb eb mb b1 b2 b3 b4 b5 b6 b7 b8 re fl g1 g2 g3 g4 g5 (dW rt la rs rg pd du ds me tt gr su gp mk rf m1 m2 m3 m4 m5 mr mf n1 n2 n3 n4 n5 nr nf E)) = some (none, (cW ki ln bt rl cp cs ct cv 14 5 ja ea ma a1 a2 a3 a4 a5 a6 a7 a8 jb eb mb b1 b2 b3 b4 b5 b6 b7 b8 re fl g1 g2 g3 g4 g5 (dW rt la rs rg pd' du ds me tt gr su gp mk rf m1 m2 m3 m4 m5 mr mf n1 n2 n3 n4 n5 nr nf E))) ∧ rcI eb mb de sd s 1 pd' := by
  have main : rn_X9_payInFull (20 + 40 * 26 + 40 + 20) (0, [(0, .ref 31)], [], (cW ki ln bt rl cp cs ct cv 14 5 ja ea ma a1 a2 a3 a4 a5 a6 a7 a8 jb eb mb b1 b2 b3 b4 b5 b6 b7 b8 re fl g1 g2 g3 g4 g5 (dW rt la rs rg pd du ds me tt gr su gp mk rf m1 m2 m3 m4 m5 mr mf n1 n2 n3 n4 n5 nr nf E))) (fun x => ∃ pd' : Nat → Int32, x = (none, (cW ki ln bt rl cp cs ct cv 14 5 ja ea ma a1 a2 a3 a4 a5 a6 a7 a8 jb eb mb b1 b2 b3 b4 b5 b6 b7 b8 re fl g1 g2 g3 g4 g5 (dW rt la rs rg pd' du ds me tt gr su gp mk rf m1 m2 m3 m4 m5 mr mf n1 n2 n3 n4 n5 nr nf E))) ∧ rcI eb mb de sd s 1 pd') := by
    refine r_ic rfl ?_
    refine r_is (lv' := [(1, _), (0, _)]) rfl rfl rfl ?_
    refine rn_up (N := 20 + 40 * 26 + 40) (by decide) (pf_lp1 (N := 20) hP (fun pd hJ => ?_) 26 0 pd rfl ⟨fun a k ha _ => by omega, fun k hk => by omega⟩)
    exact r_retv rfl rfl ⟨pd, rfl, rcJ_e hJ⟩
  obtain ⟨x, h1, pd', h2, h3⟩ := rn_S (vs := [.ref 31]) rfl (rn_up (N := 20 + 40 * 26 + 40 + 20) (M := mm_fuel) (by decide) main)
  have h1 : sX9_payInFull [.ref 31] (cW ki ln bt rl cp cs ct cv 14 5 ja ea ma a1 a2 a3 a4 a5 a6 a7 a8 jb eb mb b1 b2 b3 b4 b5 b6 b7 b8 re fl g1 g2 g3 g4 g5 (dW rt la rs rg pd du ds me tt gr su gp mk rf m1 m2 m3 m4 m5 mr mf n1 n2 n3 n4 n5 nr nf E)) = some x := h1
  exact ⟨pd', by rw [h1, h2], h3⟩
theorem fd_11 (hP : PH eb mb re fl b1 b2 b3 b4 b5 b6 b7 b8 g1 g2 g3 g4 g5 s de sd) (hr : r < 200) (hB : B = 26 * (r : Int)) (hrow : ∀ k : Nat, k < 26 → pd (26 * r + k) = Int32.ofInt ((rkR eb mb de sd s r) k)) (k : ∀ du ds : Nat → Int32, dui eb mb de sd s (rkR eb mb de sd s r) eb.toNat du → dsi eb mb de sd s (rkR eb mb de sd s r) eb.toNat ds → rn_X9_findDues N (74, [(3, iv (((eb.toNat : Nat) : Int))), (2, .ref 14), (0, .ref 31), (1, iv (B))], [], (cW ki ln bt rl cp cs ct cv 14 5 ja ea ma a1 a2 a3 a4 a5 a6 a7 a8 jb eb mb b1 b2 b3 b4 b5 b6 b7 b8 re fl g1 g2 g3 g4 g5 (dW rt la rs rg pd du ds me tt gr su gp mk rf m1 m2 m3 m4 m5 mr mf n1 n2 n3 n4 n5 nr nf E))) Q) : ∀ (m j : Nat) (du ds : Nat → Int32), j + m = eb.toNat → dui eb mb de sd s (rkR eb mb de sd s r) j du → dsi eb mb de sd s (rkR eb mb de sd s r) j ds → rn_X9_findDues (N + 60 * m + 60) (26, [(3, iv ((j : Int))), (2, .ref 14), (0, .ref 31), (1, iv (B))], [], (cW ki ln bt rl cp cs ct cv 14 5 ja ea ma a1 a2 a3 a4 a5 a6 a7 a8 jb eb mb b1 b2 b3 b4 b5 b6 b7 b8 re fl g1 g2 g3 g4 g5 (dW rt la rs rg pd du ds me tt gr su gp mk rf m1 m2 m3 m4 m5 mr mf n1 n2 n3 n4 n5 nr nf E))) Q := by
  obtain ⟨hL, hRd, hRs, hV, hd, hn, hS, hE, hRS, hX⟩ := id hP
  intro m
  induction m with
  | zero =>
    intro j du ds hj hU hD
    have hj : j = eb.toNat := by omega
    subst hj
    refine rn_up (N := N + 60) (by omega) ?_
    refine r_il rfl rfl ?_
    refine r_al rfl rfl ?_
    refine r_gf rfl rfl xg_14 rfl ?_
    refine r_cge rfl rfl (by omega) (by omega) (fun u1 => ?_) (fun u1 => ?_)
    · exact rn_up (by omega) (k du ds hU hD)
    · omega
  | succ m ih =>
    intro j du ds hj hU hD
    refine rn_up (N := N + 60 * m + 60 + 60) (by omega) ?_
    refine r_il rfl rfl ?_
    refine r_al rfl rfl ?_
    refine r_gf rfl rfl xg_14 rfl ?_
    refine r_cge rfl rfl (by omega) (by omega) (fun u1 => ?_) (fun u1 => ?_)
    · omega
    · obtain ⟨e1, -, hd0, -⟩ := P_de hP (d := (j : Int)) ⟨by omega, by omega⟩
      obtain ⟨w, hw⟩ := Int.eq_ofNat_of_zero_le hd0.1
      rw [hw] at e1
      have hpj : rkP eb mb j = true := by rw [rkP_d (by omega)]; exact decide_eq_true (by omega)
      have hoj : rkO de sd j = (w : Int) := by unfold rkO; rw [decide_eq_true (by omega)]; exact hw
      have eD : rkD de sd s (rkR eb mb de sd s r) j = fR de s (j : Int) := by unfold rkD; rw [decide_eq_true (by omega)]; rfl
      have hDr := rkD_r hRS hE hS hX (rkR_r (sn := mb) hd.2 hRS hE hS hX r) (show j < 26 by omega)
      have ec : cR b3 g1 (j : Int) = rkD de sd s (rkR eb mb de sd s r) j := (cR_eq hL hRd (by omega) hd.2).trans eD.symm
      have eu : (upd du (Int.toNat (j : Int)) (Int32.ofInt (rkD de sd s (rkR eb mb de sd s r) j)) (Int.toNat (j : Int))).toInt = rkD de sd s (rkR eb mb de sd s r) j := by rw [upd_same]; exact iv_to ⟨by omega, by omega⟩
      refine r_al rfl rfl ?_
      refine r_gf rfl rfl xg_31 rfl ?_
      refine r_il rfl rfl ?_
      refine r_al rfl rfl ?_
      refine r_gf rfl rfl xg_31 rfl ?_
      refine r_il rfl rfl ?_
      refine r_v2s rfl rfl xg_4 rfl (c_restC1 (by omega)) ?_
      refine r_eq ec ?_
      refine r_ias rfl xg_33 (by omega) (by omega) (by decide) xs_33 ?_
      refine r_al rfl rfl ?_
      refine r_gf rfl rfl xg_31 rfl ?_
      refine r_al rfl rfl ?_
      refine r_gf rfl rfl xg_14 rfl ?_
      refine r_il rfl rfl ?_
      refine r_ia rfl xg_15 (by omega) (by omega) (by decide) ?_
      refine r_eq e1 ?_
      refine r_dup2 rfl rfl rfl ?_
      refine r_ia rfl xg_34 (by omega) (by omega) (by decide) ?_
      refine r_al rfl rfl ?_
      refine r_gf rfl rfl xg_31 rfl ?_
      refine r_il rfl rfl ?_
      refine r_ia rfl xg_33 (by omega) (by omega) (by decide) ?_
      refine r_eq eu ?_
      refine r_add rfl ?_
      refine r_ias rfl xg_34 (by omega) (by omega) (by decide) xs_34 ?_
      refine r_inc (lv' := [(3, _), (2, _), (0, _), (1, _)]) rfl rfl rfl rfl ?_
      refine r_goto rfl rfl ?_
      exact rn_up (by omega) (ih (j + 1) _ _ (by omega) (dui_s hU hpj) (dsi_s hD hpj hoj (by omega)))
theorem fd_21 (hP : PH eb mb re fl b1 b2 b3 b4 b5 b6 b7 b8 g1 g2 g3 g4 g5 s de sd) (hr : r < 200) (hB : B = 26 * (r : Int)) (hrow : ∀ k : Nat, k < 26 → pd (26 * r + k) = Int32.ofInt ((rkR eb mb de sd s r) k)) (k : ∀ du ds : Nat → Int32, dui eb mb de sd s (rkR eb mb de sd s r) (10 + mb.toNat) du → dsi eb mb de sd s (rkR eb mb de sd s r) (10 + mb.toNat) ds → rn_X9_findDues N (189, [(3, iv (((mb.toNat : Nat) : Int))), (2, .ref 14), (0, .ref 31), (1, iv (B))], [], (cW ki ln bt rl cp cs ct cv 14 5 ja ea ma a1 a2 a3 a4 a5 a6 a7 a8 jb eb mb b1 b2 b3 b4 b5 b6 b7 b8 re fl g1 g2 g3 g4 g5 (dW rt la rs rg pd du ds me tt gr su gp mk rf m1 m2 m3 m4 m5 mr mf n1 n2 n3 n4 n5 nr nf E))) Q) : ∀ (m j : Nat) (du ds : Nat → Int32), j + m = mb.toNat → dui eb mb de sd s (rkR eb mb de sd s r) (10 + j) du → dsi eb mb de sd s (rkR eb mb de sd s r) (10 + j) ds → rn_X9_findDues (N + 90 * m + 90) (76, [(3, iv ((j : Int))), (2, .ref 14), (0, .ref 31), (1, iv (B))], [], (cW ki ln bt rl cp cs ct cv 14 5 ja ea ma a1 a2 a3 a4 a5 a6 a7 a8 jb eb mb b1 b2 b3 b4 b5 b6 b7 b8 re fl g1 g2 g3 g4 g5 (dW rt la rs rg pd du ds me tt gr su gp mk rf m1 m2 m3 m4 m5 mr mf n1 n2 n3 n4 n5 nr nf E))) Q := by
  obtain ⟨hL, hRd, hRs, hV, hd, hn, hS, hE, hRS, hX⟩ := id hP
  intro m
  induction m with
  | zero =>
    intro j du ds hj hU hD
    have hj : j = mb.toNat := by omega
    subst hj
    refine rn_up (N := N + 90) (by omega) ?_
    refine r_il rfl rfl ?_
    refine r_al rfl rfl ?_
    refine r_gf rfl rfl xg_14 rfl ?_
    refine r_cge rfl rfl (by omega) (by omega) (fun u1 => ?_) (fun u1 => ?_)
    · exact rn_up (by omega) (k du ds hU hD)
    · omega
  | succ m ih =>
    intro j du ds hj hU hD
    refine rn_up (N := N + 90 * m + 90 + 90) (by omega) ?_
    refine r_il rfl rfl ?_
    refine r_al rfl rfl ?_
    refine r_gf rfl rfl xg_14 rfl ?_
    refine r_cge rfl rfl (by omega) (by omega) (fun u1 => ?_) (fun u1 => ?_)
    · omega
    · obtain ⟨e4, e5, e6, -, hp4, hp5, -⟩ := P_st hP (i := (j : Int)) ⟨by omega, by omega⟩
      obtain ⟨w, hw⟩ := Int.eq_ofNat_of_zero_le hp4.1
      obtain ⟨d, hdd⟩ := Int.eq_ofNat_of_zero_le hp5.1
      rw [hw] at e4
      rw [hdd] at e5
      have ek : ((10 + j : Nat) : Int) - 10 = (j : Int) := by omega
      have hpj : rkP eb mb (10 + j) = true := by rw [rkP_s (by omega)]; exact decide_eq_true (by omega)
      have hoj : rkO de sd (10 + j) = (w : Int) := by unfold rkO; rw [decide_eq_false (by omega), cond_false, ek]; exact hw
      have hR := rkR_r (sn := mb) hd.2 hRS hE hS hX r
      have hDr := rkD_r hRS hE hS hX hR (show 10 + j < 26 by omega)
      have hRd2 := hR d (by omega)
      have hf := fR_9 hRS hE hX (show 0 ≤ (d : Int) ∧ (d : Int) ≤ 9 by omega)
      have ec : cR b3 g1 (d : Int) = fR de s (d : Int) := cR_eq hL hRd (by omega) hd.2
      have hcl := cL_eq hL (show 0 ≤ (j : Int) ∧ (j : Int) < mb by omega) hn.2
      have eD : rkD de sd s (rkR eb mb de sd s r) (10 + j) = (bif decide ((sd (Int.toNat (5 * (j : Int) + 2))).toInt = 3) then 0 else lsr (fL s (j : Int)) (rkW (fR de s (d : Int) - (rkR eb mb de sd s r) d))) := by
        unfold rkD
        rw [decide_eq_false (by omega), cond_false, ek, hdd]
        rfl
      have hpv : (pd (Int.toNat (B + (d : Int)))).toInt = (rkR eb mb de sd s r) d := by
        rw [show Int.toNat (B + (d : Int)) = 26 * r + d by omega, hrow d (by omega)]
        exact iv_to ⟨by omega, by omega⟩
      have eu : (upd du (Int.toNat (10 + (j : Int))) (Int32.ofInt (rkD de sd s (rkR eb mb de sd s r) (10 + j))) (Int.toNat (10 + (j : Int)))).toInt = rkD de sd s (rkR eb mb de sd s r) (10 + j) := by rw [upd_same]; exact iv_to ⟨by omega, by omega⟩
      refine r_al rfl rfl ?_
      refine r_gf rfl rfl xg_14 rfl ?_
      refine r_il rfl rfl ?_
      refine r_ia rfl xg_20 (by omega) (by omega) (by decide) ?_
      refine r_ic rfl ?_
      refine r_ceq rfl rfl (as_r _) (by decide) (fun u2 => ?_) (fun u2 => ?_)
      · rw [e6] at u2
        have z0 : rkD de sd s (rkR eb mb de sd s r) (10 + j) = 0 := by rw [eD, decide_eq_true u2]; rfl
        refine r_inc (lv' := [(3, _), (2, _), (0, _), (1, _)]) rfl rfl rfl rfl ?_
        refine r_goto rfl rfl ?_
        exact rn_up (by omega) (ih (j + 1) _ _ (by omega) (dui_k hU (Or.inr z0)) (dsi_k hD (Or.inr z0)))
      · rw [e6] at u2
        rw [decide_eq_false u2, cond_false] at eD
        refine r_al rfl rfl ?_
        refine r_gf rfl rfl xg_31 rfl ?_
        refine r_il rfl rfl ?_
        refine r_v2s rfl rfl xg_4 rfl (c_isRelC1 (by omega)) ?_
        refine r_zne rfl rfl (bi_r _) (fun u3 => ?_) (fun u3 => ?_)
        · have z0 : rkD de sd s (rkR eb mb de sd s r) (10 + j) = 0 := by
            have hz : cL g3 g2 re (j : Int) = 0 := by unfold cL; rw [bi_1 u3]; rfl
            rw [eD, hcl, hz, nrm_s (by decide), if_neg (by decide)]
            have := rkW_0 (fR de s (d : Int) - (rkR eb mb de sd s r) d)
            unfold lsr
            by_cases y : 0 < rkW (fR de s (d : Int) - (rkR eb mb de sd s r) d)
            · rw [decide_eq_true y]; rfl
            · rw [decide_eq_false y, cond_false]; omega
          refine r_inc (lv' := [(3, _), (2, _), (0, _), (1, _)]) rfl rfl rfl rfl ?_
          refine r_goto rfl rfl ?_
          exact rn_up (by omega) (ih (j + 1) _ _ (by omega) (dui_k hU (Or.inr z0)) (dsi_k hD (Or.inr z0)))
        · have hmr : -2147483648 ≤ mnI (nrm (cL g3 g2 re (j : Int))) (fR de s (d : Int) - (rkR eb mb de sd s r) d) ∧ mnI (nrm (cL g3 g2 re (j : Int))) (fR de s (d : Int) - (rkR eb mb de sd s r) d) ≤ 2147483647 := by
            have := nrm_r (cL g3 g2 re (j : Int))
            unfold mnI
            cases decide (fR de s (d : Int) - (rkR eb mb de sd s r) d < nrm (cL g3 g2 re (j : Int))) with
            | true => rw [cond_true]; omega
            | false => rw [cond_false]; exact this
          have ev : mxI 0 (mnI (nrm (cL g3 g2 re (j : Int))) (fR de s (d : Int) - (rkR eb mb de sd s r) d)) = rkD de sd s (rkR eb mb de sd s r) (10 + j) := by rw [mx_q, ← hcl, eD]
          refine r_al rfl rfl ?_
          refine r_gf rfl rfl xg_14 rfl ?_
          refine r_il rfl rfl ?_
          refine r_ia rfl xg_19 (by omega) (by omega) (by decide) ?_
          refine r_eq e5 ?_
          refine r_isw (lv' := [(4, _), (3, _), (2, _), (0, _), (1, _)]) rfl rfl rfl ?_
          refine r_al rfl rfl ?_
          refine r_gf rfl rfl xg_31 rfl ?_
          refine r_ilw rfl rfl ?_
          refine r_v2s rfl rfl xg_4 rfl (c_restC1 (by omega)) ?_
          refine r_eq ec ?_
          refine r_al rfl rfl ?_
          refine r_gf rfl rfl xg_31 rfl ?_
          refine r_il rfl rfl ?_
          refine r_ilw rfl rfl ?_
          refine r_add rfl ?_
          refine r_ia rfl xg_32 (by omega) (by omega) (by decide) ?_
          refine r_eq hpv ?_
          refine r_sub rfl ?_
          refine r_isw (lv' := [(5, _), (4, _), (3, _), (2, _), (0, _), (1, _)]) rfl rfl rfl ?_
          refine r_al rfl rfl ?_
          refine r_gf rfl rfl xg_31 rfl ?_
          refine r_bi rfl (by decide) ?_
          refine r_il rfl rfl ?_
          refine r_add rfl ?_
          refine r_ic rfl ?_
          refine r_al rfl rfl ?_
          refine r_gf rfl rfl xg_31 rfl ?_
          refine r_il rfl rfl ?_
          refine r_v2s rfl rfl xg_4 rfl (c_leftC1 (by omega)) ?_
          refine r_nrm ?_
          refine r_ilw rfl rfl ?_
          refine r_s2s rfl rfl rfl (c_minC (nrm_r _) (by omega)) ?_
          refine r_s2s rfl rfl rfl (c_maxC (by decide) hmr) ?_
          refine r_eq ev ?_
          refine r_ias rfl xg_33 (by omega) (by omega) (by decide) xs_33 ?_
          refine r_al rfl rfl ?_
          refine r_gf rfl rfl xg_31 rfl ?_
          refine r_al rfl rfl ?_
          refine r_gf rfl rfl xg_14 rfl ?_
          refine r_il rfl rfl ?_
          refine r_ia rfl xg_18 (by omega) (by omega) (by decide) ?_
          refine r_eq e4 ?_
          refine r_dup2 rfl rfl rfl ?_
          refine r_ia rfl xg_34 (by omega) (by omega) (by decide) ?_
          refine r_al rfl rfl ?_
          refine r_gf rfl rfl xg_31 rfl ?_
          refine r_bi rfl (by decide) ?_
          refine r_il rfl rfl ?_
          refine r_add rfl ?_
          refine r_ia rfl xg_33 (by omega) (by omega) (by decide) ?_
          refine r_eq eu ?_
          refine r_add rfl ?_
          refine r_ias rfl xg_34 (by omega) (by omega) (by decide) xs_34 ?_
          refine r_inc (lv' := [(3, _), (5, _), (4, _), (2, _), (0, _), (1, _)]) rfl rfl rfl rfl ?_
          refine r_goto rfl rfl ?_
          refine rn_LE (a := [(3, iv ((j : Int) + 1)), (2, .ref 14), (0, .ref 31), (1, iv (B))]) ⟨(List.forall_mem_cons.mpr ⟨List.mem_cons_self, (List.forall_mem_cons.mpr ⟨(List.mem_cons_of_mem _ (List.mem_cons_of_mem _ (List.mem_cons_of_mem _ List.mem_cons_self))), (List.forall_mem_cons.mpr ⟨(List.mem_cons_of_mem _ (List.mem_cons_of_mem _ (List.mem_cons_of_mem _ (List.mem_cons_of_mem _ List.mem_cons_self)))), (List.forall_mem_cons.mpr ⟨(List.mem_cons_of_mem _ (List.mem_cons_of_mem _ (List.mem_cons_of_mem _ (List.mem_cons_of_mem _ (List.mem_cons_of_mem _ List.mem_cons_self))))), (fun _ h => absurd h List.not_mem_nil)⟩)⟩)⟩)⟩), (by show List.Nodup [3, 2, 0, 1]; decide), (by show List.Nodup [3, 5, 4, 2, 0, 1]; decide)⟩ ?_
          have hU2 := dui_s hU hpj
          have hD2 := dsi_s hD hpj hoj (by omega)
          refine rn_up (by omega) (ih (j + 1) _ _ (by omega) ?_ hD2)
          rw [show Int.toNat (10 + (j : Int)) = 10 + j by omega]
          exact hU2
theorem c_fd1 (hP : PH eb mb re fl b1 b2 b3 b4 b5 b6 b7 b8 g1 g2 g3 g4 g5 s de sd) (hr : r < 200) (hB : B = 26 * (r : Int)) (hrow : ∀ k : Nat, k < 26 → pd (26 * r + k) = Int32.ofInt ((rkR eb mb de sd s r) k)) : ∃ du' ds' : Nat → Int32, sX9_findDues [.ref 31, iv B] (cW ki ln bt rl cp cs ct cv 14 5 ja ea ma a1 a2 a3 a4 a5 a6 a7 a8 jb eb mb b1 b2 b3 b4 b5 b6 b7 b8 re fl g1 g2 g3 g4 g5 (dW rt la rs rg pd du ds me tt gr su gp mk rf m1 m2 m3 m4 m5 mr mf n1 n2 n3 n4 n5 nr nf E)) = some (none, (cW ki ln bt rl cp cs ct cv 14 5 ja ea ma a1 a2 a3 a4 a5 a6 a7 a8 jb eb mb b1 b2 b3 b4 b5 b6 b7 b8 re fl g1 g2 g3 g4 g5 (dW rt la rs rg pd du' ds' me tt gr su gp mk rf m1 m2 m3 m4 m5 mr mf n1 n2 n3 n4 n5 nr nf E))) ∧ dui eb mb de sd s (rkR eb mb de sd s r) 26 du' ∧ dsi eb mb de sd s (rkR eb mb de sd s r) 26 ds' := by
  obtain ⟨hL, hRd, hRs, hV, hd, hn, hS, hE, hRS, hX⟩ := id hP
  have main : rn_X9_findDues (20 + 90 * 16 + 90 + 20 + 60 * 10 + 60 + 20) (0, [(0, .ref 31), (1, iv (B))], [], (cW ki ln bt rl cp cs ct cv 14 5 ja ea ma a1 a2 a3 a4 a5 a6 a7 a8 jb eb mb b1 b2 b3 b4 b5 b6 b7 b8 re fl g1 g2 g3 g4 g5 (dW rt la rs rg pd du ds me tt gr su gp mk rf m1 m2 m3 m4 m5 mr mf n1 n2 n3 n4 n5 nr nf E))) (fun x => ∃ du' ds' : Nat → Int32, x = (none, (cW ki ln bt rl cp cs ct cv 14 5 ja ea ma a1 a2 a3 a4 a5 a6 a7 a8 jb eb mb b1 b2 b3 b4 b5 b6 b7 b8 re fl g1 g2 g3 g4 g5 (dW rt la rs rg pd du' ds' me tt gr su gp mk rf m1 m2 m3 m4 m5 mr mf n1 n2 n3 n4 n5 nr nf E))) ∧ dui eb mb de sd s (rkR eb mb de sd s r) 26 du' ∧ dsi eb mb de sd s (rkR eb mb de sd s r) 26 ds') := by
    refine r_al rfl rfl ?_
    refine r_gf rfl rfl xg_31 rfl ?_
    refine r_gf rfl rfl xg_4 rfl ?_
    refine r_as (lv' := [(2, _), (0, _), (1, _)]) rfl rfl rfl ?_
    refine r_al rfl rfl ?_
    refine r_gf rfl rfl xg_31 rfl ?_
    refine r_ic rfl ?_
    refine r_s2n rfl rfl rfl c_fillx33 ?_
    refine r_al rfl rfl ?_
    refine r_gf rfl rfl xg_31 rfl ?_
    refine r_ic rfl ?_
    refine r_s2n rfl rfl rfl c_fillx34 ?_
    refine r_ic rfl ?_
    refine r_is (lv' := [(3, _), (2, _), (0, _), (1, _)]) rfl rfl rfl ?_
    have hU0 : dui eb mb de sd s (rkR eb mb de sd s r) 0 (cpy 26 du zz) := fun k hk => by
      rw [cpz_lt hk]; rfl
    have hD0 : dsi eb mb de sd s (rkR eb mb de sd s r) 0 (cpy 8 ds zz) := fun k hk => by
      rw [cpz_lt hk]; rfl
    refine rn_up (N := (20 + 90 * 16 + 90 + 20) + 60 * eb.toNat + 60) (by omega) (fd_11 (N := 20 + 90 * 16 + 90 + 20) hP hr hB hrow (fun du ds hU hD => ?_) eb.toNat 0 _ _ (by omega) hU0 hD0)
    refine r_ic rfl ?_
    refine r_is (lv' := [(3, _), (2, _), (0, _), (1, _)]) rfl rfl rfl ?_
    have hU1 : dui eb mb de sd s (rkR eb mb de sd s r) 10 du := gap_d (sn := mb) (T := fun j => dui eb mb de sd s (rkR eb mb de sd s r) j du) hd (fun j hj h => dui_k h (Or.inl hj)) hU
    have hD1 : dsi eb mb de sd s (rkR eb mb de sd s r) 10 ds := gap_d (sn := mb) (T := fun j => dsi eb mb de sd s (rkR eb mb de sd s r) j ds) hd (fun j hj h => dsi_k h (Or.inl hj)) hD
    refine rn_up (N := 20 + 90 * mb.toNat + 90) (by omega) (fd_21 (N := 20) hP hr hB hrow (fun du ds hU hD => ?_) mb.toNat 0 _ _ (by omega) hU1 hD1)
    exact r_retv rfl rfl ⟨du, ds, rfl, gap_s (db := eb) (T := fun j => dui eb mb de sd s (rkR eb mb de sd s r) j du) hn (fun j hj h => dui_k h (Or.inl hj)) hU, gap_s (db := eb) (T := fun j => dsi eb mb de sd s (rkR eb mb de sd s r) j ds) hn (fun j hj h => dsi_k h (Or.inl hj)) hD⟩
  obtain ⟨x, h1, du', ds', h2, h3⟩ := rn_S (vs := [.ref 31, iv B]) rfl (rn_up (N := 20 + 90 * 16 + 90 + 20 + 60 * 10 + 60 + 20) (M := mm_fuel) (by decide) main)
  have h1 : sX9_findDues [.ref 31, iv B] (cW ki ln bt rl cp cs ct cv 14 5 ja ea ma a1 a2 a3 a4 a5 a6 a7 a8 jb eb mb b1 b2 b3 b4 b5 b6 b7 b8 re fl g1 g2 g3 g4 g5 (dW rt la rs rg pd du ds me tt gr su gp mk rf m1 m2 m3 m4 m5 mr mf n1 n2 n3 n4 n5 nr nf E)) = some x := h1
  exact ⟨du', ds', by rw [h1, h2], h3⟩
theorem c_acpm1 : mm_acp [.ref 28, iv 0, .ref 35, iv 0, iv 8] (cW ki ln bt rl cp cs ct cv 14 5 ja ea ma a1 a2 a3 a4 a5 a6 a7 a8 jb eb mb b1 b2 b3 b4 b5 b6 b7 b8 re fl g1 g2 g3 g4 g5 (dW rt la rs rg pd du ds me tt gr su gp mk rf m1 m2 m3 m4 m5 mr mf n1 n2 n3 n4 n5 nr nf E)) = some (none, (cW ki ln bt rl cp cs ct cv 14 5 ja ea ma a1 a2 a3 a4 a5 a6 a7 a8 jb eb mb b1 b2 b3 b4 b5 b6 b7 b8 re fl g1 g2 g3 g4 g5 (dW rt la rs rg pd du ds (va_cpy g5 me 0 0 8) tt gr su gp mk rf m1 m2 m3 m4 m5 mr mf n1 n2 n3 n4 n5 nr nf E))) := rfl
theorem fm_11 (hP : PH eb mb re fl b1 b2 b3 b4 b5 b6 b7 b8 g1 g2 g3 g4 g5 s de sd) (hr : r < 200) (hB : B = 26 * (r : Int)) (hrow : ∀ k : Nat, k < 26 → pd (26 * r + k) = Int32.ofInt ((rkR eb mb de sd s r) k)) (k : ∀ me : Nat → Int32, mei eb mb de sd s (rkR eb mb de sd s r) (eb.toNat) me → rn_X9_findMeans N (67, [(3, iv (((eb.toNat : Nat) : Int))), (2, .ref 14), (0, .ref 31), (1, iv (B))], [], (cW ki ln bt rl cp cs ct cv 14 5 ja ea ma a1 a2 a3 a4 a5 a6 a7 a8 jb eb mb b1 b2 b3 b4 b5 b6 b7 b8 re fl g1 g2 g3 g4 g5 (dW rt la rs rg pd du ds me tt gr su gp mk rf m1 m2 m3 m4 m5 mr mf n1 n2 n3 n4 n5 nr nf E))) Q) : ∀ (m j : Nat) (me : Nat → Int32), j + m = eb.toNat → mei eb mb de sd s (rkR eb mb de sd s r) (j) me → rn_X9_findMeans (N + 40 * m + 40) (31, [(3, iv ((j : Int))), (2, .ref 14), (0, .ref 31), (1, iv (B))], [], (cW ki ln bt rl cp cs ct cv 14 5 ja ea ma a1 a2 a3 a4 a5 a6 a7 a8 jb eb mb b1 b2 b3 b4 b5 b6 b7 b8 re fl g1 g2 g3 g4 g5 (dW rt la rs rg pd du ds me tt gr su gp mk rf m1 m2 m3 m4 m5 mr mf n1 n2 n3 n4 n5 nr nf E))) Q := by
  obtain ⟨hL, hRd, hRs, hV, hd, hn, hS, hE, hRS, hX⟩ := id hP
  intro m
  induction m with
  | zero =>
    intro j me hj hU
    have hj : j = eb.toNat := by omega
    subst hj
    refine rn_up (N := N + 40) (by omega) ?_
    refine r_il rfl rfl ?_
    refine r_al rfl rfl ?_
    refine r_gf rfl rfl xg_14 rfl ?_
    refine r_cge rfl rfl (by omega) (by omega) (fun u1 => ?_) (fun u1 => ?_)
    · exact rn_up (by omega) (k me hU)
    · omega
  | succ m ih =>
    intro j me hj hU
    refine rn_up (N := N + 40 * m + 40 + 40) (by omega) ?_
    refine r_il rfl rfl ?_
    refine r_al rfl rfl ?_
    refine r_gf rfl rfl xg_14 rfl ?_
    refine r_cge rfl rfl (by omega) (by omega) (fun u1 => ?_) (fun u1 => ?_)
    · omega
    · obtain ⟨-, e2, -, hd0⟩ := P_de hP (d := (j : Int)) ⟨by omega, by omega⟩
      obtain ⟨w, hw⟩ := Int.eq_ofNat_of_zero_le hd0.1
      rw [hw] at e2
      have hpj : rkP eb mb j = true := by rw [rkP_d (by omega)]; exact decide_eq_true (by omega)
      have hoj : rkT de sd j = (w : Int) := by unfold rkT; rw [decide_eq_true (by omega)]; exact hw
      have hR := rkR_r (sn := mb) hd.2 hRS hE hS hX r j (by omega)
      have hpv : (pd (Int.toNat (B + (j : Int)))).toInt = (rkR eb mb de sd s r) j := by
        rw [show Int.toNat (B + (j : Int)) = 26 * r + j by omega, hrow j (by omega)]
        exact iv_to ⟨by omega, by omega⟩
      refine r_al rfl rfl ?_
      refine r_gf rfl rfl xg_31 rfl ?_
      refine r_al rfl rfl ?_
      refine r_gf rfl rfl xg_14 rfl ?_
      refine r_il rfl rfl ?_
      refine r_ia rfl xg_16 (by omega) (by omega) (by decide) ?_
      refine r_eq e2 ?_
      refine r_dup2 rfl rfl rfl ?_
      refine r_ia rfl xg_35 (by omega) (by omega) (by decide) ?_
      refine r_al rfl rfl ?_
      refine r_gf rfl rfl xg_31 rfl ?_
      refine r_il rfl rfl ?_
      refine r_il rfl rfl ?_
      refine r_add rfl ?_
      refine r_ia rfl xg_32 (by omega) (by omega) (by decide) ?_
      refine r_eq hpv ?_
      refine r_add rfl ?_
      refine r_ias rfl xg_35 (by omega) (by omega) (by decide) xs_35 ?_
      refine r_inc (lv' := [(3, _), (2, _), (0, _), (1, _)]) rfl rfl rfl rfl ?_
      refine r_goto rfl rfl ?_
      exact rn_up (by omega) (ih (j + 1) _ (by omega) (mei_s hU hpj hoj rfl))
theorem fm_21 (hP : PH eb mb re fl b1 b2 b3 b4 b5 b6 b7 b8 g1 g2 g3 g4 g5 s de sd) (hr : r < 200) (hB : B = 26 * (r : Int)) (hrow : ∀ k : Nat, k < 26 → pd (26 * r + k) = Int32.ofInt ((rkR eb mb de sd s r) k)) (k : ∀ me : Nat → Int32, mei eb mb de sd s (rkR eb mb de sd s r) (10 + mb.toNat) me → rn_X9_findMeans N (113, [(3, iv (((mb.toNat : Nat) : Int))), (2, .ref 14), (0, .ref 31), (1, iv (B))], [], (cW ki ln bt rl cp cs ct cv 14 5 ja ea ma a1 a2 a3 a4 a5 a6 a7 a8 jb eb mb b1 b2 b3 b4 b5 b6 b7 b8 re fl g1 g2 g3 g4 g5 (dW rt la rs rg pd du ds me tt gr su gp mk rf m1 m2 m3 m4 m5 mr mf n1 n2 n3 n4 n5 nr nf E))) Q) : ∀ (m j : Nat) (me : Nat → Int32), j + m = mb.toNat → mei eb mb de sd s (rkR eb mb de sd s r) (10 + j) me → rn_X9_findMeans (N + 50 * m + 50) (69, [(3, iv ((j : Int))), (2, .ref 14), (0, .ref 31), (1, iv (B))], [], (cW ki ln bt rl cp cs ct cv 14 5 ja ea ma a1 a2 a3 a4 a5 a6 a7 a8 jb eb mb b1 b2 b3 b4 b5 b6 b7 b8 re fl g1 g2 g3 g4 g5 (dW rt la rs rg pd du ds me tt gr su gp mk rf m1 m2 m3 m4 m5 mr mf n1 n2 n3 n4 n5 nr nf E))) Q := by
  obtain ⟨hL, hRd, hRs, hV, hd, hn, hS, hE, hRS, hX⟩ := id hP
  intro m
  induction m with
  | zero =>
    intro j me hj hU
    have hj : j = mb.toNat := by omega
    subst hj
    refine rn_up (N := N + 50) (by omega) ?_
    refine r_il rfl rfl ?_
    refine r_al rfl rfl ?_
    refine r_gf rfl rfl xg_14 rfl ?_
    refine r_cge rfl rfl (by omega) (by omega) (fun u1 => ?_) (fun u1 => ?_)
    · exact rn_up (by omega) (k me hU)
    · omega
  | succ m ih =>
    intro j me hj hU
    refine rn_up (N := N + 50 * m + 50 + 50) (by omega) ?_
    refine r_il rfl rfl ?_
    refine r_al rfl rfl ?_
    refine r_gf rfl rfl xg_14 rfl ?_
    refine r_cge rfl rfl (by omega) (by omega) (fun u1 => ?_) (fun u1 => ?_)
    · omega
    · obtain ⟨-, e5, -, -, -, hp5, -⟩ := P_st hP (i := (j : Int)) ⟨by omega, by omega⟩
      obtain ⟨d, hdd⟩ := Int.eq_ofNat_of_zero_le hp5.1
      rw [hdd] at e5
      obtain ⟨-, e2, -, hd0⟩ := P_de hP (d := (d : Int)) ⟨by omega, by omega⟩
      obtain ⟨w, hw⟩ := Int.eq_ofNat_of_zero_le hd0.1
      rw [hw] at e2
      have ek : ((10 + j : Nat) : Int) - 10 = (j : Int) := by omega
      have hpj : rkP eb mb (10 + j) = true := by rw [rkP_s (by omega)]; exact decide_eq_true (by omega)
      have hoj : rkT de sd (10 + j) = (w : Int) := by unfold rkT; rw [decide_eq_false (by omega), cond_false, ek, hdd]; exact hw
      have hR := rkR_r (sn := mb) hd.2 hRS hE hS hX r (10 + j) (by omega)
      have hpv : (pd (Int.toNat (B + 10 + (j : Int)))).toInt = (rkR eb mb de sd s r) (10 + j) := by
        rw [show Int.toNat (B + 10 + (j : Int)) = 26 * r + (10 + j) by omega, hrow (10 + j) (by omega)]
        exact iv_to ⟨by omega, by omega⟩
      refine r_al rfl rfl ?_
      refine r_gf rfl rfl xg_31 rfl ?_
      refine r_al rfl rfl ?_
      refine r_gf rfl rfl xg_14 rfl ?_
      refine r_al rfl rfl ?_
      refine r_gf rfl rfl xg_14 rfl ?_
      refine r_il rfl rfl ?_
      refine r_ia rfl xg_19 (by omega) (by omega) (by decide) ?_
      refine r_eq e5 ?_
      refine r_ia rfl xg_16 (by omega) (by omega) (by decide) ?_
      refine r_eq e2 ?_
      refine r_dup2 rfl rfl rfl ?_
      refine r_ia rfl xg_35 (by omega) (by omega) (by decide) ?_
      refine r_al rfl rfl ?_
      refine r_gf rfl rfl xg_31 rfl ?_
      refine r_il rfl rfl ?_
      refine r_bi rfl (by decide) ?_
      refine r_add rfl ?_
      refine r_il rfl rfl ?_
      refine r_add rfl ?_
      refine r_ia rfl xg_32 (by omega) (by omega) (by decide) ?_
      refine r_eq hpv ?_
      refine r_add rfl ?_
      refine r_ias rfl xg_35 (by omega) (by omega) (by decide) xs_35 ?_
      refine r_inc (lv' := [(3, _), (2, _), (0, _), (1, _)]) rfl rfl rfl rfl ?_
      refine r_goto rfl rfl ?_
      exact rn_up (by omega) (ih (j + 1) _ (by omega) (mei_s hU hpj hoj rfl))
theorem c_fm1 (hP : PH eb mb re fl b1 b2 b3 b4 b5 b6 b7 b8 g1 g2 g3 g4 g5 s de sd) (hr : r < 200) (hB : B = 26 * (r : Int)) (hrow : ∀ k : Nat, k < 26 → pd (26 * r + k) = Int32.ofInt ((rkR eb mb de sd s r) k)) : ∃ me' : Nat → Int32, sX9_findMeans [.ref 31, iv B] (cW ki ln bt rl cp cs ct cv 14 5 ja ea ma a1 a2 a3 a4 a5 a6 a7 a8 jb eb mb b1 b2 b3 b4 b5 b6 b7 b8 re fl g1 g2 g3 g4 g5 (dW rt la rs rg pd du ds me tt gr su gp mk rf m1 m2 m3 m4 m5 mr mf n1 n2 n3 n4 n5 nr nf E)) = some (none, (cW ki ln bt rl cp cs ct cv 14 5 ja ea ma a1 a2 a3 a4 a5 a6 a7 a8 jb eb mb b1 b2 b3 b4 b5 b6 b7 b8 re fl g1 g2 g3 g4 g5 (dW rt la rs rg pd du ds me' tt gr su gp mk rf m1 m2 m3 m4 m5 mr mf n1 n2 n3 n4 n5 nr nf E))) ∧ mei eb mb de sd s (rkR eb mb de sd s r) 26 me' := by
  obtain ⟨hL, hRd, hRs, hV, hd, hn, hS, hE, hRS, hX⟩ := id hP
  have main : rn_X9_findMeans (20 + 50 * 16 + 50 + 20 + 40 * 10 + 40 + 30) (0, [(0, .ref 31), (1, iv (B))], [], (cW ki ln bt rl cp cs ct cv 14 5 ja ea ma a1 a2 a3 a4 a5 a6 a7 a8 jb eb mb b1 b2 b3 b4 b5 b6 b7 b8 re fl g1 g2 g3 g4 g5 (dW rt la rs rg pd du ds me tt gr su gp mk rf m1 m2 m3 m4 m5 mr mf n1 n2 n3 n4 n5 nr nf E))) (fun x => ∃ me' : Nat → Int32, x = (none, (cW ki ln bt rl cp cs ct cv 14 5 ja ea ma a1 a2 a3 a4 a5 a6 a7 a8 jb eb mb b1 b2 b3 b4 b5 b6 b7 b8 re fl g1 g2 g3 g4 g5 (dW rt la rs rg pd du ds me' tt gr su gp mk rf m1 m2 m3 m4 m5 mr mf n1 n2 n3 n4 n5 nr nf E))) ∧ mei eb mb de sd s (rkR eb mb de sd s r) 26 me') := by
    refine r_al rfl rfl ?_
    refine r_gf rfl rfl xg_31 rfl ?_
    refine r_gf rfl rfl xg_4 rfl ?_
    refine r_as (lv' := [(2, _), (0, _), (1, _)]) rfl rfl rfl ?_
    refine r_al rfl rfl ?_
    refine r_gf rfl rfl xg_31 rfl ?_
    refine r_gf rfl rfl xg_4 rfl ?_
    refine r_gf rfl rfl xg_23 rfl ?_
    refine r_ic rfl ?_
    refine r_al rfl rfl ?_
    refine r_gf rfl rfl xg_31 rfl ?_
    refine r_ic rfl ?_
    refine r_bi rfl (by decide) ?_
    refine r_s5n rfl rfl rfl c_acpm1 ?_
    refine r_ic rfl ?_
    refine r_is (lv' := [(3, _), (2, _), (0, _), (1, _)]) rfl rfl rfl ?_
    have hU0 : mei eb mb de sd s (rkR eb mb de sd s r) 0 (va_cpy g5 me 0 0 8) := fun k hk => by
      have e : va_cpy g5 me 0 0 8 k = g5 k := by unfold va_cpy; simp [hk]
      rw [e, hL.2.2.2.2.1 k hk]
      show s (122 + k) = Int32.ofInt (s (Int.toNat (122 + (k : Int)))).toInt
      rw [Int32.ofInt_toInt, show Int.toNat (122 + (k : Int)) = 122 + k by omega]
    refine rn_up (N := (20 + 50 * 16 + 50 + 20) + 40 * eb.toNat + 40) (by omega) (fm_11 (N := 20 + 50 * 16 + 50 + 20) hP hr hB hrow (fun me hU => ?_) eb.toNat 0 _ (by omega) hU0)
    refine r_ic rfl ?_
    refine r_is (lv' := [(3, _), (2, _), (0, _), (1, _)]) rfl rfl rfl ?_
    have hU1 : mei eb mb de sd s (rkR eb mb de sd s r) 10 me := gap_d (sn := mb) (T := fun j => mei eb mb de sd s (rkR eb mb de sd s r) j me) hd (fun j hj h => mei_k h hj) hU
    refine rn_up (N := 20 + 50 * mb.toNat + 50) (by omega) (fm_21 (N := 20) hP hr hB hrow (fun me hU => ?_) mb.toNat 0 _ (by omega) hU1)
    exact r_retv rfl rfl ⟨me, rfl, gap_s (db := eb) (T := fun j => mei eb mb de sd s (rkR eb mb de sd s r) j me) hn (fun j hj h => mei_k h hj) hU⟩
  obtain ⟨x, h1, me', h2, h3⟩ := rn_S (vs := [.ref 31, iv B]) rfl (rn_up (N := 20 + 50 * 16 + 50 + 20 + 40 * 10 + 40 + 30) (M := mm_fuel) (by decide) main)
  have h1 : sX9_findMeans [.ref 31, iv B] (cW ki ln bt rl cp cs ct cv 14 5 ja ea ma a1 a2 a3 a4 a5 a6 a7 a8 jb eb mb b1 b2 b3 b4 b5 b6 b7 b8 re fl g1 g2 g3 g4 g5 (dW rt la rs rg pd du ds me tt gr su gp mk rf m1 m2 m3 m4 m5 mr mf n1 n2 n3 n4 n5 nr nf E)) = some x := h1
  exact ⟨me', by rw [h1, h2], h3⟩
theorem c_pay11 (hP : PH eb mb re fl b1 b2 b3 b4 b5 b6 b7 b8 g1 g2 g3 g4 g5 s de sd) {i : Nat} (hi : i < 26) (hpi : rkP eb mb i = true) (hU : dui eb mb de sd s (rkR eb mb de sd s r) 26 du) (hD : dsi eb mb de sd s (rkR eb mb de sd s r) 26 ds) (hM : mei eb mb de sd s (rkR eb mb de sd s r) 26 me) : sX9_paymentOf [.ref 31, iv ((i : Int))] (cW ki ln bt rl cp cs ct cv 14 5 ja ea ma a1 a2 a3 a4 a5 a6 a7 a8 jb eb mb b1 b2 b3 b4 b5 b6 b7 b8 re fl g1 g2 g3 g4 g5 (dW rt la rs rg pd du ds me tt gr su gp mk rf m1 m2 m3 m4 m5 mr mf n1 n2 n3 n4 n5 nr nf E)) = some (some (iv (rkV (rkD de sd s (rkR eb mb de sd s r) i) (rkH eb mb de sd s (rkR eb mb de sd s r) (rkO de sd i) 26) (rkA eb mb de sd s (rkR eb mb de sd s r) (rkO de sd i) 26))), (cW ki ln bt rl cp cs ct cv 14 5 ja ea ma a1 a2 a3 a4 a5 a6 a7 a8 jb eb mb b1 b2 b3 b4 b5 b6 b7 b8 re fl g1 g2 g3 g4 g5 (dW rt la rs rg pd du ds me tt gr su gp mk rf m1 m2 m3 m4 m5 mr mf n1 n2 n3 n4 n5 nr nf E))) := by
  have main : ∀ Q : mm_R → Prop, Q (some (iv (rkV (rkD de sd s (rkR eb mb de sd s r) i) (rkH eb mb de sd s (rkR eb mb de sd s r) (rkO de sd i) 26) (rkA eb mb de sd s (rkR eb mb de sd s r) (rkO de sd i) 26))), (cW ki ln bt rl cp cs ct cv 14 5 ja ea ma a1 a2 a3 a4 a5 a6 a7 a8 jb eb mb b1 b2 b3 b4 b5 b6 b7 b8 re fl g1 g2 g3 g4 g5 (dW rt la rs rg pd du ds me tt gr su gp mk rf m1 m2 m3 m4 m5 mr mf n1 n2 n3 n4 n5 nr nf E))) → rn_X9_paymentOf (1000) (0, [(0, .ref 31), (1, iv ((i : Int)))], [], (cW ki ln bt rl cp cs ct cv 14 5 ja ea ma a1 a2 a3 a4 a5 a6 a7 a8 jb eb mb b1 b2 b3 b4 b5 b6 b7 b8 re fl g1 g2 g3 g4 g5 (dW rt la rs rg pd du ds me tt gr su gp mk rf m1 m2 m3 m4 m5 mr mf n1 n2 n3 n4 n5 nr nf E))) Q := by
    intro Q hQ
    obtain ⟨hL, hRd, hRs, hV, hd, hn, hS, hE, hRS, hX⟩ := id hP
    have hR := rkR_r (sn := mb) hd.2 hRS hE hS hX r
    have hor := rkO_r hE hS hi
    obtain ⟨w, hw⟩ := Int.eq_ofNat_of_zero_le hor.1
    have hw8 : w < 8 := by omega
    have hDr := rkD_r hRS hE hS hX hR hi
    have hHr := rkH_r (db := eb) (sn := mb) (de := de) (sd := sd) hRS hR (show 0 ≤ (w : Int) ∧ (w : Int) ≤ 7 by omega) 26 (Nat.le_refl _)
    have hAr := rkA_r (db := eb) (sn := mb) hRS hE hS hX hR (p := (w : Int)) 26 (Nat.le_refl _)
    rw [hw] at hQ
    have eu : (du (Int.toNat (i : Int))).toInt = rkD de sd s (rkR eb mb de sd s r) i := by
      rw [show Int.toNat (i : Int) = i from rfl, hU i hi, decide_eq_true hi, hpi, Bool.true_and, cond_true]
      exact iv_to ⟨by omega, by omega⟩
    have es : (ds (Int.toNat (w : Int))).toInt = rkA eb mb de sd s (rkR eb mb de sd s r) (w : Int) 26 := by
      rw [show Int.toNat (w : Int) = w from rfl, hD w hw8]
      exact iv_to ⟨by omega, by omega⟩
    have em : (me (Int.toNat (w : Int))).toInt = rkH eb mb de sd s (rkR eb mb de sd s r) (w : Int) 26 := by
      rw [show Int.toNat (w : Int) = w from rfl, hM w hw8]
      exact iv_to ⟨by omega, by omega⟩
    have p0 : 0 ≤ rkD de sd s (rkR eb mb de sd s r) i * rkH eb mb de sd s (rkR eb mb de sd s r) (w : Int) 26 := Int.mul_nonneg hDr.1 hHr.1
    have p1 : rkD de sd s (rkR eb mb de sd s r) i * rkH eb mb de sd s (rkR eb mb de sd s r) (w : Int) 26 ≤ 999 * 36000 := Int.mul_le_mul hDr.2 (by omega) hHr.1 (by decide)
    refine r_il rfl rfl ?_
    refine r_bi rfl (by decide) ?_
    have K : rn_X9_paymentOf 100 (36, [(0, .ref 31), (1, iv ((i : Int)))], [iv ((w : Int))], (cW ki ln bt rl cp cs ct cv 14 5 ja ea ma a1 a2 a3 a4 a5 a6 a7 a8 jb eb mb b1 b2 b3 b4 b5 b6 b7 b8 re fl g1 g2 g3 g4 g5 (dW rt la rs rg pd du ds me tt gr su gp mk rf m1 m2 m3 m4 m5 mr mf n1 n2 n3 n4 n5 nr nf E))) Q := by
      refine r_is (lv' := [(2, _), (0, _), (1, _)]) rfl rfl rfl ?_
      refine r_al rfl rfl ?_
      refine r_gf rfl rfl xg_31 rfl ?_
      refine r_il rfl rfl ?_
      refine r_ia rfl xg_35 (by omega) (by omega) (by decide) ?_
      refine r_eq em ?_
      refine r_al rfl rfl ?_
      refine r_gf rfl rfl xg_31 rfl ?_
      refine r_il rfl rfl ?_
      refine r_ia rfl xg_34 (by omega) (by omega) (by decide) ?_
      refine r_eq es ?_
      refine r_cge rfl rfl (by omega) (by omega) (fun u1 => ?_) (fun u1 => ?_)
      · have e : rkV (rkD de sd s (rkR eb mb de sd s r) i) (rkH eb mb de sd s (rkR eb mb de sd s r) (w : Int) 26) (rkA eb mb de sd s (rkR eb mb de sd s r) (w : Int) 26) = rkD de sd s (rkR eb mb de sd s r) i := by unfold rkV; rw [decide_eq_true (by omega)]; rfl
        rw [e] at hQ
        refine r_al rfl rfl ?_
        refine r_gf rfl rfl xg_31 rfl ?_
        refine r_il rfl rfl ?_
        refine r_ia rfl xg_33 (by omega) (by omega) (by decide) ?_
        refine r_eq eu ?_
        exact r_ret rfl rfl hQ
      · refine r_al rfl rfl ?_
        refine r_gf rfl rfl xg_31 rfl ?_
        refine r_il rfl rfl ?_
        refine r_ia rfl xg_34 (by omega) (by omega) (by decide) ?_
        refine r_eq es ?_
        refine r_zgt rfl rfl (by omega) (fun u2 => ?_) (fun u2 => ?_)
        · have e : rkV (rkD de sd s (rkR eb mb de sd s r) i) (rkH eb mb de sd s (rkR eb mb de sd s r) (w : Int) 26) (rkA eb mb de sd s (rkR eb mb de sd s r) (w : Int) 26) = rkD de sd s (rkR eb mb de sd s r) i * rkH eb mb de sd s (rkR eb mb de sd s r) (w : Int) 26 / rkA eb mb de sd s (rkR eb mb de sd s r) (w : Int) 26 := by unfold rkV; rw [decide_eq_false (by omega)]; rfl
          rw [e] at hQ
          refine r_al rfl rfl ?_
          refine r_gf rfl rfl xg_31 rfl ?_
          refine r_il rfl rfl ?_
          refine r_ia rfl xg_33 (by omega) (by omega) (by decide) ?_
          refine r_eq eu ?_
          refine r_al rfl rfl ?_
          refine r_gf rfl rfl xg_31 rfl ?_
          refine r_il rfl rfl ?_
          refine r_ia rfl xg_35 (by omega) (by omega) (by decide) ?_
          refine r_eq em ?_
          refine r_mul rfl ?_
          refine r_al rfl rfl ?_
          refine r_gf rfl rfl xg_31 rfl ?_
          refine r_il rfl rfl ?_
          refine r_ia rfl xg_34 (by omega) (by omega) (by decide) ?_
          refine r_eq es ?_
          refine r_div rfl ⟨p0, by omega⟩ (by omega) ?_
          exact r_ret rfl rfl hQ
        · omega
    refine r_cge rfl rfl (by omega) (by omega) (fun u1 => ?_) (fun u1 => ?_)
    · have hq : ((i : Int) - 10) < mb := by
        rw [rkP_s (by omega)] at hpi
        exact of_decide_eq_true hpi
      obtain ⟨e4, -⟩ := P_st hP (i := (i : Int) - 10) ⟨by omega, by omega⟩
      have e4 : (b4 (Int.toNat ((i : Int) - 10))).toInt = (w : Int) := by
        rw [e4, ← hw]
        unfold rkO
        rw [decide_eq_false (by omega)]
        rfl
      refine r_al rfl rfl ?_
      refine r_gf rfl rfl xg_31 rfl ?_
      refine r_gf rfl rfl xg_4 rfl ?_
      refine r_gf rfl rfl xg_14 rfl ?_
      refine r_il rfl rfl ?_
      refine r_bi rfl (by decide) ?_
      refine r_sub rfl ?_
      refine r_ia rfl xg_18 (by omega) (by omega) (by decide) ?_
      refine r_eq e4 ?_
      exact rn_up (N := 100) (by decide) K
    · have hq : (i : Int) < eb := by
        rw [rkP_d (by omega)] at hpi
        exact of_decide_eq_true hpi
      obtain ⟨e1, -⟩ := P_de hP (d := (i : Int)) ⟨by omega, by omega⟩
      have e1 : (b1 (Int.toNat (i : Int))).toInt = (w : Int) := by
        rw [e1, ← hw]
        unfold rkO
        rw [decide_eq_true (by omega)]
        rfl
      refine r_al rfl rfl ?_
      refine r_gf rfl rfl xg_31 rfl ?_
      refine r_gf rfl rfl xg_4 rfl ?_
      refine r_gf rfl rfl xg_14 rfl ?_
      refine r_il rfl rfl ?_
      refine r_ia rfl xg_15 (by omega) (by omega) (by decide) ?_
      refine r_eq e1 ?_
      refine r_goto rfl rfl ?_
      exact rn_up (N := 100) (by decide) K
  obtain ⟨rz, h1, h2⟩ := rn_S (vs := [.ref 31, iv ((i : Int))]) (Q := fun rz => rz = (some (iv (rkV (rkD de sd s (rkR eb mb de sd s r) i) (rkH eb mb de sd s (rkR eb mb de sd s r) (rkO de sd i) 26) (rkA eb mb de sd s (rkR eb mb de sd s r) (rkO de sd i) 26))), (cW ki ln bt rl cp cs ct cv 14 5 ja ea ma a1 a2 a3 a4 a5 a6 a7 a8 jb eb mb b1 b2 b3 b4 b5 b6 b7 b8 re fl g1 g2 g3 g4 g5 (dW rt la rs rg pd du ds me tt gr su gp mk rf m1 m2 m3 m4 m5 mr mf n1 n2 n3 n4 n5 nr nf E)))) rfl (rn_up (N := 1000) (M := mm_fuel) (by decide) (main (fun rz => rz = (some (iv (rkV (rkD de sd s (rkR eb mb de sd s r) i) (rkH eb mb de sd s (rkR eb mb de sd s r) (rkO de sd i) 26) (rkA eb mb de sd s (rkR eb mb de sd s r) (rkO de sd i) 26))), (cW ki ln bt rl cp cs ct cv 14 5 ja ea ma a1 a2 a3 a4 a5 a6 a7 a8 jb eb mb b1 b2 b3 b4 b5 b6 b7 b8 re fl g1 g2 g3 g4 g5 (dW rt la rs rg pd du ds me tt gr su gp mk rf m1 m2 m3 m4 m5 mr mf n1 n2 n3 n4 n5 nr nf E)))) rfl))
  have h1 : sX9_paymentOf [.ref 31, iv ((i : Int))] (cW ki ln bt rl cp cs ct cv 14 5 ja ea ma a1 a2 a3 a4 a5 a6 a7 a8 jb eb mb b1 b2 b3 b4 b5 b6 b7 b8 re fl g1 g2 g3 g4 g5 (dW rt la rs rg pd du ds me tt gr su gp mk rf m1 m2 m3 m4 m5 mr mf n1 n2 n3 n4 n5 nr nf E)) = some rz := h1
  rw [h1, h2]
theorem pr_lp1 (hP : PH eb mb re fl b1 b2 b3 b4 b5 b6 b7 b8 g1 g2 g3 g4 g5 s de sd) (hr : r < 200) (hU : dui eb mb de sd s (rkR eb mb de sd s r) 26 du) (hD : dsi eb mb de sd s (rkR eb mb de sd s r) 26 ds) (hM : mei eb mb de sd s (rkR eb mb de sd s r) 26 me) (k : ∀ pd : Nat → Int32, rcJ eb mb de sd s (r + 1) 26 pd → rn_X9_payRound N (67, [(4, iv (((26 : Nat) : Int))), (3, iv (((r : Int) + 1) * 26)), (2, iv (((r : Int) + 1 - 1) * 26)), (0, .ref 31), (1, iv ((r : Int) + 1))], [], (cW ki ln bt rl cp cs ct cv 14 5 ja ea ma a1 a2 a3 a4 a5 a6 a7 a8 jb eb mb b1 b2 b3 b4 b5 b6 b7 b8 re fl g1 g2 g3 g4 g5 (dW rt la rs rg pd du ds me tt gr su gp mk rf m1 m2 m3 m4 m5 mr mf n1 n2 n3 n4 n5 nr nf E))) Q) : ∀ (m j : Nat) (pd : Nat → Int32), j + m = 26 → rcJ eb mb de sd s (r + 1) j pd → rn_X9_payRound (N + 40 * m + 40) (25, [(4, iv ((j : Int))), (3, iv (((r : Int) + 1) * 26)), (2, iv (((r : Int) + 1 - 1) * 26)), (0, .ref 31), (1, iv ((r : Int) + 1))], [], (cW ki ln bt rl cp cs ct cv 14 5 ja ea ma a1 a2 a3 a4 a5 a6 a7 a8 jb eb mb b1 b2 b3 b4 b5 b6 b7 b8 re fl g1 g2 g3 g4 g5 (dW rt la rs rg pd du ds me tt gr su gp mk rf m1 m2 m3 m4 m5 mr mf n1 n2 n3 n4 n5 nr nf E))) Q := by
  obtain ⟨hL, hRd, hRs, hV, hd, hn, hS, hE, hRS, hX⟩ := id hP
  intro m
  induction m with
  | zero =>
    intro j pd hj hJ
    have hj : j = 26 := by omega
    subst hj
    refine rn_up (N := N + 40) (by omega) ?_
    refine r_ilw rfl rfl ?_
    refine r_bi rfl (by decide) ?_
    refine r_cge rfl rfl (by omega) (by omega) (fun u1 => ?_) (fun u1 => ?_)
    · exact rn_up (by omega) (k pd hJ)
    · omega
  | succ m ih =>
    intro j pd hj hJ
    refine rn_up (N := N + 40 * m + 40 + 40) (by omega) ?_
    refine r_ilw rfl rfl ?_
    refine r_bi rfl (by decide) ?_
    refine r_cge rfl rfl (by omega) (by omega) (fun u1 => ?_) (fun u1 => ?_)
    · omega
    · have hDr := rkD_r hRS hE hS hX (rkR_r (sn := mb) hd.2 hRS hE hS hX r) (show j < 26 by omega)
      have eu : (du (Int.toNat (j : Int))).toInt = (bif rkP eb mb j then rkD de sd s (rkR eb mb de sd s r) j else 0) := by
        rw [show Int.toNat (j : Int) = j from rfl, hU j (by omega), decide_eq_true (show j < 26 by omega), Bool.true_and]
        cases rkP eb mb j with
        | true => exact iv_to ⟨by rw [cond_true]; omega, by rw [cond_true]; omega⟩
        | false => rfl
      refine r_al rfl rfl ?_
      refine r_gf rfl rfl xg_31 rfl ?_
      refine r_il rfl rfl ?_
      refine r_ilw rfl rfl ?_
      refine r_add rfl ?_
      refine r_al rfl rfl ?_
      refine r_gf rfl rfl xg_31 rfl ?_
      refine r_ilw rfl rfl ?_
      refine r_ia rfl xg_33 (by omega) (by omega) (by decide) ?_
      refine r_zne rfl rfl (as_r _) (fun u2 => ?_) (fun u2 => ?_)
      · rw [eu] at u2
        have hpj : rkP eb mb j = true := by
          cases hb : rkP eb mb j with
          | true => rfl
          | false => rw [hb] at u2; exact absurd rfl u2
        have eV : rkV (rkD de sd s (rkR eb mb de sd s r) j) (rkH eb mb de sd s (rkR eb mb de sd s r) (rkO de sd j) 26) (rkA eb mb de sd s (rkR eb mb de sd s r) (rkO de sd j) 26) = rkR eb mb de sd s (r + 1) j := by
          show _ = rkY eb mb de sd s (rkR eb mb de sd s r) j
          unfold rkY
          rw [hpj]
          rfl
        refine r_al rfl rfl ?_
        refine r_ilw rfl rfl ?_
        refine r_v2s rfl rfl xg_31 rfl (c_pay11 hP (by omega) hpj hU hD hM) ?_
        refine r_ias rfl xg_32 (by omega) (by omega) (by decide) xs_32 ?_
        refine r_inc (lv' := [(4, _), (3, _), (2, _), (0, _), (1, _)]) rfl rfl rfl rfl ?_
        refine r_goto rfl rfl ?_
        have hJ2 := rcJ_s (x := rkV (rkD de sd s (rkR eb mb de sd s r) j) (rkH eb mb de sd s (rkR eb mb de sd s r) (rkO de sd j) 26) (rkA eb mb de sd s (rkR eb mb de sd s r) (rkO de sd j) 26)) (by omega) hJ eV
        rw [show 26 * (r + 1) + j = Int.toNat (((r : Int) + 1) * 26 + (j : Int)) by omega] at hJ2
        exact rn_up (by omega) (ih (j + 1) _ (by omega) hJ2)
      · rw [eu] at u2
        have e0 : 0 = rkR eb mb de sd s (r + 1) j := by
          show _ = rkY eb mb de sd s (rkR eb mb de sd s r) j
          unfold rkY
          cases hb : rkP eb mb j with
          | false => rfl
          | true =>
            rw [hb, cond_true] at u2
            rw [u2, cond_true, rkV_0]
        refine r_ic rfl ?_
        refine r_goto rfl rfl ?_
        refine r_ias rfl xg_32 (by omega) (by omega) (by decide) xs_32 ?_
        refine r_inc (lv' := [(4, _), (3, _), (2, _), (0, _), (1, _)]) rfl rfl rfl rfl ?_
        refine r_goto rfl rfl ?_
        have hJ2 := rcJ_s (x := 0) (by omega) hJ e0
        rw [show 26 * (r + 1) + j = Int.toNat (((r : Int) + 1) * 26 + (j : Int)) by omega] at hJ2
        exact rn_up (by omega) (ih (j + 1) _ (by omega) hJ2)
theorem c_pr1 (hP : PH eb mb re fl b1 b2 b3 b4 b5 b6 b7 b8 g1 g2 g3 g4 g5 s de sd) (hr : r < 200) (hI : rcI eb mb de sd s (r + 1) pd) : ∃ pd' du' ds' me' : Nat → Int32, sX9_payRound [.ref 31, iv ((r : Int) + 1)] (cW ki ln bt rl cp cs ct cv 14 5 ja ea ma a1 a2 a3 a4 a5 a6 a7 a8 jb eb mb b1 b2 b3 b4 b5 b6 b7 b8 re fl g1 g2 g3 g4 g5 (dW rt la rs rg pd du ds me tt gr su gp mk rf m1 m2 m3 m4 m5 mr mf n1 n2 n3 n4 n5 nr nf E)) = some (none, (cW ki ln bt rl cp cs ct cv 14 5 ja ea ma a1 a2 a3 a4 a5 a6 a7 a8 jb eb mb b1 b2 b3 b4 b5 b6 b7 b8 re fl g1 g2 g3 g4 g5 (dW rt la rs rg pd' du' ds' me' tt gr su gp mk rf m1 m2 m3 m4 m5 mr mf n1 n2 n3 n4 n5 nr nf E))) ∧ rcI eb mb de sd s (r + 2) pd' := by
  obtain ⟨du', ds', hfd, hU, hD⟩ := c_fd1 (E := E) (ki := ki) (ln := ln) (bt := bt) (rl := rl) (cp := cp) (cs := cs) (ct := ct) (cv := cv) (ja := ja) (ea := ea) (ma := ma) (a1 := a1) (a2 := a2) (a3 := a3) (a4 := a4) (a5 := a5) (a6 := a6) (a7 := a7) (a8 := a8) (jb := jb) (eb := eb) (mb := mb) (b1 := b1) (b2 := b2) (b3 := b3) (b4 := b4) (b5 := b5) (b6 := b6) (b7 := b7) (b8 := b8) (re := re) (fl := fl) (g1 := g1) (g2 := g2) (g3 := g3) (g4 := g4) (g5 := g5) (rt := rt) (la := la) (rs := rs) (rg := rg) (pd := pd) (du := du) (ds := ds) (me := me) (tt := tt) (gr := gr) (su := su) (gp := gp) (mk := mk) (rf := rf) (m1 := m1) (m2 := m2) (m3 := m3) (m4 := m4) (m5 := m5) (mr := mr) (mf := mf) (n1 := n1) (n2 := n2) (n3 := n3) (n4 := n4) (n5 := n5) (nr := nr) (nf := nf) (B := ((r : Int) + 1 - 1) * 26) hP hr (by omega) (fun k hk => hI r k (by omega) hk)
  obtain ⟨me', hfm, hM⟩ := c_fm1 (E := E) (ki := ki) (ln := ln) (bt := bt) (rl := rl) (cp := cp) (cs := cs) (ct := ct) (cv := cv) (ja := ja) (ea := ea) (ma := ma) (a1 := a1) (a2 := a2) (a3 := a3) (a4 := a4) (a5 := a5) (a6 := a6) (a7 := a7) (a8 := a8) (jb := jb) (eb := eb) (mb := mb) (b1 := b1) (b2 := b2) (b3 := b3) (b4 := b4) (b5 := b5) (b6 := b6) (b7 := b7) (b8 := b8) (re := re) (fl := fl) (g1 := g1) (g2 := g2) (g3 := g3) (g4 := g4) (g5 := g5) (rt := rt) (la := la) (rs := rs) (rg := rg) (pd := pd) (me := me) (tt := tt) (gr := gr) (su := su) (gp := gp) (mk := mk) (rf := rf) (m1 := m1) (m2 := m2) (m3 := m3) (m4 := m4) (m5 := m5) (mr := mr) (mf := mf) (n1 := n1) (n2 := n2) (n3 := n3) (n4 := n4) (n5 := n5) (nr := nr) (nf := nf) (du := du') (ds := ds') (B := ((r : Int) + 1 - 1) * 26) hP hr (by omega) (fun k hk => hI r k (by omega) hk)
  have main : rn_X9_payRound (20 + 40 * 26 + 40 + 40) (0, [(0, .ref 31), (1, iv ((r : Int) + 1))], [], (cW ki ln bt rl cp cs ct cv 14 5 ja ea ma a1 a2 a3 a4 a5 a6 a7 a8 jb eb mb b1 b2 b3 b4 b5 b6 b7 b8 re fl g1 g2 g3 g4 g5 (dW rt la rs rg pd du ds me tt gr su gp mk rf m1 m2 m3 m4 m5 mr mf n1 n2 n3 n4 n5 nr nf E))) (fun x => ∃ pd' du' ds' me' : Nat → Int32, x = (none, (cW ki ln bt rl cp cs ct cv 14 5 ja ea ma a1 a2 a3 a4 a5 a6 a7 a8 jb eb mb b1 b2 b3 b4 b5 b6 b7 b8 re fl g1 g2 g3 g4 g5 (dW rt la rs rg pd' du' ds' me' tt gr su gp mk rf m1 m2 m3 m4 m5 mr mf n1 n2 n3 n4 n5 nr nf E))) ∧ rcI eb mb de sd s (r + 2) pd') := by
    refine r_il rfl rfl ?_
    refine r_ic rfl ?_
    refine r_sub rfl ?_
    refine r_bi rfl (by decide) ?_
    refine r_mul rfl ?_
    refine r_is (lv' := [(2, _), (0, _), (1, _)]) rfl rfl rfl ?_
    refine r_il rfl rfl ?_
    refine r_bi rfl (by decide) ?_
    refine r_mul rfl ?_
    refine r_is (lv' := [(3, _), (2, _), (0, _), (1, _)]) rfl rfl rfl ?_
    refine r_al rfl rfl ?_
    refine r_il rfl rfl ?_
    refine r_v2n rfl rfl xg_31 rfl hfd ?_
    refine r_al rfl rfl ?_
    refine r_il rfl rfl ?_
    refine r_v2n rfl rfl xg_31 rfl hfm ?_
    refine r_ic rfl ?_
    refine r_isw (lv' := [(4, _), (3, _), (2, _), (0, _), (1, _)]) rfl rfl rfl ?_
    refine rn_up (N := 20 + 40 * 26 + 40) (by decide) (pr_lp1 (N := 20) hP hr hU hD hM (fun pd hJ => ?_) 26 0 pd rfl ⟨hI, fun k hk => by omega⟩)
    exact r_retv rfl rfl ⟨pd, du', ds', me', rfl, rcJ_e hJ⟩
  obtain ⟨x, h1, pd', du1, ds1, me1, h2, h3⟩ := rn_S (vs := [.ref 31, iv ((r : Int) + 1)]) rfl (rn_up (N := 20 + 40 * 26 + 40 + 40) (M := mm_fuel) (by decide) main)
  have h1 : sX9_payRound [.ref 31, iv ((r : Int) + 1)] (cW ki ln bt rl cp cs ct cv 14 5 ja ea ma a1 a2 a3 a4 a5 a6 a7 a8 jb eb mb b1 b2 b3 b4 b5 b6 b7 b8 re fl g1 g2 g3 g4 g5 (dW rt la rs rg pd du ds me tt gr su gp mk rf m1 m2 m3 m4 m5 mr mf n1 n2 n3 n4 n5 nr nf E)) = some x := h1
  exact ⟨pd', du1, ds1, me1, by rw [h1, h2], h3⟩
theorem ps_lp1 (hP : PH eb mb re fl b1 b2 b3 b4 b5 b6 b7 b8 g1 g2 g3 g4 g5 s de sd) {i n m0 : Nat} (hi : i < m0) (hn2 : n < m0) (hm : m0 ≤ 201) (hI : rcI eb mb de sd s m0 pd) (k : Q (some (iv (bi (rwS (rkR eb mb de sd s) i n 26))), (cW ki ln bt rl cp cs ct cv 14 5 ja ea ma a1 a2 a3 a4 a5 a6 a7 a8 jb eb mb b1 b2 b3 b4 b5 b6 b7 b8 re fl g1 g2 g3 g4 g5 (dW rt la rs rg pd du ds me tt gr su gp mk rf m1 m2 m3 m4 m5 mr mf n1 n2 n3 n4 n5 nr nf E)))) : ∀ (m j : Nat), j + m = 26 → rwS (rkR eb mb de sd s) i n j = true → rn_X9_paysSame (40 * m + 40) (2, [(3, iv ((j : Int))), (0, .ref 31), (1, iv ((i : Int) * 26)), (2, iv ((n : Int) * 26))], [], (cW ki ln bt rl cp cs ct cv 14 5 ja ea ma a1 a2 a3 a4 a5 a6 a7 a8 jb eb mb b1 b2 b3 b4 b5 b6 b7 b8 re fl g1 g2 g3 g4 g5 (dW rt la rs rg pd du ds me tt gr su gp mk rf m1 m2 m3 m4 m5 mr mf n1 n2 n3 n4 n5 nr nf E))) Q := by
  obtain ⟨hL, hRd, hRs, hV, hd, hn, hS, hE, hRS, hX⟩ := id hP
  intro m
  induction m with
  | zero =>
    intro j hj hs
    have hj : j = 26 := by omega
    subst hj
    rw [hs] at k
    refine rn_up (N := 40) (by omega) ?_
    refine r_il rfl rfl ?_
    refine r_bi rfl (by decide) ?_
    refine r_cge rfl rfl (by omega) (by omega) (fun u1 => ?_) (fun u1 => ?_)
    · refine r_ic rfl ?_
      exact r_retb rfl rfl (by omega) k
    · omega
  | succ m ih =>
    intro j hj hs
    refine rn_up (N := (40 * m + 40) + 40) (by omega) ?_
    refine r_il rfl rfl ?_
    refine r_bi rfl (by decide) ?_
    refine r_cge rfl rfl (by omega) (by omega) (fun u1 => ?_) (fun u1 => ?_)
    · omega
    · have ra := rkR_r (sn := mb) hd.2 hRS hE hS hX i j (by omega)
      have rb := rkR_r (sn := mb) hd.2 hRS hE hS hX n j (by omega)
      have ea' : (pd (Int.toNat ((i : Int) * 26 + (j : Int)))).toInt = (rkR eb mb de sd s) i j := by
        rw [show Int.toNat ((i : Int) * 26 + (j : Int)) = 26 * i + j by omega, hI i j hi (by omega)]
        exact iv_to ⟨by omega, by omega⟩
      have eb' : (pd (Int.toNat ((n : Int) * 26 + (j : Int)))).toInt = (rkR eb mb de sd s) n j := by
        rw [show Int.toNat ((n : Int) * 26 + (j : Int)) = 26 * n + j by omega, hI n j hn2 (by omega)]
        exact iv_to ⟨by omega, by omega⟩
      refine r_al rfl rfl ?_
      refine r_gf rfl rfl xg_31 rfl ?_
      refine r_il rfl rfl ?_
      refine r_il rfl rfl ?_
      refine r_add rfl ?_
      refine r_ia rfl xg_32 (by omega) (by omega) (by decide) ?_
      refine r_al rfl rfl ?_
      refine r_gf rfl rfl xg_31 rfl ?_
      refine r_il rfl rfl ?_
      refine r_il rfl rfl ?_
      refine r_add rfl ?_
      refine r_ia rfl xg_32 (by omega) (by omega) (by decide) ?_
      refine r_ceq rfl rfl (as_r _) (as_r _) (fun u3 => ?_) (fun u3 => ?_)
      · rw [ea', eb'] at u3
        refine r_inc (lv' := [(3, _), (0, _), (1, _), (2, _)]) rfl rfl rfl rfl ?_
        refine r_goto rfl rfl ?_
        exact rn_up (by omega) (ih (j + 1) (by omega) (rwS_s hs u3))
      · rw [ea', eb'] at u3
        rw [rwS_f (k := j) (by omega) u3] at k
        refine r_ic rfl ?_
        exact r_retb rfl rfl (by omega) k
theorem c_ps1 (hP : PH eb mb re fl b1 b2 b3 b4 b5 b6 b7 b8 g1 g2 g3 g4 g5 s de sd) {i n m0 : Nat} (hi : i < m0) (hn2 : n < m0) (hm : m0 ≤ 201) (hI : rcI eb mb de sd s m0 pd) : sX9_paysSame [.ref 31, iv ((i : Int) * 26), iv ((n : Int) * 26)] (cW ki ln bt rl cp cs ct cv 14 5 ja ea ma a1 a2 a3 a4 a5 a6 a7 a8 jb eb mb b1 b2 b3 b4 b5 b6 b7 b8 re fl g1 g2 g3 g4 g5 (dW rt la rs rg pd du ds me tt gr su gp mk rf m1 m2 m3 m4 m5 mr mf n1 n2 n3 n4 n5 nr nf E)) = some (some (iv (bi (rwS (rkR eb mb de sd s) i n 26))), (cW ki ln bt rl cp cs ct cv 14 5 ja ea ma a1 a2 a3 a4 a5 a6 a7 a8 jb eb mb b1 b2 b3 b4 b5 b6 b7 b8 re fl g1 g2 g3 g4 g5 (dW rt la rs rg pd du ds me tt gr su gp mk rf m1 m2 m3 m4 m5 mr mf n1 n2 n3 n4 n5 nr nf E))) := by
  have main : ∀ Q : mm_R → Prop, Q (some (iv (bi (rwS (rkR eb mb de sd s) i n 26))), (cW ki ln bt rl cp cs ct cv 14 5 ja ea ma a1 a2 a3 a4 a5 a6 a7 a8 jb eb mb b1 b2 b3 b4 b5 b6 b7 b8 re fl g1 g2 g3 g4 g5 (dW rt la rs rg pd du ds me tt gr su gp mk rf m1 m2 m3 m4 m5 mr mf n1 n2 n3 n4 n5 nr nf E))) → rn_X9_paysSame (40 * 26 + 40 + 20) (0, [(0, .ref 31), (1, iv ((i : Int) * 26)), (2, iv ((n : Int) * 26))], [], (cW ki ln bt rl cp cs ct cv 14 5 ja ea ma a1 a2 a3 a4 a5 a6 a7 a8 jb eb mb b1 b2 b3 b4 b5 b6 b7 b8 re fl g1 g2 g3 g4 g5 (dW rt la rs rg pd du ds me tt gr su gp mk rf m1 m2 m3 m4 m5 mr mf n1 n2 n3 n4 n5 nr nf E))) Q := by
    intro Q hQ
    refine r_ic rfl ?_
    refine r_is (lv' := [(3, _), (0, _), (1, _), (2, _)]) rfl rfl rfl ?_
    exact rn_up (N := 40 * 26 + 40) (by decide) (ps_lp1 hP hi hn2 hm hI hQ 26 0 rfl rfl)
  obtain ⟨x, h1, h2⟩ := rn_S (vs := [.ref 31, iv ((i : Int) * 26), iv ((n : Int) * 26)]) (Q := fun x => x = (some (iv (bi (rwS (rkR eb mb de sd s) i n 26))), (cW ki ln bt rl cp cs ct cv 14 5 ja ea ma a1 a2 a3 a4 a5 a6 a7 a8 jb eb mb b1 b2 b3 b4 b5 b6 b7 b8 re fl g1 g2 g3 g4 g5 (dW rt la rs rg pd du ds me tt gr su gp mk rf m1 m2 m3 m4 m5 mr mf n1 n2 n3 n4 n5 nr nf E)))) rfl (rn_up (N := 40 * 26 + 40 + 20) (M := mm_fuel) (by decide) (main (fun x => x = (some (iv (bi (rwS (rkR eb mb de sd s) i n 26))), (cW ki ln bt rl cp cs ct cv 14 5 ja ea ma a1 a2 a3 a4 a5 a6 a7 a8 jb eb mb b1 b2 b3 b4 b5 b6 b7 b8 re fl g1 g2 g3 g4 g5 (dW rt la rs rg pd du ds me tt gr su gp mk rf m1 m2 m3 m4 m5 mr mf n1 n2 n3 n4 n5 nr nf E)))) rfl))
  have h1 : sX9_paysSame [.ref 31, iv ((i : Int) * 26), iv ((n : Int) * 26)] (cW ki ln bt rl cp cs ct cv 14 5 ja ea ma a1 a2 a3 a4 a5 a6 a7 a8 jb eb mb b1 b2 b3 b4 b5 b6 b7 b8 re fl g1 g2 g3 g4 g5 (dW rt la rs rg pd du ds me tt gr su gp mk rf m1 m2 m3 m4 m5 mr mf n1 n2 n3 n4 n5 nr nf E)) = some x := h1
  rw [h1, h2]
theorem rl_lp1 (hP : PH eb mb re fl b1 b2 b3 b4 b5 b6 b7 b8 g1 g2 g3 g4 g5 s de sd) {n : Nat} (hn2 : n ≤ 200) (hI : rcI eb mb de sd s (n + 1) pd) (k : Q (some (iv (rwN (rkR eb mb de sd s) n n)), (cW ki ln bt rl cp cs ct cv 14 5 ja ea ma a1 a2 a3 a4 a5 a6 a7 a8 jb eb mb b1 b2 b3 b4 b5 b6 b7 b8 re fl g1 g2 g3 g4 g5 (dW rt la rs rg pd du ds me tt gr su gp mk rf m1 m2 m3 m4 m5 mr mf n1 n2 n3 n4 n5 nr nf E)))) : ∀ (j : Nat) (x : Int), j ≤ n → x = (j : Int) - 1 → rwN (rkR eb mb de sd s) n j = rwN (rkR eb mb de sd s) n n → rn_X9_roundLike (40 * j + 40) (4, [(2, iv (x)), (0, .ref 31), (1, iv ((n : Int)))], [], (cW ki ln bt rl cp cs ct cv 14 5 ja ea ma a1 a2 a3 a4 a5 a6 a7 a8 jb eb mb b1 b2 b3 b4 b5 b6 b7 b8 re fl g1 g2 g3 g4 g5 (dW rt la rs rg pd du ds me tt gr su gp mk rf m1 m2 m3 m4 m5 mr mf n1 n2 n3 n4 n5 nr nf E))) Q := by
  intro j
  induction j with
  | zero =>
    intro x hj hx he
    rw [← he] at k
    refine r_il rfl rfl ?_
    refine r_zlt rfl rfl (by omega) (fun u1 => ?_) (fun u1 => ?_)
    · refine r_ic rfl ?_
      exact r_ret rfl rfl k
    · omega
  | succ j ih =>
    intro x hj hx he
    have hx : x = (j : Int) := by omega
    subst hx
    refine rn_up (N := (40 * j + 40) + 40) (by omega) ?_
    refine r_il rfl rfl ?_
    refine r_zlt rfl rfl (by omega) (fun u1 => ?_) (fun u1 => ?_)
    · omega
    · refine r_al rfl rfl ?_
      refine r_il rfl rfl ?_
      refine r_bi rfl (by decide) ?_
      refine r_mul rfl ?_
      refine r_il rfl rfl ?_
      refine r_bi rfl (by decide) ?_
      refine r_mul rfl ?_
      refine r_v3s rfl rfl xg_31 rfl (c_ps1 (m0 := n + 1) hP (by omega) (by omega) (by omega) hI) ?_
      refine r_zeq rfl rfl (bi_r _) (fun u2 => ?_) (fun u2 => ?_)
      · have e : rwN (rkR eb mb de sd s) n (j + 1) = rwN (rkR eb mb de sd s) n j := by show (bif rwS (rkR eb mb de sd s) j n 26 then (j : Int) else rwN (rkR eb mb de sd s) n j) = _; rw [bi_0 u2]; rfl
        rw [e] at he
        refine r_inc (lv' := [(2, _), (0, _), (1, _)]) rfl rfl rfl rfl ?_
        refine r_goto rfl rfl ?_
        exact rn_up (by omega) (ih _ (by omega) (by omega) he)
      · have e : rwN (rkR eb mb de sd s) n (j + 1) = (j : Int) := by show (bif rwS (rkR eb mb de sd s) j n 26 then (j : Int) else rwN (rkR eb mb de sd s) n j) = _; rw [bi_1 u2]; rfl
        rw [← he, e] at k
        refine r_il rfl rfl ?_
        exact r_ret rfl rfl k
theorem c_rl1 (hP : PH eb mb re fl b1 b2 b3 b4 b5 b6 b7 b8 g1 g2 g3 g4 g5 s de sd) {n : Nat} (hn2 : n ≤ 200) (hI : rcI eb mb de sd s (n + 1) pd) : sX9_roundLike [.ref 31, iv (n : Int)] (cW ki ln bt rl cp cs ct cv 14 5 ja ea ma a1 a2 a3 a4 a5 a6 a7 a8 jb eb mb b1 b2 b3 b4 b5 b6 b7 b8 re fl g1 g2 g3 g4 g5 (dW rt la rs rg pd du ds me tt gr su gp mk rf m1 m2 m3 m4 m5 mr mf n1 n2 n3 n4 n5 nr nf E)) = some (some (iv (rwN (rkR eb mb de sd s) n n)), (cW ki ln bt rl cp cs ct cv 14 5 ja ea ma a1 a2 a3 a4 a5 a6 a7 a8 jb eb mb b1 b2 b3 b4 b5 b6 b7 b8 re fl g1 g2 g3 g4 g5 (dW rt la rs rg pd du ds me tt gr su gp mk rf m1 m2 m3 m4 m5 mr mf n1 n2 n3 n4 n5 nr nf E))) := by
  have main : ∀ Q : mm_R → Prop, Q (some (iv (rwN (rkR eb mb de sd s) n n)), (cW ki ln bt rl cp cs ct cv 14 5 ja ea ma a1 a2 a3 a4 a5 a6 a7 a8 jb eb mb b1 b2 b3 b4 b5 b6 b7 b8 re fl g1 g2 g3 g4 g5 (dW rt la rs rg pd du ds me tt gr su gp mk rf m1 m2 m3 m4 m5 mr mf n1 n2 n3 n4 n5 nr nf E))) → rn_X9_roundLike (40 * 200 + 40 + 20) (0, [(0, .ref 31), (1, iv ((n : Int)))], [], (cW ki ln bt rl cp cs ct cv 14 5 ja ea ma a1 a2 a3 a4 a5 a6 a7 a8 jb eb mb b1 b2 b3 b4 b5 b6 b7 b8 re fl g1 g2 g3 g4 g5 (dW rt la rs rg pd du ds me tt gr su gp mk rf m1 m2 m3 m4 m5 mr mf n1 n2 n3 n4 n5 nr nf E))) Q := by
    intro Q hQ
    refine r_il rfl rfl ?_
    refine r_ic rfl ?_
    refine r_sub rfl ?_
    refine r_is (lv' := [(2, _), (0, _), (1, _)]) rfl rfl rfl ?_
    exact rn_up (N := 40 * n + 40) (by omega) (rl_lp1 hP hn2 hI hQ n _ (Nat.le_refl _) rfl rfl)
  obtain ⟨x, h1, h2⟩ := rn_S (vs := [.ref 31, iv (n : Int)]) (Q := fun x => x = (some (iv (rwN (rkR eb mb de sd s) n n)), (cW ki ln bt rl cp cs ct cv 14 5 ja ea ma a1 a2 a3 a4 a5 a6 a7 a8 jb eb mb b1 b2 b3 b4 b5 b6 b7 b8 re fl g1 g2 g3 g4 g5 (dW rt la rs rg pd du ds me tt gr su gp mk rf m1 m2 m3 m4 m5 mr mf n1 n2 n3 n4 n5 nr nf E)))) rfl (rn_up (N := 40 * 200 + 40 + 20) (M := mm_fuel) (by decide) (main (fun x => x = (some (iv (rwN (rkR eb mb de sd s) n n)), (cW ki ln bt rl cp cs ct cv 14 5 ja ea ma a1 a2 a3 a4 a5 a6 a7 a8 jb eb mb b1 b2 b3 b4 b5 b6 b7 b8 re fl g1 g2 g3 g4 g5 (dW rt la rs rg pd du ds me tt gr su gp mk rf m1 m2 m3 m4 m5 mr mf n1 n2 n3 n4 n5 nr nf E)))) rfl))
  have h1 : sX9_roundLike [.ref 31, iv (n : Int)] (cW ki ln bt rl cp cs ct cv 14 5 ja ea ma a1 a2 a3 a4 a5 a6 a7 a8 jb eb mb b1 b2 b3 b4 b5 b6 b7 b8 re fl g1 g2 g3 g4 g5 (dW rt la rs rg pd du ds me tt gr su gp mk rf m1 m2 m3 m4 m5 mr mf n1 n2 n3 n4 n5 nr nf E)) = some x := h1
  rw [h1, h2]
theorem ru_lp1 (hP : PH eb mb re fl b1 b2 b3 b4 b5 b6 b7 b8 g1 g2 g3 g4 g5 s de sd) : ∀ (m n : Nat) (pd du ds me : Nat → Int32), n + m = 200 → rgo (rkR eb mb de sd s) m n = (rgo (rkR eb mb de sd s) 200 0) → rwD (rkR eb mb de sd s) (n + 1) → rcI eb mb de sd s (n + 1) pd → rn_X9_run (60 * m + 60) (23, [(1, iv ((n : Int) + 1)), (0, .ref 31)], [], (cW ki ln bt rl cp cs ct cv 14 5 ja ea ma a1 a2 a3 a4 a5 a6 a7 a8 jb eb mb b1 b2 b3 b4 b5 b6 b7 b8 re fl g1 g2 g3 g4 g5 (dW rt ((n : Int)) (-9) (-9) pd du ds me tt gr su gp mk rf m1 m2 m3 m4 m5 mr mf n1 n2 n3 n4 n5 nr nf E))) (fun x => ∃ pd' du' ds' me' : Nat → Int32, x = (none, (cW ki ln bt rl cp cs ct cv 14 5 ja ea ma a1 a2 a3 a4 a5 a6 a7 a8 jb eb mb b1 b2 b3 b4 b5 b6 b7 b8 re fl g1 g2 g3 g4 g5 (dW rt (((rgo (rkR eb mb de sd s) 200 0).1 : Nat) : Int) (bif decide ((rgo (rkR eb mb de sd s) 200 0).2 = 1) then (((rgo (rkR eb mb de sd s) 200 0).1 : Nat) : Int) else -9) (bif decide ((rgo (rkR eb mb de sd s) 200 0).2 = 1) then 0 else (rgo (rkR eb mb de sd s) 200 0).2) pd' du' ds' me' tt gr su gp mk rf m1 m2 m3 m4 m5 mr mf n1 n2 n3 n4 n5 nr nf E))) ∧ rcI eb mb de sd s ((rgo (rkR eb mb de sd s) 200 0).1 + 1) pd') := by
  obtain ⟨hL, hRd, hRs, hV, hd, hn, hS, hE, hRS, hX⟩ := id hP
  intro m
  induction m with
  | zero =>
    intro n pd du ds me hj hg hD hI
    have hj : n = 200 := by omega
    subst hj
    rw [← hg]
    refine rn_up (N := 60) (by omega) ?_
    refine r_il rfl rfl ?_
    refine r_si rfl (by decide) ?_
    refine r_cgt rfl rfl (by omega) (by omega) (fun u1 => ?_) (fun u1 => ?_)
    · exact r_retv rfl rfl ⟨pd, du, ds, me, rfl, hI⟩
    · omega
  | succ m ih =>
    intro n pd du ds me hj hg hD hI
    refine rn_up (N := (60 * m + 60) + 60) (by omega) ?_
    obtain ⟨pd1, du1, ds1, me1, hpr, hI1⟩ := c_pr1 (E := E) (ki := ki) (ln := ln) (bt := bt) (rl := rl) (cp := cp) (cs := cs) (ct := ct) (cv := cv) (ja := ja) (ea := ea) (ma := ma) (a1 := a1) (a2 := a2) (a3 := a3) (a4 := a4) (a5 := a5) (a6 := a6) (a7 := a7) (a8 := a8) (jb := jb) (eb := eb) (mb := mb) (b1 := b1) (b2 := b2) (b3 := b3) (b4 := b4) (b5 := b5) (b6 := b6) (b7 := b7) (b8 := b8) (re := re) (fl := fl) (g1 := g1) (g2 := g2) (g3 := g3) (g4 := g4) (g5 := g5) (rt := rt) (pd := pd) (du := du) (ds := ds) (me := me) (tt := tt) (gr := gr) (su := su) (gp := gp) (mk := mk) (rf := rf) (m1 := m1) (m2 := m2) (m3 := m3) (m4 := m4) (m5 := m5) (mr := mr) (mf := mf) (n1 := n1) (n2 := n2) (n3 := n3) (n4 := n4) (n5 := n5) (nr := nr) (nf := nf) (la := (n : Int)) (rs := -9) (rg := -9) (r := n) hP (by omega) hI
    have hrl := c_rl1 (E := E) (ki := ki) (ln := ln) (bt := bt) (rl := rl) (cp := cp) (cs := cs) (ct := ct) (cv := cv) (ja := ja) (ea := ea) (ma := ma) (a1 := a1) (a2 := a2) (a3 := a3) (a4 := a4) (a5 := a5) (a6 := a6) (a7 := a7) (a8 := a8) (jb := jb) (eb := eb) (mb := mb) (b1 := b1) (b2 := b2) (b3 := b3) (b4 := b4) (b5 := b5) (b6 := b6) (b7 := b7) (b8 := b8) (re := re) (fl := fl) (g1 := g1) (g2 := g2) (g3 := g3) (g4 := g4) (g5 := g5) (rt := rt) (tt := tt) (gr := gr) (su := su) (gp := gp) (mk := mk) (rf := rf) (m1 := m1) (m2 := m2) (m3 := m3) (m4 := m4) (m5 := m5) (mr := mr) (mf := mf) (n1 := n1) (n2 := n2) (n3 := n3) (n4 := n4) (n5 := n5) (nr := nr) (nf := nf) (pd := pd1) (du := du1) (ds := ds1) (me := me1) (la := (n : Int) + 1) (rs := -9) (rg := -9) (n := n + 1) hP (by omega) hI1
    rw [show ((n + 1 : Nat) : Int) = (n : Int) + 1 from rfl] at hrl
    have hor := rw_or hD
    refine r_il rfl rfl ?_
    refine r_si rfl (by decide) ?_
    refine r_cgt rfl rfl (by omega) (by omega) (fun u1 => ?_) (fun u1 => ?_)
    · omega
    · refine r_al rfl rfl ?_
      refine r_il rfl rfl ?_
      refine r_v2n rfl rfl xg_31 rfl hpr ?_
      refine r_al rfl rfl ?_
      refine r_il rfl rfl ?_
      refine r_pf rfl rfl xg_31 rfl xp_la ?_
      refine r_al rfl rfl ?_
      refine r_il rfl rfl ?_
      refine r_v2s rfl rfl xg_31 rfl hrl ?_
      rcases hor with ⟨o1, o2, o3⟩ | ⟨i, o0, o1, o2⟩
      · refine r_eq o1 ?_
        refine r_is (lv' := [(2, _), (1, _), (0, _)]) rfl rfl rfl ?_
        refine r_il rfl rfl ?_
        refine r_il rfl rfl ?_
        refine r_ic rfl ?_
        refine r_sub rfl ?_
        refine r_cne rfl rfl (by omega) (by omega) (fun u2 => ?_) (fun u2 => ?_)
        · refine r_il rfl rfl ?_
          refine r_zlt rfl rfl (by decide) (fun u3 => ?_) (fun u3 => ?_)
          · refine r_inc (lv' := [(1, _), (2, _), (0, _)]) rfl rfl rfl rfl ?_
            refine r_goto rfl rfl ?_
            refine rn_LE (a := [(1, iv ((n : Int) + 1 + 1)), (0, .ref 31)]) ⟨(List.forall_mem_cons.mpr ⟨List.mem_cons_self, (List.forall_mem_cons.mpr ⟨(List.mem_cons_of_mem _ (List.mem_cons_of_mem _ List.mem_cons_self)), (fun _ h => absurd h List.not_mem_nil)⟩)⟩), (by show List.Nodup [1, 0]; decide), (by show List.Nodup [1, 2, 0]; decide)⟩ ?_
            exact rn_up (by omega) (ih (n + 1) pd1 du1 ds1 me1 (by omega) (by rw [← hg, rgo_n o2]) o3 hI1)
          · omega
        · omega
      · have hne : ¬ rwO (rkR eb mb de sd s) (n + 1) (n + 1) = -9 := by omega
        rw [← hg, rgo_y hne]
        refine r_eq o1 ?_
        refine r_is (lv' := [(2, _), (1, _), (0, _)]) rfl rfl rfl ?_
        refine r_il rfl rfl ?_
        refine r_il rfl rfl ?_
        refine r_ic rfl ?_
        refine r_sub rfl ?_
        refine r_cne rfl rfl (by omega) (by omega) (fun u2 => ?_) (fun u2 => ?_)
        · refine r_il rfl rfl ?_
          refine r_zlt rfl rfl (by omega) (fun u3 => ?_) (fun u3 => ?_)
          · omega
          · refine r_al rfl rfl ?_
            refine r_il rfl rfl ?_
            refine r_il rfl rfl ?_
            refine r_sub rfl ?_
            refine r_pf rfl rfl xg_31 rfl xp_rg ?_
            have hn1 : ¬ rwO (rkR eb mb de sd s) (n + 1) (n + 1) = 1 := by omega
            show rn_X9_run _ _ (fun x => ∃ pd' du' ds' me' : Nat → Int32, x = (none, (cW ki ln bt rl cp cs ct cv 14 5 ja ea ma a1 a2 a3 a4 a5 a6 a7 a8 jb eb mb b1 b2 b3 b4 b5 b6 b7 b8 re fl g1 g2 g3 g4 g5 (dW rt ((n + 1 : Nat) : Int) (bif decide (rwO (rkR eb mb de sd s) (n + 1) (n + 1) = 1) then ((n + 1 : Nat) : Int) else -9) (bif decide (rwO (rkR eb mb de sd s) (n + 1) (n + 1) = 1) then 0 else rwO (rkR eb mb de sd s) (n + 1) (n + 1)) pd' du' ds' me' tt gr su gp mk rf m1 m2 m3 m4 m5 mr mf n1 n2 n3 n4 n5 nr nf E))) ∧ rcI eb mb de sd s (n + 1 + 1) pd')
            rw [decide_eq_false hn1, o2]
            exact r_retv rfl rfl ⟨pd1, du1, ds1, me1, rfl, hI1⟩
        · refine r_al rfl rfl ?_
          refine r_il rfl rfl ?_
          refine r_pf rfl rfl xg_31 rfl xp_rs ?_
          refine r_al rfl rfl ?_
          refine r_ic rfl ?_
          refine r_pf rfl rfl xg_31 rfl xp_rg ?_
          have hn1 : rwO (rkR eb mb de sd s) (n + 1) (n + 1) = 1 := by omega
          show rn_X9_run _ _ (fun x => ∃ pd' du' ds' me' : Nat → Int32, x = (none, (cW ki ln bt rl cp cs ct cv 14 5 ja ea ma a1 a2 a3 a4 a5 a6 a7 a8 jb eb mb b1 b2 b3 b4 b5 b6 b7 b8 re fl g1 g2 g3 g4 g5 (dW rt ((n + 1 : Nat) : Int) (bif decide (rwO (rkR eb mb de sd s) (n + 1) (n + 1) = 1) then ((n + 1 : Nat) : Int) else -9) (bif decide (rwO (rkR eb mb de sd s) (n + 1) (n + 1) = 1) then 0 else rwO (rkR eb mb de sd s) (n + 1) (n + 1)) pd' du' ds' me' tt gr su gp mk rf m1 m2 m3 m4 m5 mr mf n1 n2 n3 n4 n5 nr nf E))) ∧ rcI eb mb de sd s (n + 1 + 1) pd')
          rw [decide_eq_true hn1]
          exact r_retv rfl rfl ⟨pd1, du1, ds1, me1, rfl, hI1⟩
theorem c_run1 (hP : PH eb mb re fl b1 b2 b3 b4 b5 b6 b7 b8 g1 g2 g3 g4 g5 s de sd) : ∃ pd' du' ds' me' : Nat → Int32, sX9_run [.ref 31] (cW ki ln bt rl cp cs ct cv 14 5 ja ea ma a1 a2 a3 a4 a5 a6 a7 a8 jb eb mb b1 b2 b3 b4 b5 b6 b7 b8 re fl g1 g2 g3 g4 g5 (dW rt la rs rg pd du ds me tt gr su gp mk rf m1 m2 m3 m4 m5 mr mf n1 n2 n3 n4 n5 nr nf E)) = some (none, (cW ki ln bt rl cp cs ct cv 14 5 ja ea ma a1 a2 a3 a4 a5 a6 a7 a8 jb eb mb b1 b2 b3 b4 b5 b6 b7 b8 re fl g1 g2 g3 g4 g5 (dW rt (((rgo (rkR eb mb de sd s) 200 0).1 : Nat) : Int) (bif decide ((rgo (rkR eb mb de sd s) 200 0).2 = 1) then (((rgo (rkR eb mb de sd s) 200 0).1 : Nat) : Int) else -9) (bif decide ((rgo (rkR eb mb de sd s) 200 0).2 = 1) then 0 else (rgo (rkR eb mb de sd s) 200 0).2) pd' du' ds' me' tt gr su gp mk rf m1 m2 m3 m4 m5 mr mf n1 n2 n3 n4 n5 nr nf E))) ∧ rcI eb mb de sd s ((rgo (rkR eb mb de sd s) 200 0).1 + 1) pd' := by
  obtain ⟨pd1, hpf, hI1⟩ := c_pf1 (E := E) (ki := ki) (ln := ln) (bt := bt) (rl := rl) (cp := cp) (cs := cs) (ct := ct) (cv := cv) (ja := ja) (ea := ea) (ma := ma) (a1 := a1) (a2 := a2) (a3 := a3) (a4 := a4) (a5 := a5) (a6 := a6) (a7 := a7) (a8 := a8) (jb := jb) (eb := eb) (mb := mb) (b1 := b1) (b2 := b2) (b3 := b3) (b4 := b4) (b5 := b5) (b6 := b6) (b7 := b7) (b8 := b8) (re := re) (fl := fl) (g1 := g1) (g2 := g2) (g3 := g3) (g4 := g4) (g5 := g5) (rt := rt) (pd := pd) (du := du) (ds := ds) (me := me) (tt := tt) (gr := gr) (su := su) (gp := gp) (mk := mk) (rf := rf) (m1 := m1) (m2 := m2) (m3 := m3) (m4 := m4) (m5 := m5) (mr := mr) (mf := mf) (n1 := n1) (n2 := n2) (n3 := n3) (n4 := n4) (n5 := n5) (nr := nr) (nf := nf) (la := 0) (rs := -9) (rg := -9) hP
  have main : rn_X9_run (60 * 200 + 60 + 30) (0, [(0, .ref 31)], [], (cW ki ln bt rl cp cs ct cv 14 5 ja ea ma a1 a2 a3 a4 a5 a6 a7 a8 jb eb mb b1 b2 b3 b4 b5 b6 b7 b8 re fl g1 g2 g3 g4 g5 (dW rt la rs rg pd du ds me tt gr su gp mk rf m1 m2 m3 m4 m5 mr mf n1 n2 n3 n4 n5 nr nf E))) (fun x => ∃ pd' du' ds' me' : Nat → Int32, x = (none, (cW ki ln bt rl cp cs ct cv 14 5 ja ea ma a1 a2 a3 a4 a5 a6 a7 a8 jb eb mb b1 b2 b3 b4 b5 b6 b7 b8 re fl g1 g2 g3 g4 g5 (dW rt (((rgo (rkR eb mb de sd s) 200 0).1 : Nat) : Int) (bif decide ((rgo (rkR eb mb de sd s) 200 0).2 = 1) then (((rgo (rkR eb mb de sd s) 200 0).1 : Nat) : Int) else -9) (bif decide ((rgo (rkR eb mb de sd s) 200 0).2 = 1) then 0 else (rgo (rkR eb mb de sd s) 200 0).2) pd' du' ds' me' tt gr su gp mk rf m1 m2 m3 m4 m5 mr mf n1 n2 n3 n4 n5 nr nf E))) ∧ rcI eb mb de sd s ((rgo (rkR eb mb de sd s) 200 0).1 + 1) pd') := by
    refine r_al rfl rfl ?_
    refine r_bi rfl (by decide) ?_
    refine r_pf rfl rfl xg_31 rfl xp_rs ?_
    refine r_al rfl rfl ?_
    refine r_bi rfl (by decide) ?_
    refine r_pf rfl rfl xg_31 rfl xp_rg ?_
    refine r_al rfl rfl ?_
    refine r_ic rfl ?_
    refine r_pf rfl rfl xg_31 rfl xp_la ?_
    refine r_al rfl rfl ?_
    refine r_v1n rfl rfl xg_31 rfl hpf ?_
    refine r_ic rfl ?_
    refine r_is (lv' := [(1, _), (0, _)]) rfl rfl rfl ?_
    exact rn_up (N := 60 * 200 + 60) (by decide) (ru_lp1 hP 200 0 pd1 du ds me rfl rfl (fun a b h1 h2 => by omega) hI1)
  obtain ⟨x, h1, pd1, du1, ds1, me1, h2, h3⟩ := rn_S (vs := [.ref 31]) rfl (rn_up (N := 60 * 200 + 60 + 30) (M := mm_fuel) (by decide) main)
  have h1 : sX9_run [.ref 31] (cW ki ln bt rl cp cs ct cv 14 5 ja ea ma a1 a2 a3 a4 a5 a6 a7 a8 jb eb mb b1 b2 b3 b4 b5 b6 b7 b8 re fl g1 g2 g3 g4 g5 (dW rt la rs rg pd du ds me tt gr su gp mk rf m1 m2 m3 m4 m5 mr mf n1 n2 n3 n4 n5 nr nf E)) = some x := h1
  exact ⟨pd1, du1, ds1, me1, by rw [h1, h2], h3⟩
theorem c_lbd1 (hP : PH eb mb re fl b1 b2 b3 b4 b5 b6 b7 b8 g1 g2 g3 g4 g5 s de sd) {l : Nat} (hl : l ≤ 200) (hla : la = (l : Int)) (hb : 0 ≤ B) (hk : B < 26) (hI : rcI eb mb de sd s (l + 1) pd) : sX9_lastByDebtor [.ref 31, iv (B)] (cW ki ln bt rl cp cs ct cv 14 5 ja ea ma a1 a2 a3 a4 a5 a6 a7 a8 jb eb mb b1 b2 b3 b4 b5 b6 b7 b8 re fl g1 g2 g3 g4 g5 (dW rt la rs rg pd du ds me tt gr su gp mk rf m1 m2 m3 m4 m5 mr mf n1 n2 n3 n4 n5 nr nf E)) = some (some (iv ((rkR eb mb de sd s) l (Int.toNat (B)))), (cW ki ln bt rl cp cs ct cv 14 5 ja ea ma a1 a2 a3 a4 a5 a6 a7 a8 jb eb mb b1 b2 b3 b4 b5 b6 b7 b8 re fl g1 g2 g3 g4 g5 (dW rt la rs rg pd du ds me tt gr su gp mk rf m1 m2 m3 m4 m5 mr mf n1 n2 n3 n4 n5 nr nf E))) := by
  have main : ∀ Q : mm_R → Prop, Q (some (iv ((rkR eb mb de sd s) l (Int.toNat (B)))), (cW ki ln bt rl cp cs ct cv 14 5 ja ea ma a1 a2 a3 a4 a5 a6 a7 a8 jb eb mb b1 b2 b3 b4 b5 b6 b7 b8 re fl g1 g2 g3 g4 g5 (dW rt la rs rg pd du ds me tt gr su gp mk rf m1 m2 m3 m4 m5 mr mf n1 n2 n3 n4 n5 nr nf E))) → rn_X9_lastByDebtor (1000) (0, [(0, .ref 31), (1, iv (B))], [], (cW ki ln bt rl cp cs ct cv 14 5 ja ea ma a1 a2 a3 a4 a5 a6 a7 a8 jb eb mb b1 b2 b3 b4 b5 b6 b7 b8 re fl g1 g2 g3 g4 g5 (dW rt la rs rg pd du ds me tt gr su gp mk rf m1 m2 m3 m4 m5 mr mf n1 n2 n3 n4 n5 nr nf E))) Q := by
    intro Q hQ
    obtain ⟨hL, hRd, hRs, hV, hd, hn, hS, hE, hRS, hX⟩ := id hP
    have hR := rkR_r (sn := mb) hd.2 hRS hE hS hX l (Int.toNat (B)) (by omega)
    have e : (pd (Int.toNat (la * 26 + B))).toInt = (rkR eb mb de sd s) l (Int.toNat (B)) := by
      rw [show Int.toNat (la * 26 + B) = 26 * l + Int.toNat (B) by omega, hI l _ (by omega) (by omega)]
      exact iv_to ⟨by omega, by omega⟩
    rw [← e] at hQ
    refine r_al rfl rfl ?_
    refine r_gf rfl rfl xg_31 rfl ?_
    refine r_al rfl rfl ?_
    refine r_gf rfl rfl xg_31 rfl ?_
    refine r_bi rfl (by decide) ?_
    refine r_mul rfl ?_
    refine r_il rfl rfl ?_
    refine r_add rfl ?_
    refine r_ia rfl xg_32 (by omega) (by omega) (by decide) ?_
    exact r_ret rfl rfl hQ
  obtain ⟨rz, h1, h2⟩ := rn_S (vs := [.ref 31, iv (B)]) (Q := fun rz => rz = (some (iv ((rkR eb mb de sd s) l (Int.toNat (B)))), (cW ki ln bt rl cp cs ct cv 14 5 ja ea ma a1 a2 a3 a4 a5 a6 a7 a8 jb eb mb b1 b2 b3 b4 b5 b6 b7 b8 re fl g1 g2 g3 g4 g5 (dW rt la rs rg pd du ds me tt gr su gp mk rf m1 m2 m3 m4 m5 mr mf n1 n2 n3 n4 n5 nr nf E)))) rfl (rn_up (N := 1000) (M := mm_fuel) (by decide) (main (fun rz => rz = (some (iv ((rkR eb mb de sd s) l (Int.toNat (B)))), (cW ki ln bt rl cp cs ct cv 14 5 ja ea ma a1 a2 a3 a4 a5 a6 a7 a8 jb eb mb b1 b2 b3 b4 b5 b6 b7 b8 re fl g1 g2 g3 g4 g5 (dW rt la rs rg pd du ds me tt gr su gp mk rf m1 m2 m3 m4 m5 mr mf n1 n2 n3 n4 n5 nr nf E)))) rfl))
  have h1 : sX9_lastByDebtor [.ref 31, iv (B)] (cW ki ln bt rl cp cs ct cv 14 5 ja ea ma a1 a2 a3 a4 a5 a6 a7 a8 jb eb mb b1 b2 b3 b4 b5 b6 b7 b8 re fl g1 g2 g3 g4 g5 (dW rt la rs rg pd du ds me tt gr su gp mk rf m1 m2 m3 m4 m5 mr mf n1 n2 n3 n4 n5 nr nf E)) = some rz := h1
  rw [h1, h2]
theorem c_lbs1 (hP : PH eb mb re fl b1 b2 b3 b4 b5 b6 b7 b8 g1 g2 g3 g4 g5 s de sd) {l : Nat} (hl : l ≤ 200) (hla : la = (l : Int)) (hb : 0 ≤ B) (hk : 10 + B < 26) (hI : rcI eb mb de sd s (l + 1) pd) : sX9_lastByStanding [.ref 31, iv (B)] (cW ki ln bt rl cp cs ct cv 14 5 ja ea ma a1 a2 a3 a4 a5 a6 a7 a8 jb eb mb b1 b2 b3 b4 b5 b6 b7 b8 re fl g1 g2 g3 g4 g5 (dW rt la rs rg pd du ds me tt gr su gp mk rf m1 m2 m3 m4 m5 mr mf n1 n2 n3 n4 n5 nr nf E)) = some (some (iv ((rkR eb mb de sd s) l (Int.toNat (10 + B)))), (cW ki ln bt rl cp cs ct cv 14 5 ja ea ma a1 a2 a3 a4 a5 a6 a7 a8 jb eb mb b1 b2 b3 b4 b5 b6 b7 b8 re fl g1 g2 g3 g4 g5 (dW rt la rs rg pd du ds me tt gr su gp mk rf m1 m2 m3 m4 m5 mr mf n1 n2 n3 n4 n5 nr nf E))) := by
  have main : ∀ Q : mm_R → Prop, Q (some (iv ((rkR eb mb de sd s) l (Int.toNat (10 + B)))), (cW ki ln bt rl cp cs ct cv 14 5 ja ea ma a1 a2 a3 a4 a5 a6 a7 a8 jb eb mb b1 b2 b3 b4 b5 b6 b7 b8 re fl g1 g2 g3 g4 g5 (dW rt la rs rg pd du ds me tt gr su gp mk rf m1 m2 m3 m4 m5 mr mf n1 n2 n3 n4 n5 nr nf E))) → rn_X9_lastByStanding (1000) (0, [(0, .ref 31), (1, iv (B))], [], (cW ki ln bt rl cp cs ct cv 14 5 ja ea ma a1 a2 a3 a4 a5 a6 a7 a8 jb eb mb b1 b2 b3 b4 b5 b6 b7 b8 re fl g1 g2 g3 g4 g5 (dW rt la rs rg pd du ds me tt gr su gp mk rf m1 m2 m3 m4 m5 mr mf n1 n2 n3 n4 n5 nr nf E))) Q := by
    intro Q hQ
    obtain ⟨hL, hRd, hRs, hV, hd, hn, hS, hE, hRS, hX⟩ := id hP
    have hR := rkR_r (sn := mb) hd.2 hRS hE hS hX l (Int.toNat (10 + B)) (by omega)
    have e : (pd (Int.toNat (la * 26 + 10 + B))).toInt = (rkR eb mb de sd s) l (Int.toNat (10 + B)) := by
      rw [show Int.toNat (la * 26 + 10 + B) = 26 * l + Int.toNat (10 + B) by omega, hI l _ (by omega) (by omega)]
      exact iv_to ⟨by omega, by omega⟩
    rw [← e] at hQ
    refine r_al rfl rfl ?_
    refine r_gf rfl rfl xg_31 rfl ?_
    refine r_al rfl rfl ?_
    refine r_gf rfl rfl xg_31 rfl ?_
    refine r_bi rfl (by decide) ?_
    refine r_mul rfl ?_
    refine r_bi rfl (by decide) ?_
    refine r_add rfl ?_
    refine r_il rfl rfl ?_
    refine r_add rfl ?_
    refine r_ia rfl xg_32 (by omega) (by omega) (by decide) ?_
    exact r_ret rfl rfl hQ
  obtain ⟨rz, h1, h2⟩ := rn_S (vs := [.ref 31, iv (B)]) (Q := fun rz => rz = (some (iv ((rkR eb mb de sd s) l (Int.toNat (10 + B)))), (cW ki ln bt rl cp cs ct cv 14 5 ja ea ma a1 a2 a3 a4 a5 a6 a7 a8 jb eb mb b1 b2 b3 b4 b5 b6 b7 b8 re fl g1 g2 g3 g4 g5 (dW rt la rs rg pd du ds me tt gr su gp mk rf m1 m2 m3 m4 m5 mr mf n1 n2 n3 n4 n5 nr nf E)))) rfl (rn_up (N := 1000) (M := mm_fuel) (by decide) (main (fun rz => rz = (some (iv ((rkR eb mb de sd s) l (Int.toNat (10 + B)))), (cW ki ln bt rl cp cs ct cv 14 5 ja ea ma a1 a2 a3 a4 a5 a6 a7 a8 jb eb mb b1 b2 b3 b4 b5 b6 b7 b8 re fl g1 g2 g3 g4 g5 (dW rt la rs rg pd du ds me tt gr su gp mk rf m1 m2 m3 m4 m5 mr mf n1 n2 n3 n4 n5 nr nf E)))) rfl))
  have h1 : sX9_lastByStanding [.ref 31, iv (B)] (cW ki ln bt rl cp cs ct cv 14 5 ja ea ma a1 a2 a3 a4 a5 a6 a7 a8 jb eb mb b1 b2 b3 b4 b5 b6 b7 b8 re fl g1 g2 g3 g4 g5 (dW rt la rs rg pd du ds me tt gr su gp mk rf m1 m2 m3 m4 m5 mr mf n1 n2 n3 n4 n5 nr nf E)) = some rz := h1
  rw [h1, h2]
theorem eo_11 (hP : PH eb mb re fl b1 b2 b3 b4 b5 b6 b7 b8 g1 g2 g3 g4 g5 s de sd) {l : Nat} (hl : l ≤ 200) (hla : la = (l : Int)) (hp : 0 ≤ p ∧ p ≤ 7) (hI : rcI eb mb de sd s (l + 1) pd) (k : rn_X9_endOf N (67, [(4, iv (((eb.toNat : Nat) : Int))), (3, iv (rkE eb mb de sd s ((rkR eb mb de sd s) l) p (eb.toNat))), (2, .ref 14), (0, .ref 31), (1, iv (p))], [], (cW ki ln bt rl cp cs ct cv 14 5 ja ea ma a1 a2 a3 a4 a5 a6 a7 a8 jb eb mb b1 b2 b3 b4 b5 b6 b7 b8 re fl g1 g2 g3 g4 g5 (dW rt la rs rg pd du ds me tt gr su gp mk rf m1 m2 m3 m4 m5 mr mf n1 n2 n3 n4 n5 nr nf E))) Q) : ∀ (m j : Nat), j + m = eb.toNat → rn_X9_endOf (N + 50 * m + 50) (24, [(4, iv ((j : Int))), (3, iv (rkE eb mb de sd s ((rkR eb mb de sd s) l) p (j))), (2, .ref 14), (0, .ref 31), (1, iv (p))], [], (cW ki ln bt rl cp cs ct cv 14 5 ja ea ma a1 a2 a3 a4 a5 a6 a7 a8 jb eb mb b1 b2 b3 b4 b5 b6 b7 b8 re fl g1 g2 g3 g4 g5 (dW rt la rs rg pd du ds me tt gr su gp mk rf m1 m2 m3 m4 m5 mr mf n1 n2 n3 n4 n5 nr nf E))) Q := by
  obtain ⟨hL, hRd, hRs, hV, hd, hn, hS, hE, hRS, hX⟩ := id hP
  intro m
  induction m with
  | zero =>
    intro j hj
    have hj : j = eb.toNat := by omega
    subst hj
    refine rn_up (N := N + 50) (by omega) ?_
    refine r_ilw rfl rfl ?_
    refine r_al rfl rfl ?_
    refine r_gf rfl rfl xg_14 rfl ?_
    refine r_cge rfl rfl (by omega) (by omega) (fun u1 => ?_) (fun u1 => ?_)
    · exact rn_up (by omega) k
    · omega
  | succ m ih =>
    intro j hj
    refine rn_up (N := N + 50 * m + 50 + 50) (by omega) ?_
    refine r_ilw rfl rfl ?_
    refine r_al rfl rfl ?_
    refine r_gf rfl rfl xg_14 rfl ?_
    refine r_cge rfl rfl (by omega) (by omega) (fun u1 => ?_) (fun u1 => ?_)
    · omega
    · obtain ⟨e1, e2, v1, v2⟩ := P_de hP (d := (j : Int)) ⟨by omega, by omega⟩
      have hpj : rkP eb mb j = true := by rw [rkP_d (by omega)]; exact decide_eq_true (by omega)
      have eT : rkT de sd j = (de (Int.toNat (3 * (j : Int) + 1))).toInt := by unfold rkT; rw [decide_eq_true (by omega)]; rfl
      have eO : rkO de sd j = (de (Int.toNat (3 * (j : Int)))).toInt := by unfold rkO; rw [decide_eq_true (by omega)]; rfl
      rw [← eT] at e2 v2
      rw [← eO] at e1 v1
      refine r_il rfl rfl ?_
      refine r_il rfl rfl ?_
      refine r_al rfl rfl ?_
      refine r_gf rfl rfl xg_14 rfl ?_
      refine r_ilw rfl rfl ?_
      refine r_ia rfl xg_16 (by omega) (by omega) (by decide) ?_
      refine r_eq e2 ?_
      refine r_al rfl rfl ?_
      refine r_gf rfl rfl xg_14 rfl ?_
      refine r_ilw rfl rfl ?_
      refine r_ia rfl xg_15 (by omega) (by omega) (by decide) ?_
      refine r_eq e1 ?_
      refine r_s3s rfl rfl rfl (c_signFor (by omega) (by omega) (by omega)) ?_
      refine r_al rfl rfl ?_
      refine r_ilw rfl rfl ?_
      refine r_v2s rfl rfl xg_31 rfl (c_lbd1 hP hl hla (by omega) (by omega) hI) ?_
      refine r_mul rfl ?_
      refine r_add rfl ?_
      have en : (rkR eb mb de sd s) l (Int.toNat (j : Int)) = ((rkR eb mb de sd s) l) j := by rw [show Int.toNat ((j : Int)) = j by omega]
      have es : rkE eb mb de sd s ((rkR eb mb de sd s) l) p j + (bi (decide (p = rkT de sd j)) - bi (decide (p = rkO de sd j))) * (rkR eb mb de sd s) l (Int.toNat (j : Int)) = rkE eb mb de sd s ((rkR eb mb de sd s) l) p (j + 1) := by rw [en]; exact rkE_s hpj
      refine r_eq es ?_
      refine r_is (lv' := [(3, _), (4, _), (2, _), (0, _), (1, _)]) rfl rfl rfl ?_
      refine r_inc (lv' := [(4, _), (3, _), (2, _), (0, _), (1, _)]) rfl rfl rfl rfl ?_
      refine r_goto rfl rfl ?_
      exact rn_up (by omega) (ih (j + 1) (by omega))
theorem eo_21 (hP : PH eb mb re fl b1 b2 b3 b4 b5 b6 b7 b8 g1 g2 g3 g4 g5 s de sd) {l : Nat} (hl : l ≤ 200) (hla : la = (l : Int)) (hp : 0 ≤ p ∧ p ≤ 7) (hI : rcI eb mb de sd s (l + 1) pd) (k : rn_X9_endOf N (118, [(4, iv (((mb.toNat : Nat) : Int))), (3, iv (rkE eb mb de sd s ((rkR eb mb de sd s) l) p (10 + mb.toNat))), (2, .ref 14), (0, .ref 31), (1, iv (p))], [], (cW ki ln bt rl cp cs ct cv 14 5 ja ea ma a1 a2 a3 a4 a5 a6 a7 a8 jb eb mb b1 b2 b3 b4 b5 b6 b7 b8 re fl g1 g2 g3 g4 g5 (dW rt la rs rg pd du ds me tt gr su gp mk rf m1 m2 m3 m4 m5 mr mf n1 n2 n3 n4 n5 nr nf E))) Q) : ∀ (m j : Nat), j + m = mb.toNat → rn_X9_endOf (N + 50 * m + 50) (70, [(4, iv ((j : Int))), (3, iv (rkE eb mb de sd s ((rkR eb mb de sd s) l) p (10 + j))), (2, .ref 14), (0, .ref 31), (1, iv (p))], [], (cW ki ln bt rl cp cs ct cv 14 5 ja ea ma a1 a2 a3 a4 a5 a6 a7 a8 jb eb mb b1 b2 b3 b4 b5 b6 b7 b8 re fl g1 g2 g3 g4 g5 (dW rt la rs rg pd du ds me tt gr su gp mk rf m1 m2 m3 m4 m5 mr mf n1 n2 n3 n4 n5 nr nf E))) Q := by
  obtain ⟨hL, hRd, hRs, hV, hd, hn, hS, hE, hRS, hX⟩ := id hP
  intro m
  induction m with
  | zero =>
    intro j hj
    have hj : j = mb.toNat := by omega
    subst hj
    refine rn_up (N := N + 50) (by omega) ?_
    refine r_ilw rfl rfl ?_
    refine r_al rfl rfl ?_
    refine r_gf rfl rfl xg_14 rfl ?_
    refine r_cge rfl rfl (by omega) (by omega) (fun u1 => ?_) (fun u1 => ?_)
    · exact rn_up (by omega) k
    · omega
  | succ m ih =>
    intro j hj
    refine rn_up (N := N + 50 * m + 50 + 50) (by omega) ?_
    refine r_ilw rfl rfl ?_
    refine r_al rfl rfl ?_
    refine r_gf rfl rfl xg_14 rfl ?_
    refine r_cge rfl rfl (by omega) (by omega) (fun u1 => ?_) (fun u1 => ?_)
    · omega
    · obtain ⟨e4, e5, -, -, v1, hp5, -⟩ := P_st hP (i := (j : Int)) ⟨by omega, by omega⟩
      obtain ⟨d, hdd⟩ := Int.eq_ofNat_of_zero_le hp5.1
      rw [hdd] at e5
      obtain ⟨-, e2, -, v2⟩ := P_de hP (d := (d : Int)) ⟨by omega, by omega⟩
      have ek : ((10 + j : Nat) : Int) - 10 = (j : Int) := by omega
      have hpj : rkP eb mb (10 + j) = true := by rw [rkP_s (by omega)]; exact decide_eq_true (by omega)
      have eT : rkT de sd (10 + j) = (de (Int.toNat (3 * (d : Int) + 1))).toInt := by unfold rkT; rw [decide_eq_false (by omega), cond_false, ek, hdd]
      have eO : rkO de sd (10 + j) = (sd (Int.toNat (5 * (j : Int)))).toInt := by unfold rkO; rw [decide_eq_false (by omega), cond_false, ek]
      rw [← eT] at e2 v2
      rw [← eO] at e4 v1
      refine r_il rfl rfl ?_
      refine r_il rfl rfl ?_
      refine r_al rfl rfl ?_
      refine r_gf rfl rfl xg_14 rfl ?_
      refine r_al rfl rfl ?_
      refine r_gf rfl rfl xg_14 rfl ?_
      refine r_ilw rfl rfl ?_
      refine r_ia rfl xg_19 (by omega) (by omega) (by decide) ?_
      refine r_eq e5 ?_
      refine r_ia rfl xg_16 (by omega) (by omega) (by decide) ?_
      refine r_eq e2 ?_
      refine r_al rfl rfl ?_
      refine r_gf rfl rfl xg_14 rfl ?_
      refine r_ilw rfl rfl ?_
      refine r_ia rfl xg_18 (by omega) (by omega) (by decide) ?_
      refine r_eq e4 ?_
      refine r_s3s rfl rfl rfl (c_signFor (by omega) (by omega) (by omega)) ?_
      refine r_al rfl rfl ?_
      refine r_ilw rfl rfl ?_
      refine r_v2s rfl rfl xg_31 rfl (c_lbs1 hP hl hla (by omega) (by omega) hI) ?_
      refine r_mul rfl ?_
      refine r_add rfl ?_
      have en : (rkR eb mb de sd s) l (Int.toNat (10 + (j : Int))) = ((rkR eb mb de sd s) l) (10 + j) := by rw [show Int.toNat (10 + (j : Int)) = (10 + j) by omega]
      have es : rkE eb mb de sd s ((rkR eb mb de sd s) l) p (10 + j) + (bi (decide (p = rkT de sd (10 + j))) - bi (decide (p = rkO de sd (10 + j)))) * (rkR eb mb de sd s) l (Int.toNat (10 + (j : Int))) = rkE eb mb de sd s ((rkR eb mb de sd s) l) p (10 + j + 1) := by rw [en]; exact rkE_s hpj
      refine r_eq es ?_
      refine r_is (lv' := [(3, _), (4, _), (2, _), (0, _), (1, _)]) rfl rfl rfl ?_
      refine r_inc (lv' := [(4, _), (3, _), (2, _), (0, _), (1, _)]) rfl rfl rfl rfl ?_
      refine r_goto rfl rfl ?_
      exact rn_up (by omega) (ih (j + 1) (by omega))
theorem c_eo1 (hP : PH eb mb re fl b1 b2 b3 b4 b5 b6 b7 b8 g1 g2 g3 g4 g5 s de sd) {l : Nat} (hl : l ≤ 200) (hla : la = (l : Int)) (hp : 0 ≤ p ∧ p ≤ 7) (hI : rcI eb mb de sd s (l + 1) pd) : sX9_endOf [.ref 31, iv (p)] (cW ki ln bt rl cp cs ct cv 14 5 ja ea ma a1 a2 a3 a4 a5 a6 a7 a8 jb eb mb b1 b2 b3 b4 b5 b6 b7 b8 re fl g1 g2 g3 g4 g5 (dW rt la rs rg pd du ds me tt gr su gp mk rf m1 m2 m3 m4 m5 mr mf n1 n2 n3 n4 n5 nr nf E)) = some (some (iv (rkE eb mb de sd s ((rkR eb mb de sd s) l) p 26)), (cW ki ln bt rl cp cs ct cv 14 5 ja ea ma a1 a2 a3 a4 a5 a6 a7 a8 jb eb mb b1 b2 b3 b4 b5 b6 b7 b8 re fl g1 g2 g3 g4 g5 (dW rt la rs rg pd du ds me tt gr su gp mk rf m1 m2 m3 m4 m5 mr mf n1 n2 n3 n4 n5 nr nf E))) := by
  have main : ∀ Q : mm_R → Prop, Q (some (iv (rkE eb mb de sd s ((rkR eb mb de sd s) l) p 26)), (cW ki ln bt rl cp cs ct cv 14 5 ja ea ma a1 a2 a3 a4 a5 a6 a7 a8 jb eb mb b1 b2 b3 b4 b5 b6 b7 b8 re fl g1 g2 g3 g4 g5 (dW rt la rs rg pd du ds me tt gr su gp mk rf m1 m2 m3 m4 m5 mr mf n1 n2 n3 n4 n5 nr nf E))) → rn_X9_endOf (20 + 50 * 16 + 50 + 20 + 50 * 10 + 50 + 30) (0, [(0, .ref 31), (1, iv (p))], [], (cW ki ln bt rl cp cs ct cv 14 5 ja ea ma a1 a2 a3 a4 a5 a6 a7 a8 jb eb mb b1 b2 b3 b4 b5 b6 b7 b8 re fl g1 g2 g3 g4 g5 (dW rt la rs rg pd du ds me tt gr su gp mk rf m1 m2 m3 m4 m5 mr mf n1 n2 n3 n4 n5 nr nf E))) Q := by
    intro Q hQ
    obtain ⟨hL, hRd, hRs, hV, hd, hn, hS, hE, hRS, hX⟩ := id hP
    obtain ⟨w, hw⟩ := Int.eq_ofNat_of_zero_le hp.1
    have eb' : (g5 (Int.toNat p)).toInt = rkE eb mb de sd s ((rkR eb mb de sd s) l) p 0 := by
      show _ = (s (Int.toNat (122 + p))).toInt
      rw [hw, show Int.toNat (w : Int) = w from rfl, hL.2.2.2.2.1 w (by omega), show Int.toNat (122 + (w : Int)) = 122 + w by omega]
    refine r_al rfl rfl ?_
    refine r_gf rfl rfl xg_31 rfl ?_
    refine r_gf rfl rfl xg_4 rfl ?_
    refine r_as (lv' := [(2, _), (0, _), (1, _)]) rfl rfl rfl ?_
    refine r_al rfl rfl ?_
    refine r_gf rfl rfl xg_31 rfl ?_
    refine r_gf rfl rfl xg_4 rfl ?_
    refine r_gf rfl rfl xg_23 rfl ?_
    refine r_il rfl rfl ?_
    refine r_ia rfl xg_28 (by omega) (by omega) (by decide) ?_
    refine r_eq eb' ?_
    refine r_is (lv' := [(3, _), (2, _), (0, _), (1, _)]) rfl rfl rfl ?_
    refine r_ic rfl ?_
    refine r_isw (lv' := [(4, _), (3, _), (2, _), (0, _), (1, _)]) rfl rfl rfl ?_
    refine rn_up (N := (20 + 50 * 16 + 50 + 20) + 50 * eb.toNat + 50) (by omega) (eo_11 (N := 20 + 50 * 16 + 50 + 20) hP hl hla hp hI ?_ eb.toNat 0 (by omega))
    refine r_ic rfl ?_
    refine r_isw (lv' := [(4, _), (3, _), (2, _), (0, _), (1, _)]) rfl rfl rfl ?_
    have g1' : rkE eb mb de sd s ((rkR eb mb de sd s) l) p eb.toNat = rkE eb mb de sd s ((rkR eb mb de sd s) l) p 10 := (gap_d (sn := mb) (T := fun j => rkE eb mb de sd s ((rkR eb mb de sd s) l) p eb.toNat = rkE eb mb de sd s ((rkR eb mb de sd s) l) p j) hd (fun j hj h => h.trans (rkE_k hj).symm) rfl)
    have g2' : rkE eb mb de sd s ((rkR eb mb de sd s) l) p (10 + mb.toNat) = rkE eb mb de sd s ((rkR eb mb de sd s) l) p 26 := (gap_s (db := eb) (T := fun j => rkE eb mb de sd s ((rkR eb mb de sd s) l) p (10 + mb.toNat) = rkE eb mb de sd s ((rkR eb mb de sd s) l) p j) hn (fun j hj h => h.trans (rkE_k hj).symm) rfl)
    rw [g1']
    refine rn_up (N := 20 + 50 * mb.toNat + 50) (by omega) (eo_21 (N := 20) hP hl hla hp hI ?_ mb.toNat 0 (by omega))
    rw [g2']
    refine r_il rfl rfl ?_
    exact r_ret rfl rfl hQ
  obtain ⟨rz, h1, h2⟩ := rn_S (vs := [.ref 31, iv (p)]) (Q := fun rz => rz = (some (iv (rkE eb mb de sd s ((rkR eb mb de sd s) l) p 26)), (cW ki ln bt rl cp cs ct cv 14 5 ja ea ma a1 a2 a3 a4 a5 a6 a7 a8 jb eb mb b1 b2 b3 b4 b5 b6 b7 b8 re fl g1 g2 g3 g4 g5 (dW rt la rs rg pd du ds me tt gr su gp mk rf m1 m2 m3 m4 m5 mr mf n1 n2 n3 n4 n5 nr nf E)))) rfl (rn_up (N := 20 + 50 * 16 + 50 + 20 + 50 * 10 + 50 + 30) (M := mm_fuel) (by decide) (main (fun rz => rz = (some (iv (rkE eb mb de sd s ((rkR eb mb de sd s) l) p 26)), (cW ki ln bt rl cp cs ct cv 14 5 ja ea ma a1 a2 a3 a4 a5 a6 a7 a8 jb eb mb b1 b2 b3 b4 b5 b6 b7 b8 re fl g1 g2 g3 g4 g5 (dW rt la rs rg pd du ds me tt gr su gp mk rf m1 m2 m3 m4 m5 mr mf n1 n2 n3 n4 n5 nr nf E)))) rfl))
  have h1 : sX9_endOf [.ref 31, iv (p)] (cW ki ln bt rl cp cs ct cv 14 5 ja ea ma a1 a2 a3 a4 a5 a6 a7 a8 jb eb mb b1 b2 b3 b4 b5 b6 b7 b8 re fl g1 g2 g3 g4 g5 (dW rt la rs rg pd du ds me tt gr su gp mk rf m1 m2 m3 m4 m5 mr mf n1 n2 n3 n4 n5 nr nf E)) = some rz := h1
  rw [h1, h2]
theorem c_roundsC1_1 (hP : PH eb mb re fl b1 b2 b3 b4 b5 b6 b7 b8 g1 g2 g3 g4 g5 s de sd) (hr : -2147483648 ≤ a ∧ a ≤ 2147483647) (ha : i3 a 0 1 = true) : ∃ pd' du' ds' me' : Nat → Int32, sX11_rounds [.ref 0, iv (a)] (cW ki ln bt rl cp cs ct cv 14 5 ja ea ma a1 a2 a3 a4 a5 a6 a7 a8 jb eb mb b1 b2 b3 b4 b5 b6 b7 b8 re fl g1 g2 g3 g4 g5 (dW rt la rs rg pd du ds me tt gr su gp mk rf m1 m2 m3 m4 m5 mr mf n1 n2 n3 n4 n5 nr nf E)) = some (some (iv (bif decide (a = 0) then (bif decide ((rgo (rkR eb mb de sd s) 200 0).2 = 1) then (((rgo (rkR eb mb de sd s) 200 0).1 : Nat) : Int) else -9) else (bif decide ((rgo (rkR eb mb de sd s) 200 0).2 = 1) then 0 else (rgo (rkR eb mb de sd s) 200 0).2))), (cW ki ln bt rl cp cs ct cv 14 5 ja ea ma a1 a2 a3 a4 a5 a6 a7 a8 jb eb mb b1 b2 b3 b4 b5 b6 b7 b8 re fl g1 g2 g3 g4 g5 (dW rt (((rgo (rkR eb mb de sd s) 200 0).1 : Nat) : Int) (bif decide ((rgo (rkR eb mb de sd s) 200 0).2 = 1) then (((rgo (rkR eb mb de sd s) 200 0).1 : Nat) : Int) else -9) (bif decide ((rgo (rkR eb mb de sd s) 200 0).2 = 1) then 0 else (rgo (rkR eb mb de sd s) 200 0).2) pd' du' ds' me' tt gr su gp mk rf m1 m2 m3 m4 m5 mr mf n1 n2 n3 n4 n5 nr nf E))) := by
  obtain ⟨pd', du', ds', me', hru, hI⟩ := c_run1 (E := E) (ki := ki) (ln := ln) (bt := bt) (rl := rl) (cp := cp) (cs := cs) (ct := ct) (cv := cv) (ja := ja) (ea := ea) (ma := ma) (a1 := a1) (a2 := a2) (a3 := a3) (a4 := a4) (a5 := a5) (a6 := a6) (a7 := a7) (a8 := a8) (jb := jb) (eb := eb) (mb := mb) (b1 := b1) (b2 := b2) (b3 := b3) (b4 := b4) (b5 := b5) (b6 := b6) (b7 := b7) (b8 := b8) (re := re) (fl := fl) (g1 := g1) (g2 := g2) (g3 := g3) (g4 := g4) (g5 := g5) (rt := rt) (la := la) (rs := rs) (rg := rg) (pd := pd) (du := du) (ds := ds) (me := me) (tt := tt) (gr := gr) (su := su) (gp := gp) (mk := mk) (rf := rf) (m1 := m1) (m2 := m2) (m3 := m3) (m4 := m4) (m5 := m5) (mr := mr) (mf := mf) (n1 := n1) (n2 := n2) (n3 := n3) (n4 := n4) (n5 := n5) (nr := nr) (nf := nf) hP
  have hgr := rgo_r (R := (rkR eb mb de sd s)) 200 0
  have main : ∀ Q : mm_R → Prop, Q (some (iv (bif decide (a = 0) then (bif decide ((rgo (rkR eb mb de sd s) 200 0).2 = 1) then (((rgo (rkR eb mb de sd s) 200 0).1 : Nat) : Int) else -9) else (bif decide ((rgo (rkR eb mb de sd s) 200 0).2 = 1) then 0 else (rgo (rkR eb mb de sd s) 200 0).2))), (cW ki ln bt rl cp cs ct cv 14 5 ja ea ma a1 a2 a3 a4 a5 a6 a7 a8 jb eb mb b1 b2 b3 b4 b5 b6 b7 b8 re fl g1 g2 g3 g4 g5 (dW rt (((rgo (rkR eb mb de sd s) 200 0).1 : Nat) : Int) (bif decide ((rgo (rkR eb mb de sd s) 200 0).2 = 1) then (((rgo (rkR eb mb de sd s) 200 0).1 : Nat) : Int) else -9) (bif decide ((rgo (rkR eb mb de sd s) 200 0).2 = 1) then 0 else (rgo (rkR eb mb de sd s) 200 0).2) pd' du' ds' me' tt gr su gp mk rf m1 m2 m3 m4 m5 mr mf n1 n2 n3 n4 n5 nr nf E))) → rn_X11_rounds 200 (0, [(0, .ref 0), (1, iv (a))], [], (cW ki ln bt rl cp cs ct cv 14 5 ja ea ma a1 a2 a3 a4 a5 a6 a7 a8 jb eb mb b1 b2 b3 b4 b5 b6 b7 b8 re fl g1 g2 g3 g4 g5 (dW rt la rs rg pd du ds me tt gr su gp mk rf m1 m2 m3 m4 m5 mr mf n1 n2 n3 n4 n5 nr nf E))) Q := by
    intro Q hQ
    have va := i3_t ha
    refine r_il rfl rfl ?_
    refine r_zlt rfl rfl (by omega) (fun u1 => ?_) (fun u1 => ?_)
    · omega
    · refine r_il rfl rfl ?_
      refine r_ic rfl ?_
      refine r_cle rfl rfl (by omega) (by decide) (fun u2 => ?_) (fun u2 => ?_)
      · refine r_al rfl rfl ?_
        refine r_gf rfl rfl xg_0 rfl ?_
        refine r_v1n rfl rfl xg_31 rfl hru ?_
        refine r_il rfl rfl ?_
        refine r_zne rfl rfl (by omega) (fun u3 => ?_) (fun u3 => ?_)
        · rw [decide_eq_false u3, cond_false] at hQ
          refine r_al rfl rfl ?_
          refine r_gf rfl rfl xg_0 rfl ?_
          refine r_gf rfl rfl xg_31 rfl ?_
          exact r_ret rfl rfl hQ
        · rw [decide_eq_true u3, cond_true] at hQ
          refine r_al rfl rfl ?_
          refine r_gf rfl rfl xg_0 rfl ?_
          refine r_gf rfl rfl xg_31 rfl ?_
          refine r_goto rfl rfl ?_
          exact r_ret rfl rfl hQ
      · omega
  obtain ⟨x, h1, h2⟩ := rn_S (vs := [.ref 0, iv (a)]) (Q := fun x => x = (some (iv (bif decide (a = 0) then (bif decide ((rgo (rkR eb mb de sd s) 200 0).2 = 1) then (((rgo (rkR eb mb de sd s) 200 0).1 : Nat) : Int) else -9) else (bif decide ((rgo (rkR eb mb de sd s) 200 0).2 = 1) then 0 else (rgo (rkR eb mb de sd s) 200 0).2))), (cW ki ln bt rl cp cs ct cv 14 5 ja ea ma a1 a2 a3 a4 a5 a6 a7 a8 jb eb mb b1 b2 b3 b4 b5 b6 b7 b8 re fl g1 g2 g3 g4 g5 (dW rt (((rgo (rkR eb mb de sd s) 200 0).1 : Nat) : Int) (bif decide ((rgo (rkR eb mb de sd s) 200 0).2 = 1) then (((rgo (rkR eb mb de sd s) 200 0).1 : Nat) : Int) else -9) (bif decide ((rgo (rkR eb mb de sd s) 200 0).2 = 1) then 0 else (rgo (rkR eb mb de sd s) 200 0).2) pd' du' ds' me' tt gr su gp mk rf m1 m2 m3 m4 m5 mr mf n1 n2 n3 n4 n5 nr nf E)))) rfl (rn_up (N := 200) (M := mm_fuel) (by decide) (main _ rfl))
  have h1 : sX11_rounds [.ref 0, iv (a)] (cW ki ln bt rl cp cs ct cv 14 5 ja ea ma a1 a2 a3 a4 a5 a6 a7 a8 jb eb mb b1 b2 b3 b4 b5 b6 b7 b8 re fl g1 g2 g3 g4 g5 (dW rt la rs rg pd du ds me tt gr su gp mk rf m1 m2 m3 m4 m5 mr mf n1 n2 n3 n4 n5 nr nf E)) = some x := h1
  exact ⟨pd', du', ds', me', by rw [h1, h2]⟩
theorem c_roundsC1_0 (hr : -2147483648 ≤ a ∧ a ≤ 2147483647) (ha : i3 a 0 1 = false) : sX11_rounds [.ref 0, iv (a)] (cW ki ln bt rl cp cs ct cv 14 5 ja ea ma a1 a2 a3 a4 a5 a6 a7 a8 jb eb mb b1 b2 b3 b4 b5 b6 b7 b8 re fl g1 g2 g3 g4 g5 (dW rt la rs rg pd du ds me tt gr su gp mk rf m1 m2 m3 m4 m5 mr mf n1 n2 n3 n4 n5 nr nf E)) = some (some (iv (-1)), (cW ki ln bt rl cp cs ct cv 14 5 ja ea ma a1 a2 a3 a4 a5 a6 a7 a8 jb eb mb b1 b2 b3 b4 b5 b6 b7 b8 re fl g1 g2 g3 g4 g5 (dW rt la rs rg pd du ds me tt gr su gp mk rf m1 m2 m3 m4 m5 mr mf n1 n2 n3 n4 n5 nr nf E))) := by
  have main : ∀ Q : mm_R → Prop, Q (some (iv (-1)), (cW ki ln bt rl cp cs ct cv 14 5 ja ea ma a1 a2 a3 a4 a5 a6 a7 a8 jb eb mb b1 b2 b3 b4 b5 b6 b7 b8 re fl g1 g2 g3 g4 g5 (dW rt la rs rg pd du ds me tt gr su gp mk rf m1 m2 m3 m4 m5 mr mf n1 n2 n3 n4 n5 nr nf E))) → rn_X11_rounds (1000) (0, [(0, .ref 0), (1, iv (a))], [], (cW ki ln bt rl cp cs ct cv 14 5 ja ea ma a1 a2 a3 a4 a5 a6 a7 a8 jb eb mb b1 b2 b3 b4 b5 b6 b7 b8 re fl g1 g2 g3 g4 g5 (dW rt la rs rg pd du ds me tt gr su gp mk rf m1 m2 m3 m4 m5 mr mf n1 n2 n3 n4 n5 nr nf E))) Q := by
    intro Q hQ
    refine r_il rfl rfl ?_
    refine r_zlt rfl rfl hr (fun u1 => ?_) (fun u1 => ?_)
    · refine r_ic rfl ?_
      exact r_ret rfl rfl hQ
    · refine r_il rfl rfl ?_
      refine r_ic rfl ?_
      refine r_cle rfl rfl hr (by decide) (fun u2 => ?_) (fun u2 => ?_)
      · have e : i3 a 0 1 = true := by simp [i3]; omega
        rw [e] at ha
        cases ha
      · refine r_ic rfl ?_
        exact r_ret rfl rfl hQ
  obtain ⟨rz, h1, h2⟩ := rn_S (vs := [.ref 0, iv (a)]) (Q := fun rz => rz = (some (iv (-1)), (cW ki ln bt rl cp cs ct cv 14 5 ja ea ma a1 a2 a3 a4 a5 a6 a7 a8 jb eb mb b1 b2 b3 b4 b5 b6 b7 b8 re fl g1 g2 g3 g4 g5 (dW rt la rs rg pd du ds me tt gr su gp mk rf m1 m2 m3 m4 m5 mr mf n1 n2 n3 n4 n5 nr nf E)))) rfl (rn_up (N := 1000) (M := mm_fuel) (by decide) (main (fun rz => rz = (some (iv (-1)), (cW ki ln bt rl cp cs ct cv 14 5 ja ea ma a1 a2 a3 a4 a5 a6 a7 a8 jb eb mb b1 b2 b3 b4 b5 b6 b7 b8 re fl g1 g2 g3 g4 g5 (dW rt la rs rg pd du ds me tt gr su gp mk rf m1 m2 m3 m4 m5 mr mf n1 n2 n3 n4 n5 nr nf E)))) rfl))
  have h1 : sX11_rounds [.ref 0, iv (a)] (cW ki ln bt rl cp cs ct cv 14 5 ja ea ma a1 a2 a3 a4 a5 a6 a7 a8 jb eb mb b1 b2 b3 b4 b5 b6 b7 b8 re fl g1 g2 g3 g4 g5 (dW rt la rs rg pd du ds me tt gr su gp mk rf m1 m2 m3 m4 m5 mr mf n1 n2 n3 n4 n5 nr nf E)) = some rz := h1
  rw [h1, h2]
theorem c_endC1_1 (hP : PH eb mb re fl b1 b2 b3 b4 b5 b6 b7 b8 g1 g2 g3 g4 g5 s de sd) (hr : -2147483648 ≤ a ∧ a ≤ 2147483647) (ha : i3 a 0 7 = true) : ∃ pd' du' ds' me' : Nat → Int32, sX11_end [.ref 0, iv (a)] (cW ki ln bt rl cp cs ct cv 14 5 ja ea ma a1 a2 a3 a4 a5 a6 a7 a8 jb eb mb b1 b2 b3 b4 b5 b6 b7 b8 re fl g1 g2 g3 g4 g5 (dW rt la rs rg pd du ds me tt gr su gp mk rf m1 m2 m3 m4 m5 mr mf n1 n2 n3 n4 n5 nr nf E)) = some (some (iv (rkE eb mb de sd s ((rkR eb mb de sd s) (rgo (rkR eb mb de sd s) 200 0).1) a 26)), (cW ki ln bt rl cp cs ct cv 14 5 ja ea ma a1 a2 a3 a4 a5 a6 a7 a8 jb eb mb b1 b2 b3 b4 b5 b6 b7 b8 re fl g1 g2 g3 g4 g5 (dW rt (((rgo (rkR eb mb de sd s) 200 0).1 : Nat) : Int) (bif decide ((rgo (rkR eb mb de sd s) 200 0).2 = 1) then (((rgo (rkR eb mb de sd s) 200 0).1 : Nat) : Int) else -9) (bif decide ((rgo (rkR eb mb de sd s) 200 0).2 = 1) then 0 else (rgo (rkR eb mb de sd s) 200 0).2) pd' du' ds' me' tt gr su gp mk rf m1 m2 m3 m4 m5 mr mf n1 n2 n3 n4 n5 nr nf E))) := by
  obtain ⟨pd', du', ds', me', hru, hI⟩ := c_run1 (E := E) (ki := ki) (ln := ln) (bt := bt) (rl := rl) (cp := cp) (cs := cs) (ct := ct) (cv := cv) (ja := ja) (ea := ea) (ma := ma) (a1 := a1) (a2 := a2) (a3 := a3) (a4 := a4) (a5 := a5) (a6 := a6) (a7 := a7) (a8 := a8) (jb := jb) (eb := eb) (mb := mb) (b1 := b1) (b2 := b2) (b3 := b3) (b4 := b4) (b5 := b5) (b6 := b6) (b7 := b7) (b8 := b8) (re := re) (fl := fl) (g1 := g1) (g2 := g2) (g3 := g3) (g4 := g4) (g5 := g5) (rt := rt) (la := la) (rs := rs) (rg := rg) (pd := pd) (du := du) (ds := ds) (me := me) (tt := tt) (gr := gr) (su := su) (gp := gp) (mk := mk) (rf := rf) (m1 := m1) (m2 := m2) (m3 := m3) (m4 := m4) (m5 := m5) (mr := mr) (mf := mf) (n1 := n1) (n2 := n2) (n3 := n3) (n4 := n4) (n5 := n5) (nr := nr) (nf := nf) hP
  have hgr := rgo_r (R := (rkR eb mb de sd s)) 200 0
  have main : ∀ Q : mm_R → Prop, Q (some (iv (rkE eb mb de sd s ((rkR eb mb de sd s) (rgo (rkR eb mb de sd s) 200 0).1) a 26)), (cW ki ln bt rl cp cs ct cv 14 5 ja ea ma a1 a2 a3 a4 a5 a6 a7 a8 jb eb mb b1 b2 b3 b4 b5 b6 b7 b8 re fl g1 g2 g3 g4 g5 (dW rt (((rgo (rkR eb mb de sd s) 200 0).1 : Nat) : Int) (bif decide ((rgo (rkR eb mb de sd s) 200 0).2 = 1) then (((rgo (rkR eb mb de sd s) 200 0).1 : Nat) : Int) else -9) (bif decide ((rgo (rkR eb mb de sd s) 200 0).2 = 1) then 0 else (rgo (rkR eb mb de sd s) 200 0).2) pd' du' ds' me' tt gr su gp mk rf m1 m2 m3 m4 m5 mr mf n1 n2 n3 n4 n5 nr nf E))) → rn_X11_end 200 (0, [(0, .ref 0), (1, iv (a))], [], (cW ki ln bt rl cp cs ct cv 14 5 ja ea ma a1 a2 a3 a4 a5 a6 a7 a8 jb eb mb b1 b2 b3 b4 b5 b6 b7 b8 re fl g1 g2 g3 g4 g5 (dW rt la rs rg pd du ds me tt gr su gp mk rf m1 m2 m3 m4 m5 mr mf n1 n2 n3 n4 n5 nr nf E))) Q := by
    intro Q hQ
    have va := i3_t ha
    refine r_il rfl rfl ?_
    refine r_s1s rfl rfl rfl (c_isPersonC hr) ?_
    rw [ha]
    refine r_zne rfl rfl (bi_r _) (fun u1 => ?_) (fun u1 => ?_)
    · refine r_al rfl rfl ?_
      refine r_gf rfl rfl xg_0 rfl ?_
      refine r_v1n rfl rfl xg_31 rfl hru ?_
      refine r_al rfl rfl ?_
      refine r_gf rfl rfl xg_0 rfl ?_
      refine r_il rfl rfl ?_
      refine r_v2s rfl rfl xg_31 rfl (c_eo1 (l := (rgo (rkR eb mb de sd s) 200 0).1) hP (by omega) rfl va hI) ?_
      exact r_ret rfl rfl hQ
    · exact absurd u1 (by decide)
  obtain ⟨x, h1, h2⟩ := rn_S (vs := [.ref 0, iv (a)]) (Q := fun x => x = (some (iv (rkE eb mb de sd s ((rkR eb mb de sd s) (rgo (rkR eb mb de sd s) 200 0).1) a 26)), (cW ki ln bt rl cp cs ct cv 14 5 ja ea ma a1 a2 a3 a4 a5 a6 a7 a8 jb eb mb b1 b2 b3 b4 b5 b6 b7 b8 re fl g1 g2 g3 g4 g5 (dW rt (((rgo (rkR eb mb de sd s) 200 0).1 : Nat) : Int) (bif decide ((rgo (rkR eb mb de sd s) 200 0).2 = 1) then (((rgo (rkR eb mb de sd s) 200 0).1 : Nat) : Int) else -9) (bif decide ((rgo (rkR eb mb de sd s) 200 0).2 = 1) then 0 else (rgo (rkR eb mb de sd s) 200 0).2) pd' du' ds' me' tt gr su gp mk rf m1 m2 m3 m4 m5 mr mf n1 n2 n3 n4 n5 nr nf E)))) rfl (rn_up (N := 200) (M := mm_fuel) (by decide) (main _ rfl))
  have h1 : sX11_end [.ref 0, iv (a)] (cW ki ln bt rl cp cs ct cv 14 5 ja ea ma a1 a2 a3 a4 a5 a6 a7 a8 jb eb mb b1 b2 b3 b4 b5 b6 b7 b8 re fl g1 g2 g3 g4 g5 (dW rt la rs rg pd du ds me tt gr su gp mk rf m1 m2 m3 m4 m5 mr mf n1 n2 n3 n4 n5 nr nf E)) = some x := h1
  exact ⟨pd', du', ds', me', by rw [h1, h2]⟩
theorem c_endC1_0 (hr : -2147483648 ≤ a ∧ a ≤ 2147483647) (ha : i3 a 0 7 = false) : sX11_end [.ref 0, iv (a)] (cW ki ln bt rl cp cs ct cv 14 5 ja ea ma a1 a2 a3 a4 a5 a6 a7 a8 jb eb mb b1 b2 b3 b4 b5 b6 b7 b8 re fl g1 g2 g3 g4 g5 (dW rt la rs rg pd du ds me tt gr su gp mk rf m1 m2 m3 m4 m5 mr mf n1 n2 n3 n4 n5 nr nf E)) = some (some (iv (-1000000)), (cW ki ln bt rl cp cs ct cv 14 5 ja ea ma a1 a2 a3 a4 a5 a6 a7 a8 jb eb mb b1 b2 b3 b4 b5 b6 b7 b8 re fl g1 g2 g3 g4 g5 (dW rt la rs rg pd du ds me tt gr su gp mk rf m1 m2 m3 m4 m5 mr mf n1 n2 n3 n4 n5 nr nf E))) := by
  have main : ∀ Q : mm_R → Prop, Q (some (iv (-1000000)), (cW ki ln bt rl cp cs ct cv 14 5 ja ea ma a1 a2 a3 a4 a5 a6 a7 a8 jb eb mb b1 b2 b3 b4 b5 b6 b7 b8 re fl g1 g2 g3 g4 g5 (dW rt la rs rg pd du ds me tt gr su gp mk rf m1 m2 m3 m4 m5 mr mf n1 n2 n3 n4 n5 nr nf E))) → rn_X11_end (1000) (0, [(0, .ref 0), (1, iv (a))], [], (cW ki ln bt rl cp cs ct cv 14 5 ja ea ma a1 a2 a3 a4 a5 a6 a7 a8 jb eb mb b1 b2 b3 b4 b5 b6 b7 b8 re fl g1 g2 g3 g4 g5 (dW rt la rs rg pd du ds me tt gr su gp mk rf m1 m2 m3 m4 m5 mr mf n1 n2 n3 n4 n5 nr nf E))) Q := by
    intro Q hQ
    refine r_il rfl rfl ?_
    refine r_s1s rfl rfl rfl (c_isPersonC hr) ?_
    rw [ha]
    refine r_zne rfl rfl (bi_r _) (fun u1 => ?_) (fun u1 => ?_)
    · exact absurd rfl u1
    · refine r_ldc (v := iv (-1000000)) rfl rfl ?_
      exact r_ret rfl rfl hQ
  obtain ⟨rz, h1, h2⟩ := rn_S (vs := [.ref 0, iv (a)]) (Q := fun rz => rz = (some (iv (-1000000)), (cW ki ln bt rl cp cs ct cv 14 5 ja ea ma a1 a2 a3 a4 a5 a6 a7 a8 jb eb mb b1 b2 b3 b4 b5 b6 b7 b8 re fl g1 g2 g3 g4 g5 (dW rt la rs rg pd du ds me tt gr su gp mk rf m1 m2 m3 m4 m5 mr mf n1 n2 n3 n4 n5 nr nf E)))) rfl (rn_up (N := 1000) (M := mm_fuel) (by decide) (main (fun rz => rz = (some (iv (-1000000)), (cW ki ln bt rl cp cs ct cv 14 5 ja ea ma a1 a2 a3 a4 a5 a6 a7 a8 jb eb mb b1 b2 b3 b4 b5 b6 b7 b8 re fl g1 g2 g3 g4 g5 (dW rt la rs rg pd du ds me tt gr su gp mk rf m1 m2 m3 m4 m5 mr mf n1 n2 n3 n4 n5 nr nf E)))) rfl))
  have h1 : sX11_end [.ref 0, iv (a)] (cW ki ln bt rl cp cs ct cv 14 5 ja ea ma a1 a2 a3 a4 a5 a6 a7 a8 jb eb mb b1 b2 b3 b4 b5 b6 b7 b8 re fl g1 g2 g3 g4 g5 (dW rt la rs rg pd du ds me tt gr su gp mk rf m1 m2 m3 m4 m5 mr mf n1 n2 n3 n4 n5 nr nf E)) = some rz := h1
  rw [h1, h2]
theorem c_bearsC1_1 (hP : PH eb mb re fl b1 b2 b3 b4 b5 b6 b7 b8 g1 g2 g3 g4 g5 s de sd) (hr : -2147483648 ≤ a ∧ a ≤ 2147483647) (hb : -2147483648 ≤ b ∧ b ≤ 2147483647) (ha : fTH eb mb a b = true) : ∃ pd' du' ds' me' : Nat → Int32, sX11_bears [.ref 0, iv (a), iv (b)] (cW ki ln bt rl cp cs ct cv 14 5 ja ea ma a1 a2 a3 a4 a5 a6 a7 a8 jb eb mb b1 b2 b3 b4 b5 b6 b7 b8 re fl g1 g2 g3 g4 g5 (dW rt la rs rg pd du ds me tt gr su gp mk rf m1 m2 m3 m4 m5 mr mf n1 n2 n3 n4 n5 nr nf E)) = some (some (iv ((rkR eb mb de sd s) (rgo (rkR eb mb de sd s) 200 0).1 (Int.toNat (bif decide (a = 1) then 10 + b else b)))), (cW ki ln bt rl cp cs ct cv 14 5 ja ea ma a1 a2 a3 a4 a5 a6 a7 a8 jb eb mb b1 b2 b3 b4 b5 b6 b7 b8 re fl g1 g2 g3 g4 g5 (dW rt (((rgo (rkR eb mb de sd s) 200 0).1 : Nat) : Int) (bif decide ((rgo (rkR eb mb de sd s) 200 0).2 = 1) then (((rgo (rkR eb mb de sd s) 200 0).1 : Nat) : Int) else -9) (bif decide ((rgo (rkR eb mb de sd s) 200 0).2 = 1) then 0 else (rgo (rkR eb mb de sd s) 200 0).2) pd' du' ds' me' tt gr su gp mk rf m1 m2 m3 m4 m5 mr mf n1 n2 n3 n4 n5 nr nf E))) := by
  obtain ⟨pd', du', ds', me', hru, hI⟩ := c_run1 (E := E) (ki := ki) (ln := ln) (bt := bt) (rl := rl) (cp := cp) (cs := cs) (ct := ct) (cv := cv) (ja := ja) (ea := ea) (ma := ma) (a1 := a1) (a2 := a2) (a3 := a3) (a4 := a4) (a5 := a5) (a6 := a6) (a7 := a7) (a8 := a8) (jb := jb) (eb := eb) (mb := mb) (b1 := b1) (b2 := b2) (b3 := b3) (b4 := b4) (b5 := b5) (b6 := b6) (b7 := b7) (b8 := b8) (re := re) (fl := fl) (g1 := g1) (g2 := g2) (g3 := g3) (g4 := g4) (g5 := g5) (rt := rt) (la := la) (rs := rs) (rg := rg) (pd := pd) (du := du) (ds := ds) (me := me) (tt := tt) (gr := gr) (su := su) (gp := gp) (mk := mk) (rf := rf) (m1 := m1) (m2 := m2) (m3 := m3) (m4 := m4) (m5 := m5) (mr := mr) (mf := mf) (n1 := n1) (n2 := n2) (n3 := n3) (n4 := n4) (n5 := n5) (nr := nr) (nf := nf) hP
  have hgr := rgo_r (R := (rkR eb mb de sd s)) 200 0
  have main : ∀ Q : mm_R → Prop, Q (some (iv ((rkR eb mb de sd s) (rgo (rkR eb mb de sd s) 200 0).1 (Int.toNat (bif decide (a = 1) then 10 + b else b)))), (cW ki ln bt rl cp cs ct cv 14 5 ja ea ma a1 a2 a3 a4 a5 a6 a7 a8 jb eb mb b1 b2 b3 b4 b5 b6 b7 b8 re fl g1 g2 g3 g4 g5 (dW rt (((rgo (rkR eb mb de sd s) 200 0).1 : Nat) : Int) (bif decide ((rgo (rkR eb mb de sd s) 200 0).2 = 1) then (((rgo (rkR eb mb de sd s) 200 0).1 : Nat) : Int) else -9) (bif decide ((rgo (rkR eb mb de sd s) 200 0).2 = 1) then 0 else (rgo (rkR eb mb de sd s) 200 0).2) pd' du' ds' me' tt gr su gp mk rf m1 m2 m3 m4 m5 mr mf n1 n2 n3 n4 n5 nr nf E))) → rn_X11_bears 200 (0, [(0, .ref 0), (1, iv (a)), (2, iv (b))], [], (cW ki ln bt rl cp cs ct cv 14 5 ja ea ma a1 a2 a3 a4 a5 a6 a7 a8 jb eb mb b1 b2 b3 b4 b5 b6 b7 b8 re fl g1 g2 g3 g4 g5 (dW rt la rs rg pd du ds me tt gr su gp mk rf m1 m2 m3 m4 m5 mr mf n1 n2 n3 n4 n5 nr nf E))) Q := by
    intro Q hQ
    have hdb := hP.2.2.2.2.1
    have hsn := hP.2.2.2.2.2.1
    have hq : (a = 1 ∧ 0 ≤ b ∧ b < mb) ∨ (a = 0 ∧ 0 ≤ b ∧ b < eb) := by
      have ht := ha
      unfold fTH at ht
      rw [Bool.and_eq_true] at ht
      have h1 := i3_t ht.1
      by_cases e : a = 1
      · have h2 := ht.2
        rw [decide_eq_true e, cond_true] at h2
        have h2 := i3_t h2
        omega
      · have h2 := ht.2
        rw [decide_eq_false e, cond_false] at h2
        have h2 := i3_t h2
        omega
    refine r_al rfl rfl ?_
    refine r_il rfl rfl ?_
    refine r_il rfl rfl ?_
    refine r_v3s rfl rfl xg_0 rfl (c_isPay1 hr hb hP.2.2.2.2.1 hP.2.2.2.2.2.1) ?_
    rw [ha]
    refine r_zne rfl rfl (bi_r _) (fun u1 => ?_) (fun u1 => ?_)
    · refine r_al rfl rfl ?_
      refine r_gf rfl rfl xg_0 rfl ?_
      refine r_v1n rfl rfl xg_31 rfl hru ?_
      refine r_il rfl rfl ?_
      refine r_ic rfl ?_
      refine r_cne rfl rfl hr (by decide) (fun u2 => ?_) (fun u2 => ?_)
      · rw [decide_eq_false u2, cond_false] at hQ
        refine r_al rfl rfl ?_
        refine r_gf rfl rfl xg_0 rfl ?_
        refine r_il rfl rfl ?_
        refine r_v2s rfl rfl xg_31 rfl (c_lbd1 (l := (rgo (rkR eb mb de sd s) 200 0).1) hP (by omega) rfl (by omega) (by omega) hI) ?_
        exact r_ret rfl rfl hQ
      · rw [decide_eq_true u2, cond_true] at hQ
        refine r_al rfl rfl ?_
        refine r_gf rfl rfl xg_0 rfl ?_
        refine r_il rfl rfl ?_
        refine r_v2s rfl rfl xg_31 rfl (c_lbs1 (l := (rgo (rkR eb mb de sd s) 200 0).1) hP (by omega) rfl (by omega) (by omega) hI) ?_
        refine r_goto rfl rfl ?_
        exact r_ret rfl rfl hQ
    · exact absurd u1 (by decide)
  obtain ⟨x, h1, h2⟩ := rn_S (vs := [.ref 0, iv (a), iv (b)]) (Q := fun x => x = (some (iv ((rkR eb mb de sd s) (rgo (rkR eb mb de sd s) 200 0).1 (Int.toNat (bif decide (a = 1) then 10 + b else b)))), (cW ki ln bt rl cp cs ct cv 14 5 ja ea ma a1 a2 a3 a4 a5 a6 a7 a8 jb eb mb b1 b2 b3 b4 b5 b6 b7 b8 re fl g1 g2 g3 g4 g5 (dW rt (((rgo (rkR eb mb de sd s) 200 0).1 : Nat) : Int) (bif decide ((rgo (rkR eb mb de sd s) 200 0).2 = 1) then (((rgo (rkR eb mb de sd s) 200 0).1 : Nat) : Int) else -9) (bif decide ((rgo (rkR eb mb de sd s) 200 0).2 = 1) then 0 else (rgo (rkR eb mb de sd s) 200 0).2) pd' du' ds' me' tt gr su gp mk rf m1 m2 m3 m4 m5 mr mf n1 n2 n3 n4 n5 nr nf E)))) rfl (rn_up (N := 200) (M := mm_fuel) (by decide) (main _ rfl))
  have h1 : sX11_bears [.ref 0, iv (a), iv (b)] (cW ki ln bt rl cp cs ct cv 14 5 ja ea ma a1 a2 a3 a4 a5 a6 a7 a8 jb eb mb b1 b2 b3 b4 b5 b6 b7 b8 re fl g1 g2 g3 g4 g5 (dW rt la rs rg pd du ds me tt gr su gp mk rf m1 m2 m3 m4 m5 mr mf n1 n2 n3 n4 n5 nr nf E)) = some x := h1
  exact ⟨pd', du', ds', me', by rw [h1, h2]⟩
theorem c_bearsC1_0 (hdb : 0 ≤ eb ∧ eb ≤ 10) (hsn : 0 ≤ mb ∧ mb ≤ 16) (hr : -2147483648 ≤ a ∧ a ≤ 2147483647) (hb : -2147483648 ≤ b ∧ b ≤ 2147483647) (ha : fTH eb mb a b = false) : sX11_bears [.ref 0, iv (a), iv (b)] (cW ki ln bt rl cp cs ct cv 14 5 ja ea ma a1 a2 a3 a4 a5 a6 a7 a8 jb eb mb b1 b2 b3 b4 b5 b6 b7 b8 re fl g1 g2 g3 g4 g5 (dW rt la rs rg pd du ds me tt gr su gp mk rf m1 m2 m3 m4 m5 mr mf n1 n2 n3 n4 n5 nr nf E)) = some (some (iv (-1)), (cW ki ln bt rl cp cs ct cv 14 5 ja ea ma a1 a2 a3 a4 a5 a6 a7 a8 jb eb mb b1 b2 b3 b4 b5 b6 b7 b8 re fl g1 g2 g3 g4 g5 (dW rt la rs rg pd du ds me tt gr su gp mk rf m1 m2 m3 m4 m5 mr mf n1 n2 n3 n4 n5 nr nf E))) := by
  have main : ∀ Q : mm_R → Prop, Q (some (iv (-1)), (cW ki ln bt rl cp cs ct cv 14 5 ja ea ma a1 a2 a3 a4 a5 a6 a7 a8 jb eb mb b1 b2 b3 b4 b5 b6 b7 b8 re fl g1 g2 g3 g4 g5 (dW rt la rs rg pd du ds me tt gr su gp mk rf m1 m2 m3 m4 m5 mr mf n1 n2 n3 n4 n5 nr nf E))) → rn_X11_bears (1000) (0, [(0, .ref 0), (1, iv (a)), (2, iv (b))], [], (cW ki ln bt rl cp cs ct cv 14 5 ja ea ma a1 a2 a3 a4 a5 a6 a7 a8 jb eb mb b1 b2 b3 b4 b5 b6 b7 b8 re fl g1 g2 g3 g4 g5 (dW rt la rs rg pd du ds me tt gr su gp mk rf m1 m2 m3 m4 m5 mr mf n1 n2 n3 n4 n5 nr nf E))) Q := by
    intro Q hQ
    refine r_al rfl rfl ?_
    refine r_il rfl rfl ?_
    refine r_il rfl rfl ?_
    refine r_v3s rfl rfl xg_0 rfl (c_isPay1 hr hb hdb hsn) ?_
    rw [ha]
    refine r_zne rfl rfl (bi_r _) (fun u1 => ?_) (fun u1 => ?_)
    · exact absurd rfl u1
    · refine r_ic rfl ?_
      exact r_ret rfl rfl hQ
  obtain ⟨rz, h1, h2⟩ := rn_S (vs := [.ref 0, iv (a), iv (b)]) (Q := fun rz => rz = (some (iv (-1)), (cW ki ln bt rl cp cs ct cv 14 5 ja ea ma a1 a2 a3 a4 a5 a6 a7 a8 jb eb mb b1 b2 b3 b4 b5 b6 b7 b8 re fl g1 g2 g3 g4 g5 (dW rt la rs rg pd du ds me tt gr su gp mk rf m1 m2 m3 m4 m5 mr mf n1 n2 n3 n4 n5 nr nf E)))) rfl (rn_up (N := 1000) (M := mm_fuel) (by decide) (main (fun rz => rz = (some (iv (-1)), (cW ki ln bt rl cp cs ct cv 14 5 ja ea ma a1 a2 a3 a4 a5 a6 a7 a8 jb eb mb b1 b2 b3 b4 b5 b6 b7 b8 re fl g1 g2 g3 g4 g5 (dW rt la rs rg pd du ds me tt gr su gp mk rf m1 m2 m3 m4 m5 mr mf n1 n2 n3 n4 n5 nr nf E)))) rfl))
  have h1 : sX11_bears [.ref 0, iv (a), iv (b)] (cW ki ln bt rl cp cs ct cv 14 5 ja ea ma a1 a2 a3 a4 a5 a6 a7 a8 jb eb mb b1 b2 b3 b4 b5 b6 b7 b8 re fl g1 g2 g3 g4 g5 (dW rt la rs rg pd du ds me tt gr su gp mk rf m1 m2 m3 m4 m5 mr mf n1 n2 n3 n4 n5 nr nf E)) = some rz := h1
  rw [h1, h2]
end RC
