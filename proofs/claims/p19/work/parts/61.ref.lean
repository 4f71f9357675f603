/-! ===== the reference in the world ===== -/
def ro_ (th : Int) (tr : Int64) (db sn dm sm ty nx tk pl va fa lr ri : Int) : List Value := [iv th, .long tr, .ref 57, .ref 58, .ref 59, .ref 60, iv db, iv sn, .ref 61, .ref 62, .ref 63, .ref 64, iv dm, iv sm, .ref 65, iv ty, iv nx, iv tk, iv pl, iv va, iv fa, .ref 66, iv lr, iv ri]
def rL (o : List Value) (s kp ik tn de sd dd sr tx pa : Nat → Int32) : List va_E := [.inr (12, o), .inl (0, 131, .inl s), .inl (0, 262, .inl kp), .inl (2, 2, .inl ik), .inl (0, 8, .inl tn), .inl (0, 30, .inl de), .inl (0, 80, .inl sd), .inl (0, 33, .inl dd), .inl (0, 85, .inl sr), .inl (0, 400, .inl tx), .inl (0, 5226, .inl pa)]
section RW
variable {C : List va_E} {tr : Int64} {th db sn dm sm ty nx tk pl va fa lr ri : Int} {s kp ik tn de sd dd sr tx pa : Nat → Int32} {o : List Value}
theorem rg_app {C R : List va_E} {j : Nat} {e : va_E} (hC : C.length = 56) (h : R[j]? = some e) : (C ++ R)[56 + j]? = some e := by
  rw [List.getElem?_append_right (by omega), hC, Nat.add_sub_cancel_left]
  exact h
theorem rs_app {C R R' : List va_E} {j : Nat} {e : va_E} (hC : C.length = 56) (h : R.set j e = R') : (C ++ R).set (56 + j) e = C ++ R' := by
  rw [List.set_append_right _ _ (by omega), hC, Nat.add_sub_cancel_left, h]
theorem rg_56 (hC : C.length = 56) : (C ++ rL o s kp ik tn de sd dd sr tx pa)[56]? = some (.inr (12, o)) := rg_app (j := 0) hC rfl
theorem rs_56 {o' : List Value} (hC : C.length = 56) : (C ++ rL o s kp ik tn de sd dd sr tx pa).set 56 (.inr (12, o')) = C ++ rL o' s kp ik tn de sd dd sr tx pa := rs_app (j := 0) hC rfl
theorem rg_57 (hC : C.length = 56) : (C ++ rL o s kp ik tn de sd dd sr tx pa)[57]? = some (.inl (0, 131, .inl s)) := rg_app (j := 1) hC rfl
theorem rs_57 {f : Nat → Int32} (hC : C.length = 56) : (C ++ rL o s kp ik tn de sd dd sr tx pa).set 57 (.inl (0, 131, .inl f)) = C ++ rL o f kp ik tn de sd dd sr tx pa := rs_app (j := 1) hC rfl
theorem rg_58 (hC : C.length = 56) : (C ++ rL o s kp ik tn de sd dd sr tx pa)[58]? = some (.inl (0, 262, .inl kp)) := rg_app (j := 2) hC rfl
theorem rs_58 {f : Nat → Int32} (hC : C.length = 56) : (C ++ rL o s kp ik tn de sd dd sr tx pa).set 58 (.inl (0, 262, .inl f)) = C ++ rL o s f ik tn de sd dd sr tx pa := rs_app (j := 2) hC rfl
theorem rg_59 (hC : C.length = 56) : (C ++ rL o s kp ik tn de sd dd sr tx pa)[59]? = some (.inl (2, 2, .inl ik)) := rg_app (j := 3) hC rfl
theorem rs_59 {f : Nat → Int32} (hC : C.length = 56) : (C ++ rL o s kp ik tn de sd dd sr tx pa).set 59 (.inl (2, 2, .inl f)) = C ++ rL o s kp f tn de sd dd sr tx pa := rs_app (j := 3) hC rfl
theorem rg_60 (hC : C.length = 56) : (C ++ rL o s kp ik tn de sd dd sr tx pa)[60]? = some (.inl (0, 8, .inl tn)) := rg_app (j := 4) hC rfl
theorem rs_60 {f : Nat → Int32} (hC : C.length = 56) : (C ++ rL o s kp ik tn de sd dd sr tx pa).set 60 (.inl (0, 8, .inl f)) = C ++ rL o s kp ik f de sd dd sr tx pa := rs_app (j := 4) hC rfl
theorem rg_61 (hC : C.length = 56) : (C ++ rL o s kp ik tn de sd dd sr tx pa)[61]? = some (.inl (0, 30, .inl de)) := rg_app (j := 5) hC rfl
theorem rs_61 {f : Nat → Int32} (hC : C.length = 56) : (C ++ rL o s kp ik tn de sd dd sr tx pa).set 61 (.inl (0, 30, .inl f)) = C ++ rL o s kp ik tn f sd dd sr tx pa := rs_app (j := 5) hC rfl
theorem rg_62 (hC : C.length = 56) : (C ++ rL o s kp ik tn de sd dd sr tx pa)[62]? = some (.inl (0, 80, .inl sd)) := rg_app (j := 6) hC rfl
theorem rs_62 {f : Nat → Int32} (hC : C.length = 56) : (C ++ rL o s kp ik tn de sd dd sr tx pa).set 62 (.inl (0, 80, .inl f)) = C ++ rL o s kp ik tn de f dd sr tx pa := rs_app (j := 6) hC rfl
theorem rg_63 (hC : C.length = 56) : (C ++ rL o s kp ik tn de sd dd sr tx pa)[63]? = some (.inl (0, 33, .inl dd)) := rg_app (j := 7) hC rfl
theorem rs_63 {f : Nat → Int32} (hC : C.length = 56) : (C ++ rL o s kp ik tn de sd dd sr tx pa).set 63 (.inl (0, 33, .inl f)) = C ++ rL o s kp ik tn de sd f sr tx pa := rs_app (j := 7) hC rfl
theorem rg_64 (hC : C.length = 56) : (C ++ rL o s kp ik tn de sd dd sr tx pa)[64]? = some (.inl (0, 85, .inl sr)) := rg_app (j := 8) hC rfl
theorem rs_64 {f : Nat → Int32} (hC : C.length = 56) : (C ++ rL o s kp ik tn de sd dd sr tx pa).set 64 (.inl (0, 85, .inl f)) = C ++ rL o s kp ik tn de sd dd f tx pa := rs_app (j := 8) hC rfl
theorem rg_65 (hC : C.length = 56) : (C ++ rL o s kp ik tn de sd dd sr tx pa)[65]? = some (.inl (0, 400, .inl tx)) := rg_app (j := 9) hC rfl
theorem rs_65 {f : Nat → Int32} (hC : C.length = 56) : (C ++ rL o s kp ik tn de sd dd sr tx pa).set 65 (.inl (0, 400, .inl f)) = C ++ rL o s kp ik tn de sd dd sr f pa := rs_app (j := 9) hC rfl
theorem rg_66 (hC : C.length = 56) : (C ++ rL o s kp ik tn de sd dd sr tx pa)[66]? = some (.inl (0, 5226, .inl pa)) := rg_app (j := 10) hC rfl
theorem rs_66 {f : Nat → Int32} (hC : C.length = 56) : (C ++ rL o s kp ik tn de sd dd sr tx pa).set 66 (.inl (0, 5226, .inl f)) = C ++ rL o s kp ik tn de sd dd sr tx f := rs_app (j := 10) hC rfl
theorem rp_th {z : Int} (hC : C.length = 56) : (C ++ rL (ro_ th tr db sn dm sm ty nx tk pl va fa lr ri) s kp ik tn de sd dd sr tx pa).set 56 (.inr (12, ((ro_ th tr db sn dm sm ty nx tk pl va fa lr ri).set 0 (iv z)))) = (C ++ rL (ro_ z tr db sn dm sm ty nx tk pl va fa lr ri) s kp ik tn de sd dd sr tx pa) := rs_56 hC
theorem rp_db {z : Int} (hC : C.length = 56) : (C ++ rL (ro_ th tr db sn dm sm ty nx tk pl va fa lr ri) s kp ik tn de sd dd sr tx pa).set 56 (.inr (12, ((ro_ th tr db sn dm sm ty nx tk pl va fa lr ri).set 6 (iv z)))) = (C ++ rL (ro_ th tr z sn dm sm ty nx tk pl va fa lr ri) s kp ik tn de sd dd sr tx pa) := rs_56 hC
theorem rp_sn {z : Int} (hC : C.length = 56) : (C ++ rL (ro_ th tr db sn dm sm ty nx tk pl va fa lr ri) s kp ik tn de sd dd sr tx pa).set 56 (.inr (12, ((ro_ th tr db sn dm sm ty nx tk pl va fa lr ri).set 7 (iv z)))) = (C ++ rL (ro_ th tr db z dm sm ty nx tk pl va fa lr ri) s kp ik tn de sd dd sr tx pa) := rs_56 hC
theorem rp_dm {z : Int} (hC : C.length = 56) : (C ++ rL (ro_ th tr db sn dm sm ty nx tk pl va fa lr ri) s kp ik tn de sd dd sr tx pa).set 56 (.inr (12, ((ro_ th tr db sn dm sm ty nx tk pl va fa lr ri).set 12 (iv z)))) = (C ++ rL (ro_ th tr db sn z sm ty nx tk pl va fa lr ri) s kp ik tn de sd dd sr tx pa) := rs_56 hC
theorem rp_sm {z : Int} (hC : C.length = 56) : (C ++ rL (ro_ th tr db sn dm sm ty nx tk pl va fa lr ri) s kp ik tn de sd dd sr tx pa).set 56 (.inr (12, ((ro_ th tr db sn dm sm ty nx tk pl va fa lr ri).set 13 (iv z)))) = (C ++ rL (ro_ th tr db sn dm z ty nx tk pl va fa lr ri) s kp ik tn de sd dd sr tx pa) := rs_56 hC
theorem rp_ty {z : Int} (hC : C.length = 56) : (C ++ rL (ro_ th tr db sn dm sm ty nx tk pl va fa lr ri) s kp ik tn de sd dd sr tx pa).set 56 (.inr (12, ((ro_ th tr db sn dm sm ty nx tk pl va fa lr ri).set 15 (iv z)))) = (C ++ rL (ro_ th tr db sn dm sm z nx tk pl va fa lr ri) s kp ik tn de sd dd sr tx pa) := rs_56 hC
theorem rp_nx {z : Int} (hC : C.length = 56) : (C ++ rL (ro_ th tr db sn dm sm ty nx tk pl va fa lr ri) s kp ik tn de sd dd sr tx pa).set 56 (.inr (12, ((ro_ th tr db sn dm sm ty nx tk pl va fa lr ri).set 16 (iv z)))) = (C ++ rL (ro_ th tr db sn dm sm ty z tk pl va fa lr ri) s kp ik tn de sd dd sr tx pa) := rs_56 hC
theorem rp_tk {z : Int} (hC : C.length = 56) : (C ++ rL (ro_ th tr db sn dm sm ty nx tk pl va fa lr ri) s kp ik tn de sd dd sr tx pa).set 56 (.inr (12, ((ro_ th tr db sn dm sm ty nx tk pl va fa lr ri).set 17 (iv z)))) = (C ++ rL (ro_ th tr db sn dm sm ty nx z pl va fa lr ri) s kp ik tn de sd dd sr tx pa) := rs_56 hC
theorem rp_pl {z : Int} (hC : C.length = 56) : (C ++ rL (ro_ th tr db sn dm sm ty nx tk pl va fa lr ri) s kp ik tn de sd dd sr tx pa).set 56 (.inr (12, ((ro_ th tr db sn dm sm ty nx tk pl va fa lr ri).set 18 (iv z)))) = (C ++ rL (ro_ th tr db sn dm sm ty nx tk z va fa lr ri) s kp ik tn de sd dd sr tx pa) := rs_56 hC
theorem rp_va {z : Int} (hC : C.length = 56) : (C ++ rL (ro_ th tr db sn dm sm ty nx tk pl va fa lr ri) s kp ik tn de sd dd sr tx pa).set 56 (.inr (12, ((ro_ th tr db sn dm sm ty nx tk pl va fa lr ri).set 19 (iv z)))) = (C ++ rL (ro_ th tr db sn dm sm ty nx tk pl z fa lr ri) s kp ik tn de sd dd sr tx pa) := rs_56 hC
theorem rp_fa {z : Int} (hC : C.length = 56) : (C ++ rL (ro_ th tr db sn dm sm ty nx tk pl va fa lr ri) s kp ik tn de sd dd sr tx pa).set 56 (.inr (12, ((ro_ th tr db sn dm sm ty nx tk pl va fa lr ri).set 20 (iv z)))) = (C ++ rL (ro_ th tr db sn dm sm ty nx tk pl va z lr ri) s kp ik tn de sd dd sr tx pa) := rs_56 hC
theorem rp_lr {z : Int} (hC : C.length = 56) : (C ++ rL (ro_ th tr db sn dm sm ty nx tk pl va fa lr ri) s kp ik tn de sd dd sr tx pa).set 56 (.inr (12, ((ro_ th tr db sn dm sm ty nx tk pl va fa lr ri).set 22 (iv z)))) = (C ++ rL (ro_ th tr db sn dm sm ty nx tk pl va fa z ri) s kp ik tn de sd dd sr tx pa) := rs_56 hC
theorem rp_ri {z : Int} (hC : C.length = 56) : (C ++ rL (ro_ th tr db sn dm sm ty nx tk pl va fa lr ri) s kp ik tn de sd dd sr tx pa).set 56 (.inr (12, ((ro_ th tr db sn dm sm ty nx tk pl va fa lr ri).set 23 (iv z)))) = (C ++ rL (ro_ th tr db sn dm sm ty nx tk pl va fa lr z) s kp ik tn de sd dd sr tx pa) := rs_56 hC
end RW
def bi (b : Bool) : Int := bif b then 1 else 0
theorem bi_r (b : Bool) : -2147483648 ≤ bi b ∧ bi b ≤ 2147483647 := by cases b <;> decide
theorem bi_01 (b : Bool) : bi b = 0 ∨ bi b = 1 := by cases b <;> decide
theorem bi_0 {b : Bool} (h : bi b = 0) : b = false := by cases b with | false => rfl | true => exact absurd h (by decide)
theorem bi_1 {b : Bool} (h : ¬ bi b = 0) : b = true := by cases b with | true => rfl | false => exact absurd rfl h
theorem bi_t {b : Bool} (h : b = true) : bi b = 1 := by rw [h]; rfl
theorem bi_f {b : Bool} (h : b = false) : bi b = 0 := by rw [h]; rfl
def i3 (a b c : Int) : Bool := decide (b ≤ a) && decide (a ≤ c)
theorem i3_t {a b c : Int} (h : i3 a b c = true) : b ≤ a ∧ a ≤ c := by simpa [i3] using h
theorem i3_f {a b c : Int} (h : i3 a b c = false) : ¬ (b ≤ a ∧ a ≤ c) := by
  intro q
  have : i3 a b c = true := by simp [i3, q.1, q.2]
  rw [h] at this
  cases this
/-! the text -/
def pt_at (B : Nat → Int32) (n p : Int) : Int := bif decide (p < n) then (B p.toNat).toInt else -1
theorem pt_at_r (B : Nat → Int32) (n p : Int) : -2147483648 ≤ pt_at B n p ∧ pt_at B n p ≤ 2147483647 := by
  unfold pt_at
  cases decide (p < n) with
  | true => exact ⟨as_lo _, as_hi _⟩
  | false => show -2147483648 ≤ (-1 : Int) ∧ (-1 : Int) ≤ 2147483647; decide
theorem pt_at_lt {B : Nat → Int32} {n p : Int} (h : p < n) : pt_at B n p = (B p.toNat).toInt := by unfold pt_at; simp [h]
theorem pt_at_ge {B : Nat → Int32} {n p : Int} (h : n ≤ p) : pt_at B n p = -1 := by
  unfold pt_at
  have : ¬ p < n := by omega
  simp [this]
def pt_sk (f : Int → Bool) (B : Nat → Int32) (n : Int) : Nat → Int → Int
  | 0, p => p
  | m + 1, p => bif f (pt_at B n p) then pt_sk f B n m (p + 1) else p
def pt_skip (f : Int → Bool) (B : Nat → Int32) (n p : Int) : Int := pt_sk f B n (n - p).toNat p
theorem pt_skip_n {f : Int → Bool} {B : Nat → Int32} {n p : Int} (h : f (pt_at B n p) = false) : pt_skip f B n p = p := by
  unfold pt_skip
  cases (n - p).toNat with
  | zero => rfl
  | succ m => show (bif f (pt_at B n p) then _ else p) = p; rw [h]; rfl
theorem pt_skip_y {f : Int → Bool} {B : Nat → Int32} {n p : Int} (hf : f (-1) = false) (h : f (pt_at B n p) = true) : pt_skip f B n p = pt_skip f B n (p + 1) ∧ p < n := by
  by_cases hp : p < n
  · refine ⟨?_, hp⟩
    unfold pt_skip
    have e : (n - p).toNat = (n - (p + 1)).toNat + 1 := by omega
    rw [e]
    show (bif f (pt_at B n p) then pt_sk f B n (n - (p + 1)).toNat (p + 1) else p) = _
    rw [h]
    rfl
  · rw [pt_at_ge (by omega), hf] at h
    cases h
theorem pt_skip_r {f : Int → Bool} {B : Nat → Int32} {n : Int} (hf : f (-1) = false) : ∀ (m : Nat) {p : Int}, p ≤ n → (n - p).toNat ≤ m → p ≤ pt_skip f B n p ∧ pt_skip f B n p ≤ n
  | m, p, h0, hm => by
    cases h : f (pt_at B n p) with
    | false => rw [pt_skip_n h]; omega
    | true =>
      obtain ⟨e, h1⟩ := pt_skip_y hf h
      match m, hm with
      | 0, hm => omega
      | m + 1, hm =>
        have := pt_skip_r (f := f) (B := B) (n := n) hf m (p := p + 1) (by omega) (by omega)
        rw [e]
        omega
def pt_spc (c : Int) : Bool := decide (c = 32)
def pt_low (c : Int) : Bool := i3 c 97 122
def pt_dig (c : Int) : Bool := i3 c 48 57
section R1
variable {C : List va_E} {tr : Int64} {th db sn dm sm ty nx tk pl va fa lr ri : Int} {s kp ik tn de sd dd sr tx pa : Nat → Int32} {mw : List va_E} {a b c k : Int}
theorem c_in (ha : -2147483648 ≤ a ∧ a ≤ 2147483647) (hb : -2147483648 ≤ b ∧ b ≤ 2147483647) (hc : -2147483648 ≤ c ∧ c ≤ 2147483647) : sX12_in [iv a, iv b, iv c] mw = some (some (iv (bi (i3 a b c))), mw) := by
  suffices K : ∃ r, sX12_in [iv a, iv b, iv c] mw = some r ∧ r = (some (iv (bi (i3 a b c))), mw) by
    obtain ⟨r, h1, h2⟩ := K
    rw [h1, h2]
  refine rn_S rfl ?_
  refine rn_up (N := 100) (by decide) ?_
  refine r_il rfl rfl ?_
  refine r_il rfl rfl ?_
  refine r_clt rfl rfl (by omega) (by omega) (fun h1 => ?_) (fun h1 => ?_)
  · have e : i3 a b c = false := by simp [i3]; omega
    refine r_ic rfl ?_
    rw [e]
    exact r_retb rfl rfl (by omega) rfl
  · refine r_il rfl rfl ?_
    refine r_il rfl rfl ?_
    refine r_cgt rfl rfl (by omega) (by omega) (fun h2 => ?_) (fun h2 => ?_)
    · have e : i3 a b c = false := by simp [i3]; omega
      refine r_ic rfl ?_
      rw [e]
      exact r_retb rfl rfl (by omega) rfl
    · have e : i3 a b c = true := by simp [i3]; omega
      refine r_ic rfl ?_
      refine r_goto rfl rfl ?_
      rw [e]
      exact r_retb rfl rfl (by omega) rfl
theorem c_byteAt (hC : C.length = 56) (hk : 0 ≤ k ∧ k ≤ 100000) (hty : 0 ≤ ty ∧ ty ≤ 400) : sX12_byteAt [.ref 56, iv k] (C ++ rL (ro_ th tr db sn dm sm ty nx tk pl va fa lr ri) s kp ik tn de sd dd sr tx pa) = some (some (iv (pt_at tx ty k)), (C ++ rL (ro_ th tr db sn dm sm ty nx tk pl va fa lr ri) s kp ik tn de sd dd sr tx pa)) := by
  suffices K : ∃ r, sX12_byteAt [.ref 56, iv k] (C ++ rL (ro_ th tr db sn dm sm ty nx tk pl va fa lr ri) s kp ik tn de sd dd sr tx pa) = some r ∧ r = (some (iv (pt_at tx ty k)), (C ++ rL (ro_ th tr db sn dm sm ty nx tk pl va fa lr ri) s kp ik tn de sd dd sr tx pa)) by
    obtain ⟨r, h1, h2⟩ := K
    rw [h1, h2]
  refine rn_S rfl ?_
  refine rn_up (N := 100) (by decide) ?_
  refine r_il rfl rfl ?_
  refine r_al rfl rfl ?_
  refine r_gf rfl rfl (rg_56 hC) rfl ?_
  refine r_cge rfl rfl (by omega) (by omega) (fun h1 => ?_) (fun h1 => ?_)
  · rw [pt_at_ge h1]
    refine r_ic rfl ?_
    exact r_ret rfl rfl rfl
  · rw [pt_at_lt h1]
    refine r_al rfl rfl ?_
    refine r_gf rfl rfl (rg_56 hC) rfl ?_
    refine r_il rfl rfl ?_
    refine r_ia rfl (rg_65 hC) (by omega) (by omega) (by decide) ?_
    refine r_goto rfl rfl ?_
    exact r_ret rfl rfl rfl
theorem c_isWell (hC : C.length = 56) (hfa : -2147483648 ≤ fa ∧ fa ≤ 2147483647) : sX12_isWell [.ref 56] (C ++ rL (ro_ th tr db sn dm sm ty nx tk pl va fa lr ri) s kp ik tn de sd dd sr tx pa) = some (some (iv (bi (decide (fa < 0)))), (C ++ rL (ro_ th tr db sn dm sm ty nx tk pl va fa lr ri) s kp ik tn de sd dd sr tx pa)) := by
  suffices K : ∃ r, sX12_isWell [.ref 56] (C ++ rL (ro_ th tr db sn dm sm ty nx tk pl va fa lr ri) s kp ik tn de sd dd sr tx pa) = some r ∧ r = (some (iv (bi (decide (fa < 0)))), (C ++ rL (ro_ th tr db sn dm sm ty nx tk pl va fa lr ri) s kp ik tn de sd dd sr tx pa)) by
    obtain ⟨r, h1, h2⟩ := K
    rw [h1, h2]
  refine rn_S rfl ?_
  refine rn_up (N := 100) (by decide) ?_
  refine r_al rfl rfl ?_
  refine r_gf rfl rfl (rg_56 hC) rfl ?_
  refine r_zge rfl rfl (by omega) (fun h1 => ?_) (fun h1 => ?_)
  · rw [decide_eq_false (show ¬ fa < 0 by omega)]
    refine r_ic rfl ?_
    exact r_retb rfl rfl (by omega) rfl
  · rw [decide_eq_true h1]
    refine r_ic rfl ?_
    refine r_goto rfl rfl ?_
    exact r_retb rfl rfl (by omega) rfl
end R1
