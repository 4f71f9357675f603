/-! ===== both sides read the same tokens ===== -/
/-- the texts are alike -/
def tx_like (bt tx : Nat → Int32) (n : Int) : Prop := ∀ k : Nat, (k : Int) < n → (-128 ≤ (bt k).toInt ∧ (bt k).toInt ≤ 127) ∧ (tx k).toInt = (bt k).toInt % 256
theorem tx_at {bt tx : Nat → Int32} {n p : Int} (h : tx_like bt tx n) (hp : 0 ≤ p) : (n ≤ p ∧ pt_at tx n p = -1 ∧ pt_at bt n p = -1) ∨ (p < n ∧ 0 ≤ pt_at tx n p ∧ pt_at tx n p ≤ 255 ∧ (pt_at bt n p = pt_at tx n p ∨ (pt_at bt n p < 0 ∧ 128 ≤ pt_at tx n p))) := by
  by_cases hn : p < n
  · right
    have := h p.toNat (by omega)
    rw [pt_at_lt hn, pt_at_lt hn]
    omega
  · left
    exact ⟨by omega, pt_at_ge (by omega), pt_at_ge (by omega)⟩
theorem tx_i3 {a b l m : Int} (h : (a = -1 ∧ b = -1) ∨ (0 ≤ a ∧ a ≤ 255 ∧ (b = a ∨ (b < 0 ∧ 128 ≤ a)))) (hl : 0 ≤ l) (hm : m ≤ 127) : i3 a l m = i3 b l m := by
  unfold i3
  by_cases h1 : l ≤ a ∧ a ≤ m
  · have h2 : l ≤ b ∧ b ≤ m := by omega
    rw [decide_eq_true h1.1, decide_eq_true h1.2, decide_eq_true h2.1, decide_eq_true h2.2]
  · have h2 : ¬ (l ≤ b ∧ b ≤ m) := by omega
    rw [show (decide (l ≤ a) && decide (a ≤ m)) = false by simpa using fun q => Int.not_le.mp (fun r => h1 ⟨q, r⟩), show (decide (l ≤ b) && decide (b ≤ m)) = false by simpa using fun q => Int.not_le.mp (fun r => h2 ⟨q, r⟩)]
theorem tx_ab {bt tx : Nat → Int32} {n p : Int} (h : tx_like bt tx n) (hp : 0 ≤ p) : (pt_at tx n p = -1 ∧ pt_at bt n p = -1) ∨ (0 ≤ pt_at tx n p ∧ pt_at tx n p ≤ 255 ∧ (pt_at bt n p = pt_at tx n p ∨ (pt_at bt n p < 0 ∧ 128 ≤ pt_at tx n p))) := by
  rcases tx_at h hp with ⟨-, h1, h2⟩ | ⟨-, h1, h2, h3⟩
  · exact Or.inl ⟨h1, h2⟩
  · exact Or.inr ⟨h1, h2, h3⟩
theorem tx_low {bt tx : Nat → Int32} {n p : Int} (h : tx_like bt tx n) (hp : 0 ≤ p) : pt_low (pt_at tx n p) = pt_low (pt_at bt n p) := tx_i3 (tx_ab h hp) (by decide) (by decide)
theorem tx_dig {bt tx : Nat → Int32} {n p : Int} (h : tx_like bt tx n) (hp : 0 ≤ p) : pt_dig (pt_at tx n p) = pt_dig (pt_at bt n p) := tx_i3 (tx_ab h hp) (by decide) (by decide)
theorem tx_spc {bt tx : Nat → Int32} {n p : Int} (h : tx_like bt tx n) (hp : 0 ≤ p) : pt_spc (pt_at tx n p) = pt_spc (pt_at bt n p) := by
  unfold pt_spc
  have := tx_ab h hp
  by_cases h1 : pt_at tx n p = 32
  · rw [decide_eq_true h1, decide_eq_true (show pt_at bt n p = 32 by omega)]
  · rw [decide_eq_false h1, decide_eq_false (show ¬ pt_at bt n p = 32 by omega)]
theorem tx_skip {f : Int → Bool} {bt tx : Nat → Int32} {n : Int} (hf : f (-1) = false) (h : ∀ q : Int, 0 ≤ q → f (pt_at tx n q) = f (pt_at bt n q)) : ∀ (m : Nat) {p : Int}, 0 ≤ p → (n - p).toNat ≤ m → pt_skip f tx n p = pt_skip f bt n p
  | m, p, h0, hm => by
    cases h1 : f (pt_at tx n p) with
    | false => rw [pt_skip_n h1, pt_skip_n (by rw [← h p h0]; exact h1)]
    | true =>
      obtain ⟨e1, e2⟩ := pt_skip_y hf h1
      obtain ⟨e3, -⟩ := pt_skip_y hf ((h p h0).symm.trans h1)
      match m, hm with
      | 0, hm => omega
      | m + 1, hm => rw [e1, e3, tx_skip hf h m (by omega) (by omega)]
theorem tx_num {bt tx : Nat → Int32} {n : Int} : ∀ (m : Nat) {q v : Int}, (∀ p : Int, q ≤ p → p < q + m → pt_at tx n p = pt_at bt n p) → pt_num tx n m q v = pt_num bt n m q v
  | 0, _, _, _ => rfl
  | m + 1, q, v, h => by
    show pt_num tx n m (q + 1) (bif decide (999 < v) then v else 10 * v + pt_at tx n q - 48) = pt_num bt n m (q + 1) (bif decide (999 < v) then v else 10 * v + pt_at bt n q - 48)
    rw [h q (by omega) (by omega)]
    exact tx_num m (fun p a1 a2 => h p (by omega) (by omega))
theorem pt_wv_st {B : Nat → Int32} {n b : Int} : ∀ (m : Nat) {q z : Int}, 7 ≤ q - b → pt_wv B n b m q z = z
  | 0, _, _, _ => rfl
  | m + 1, q, z, h => by
    show pt_wv B n b m (q + 1) (bif decide (q - b < 7) then 256 * z + pt_at B n q else z) = z
    rw [decide_eq_false (show ¬ q - b < 7 by omega)]
    exact pt_wv_st m (by omega)
theorem pt_wv_1 {B : Nat → Int32} {n b : Int} {m : Nat} {q z : Int} (h : q - b < 7) : pt_wv B n b (m + 1) q z = pt_wv B n b m (q + 1) (256 * z + pt_at B n q) := by
  show pt_wv B n b m (q + 1) (bif decide (q - b < 7) then 256 * z + pt_at B n q else z) = _
  rw [decide_eq_true h]
  rfl
section TKW
variable {B : Nat → Int32} {n b : Int} {l : Nat → Int}
theorem wv_0 (h : ∀ j : Nat, l j = pt_at B n (b + j)) : pt_wv B n b 0 b 0 = 0 := by
  rfl
theorem wv_1 (h : ∀ j : Nat, l j = pt_at B n (b + j)) : pt_wv B n b 1 b 0 = 256 * (0) + l 0 := by
  rw [pt_wv_1 (by omega), show pt_at B n (b) = l 0 by rw [h 0]; exact congrArg (pt_at B n) (by omega)]
  rfl
theorem wv_2 (h : ∀ j : Nat, l j = pt_at B n (b + j)) : pt_wv B n b 2 b 0 = 256 * (256 * (0) + l 0) + l 1 := by
  rw [pt_wv_1 (by omega), show pt_at B n (b) = l 0 by rw [h 0]; exact congrArg (pt_at B n) (by omega)]
  rw [pt_wv_1 (by omega), show pt_at B n (b + 1) = l 1 by rw [h 1]; exact congrArg (pt_at B n) (by omega)]
  rfl
theorem wv_3 (h : ∀ j : Nat, l j = pt_at B n (b + j)) : pt_wv B n b 3 b 0 = 256 * (256 * (256 * (0) + l 0) + l 1) + l 2 := by
  rw [pt_wv_1 (by omega), show pt_at B n (b) = l 0 by rw [h 0]; exact congrArg (pt_at B n) (by omega)]
  rw [pt_wv_1 (by omega), show pt_at B n (b + 1) = l 1 by rw [h 1]; exact congrArg (pt_at B n) (by omega)]
  rw [pt_wv_1 (by omega), show pt_at B n (b + 1 + 1) = l 2 by rw [h 2]; exact congrArg (pt_at B n) (by omega)]
  rfl
theorem wv_4 (h : ∀ j : Nat, l j = pt_at B n (b + j)) : pt_wv B n b 4 b 0 = 256 * (256 * (256 * (256 * (0) + l 0) + l 1) + l 2) + l 3 := by
  rw [pt_wv_1 (by omega), show pt_at B n (b) = l 0 by rw [h 0]; exact congrArg (pt_at B n) (by omega)]
  rw [pt_wv_1 (by omega), show pt_at B n (b + 1) = l 1 by rw [h 1]; exact congrArg (pt_at B n) (by omega)]
  rw [pt_wv_1 (by omega), show pt_at B n (b + 1 + 1) = l 2 by rw [h 2]; exact congrArg (pt_at B n) (by omega)]
  rw [pt_wv_1 (by omega), show pt_at B n (b + 1 + 1 + 1) = l 3 by rw [h 3]; exact congrArg (pt_at B n) (by omega)]
  rfl
theorem wv_5 (h : ∀ j : Nat, l j = pt_at B n (b + j)) : pt_wv B n b 5 b 0 = 256 * (256 * (256 * (256 * (256 * (0) + l 0) + l 1) + l 2) + l 3) + l 4 := by
  rw [pt_wv_1 (by omega), show pt_at B n (b) = l 0 by rw [h 0]; exact congrArg (pt_at B n) (by omega)]
  rw [pt_wv_1 (by omega), show pt_at B n (b + 1) = l 1 by rw [h 1]; exact congrArg (pt_at B n) (by omega)]
  rw [pt_wv_1 (by omega), show pt_at B n (b + 1 + 1) = l 2 by rw [h 2]; exact congrArg (pt_at B n) (by omega)]
  rw [pt_wv_1 (by omega), show pt_at B n (b + 1 + 1 + 1) = l 3 by rw [h 3]; exact congrArg (pt_at B n) (by omega)]
  rw [pt_wv_1 (by omega), show pt_at B n (b + 1 + 1 + 1 + 1) = l 4 by rw [h 4]; exact congrArg (pt_at B n) (by omega)]
  rfl
theorem wv_6 (h : ∀ j : Nat, l j = pt_at B n (b + j)) : pt_wv B n b 6 b 0 = 256 * (256 * (256 * (256 * (256 * (256 * (0) + l 0) + l 1) + l 2) + l 3) + l 4) + l 5 := by
  rw [pt_wv_1 (by omega), show pt_at B n (b) = l 0 by rw [h 0]; exact congrArg (pt_at B n) (by omega)]
  rw [pt_wv_1 (by omega), show pt_at B n (b + 1) = l 1 by rw [h 1]; exact congrArg (pt_at B n) (by omega)]
  rw [pt_wv_1 (by omega), show pt_at B n (b + 1 + 1) = l 2 by rw [h 2]; exact congrArg (pt_at B n) (by omega)]
  rw [pt_wv_1 (by omega), show pt_at B n (b + 1 + 1 + 1) = l 3 by rw [h 3]; exact congrArg (pt_at B n) (by omega)]
  rw [pt_wv_1 (by omega), show pt_at B n (b + 1 + 1 + 1 + 1) = l 4 by rw [h 4]; exact congrArg (pt_at B n) (by omega)]
  rw [pt_wv_1 (by omega), show pt_at B n (b + 1 + 1 + 1 + 1 + 1) = l 5 by rw [h 5]; exact congrArg (pt_at B n) (by omega)]
  rfl
theorem wv_7 {m : Nat} (h : ∀ j : Nat, l j = pt_at B n (b + j)) : pt_wv B n b (m + 7) b 0 = 256 * (256 * (256 * (256 * (256 * (256 * (256 * (0) + l 0) + l 1) + l 2) + l 3) + l 4) + l 5) + l 6 := by
  rw [pt_wv_1 (by omega), show pt_at B n (b) = l 0 by rw [h 0]; exact congrArg (pt_at B n) (by omega)]
  rw [pt_wv_1 (by omega), show pt_at B n (b + 1) = l 1 by rw [h 1]; exact congrArg (pt_at B n) (by omega)]
  rw [pt_wv_1 (by omega), show pt_at B n (b + 1 + 1) = l 2 by rw [h 2]; exact congrArg (pt_at B n) (by omega)]
  rw [pt_wv_1 (by omega), show pt_at B n (b + 1 + 1 + 1) = l 3 by rw [h 3]; exact congrArg (pt_at B n) (by omega)]
  rw [pt_wv_1 (by omega), show pt_at B n (b + 1 + 1 + 1 + 1) = l 4 by rw [h 4]; exact congrArg (pt_at B n) (by omega)]
  rw [pt_wv_1 (by omega), show pt_at B n (b + 1 + 1 + 1 + 1 + 1) = l 5 by rw [h 5]; exact congrArg (pt_at B n) (by omega)]
  rw [pt_wv_1 (by omega), show pt_at B n (b + 1 + 1 + 1 + 1 + 1 + 1) = l 6 by rw [h 6]; exact congrArg (pt_at B n) (by omega)]
  exact pt_wv_st m (by omega)
end TKW
theorem sp_w0 {bt tx : Nat → Int32} {n s e : Int} (h : tx_like bt tx n) (hs : 0 ≤ s) (he : s < e) (hn : e ≤ n) (hl : ∀ q : Int, s ≤ q → q < e → 97 ≤ pt_at tx n q ∧ pt_at tx n q ≤ 122) : sp_0 bt s e = decide (pt_wv tx n s (e - s).toNat s 0 = 1684365940) := by
  have hb : ∀ j : Nat, s + j < e → (bt (Int.toNat (s + j))).toInt = pt_at tx n (s + j) := by
    intro j hj
    rw [← pt_at_lt (B := bt) (n := n) (show s + (j : Int) < n by omega)]
    have h1 := tx_ab (p := s + j) h (by omega)
    have h2 := hl (s + j) (by omega) hj
    omega
  obtain ⟨l, hll⟩ : ∃ l : Nat → Int, ∀ j : Nat, l j = pt_at tx n (s + j) := ⟨fun j => pt_at tx n (s + j), fun _ => rfl⟩
  have hr : ∀ j : Nat, s + j < e → 97 ≤ l j ∧ l j ≤ 122 := fun j hj => by rw [hll]; exact hl _ (by omega) hj
  have hlb : ∀ j : Nat, s + j < e → (bt (Int.toNat (s + j))).toInt = l j := fun j hj => by rw [hll]; exact hb j hj
  obtain ⟨m, hm⟩ : ∃ m : Nat, (e - s).toNat = m := ⟨_, rfl⟩
  rw [hm]
  have no : e - s ≠ 4 → ¬ pt_wv tx n s m s 0 = 1684365940 → sp_0 bt s e = decide (pt_wv tx n s m s 0 = 1684365940) := by
    intro q1 q2
    rw [decide_eq_false q2]
    unfold sp_0
    rw [decide_eq_false q1]
    rfl
  match m, hm with
  | 0, hm =>
    have hw := wv_0 (B := tx) (n := n) (b := s) (l := l) hll
    omega
  | 1, hm =>
    have r0 := hr 0 (by omega)
    have hw := wv_1 (B := tx) (n := n) (b := s) (l := l) hll
    exact no (by omega) (by rw [hw]; omega)
  | 2, hm =>
    have r0 := hr 0 (by omega)
    have r1 := hr 1 (by omega)
    have hw := wv_2 (B := tx) (n := n) (b := s) (l := l) hll
    exact no (by omega) (by rw [hw]; omega)
  | 3, hm =>
    have r0 := hr 0 (by omega)
    have r1 := hr 1 (by omega)
    have r2 := hr 2 (by omega)
    have hw := wv_3 (B := tx) (n := n) (b := s) (l := l) hll
    exact no (by omega) (by rw [hw]; omega)
  | 4, hm =>
    have r0 := hr 0 (by omega)
    have r1 := hr 1 (by omega)
    have r2 := hr 2 (by omega)
    have r3 := hr 3 (by omega)
    have hw := wv_4 (B := tx) (n := n) (b := s) (l := l) hll
    rw [hw]
    have e0 : e - s = 4 := by omega
    have c0 : (bt (Int.toNat (s + (0)))).toInt = l 0 := hlb 0 (by omega)
    have c1 : (bt (Int.toNat (s + (0 + 1)))).toInt = l 1 := hlb 1 (by omega)
    have c2 : (bt (Int.toNat (s + (0 + 1 + 1)))).toInt = l 2 := hlb 2 (by omega)
    have c3 : (bt (Int.toNat (s + (0 + 1 + 1 + 1)))).toInt = l 3 := hlb 3 (by omega)
    unfold sp_0
    rw [decide_eq_true e0, c0, c1, c2, c3]
    by_cases d0 : l 0 = 100
    · rw [decide_eq_true d0]
      by_cases d1 : l 1 = 101
      · rw [decide_eq_true d1]
        by_cases d2 : l 2 = 98
        · rw [decide_eq_true d2]
          by_cases d3 : l 3 = 116
          · rw [decide_eq_true d3]
            rw [decide_eq_true (show 256 * (256 * (256 * (256 * (0) + l 0) + l 1) + l 2) + l 3 = 1684365940 by omega)]
            rfl
          · rw [decide_eq_false d3, decide_eq_false (show ¬ 256 * (256 * (256 * (256 * (0) + l 0) + l 1) + l 2) + l 3 = 1684365940 by omega)]
            rfl
        · rw [decide_eq_false d2, decide_eq_false (show ¬ 256 * (256 * (256 * (256 * (0) + l 0) + l 1) + l 2) + l 3 = 1684365940 by omega)]
          rfl
      · rw [decide_eq_false d1, decide_eq_false (show ¬ 256 * (256 * (256 * (256 * (0) + l 0) + l 1) + l 2) + l 3 = 1684365940 by omega)]
        rfl
    · rw [decide_eq_false d0, decide_eq_false (show ¬ 256 * (256 * (256 * (256 * (0) + l 0) + l 1) + l 2) + l 3 = 1684365940 by omega)]
      rfl
  | 5, hm =>
    have r0 := hr 0 (by omega)
    have r1 := hr 1 (by omega)
    have r2 := hr 2 (by omega)
    have r3 := hr 3 (by omega)
    have r4 := hr 4 (by omega)
    have hw := wv_5 (B := tx) (n := n) (b := s) (l := l) hll
    exact no (by omega) (by rw [hw]; omega)
  | 6, hm =>
    have r0 := hr 0 (by omega)
    have r1 := hr 1 (by omega)
    have r2 := hr 2 (by omega)
    have r3 := hr 3 (by omega)
    have r4 := hr 4 (by omega)
    have r5 := hr 5 (by omega)
    have hw := wv_6 (B := tx) (n := n) (b := s) (l := l) hll
    exact no (by omega) (by rw [hw]; omega)
  | m + 7, hm =>
    have r0 := hr 0 (by omega)
    have r1 := hr 1 (by omega)
    have r2 := hr 2 (by omega)
    have r3 := hr 3 (by omega)
    have r4 := hr 4 (by omega)
    have r5 := hr 5 (by omega)
    have r6 := hr 6 (by omega)
    have hw := wv_7 (m := m) (B := tx) (n := n) (b := s) (l := l) hll
    exact no (by omega) (by rw [hw]; omega)
theorem sp_w1 {bt tx : Nat → Int32} {n s e : Int} (h : tx_like bt tx n) (hs : 0 ≤ s) (he : s < e) (hn : e ≤ n) (hl : ∀ q : Int, s ≤ q → q < e → 97 ≤ pt_at tx n q ∧ pt_at tx n q ≤ 122) : sp_1 bt s e = decide (pt_wv tx n s (e - s).toNat s 0 = 495873781348) := by
  have hb : ∀ j : Nat, s + j < e → (bt (Int.toNat (s + j))).toInt = pt_at tx n (s + j) := by
    intro j hj
    rw [← pt_at_lt (B := bt) (n := n) (show s + (j : Int) < n by omega)]
    have h1 := tx_ab (p := s + j) h (by omega)
    have h2 := hl (s + j) (by omega) hj
    omega
  obtain ⟨l, hll⟩ : ∃ l : Nat → Int, ∀ j : Nat, l j = pt_at tx n (s + j) := ⟨fun j => pt_at tx n (s + j), fun _ => rfl⟩
  have hr : ∀ j : Nat, s + j < e → 97 ≤ l j ∧ l j ≤ 122 := fun j hj => by rw [hll]; exact hl _ (by omega) hj
  have hlb : ∀ j : Nat, s + j < e → (bt (Int.toNat (s + j))).toInt = l j := fun j hj => by rw [hll]; exact hb j hj
  obtain ⟨m, hm⟩ : ∃ m : Nat, (e - s).toNat = m := ⟨_, rfl⟩
  rw [hm]
  have no : e - s ≠ 5 → ¬ pt_wv tx n s m s 0 = 495873781348 → sp_1 bt s e = decide (pt_wv tx n s m s 0 = 495873781348) := by
    intro q1 q2
    rw [decide_eq_false q2]
    unfold sp_1
    rw [decide_eq_false q1]
    rfl
  match m, hm with
  | 0, hm =>
    have hw := wv_0 (B := tx) (n := n) (b := s) (l := l) hll
    omega
  | 1, hm =>
    have r0 := hr 0 (by omega)
    have hw := wv_1 (B := tx) (n := n) (b := s) (l := l) hll
    exact no (by omega) (by rw [hw]; omega)
  | 2, hm =>
    have r0 := hr 0 (by omega)
    have r1 := hr 1 (by omega)
    have hw := wv_2 (B := tx) (n := n) (b := s) (l := l) hll
    exact no (by omega) (by rw [hw]; omega)
  | 3, hm =>
    have r0 := hr 0 (by omega)
    have r1 := hr 1 (by omega)
    have r2 := hr 2 (by omega)
    have hw := wv_3 (B := tx) (n := n) (b := s) (l := l) hll
    exact no (by omega) (by rw [hw]; omega)
  | 4, hm =>
    have r0 := hr 0 (by omega)
    have r1 := hr 1 (by omega)
    have r2 := hr 2 (by omega)
    have r3 := hr 3 (by omega)
    have hw := wv_4 (B := tx) (n := n) (b := s) (l := l) hll
    exact no (by omega) (by rw [hw]; omega)
  | 5, hm =>
    have r0 := hr 0 (by omega)
    have r1 := hr 1 (by omega)
    have r2 := hr 2 (by omega)
    have r3 := hr 3 (by omega)
    have r4 := hr 4 (by omega)
    have hw := wv_5 (B := tx) (n := n) (b := s) (l := l) hll
    rw [hw]
    have e0 : e - s = 5 := by omega
    have c0 : (bt (Int.toNat (s + (0)))).toInt = l 0 := hlb 0 (by omega)
    have c1 : (bt (Int.toNat (s + (0 + 1)))).toInt = l 1 := hlb 1 (by omega)
    have c2 : (bt (Int.toNat (s + (0 + 1 + 1)))).toInt = l 2 := hlb 2 (by omega)
    have c3 : (bt (Int.toNat (s + (0 + 1 + 1 + 1)))).toInt = l 3 := hlb 3 (by omega)
    have c4 : (bt (Int.toNat (s + (0 + 1 + 1 + 1 + 1)))).toInt = l 4 := hlb 4 (by omega)
    unfold sp_1
    rw [decide_eq_true e0, c0, c1, c2, c3, c4]
    by_cases d0 : l 0 = 115
    · rw [decide_eq_true d0]
      by_cases d1 : l 1 = 116
      · rw [decide_eq_true d1]
        by_cases d2 : l 2 = 97
        · rw [decide_eq_true d2]
          by_cases d3 : l 3 = 110
          · rw [decide_eq_true d3]
            by_cases d4 : l 4 = 100
            · rw [decide_eq_true d4]
              rw [decide_eq_true (show 256 * (256 * (256 * (256 * (256 * (0) + l 0) + l 1) + l 2) + l 3) + l 4 = 495873781348 by omega)]
              rfl
            · rw [decide_eq_false d4, decide_eq_false (show ¬ 256 * (256 * (256 * (256 * (256 * (0) + l 0) + l 1) + l 2) + l 3) + l 4 = 495873781348 by omega)]
              rfl
          · rw [decide_eq_false d3, decide_eq_false (show ¬ 256 * (256 * (256 * (256 * (256 * (0) + l 0) + l 1) + l 2) + l 3) + l 4 = 495873781348 by omega)]
            rfl
        · rw [decide_eq_false d2, decide_eq_false (show ¬ 256 * (256 * (256 * (256 * (256 * (0) + l 0) + l 1) + l 2) + l 3) + l 4 = 495873781348 by omega)]
          rfl
      · rw [decide_eq_false d1, decide_eq_false (show ¬ 256 * (256 * (256 * (256 * (256 * (0) + l 0) + l 1) + l 2) + l 3) + l 4 = 495873781348 by omega)]
        rfl
    · rw [decide_eq_false d0, decide_eq_false (show ¬ 256 * (256 * (256 * (256 * (256 * (0) + l 0) + l 1) + l 2) + l 3) + l 4 = 495873781348 by omega)]
      rfl
  | 6, hm =>
    have r0 := hr 0 (by omega)
    have r1 := hr 1 (by omega)
    have r2 := hr 2 (by omega)
    have r3 := hr 3 (by omega)
    have r4 := hr 4 (by omega)
    have r5 := hr 5 (by omega)
    have hw := wv_6 (B := tx) (n := n) (b := s) (l := l) hll
    exact no (by omega) (by rw [hw]; omega)
  | m + 7, hm =>
    have r0 := hr 0 (by omega)
    have r1 := hr 1 (by omega)
    have r2 := hr 2 (by omega)
    have r3 := hr 3 (by omega)
    have r4 := hr 4 (by omega)
    have r5 := hr 5 (by omega)
    have r6 := hr 6 (by omega)
    have hw := wv_7 (m := m) (B := tx) (n := n) (b := s) (l := l) hll
    exact no (by omega) (by rw [hw]; omega)
theorem sp_w2 {bt tx : Nat → Int32} {n s e : Int} (h : tx_like bt tx n) (hs : 0 ≤ s) (he : s < e) (hn : e ≤ n) (hl : ∀ q : Int, s ≤ q → q < e → 97 ≤ pt_at tx n q ∧ pt_at tx n q ≤ 122) : sp_2 bt s e = decide (pt_wv tx n s (e - s).toNat s 0 = 1870030194) := by
  have hb : ∀ j : Nat, s + j < e → (bt (Int.toNat (s + j))).toInt = pt_at tx n (s + j) := by
    intro j hj
    rw [← pt_at_lt (B := bt) (n := n) (show s + (j : Int) < n by omega)]
    have h1 := tx_ab (p := s + j) h (by omega)
    have h2 := hl (s + j) (by omega) hj
    omega
  obtain ⟨l, hll⟩ : ∃ l : Nat → Int, ∀ j : Nat, l j = pt_at tx n (s + j) := ⟨fun j => pt_at tx n (s + j), fun _ => rfl⟩
  have hr : ∀ j : Nat, s + j < e → 97 ≤ l j ∧ l j ≤ 122 := fun j hj => by rw [hll]; exact hl _ (by omega) hj
  have hlb : ∀ j : Nat, s + j < e → (bt (Int.toNat (s + j))).toInt = l j := fun j hj => by rw [hll]; exact hb j hj
  obtain ⟨m, hm⟩ : ∃ m : Nat, (e - s).toNat = m := ⟨_, rfl⟩
  rw [hm]
  have no : e - s ≠ 4 → ¬ pt_wv tx n s m s 0 = 1870030194 → sp_2 bt s e = decide (pt_wv tx n s m s 0 = 1870030194) := by
    intro q1 q2
    rw [decide_eq_false q2]
    unfold sp_2
    rw [decide_eq_false q1]
    rfl
  match m, hm with
  | 0, hm =>
    have hw := wv_0 (B := tx) (n := n) (b := s) (l := l) hll
    omega
  | 1, hm =>
    have r0 := hr 0 (by omega)
    have hw := wv_1 (B := tx) (n := n) (b := s) (l := l) hll
    exact no (by omega) (by rw [hw]; omega)
  | 2, hm =>
    have r0 := hr 0 (by omega)
    have r1 := hr 1 (by omega)
    have hw := wv_2 (B := tx) (n := n) (b := s) (l := l) hll
    exact no (by omega) (by rw [hw]; omega)
  | 3, hm =>
    have r0 := hr 0 (by omega)
    have r1 := hr 1 (by omega)
    have r2 := hr 2 (by omega)
    have hw := wv_3 (B := tx) (n := n) (b := s) (l := l) hll
    exact no (by omega) (by rw [hw]; omega)
  | 4, hm =>
    have r0 := hr 0 (by omega)
    have r1 := hr 1 (by omega)
    have r2 := hr 2 (by omega)
    have r3 := hr 3 (by omega)
    have hw := wv_4 (B := tx) (n := n) (b := s) (l := l) hll
    rw [hw]
    have e0 : e - s = 4 := by omega
    have c0 : (bt (Int.toNat (s + (0)))).toInt = l 0 := hlb 0 (by omega)
    have c1 : (bt (Int.toNat (s + (0 + 1)))).toInt = l 1 := hlb 1 (by omega)
    have c2 : (bt (Int.toNat (s + (0 + 1 + 1)))).toInt = l 2 := hlb 2 (by omega)
    have c3 : (bt (Int.toNat (s + (0 + 1 + 1 + 1)))).toInt = l 3 := hlb 3 (by omega)
    unfold sp_2
    rw [decide_eq_true e0, c0, c1, c2, c3]
    by_cases d0 : l 0 = 111
    · rw [decide_eq_true d0]
      by_cases d1 : l 1 = 118
      · rw [decide_eq_true d1]
        by_cases d2 : l 2 = 101
        · rw [decide_eq_true d2]
          by_cases d3 : l 3 = 114
          · rw [decide_eq_true d3]
            rw [decide_eq_true (show 256 * (256 * (256 * (256 * (0) + l 0) + l 1) + l 2) + l 3 = 1870030194 by omega)]
            rfl
          · rw [decide_eq_false d3, decide_eq_false (show ¬ 256 * (256 * (256 * (256 * (0) + l 0) + l 1) + l 2) + l 3 = 1870030194 by omega)]
            rfl
        · rw [decide_eq_false d2, decide_eq_false (show ¬ 256 * (256 * (256 * (256 * (0) + l 0) + l 1) + l 2) + l 3 = 1870030194 by omega)]
          rfl
      · rw [decide_eq_false d1, decide_eq_false (show ¬ 256 * (256 * (256 * (256 * (0) + l 0) + l 1) + l 2) + l 3 = 1870030194 by omega)]
        rfl
    · rw [decide_eq_false d0, decide_eq_false (show ¬ 256 * (256 * (256 * (256 * (0) + l 0) + l 1) + l 2) + l 3 = 1870030194 by omega)]
      rfl
  | 5, hm =>
    have r0 := hr 0 (by omega)
    have r1 := hr 1 (by omega)
    have r2 := hr 2 (by omega)
    have r3 := hr 3 (by omega)
    have r4 := hr 4 (by omega)
    have hw := wv_5 (B := tx) (n := n) (b := s) (l := l) hll
    exact no (by omega) (by rw [hw]; omega)
  | 6, hm =>
    have r0 := hr 0 (by omega)
    have r1 := hr 1 (by omega)
    have r2 := hr 2 (by omega)
    have r3 := hr 3 (by omega)
    have r4 := hr 4 (by omega)
    have r5 := hr 5 (by omega)
    have hw := wv_6 (B := tx) (n := n) (b := s) (l := l) hll
    exact no (by omega) (by rw [hw]; omega)
  | m + 7, hm =>
    have r0 := hr 0 (by omega)
    have r1 := hr 1 (by omega)
    have r2 := hr 2 (by omega)
    have r3 := hr 3 (by omega)
    have r4 := hr 4 (by omega)
    have r5 := hr 5 (by omega)
    have r6 := hr 6 (by omega)
    have hw := wv_7 (m := m) (B := tx) (n := n) (b := s) (l := l) hll
    exact no (by omega) (by rw [hw]; omega)
theorem sp_w3 {bt tx : Nat → Int32} {n s e : Int} (h : tx_like bt tx n) (hs : 0 ≤ s) (he : s < e) (hn : e ≤ n) (hl : ∀ q : Int, s ≤ q → q < e → 97 ≤ pt_at tx n q ∧ pt_at tx n q ≤ 122) : sp_3 bt s e = decide (pt_wv tx n s (e - s).toNat s 0 = 512853240933) := by
  have hb : ∀ j : Nat, s + j < e → (bt (Int.toNat (s + j))).toInt = pt_at tx n (s + j) := by
    intro j hj
    rw [← pt_at_lt (B := bt) (n := n) (show s + (j : Int) < n by omega)]
    have h1 := tx_ab (p := s + j) h (by omega)
    have h2 := hl (s + j) (by omega) hj
    omega
  obtain ⟨l, hll⟩ : ∃ l : Nat → Int, ∀ j : Nat, l j = pt_at tx n (s + j) := ⟨fun j => pt_at tx n (s + j), fun _ => rfl⟩
  have hr : ∀ j : Nat, s + j < e → 97 ≤ l j ∧ l j ≤ 122 := fun j hj => by rw [hll]; exact hl _ (by omega) hj
  have hlb : ∀ j : Nat, s + j < e → (bt (Int.toNat (s + j))).toInt = l j := fun j hj => by rw [hll]; exact hb j hj
  obtain ⟨m, hm⟩ : ∃ m : Nat, (e - s).toNat = m := ⟨_, rfl⟩
  rw [hm]
  have no : e - s ≠ 5 → ¬ pt_wv tx n s m s 0 = 512853240933 → sp_3 bt s e = decide (pt_wv tx n s m s 0 = 512853240933) := by
    intro q1 q2
    rw [decide_eq_false q2]
    unfold sp_3
    rw [decide_eq_false q1]
    rfl
  match m, hm with
  | 0, hm =>
    have hw := wv_0 (B := tx) (n := n) (b := s) (l := l) hll
    omega
  | 1, hm =>
    have r0 := hr 0 (by omega)
    have hw := wv_1 (B := tx) (n := n) (b := s) (l := l) hll
    exact no (by omega) (by rw [hw]; omega)
  | 2, hm =>
    have r0 := hr 0 (by omega)
    have r1 := hr 1 (by omega)
    have hw := wv_2 (B := tx) (n := n) (b := s) (l := l) hll
    exact no (by omega) (by rw [hw]; omega)
  | 3, hm =>
    have r0 := hr 0 (by omega)
    have r1 := hr 1 (by omega)
    have r2 := hr 2 (by omega)
    have hw := wv_3 (B := tx) (n := n) (b := s) (l := l) hll
    exact no (by omega) (by rw [hw]; omega)
  | 4, hm =>
    have r0 := hr 0 (by omega)
    have r1 := hr 1 (by omega)
    have r2 := hr 2 (by omega)
    have r3 := hr 3 (by omega)
    have hw := wv_4 (B := tx) (n := n) (b := s) (l := l) hll
    exact no (by omega) (by rw [hw]; omega)
  | 5, hm =>
    have r0 := hr 0 (by omega)
    have r1 := hr 1 (by omega)
    have r2 := hr 2 (by omega)
    have r3 := hr 3 (by omega)
    have r4 := hr 4 (by omega)
    have hw := wv_5 (B := tx) (n := n) (b := s) (l := l) hll
    rw [hw]
    have e0 : e - s = 5 := by omega
    have c0 : (bt (Int.toNat (s + (0)))).toInt = l 0 := hlb 0 (by omega)
    have c1 : (bt (Int.toNat (s + (0 + 1)))).toInt = l 1 := hlb 1 (by omega)
    have c2 : (bt (Int.toNat (s + (0 + 1 + 1)))).toInt = l 2 := hlb 2 (by omega)
    have c3 : (bt (Int.toNat (s + (0 + 1 + 1 + 1)))).toInt = l 3 := hlb 3 (by omega)
    have c4 : (bt (Int.toNat (s + (0 + 1 + 1 + 1 + 1)))).toInt = l 4 := hlb 4 (by omega)
    unfold sp_3
    rw [decide_eq_true e0, c0, c1, c2, c3, c4]
    by_cases d0 : l 0 = 119
    · rw [decide_eq_true d0]
      by_cases d1 : l 1 = 104
      · rw [decide_eq_true d1]
        by_cases d2 : l 2 = 111
        · rw [decide_eq_true d2]
          by_cases d3 : l 3 = 108
          · rw [decide_eq_true d3]
            by_cases d4 : l 4 = 101
            · rw [decide_eq_true d4]
              rw [decide_eq_true (show 256 * (256 * (256 * (256 * (256 * (0) + l 0) + l 1) + l 2) + l 3) + l 4 = 512853240933 by omega)]
              rfl
            · rw [decide_eq_false d4, decide_eq_false (show ¬ 256 * (256 * (256 * (256 * (256 * (0) + l 0) + l 1) + l 2) + l 3) + l 4 = 512853240933 by omega)]
              rfl
          · rw [decide_eq_false d3, decide_eq_false (show ¬ 256 * (256 * (256 * (256 * (256 * (0) + l 0) + l 1) + l 2) + l 3) + l 4 = 512853240933 by omega)]
            rfl
        · rw [decide_eq_false d2, decide_eq_false (show ¬ 256 * (256 * (256 * (256 * (256 * (0) + l 0) + l 1) + l 2) + l 3) + l 4 = 512853240933 by omega)]
          rfl
      · rw [decide_eq_false d1, decide_eq_false (show ¬ 256 * (256 * (256 * (256 * (256 * (0) + l 0) + l 1) + l 2) + l 3) + l 4 = 512853240933 by omega)]
        rfl
    · rw [decide_eq_false d0, decide_eq_false (show ¬ 256 * (256 * (256 * (256 * (256 * (0) + l 0) + l 1) + l 2) + l 3) + l 4 = 512853240933 by omega)]
      rfl
  | 6, hm =>
    have r0 := hr 0 (by omega)
    have r1 := hr 1 (by omega)
    have r2 := hr 2 (by omega)
    have r3 := hr 3 (by omega)
    have r4 := hr 4 (by omega)
    have r5 := hr 5 (by omega)
    have hw := wv_6 (B := tx) (n := n) (b := s) (l := l) hll
    exact no (by omega) (by rw [hw]; omega)
  | m + 7, hm =>
    have r0 := hr 0 (by omega)
    have r1 := hr 1 (by omega)
    have r2 := hr 2 (by omega)
    have r3 := hr 3 (by omega)
    have r4 := hr 4 (by omega)
    have r5 := hr 5 (by omega)
    have r6 := hr 6 (by omega)
    have hw := wv_7 (m := m) (B := tx) (n := n) (b := s) (l := l) hll
    exact no (by omega) (by rw [hw]; omega)
theorem sp_w4 {bt tx : Nat → Int32} {n s e : Int} (h : tx_like bt tx n) (hs : 0 ≤ s) (he : s < e) (hn : e ≤ n) (hl : ∀ q : Int, s ≤ q → q < e → 97 ≤ pt_at tx n q ∧ pt_at tx n q ≤ 122) : sp_4 bt s e = decide (pt_wv tx n s (e - s).toNat s 0 = 1885434484) := by
  have hb : ∀ j : Nat, s + j < e → (bt (Int.toNat (s + j))).toInt = pt_at tx n (s + j) := by
    intro j hj
    rw [← pt_at_lt (B := bt) (n := n) (show s + (j : Int) < n by omega)]
    have h1 := tx_ab (p := s + j) h (by omega)
    have h2 := hl (s + j) (by omega) hj
    omega
  obtain ⟨l, hll⟩ : ∃ l : Nat → Int, ∀ j : Nat, l j = pt_at tx n (s + j) := ⟨fun j => pt_at tx n (s + j), fun _ => rfl⟩
  have hr : ∀ j : Nat, s + j < e → 97 ≤ l j ∧ l j ≤ 122 := fun j hj => by rw [hll]; exact hl _ (by omega) hj
  have hlb : ∀ j : Nat, s + j < e → (bt (Int.toNat (s + j))).toInt = l j := fun j hj => by rw [hll]; exact hb j hj
  obtain ⟨m, hm⟩ : ∃ m : Nat, (e - s).toNat = m := ⟨_, rfl⟩
  rw [hm]
  have no : e - s ≠ 4 → ¬ pt_wv tx n s m s 0 = 1885434484 → sp_4 bt s e = decide (pt_wv tx n s m s 0 = 1885434484) := by
    intro q1 q2
    rw [decide_eq_false q2]
    unfold sp_4
    rw [decide_eq_false q1]
    rfl
  match m, hm with
  | 0, hm =>
    have hw := wv_0 (B := tx) (n := n) (b := s) (l := l) hll
    omega
  | 1, hm =>
    have r0 := hr 0 (by omega)
    have hw := wv_1 (B := tx) (n := n) (b := s) (l := l) hll
    exact no (by omega) (by rw [hw]; omega)
  | 2, hm =>
    have r0 := hr 0 (by omega)
    have r1 := hr 1 (by omega)
    have hw := wv_2 (B := tx) (n := n) (b := s) (l := l) hll
    exact no (by omega) (by rw [hw]; omega)
  | 3, hm =>
    have r0 := hr 0 (by omega)
    have r1 := hr 1 (by omega)
    have r2 := hr 2 (by omega)
    have hw := wv_3 (B := tx) (n := n) (b := s) (l := l) hll
    exact no (by omega) (by rw [hw]; omega)
  | 4, hm =>
    have r0 := hr 0 (by omega)
    have r1 := hr 1 (by omega)
    have r2 := hr 2 (by omega)
    have r3 := hr 3 (by omega)
    have hw := wv_4 (B := tx) (n := n) (b := s) (l := l) hll
    rw [hw]
    have e0 : e - s = 4 := by omega
    have c0 : (bt (Int.toNat (s + (0)))).toInt = l 0 := hlb 0 (by omega)
    have c1 : (bt (Int.toNat (s + (0 + 1)))).toInt = l 1 := hlb 1 (by omega)
    have c2 : (bt (Int.toNat (s + (0 + 1 + 1)))).toInt = l 2 := hlb 2 (by omega)
    have c3 : (bt (Int.toNat (s + (0 + 1 + 1 + 1)))).toInt = l 3 := hlb 3 (by omega)
    unfold sp_4
    rw [decide_eq_true e0, c0, c1, c2, c3]
    by_cases d0 : l 0 = 112
    · rw [decide_eq_true d0]
      by_cases d1 : l 1 = 97
      · rw [decide_eq_true d1]
        by_cases d2 : l 2 = 114
        · rw [decide_eq_true d2]
          by_cases d3 : l 3 = 116
          · rw [decide_eq_true d3]
            rw [decide_eq_true (show 256 * (256 * (256 * (256 * (0) + l 0) + l 1) + l 2) + l 3 = 1885434484 by omega)]
            rfl
          · rw [decide_eq_false d3, decide_eq_false (show ¬ 256 * (256 * (256 * (256 * (0) + l 0) + l 1) + l 2) + l 3 = 1885434484 by omega)]
            rfl
        · rw [decide_eq_false d2, decide_eq_false (show ¬ 256 * (256 * (256 * (256 * (0) + l 0) + l 1) + l 2) + l 3 = 1885434484 by omega)]
          rfl
      · rw [decide_eq_false d1, decide_eq_false (show ¬ 256 * (256 * (256 * (256 * (0) + l 0) + l 1) + l 2) + l 3 = 1885434484 by omega)]
        rfl
    · rw [decide_eq_false d0, decide_eq_false (show ¬ 256 * (256 * (256 * (256 * (0) + l 0) + l 1) + l 2) + l 3 = 1885434484 by omega)]
      rfl
  | 5, hm =>
    have r0 := hr 0 (by omega)
    have r1 := hr 1 (by omega)
    have r2 := hr 2 (by omega)
    have r3 := hr 3 (by omega)
    have r4 := hr 4 (by omega)
    have hw := wv_5 (B := tx) (n := n) (b := s) (l := l) hll
    exact no (by omega) (by rw [hw]; omega)
  | 6, hm =>
    have r0 := hr 0 (by omega)
    have r1 := hr 1 (by omega)
    have r2 := hr 2 (by omega)
    have r3 := hr 3 (by omega)
    have r4 := hr 4 (by omega)
    have r5 := hr 5 (by omega)
    have hw := wv_6 (B := tx) (n := n) (b := s) (l := l) hll
    exact no (by omega) (by rw [hw]; omega)
  | m + 7, hm =>
    have r0 := hr 0 (by omega)
    have r1 := hr 1 (by omega)
    have r2 := hr 2 (by omega)
    have r3 := hr 3 (by omega)
    have r4 := hr 4 (by omega)
    have r5 := hr 5 (by omega)
    have r6 := hr 6 (by omega)
    have hw := wv_7 (m := m) (B := tx) (n := n) (b := s) (l := l) hll
    exact no (by omega) (by rw [hw]; omega)
theorem sp_w5 {bt tx : Nat → Int32} {n s e : Int} (h : tx_like bt tx n) (hs : 0 ≤ s) (he : s < e) (hn : e ≤ n) (hl : ∀ q : Int, s ≤ q → q < e → 97 ≤ pt_at tx n q ∧ pt_at tx n q ≤ 122) : sp_5 bt s e = decide (pt_wv tx n s (e - s).toNat s 0 = 108187682958948) := by
  have hb : ∀ j : Nat, s + j < e → (bt (Int.toNat (s + j))).toInt = pt_at tx n (s + j) := by
    intro j hj
    rw [← pt_at_lt (B := bt) (n := n) (show s + (j : Int) < n by omega)]
    have h1 := tx_ab (p := s + j) h (by omega)
    have h2 := hl (s + j) (by omega) hj
    omega
  obtain ⟨l, hll⟩ : ∃ l : Nat → Int, ∀ j : Nat, l j = pt_at tx n (s + j) := ⟨fun j => pt_at tx n (s + j), fun _ => rfl⟩
  have hr : ∀ j : Nat, s + j < e → 97 ≤ l j ∧ l j ≤ 122 := fun j hj => by rw [hll]; exact hl _ (by omega) hj
  have hlb : ∀ j : Nat, s + j < e → (bt (Int.toNat (s + j))).toInt = l j := fun j hj => by rw [hll]; exact hb j hj
  obtain ⟨m, hm⟩ : ∃ m : Nat, (e - s).toNat = m := ⟨_, rfl⟩
  rw [hm]
  have no : e - s ≠ 6 → ¬ pt_wv tx n s m s 0 = 108187682958948 → sp_5 bt s e = decide (pt_wv tx n s m s 0 = 108187682958948) := by
    intro q1 q2
    rw [decide_eq_false q2]
    unfold sp_5
    rw [decide_eq_false q1]
    rfl
  match m, hm with
  | 0, hm =>
    have hw := wv_0 (B := tx) (n := n) (b := s) (l := l) hll
    omega
  | 1, hm =>
    have r0 := hr 0 (by omega)
    have hw := wv_1 (B := tx) (n := n) (b := s) (l := l) hll
    exact no (by omega) (by rw [hw]; omega)
  | 2, hm =>
    have r0 := hr 0 (by omega)
    have r1 := hr 1 (by omega)
    have hw := wv_2 (B := tx) (n := n) (b := s) (l := l) hll
    exact no (by omega) (by rw [hw]; omega)
  | 3, hm =>
    have r0 := hr 0 (by omega)
    have r1 := hr 1 (by omega)
    have r2 := hr 2 (by omega)
    have hw := wv_3 (B := tx) (n := n) (b := s) (l := l) hll
    exact no (by omega) (by rw [hw]; omega)
  | 4, hm =>
    have r0 := hr 0 (by omega)
    have r1 := hr 1 (by omega)
    have r2 := hr 2 (by omega)
    have r3 := hr 3 (by omega)
    have hw := wv_4 (B := tx) (n := n) (b := s) (l := l) hll
    exact no (by omega) (by rw [hw]; omega)
  | 5, hm =>
    have r0 := hr 0 (by omega)
    have r1 := hr 1 (by omega)
    have r2 := hr 2 (by omega)
    have r3 := hr 3 (by omega)
    have r4 := hr 4 (by omega)
    have hw := wv_5 (B := tx) (n := n) (b := s) (l := l) hll
    exact no (by omega) (by rw [hw]; omega)
  | 6, hm =>
    have r0 := hr 0 (by omega)
    have r1 := hr 1 (by omega)
    have r2 := hr 2 (by omega)
    have r3 := hr 3 (by omega)
    have r4 := hr 4 (by omega)
    have r5 := hr 5 (by omega)
    have hw := wv_6 (B := tx) (n := n) (b := s) (l := l) hll
    rw [hw]
    have e0 : e - s = 6 := by omega
    have c0 : (bt (Int.toNat (s + (0)))).toInt = l 0 := hlb 0 (by omega)
    have c1 : (bt (Int.toNat (s + (0 + 1)))).toInt = l 1 := hlb 1 (by omega)
    have c2 : (bt (Int.toNat (s + (0 + 1 + 1)))).toInt = l 2 := hlb 2 (by omega)
    have c3 : (bt (Int.toNat (s + (0 + 1 + 1 + 1)))).toInt = l 3 := hlb 3 (by omega)
    have c4 : (bt (Int.toNat (s + (0 + 1 + 1 + 1 + 1)))).toInt = l 4 := hlb 4 (by omega)
    have c5 : (bt (Int.toNat (s + (0 + 1 + 1 + 1 + 1 + 1)))).toInt = l 5 := hlb 5 (by omega)
    unfold sp_5
    rw [decide_eq_true e0, c0, c1, c2, c3, c4, c5]
    by_cases d0 : l 0 = 98
    · rw [decide_eq_true d0]
      by_cases d1 : l 1 = 101
      · rw [decide_eq_true d1]
        by_cases d2 : l 2 = 104
        · rw [decide_eq_true d2]
          by_cases d3 : l 3 = 105
          · rw [decide_eq_true d3]
            by_cases d4 : l 4 = 110
            · rw [decide_eq_true d4]
              by_cases d5 : l 5 = 100
              · rw [decide_eq_true d5]
                rw [decide_eq_true (show 256 * (256 * (256 * (256 * (256 * (256 * (0) + l 0) + l 1) + l 2) + l 3) + l 4) + l 5 = 108187682958948 by omega)]
                rfl
              · rw [decide_eq_false d5, decide_eq_false (show ¬ 256 * (256 * (256 * (256 * (256 * (256 * (0) + l 0) + l 1) + l 2) + l 3) + l 4) + l 5 = 108187682958948 by omega)]
                rfl
            · rw [decide_eq_false d4, decide_eq_false (show ¬ 256 * (256 * (256 * (256 * (256 * (256 * (0) + l 0) + l 1) + l 2) + l 3) + l 4) + l 5 = 108187682958948 by omega)]
              rfl
          · rw [decide_eq_false d3, decide_eq_false (show ¬ 256 * (256 * (256 * (256 * (256 * (256 * (0) + l 0) + l 1) + l 2) + l 3) + l 4) + l 5 = 108187682958948 by omega)]
            rfl
        · rw [decide_eq_false d2, decide_eq_false (show ¬ 256 * (256 * (256 * (256 * (256 * (256 * (0) + l 0) + l 1) + l 2) + l 3) + l 4) + l 5 = 108187682958948 by omega)]
          rfl
      · rw [decide_eq_false d1, decide_eq_false (show ¬ 256 * (256 * (256 * (256 * (256 * (256 * (0) + l 0) + l 1) + l 2) + l 3) + l 4) + l 5 = 108187682958948 by omega)]
        rfl
    · rw [decide_eq_false d0, decide_eq_false (show ¬ 256 * (256 * (256 * (256 * (256 * (256 * (0) + l 0) + l 1) + l 2) + l 3) + l 4) + l 5 = 108187682958948 by omega)]
      rfl
  | m + 7, hm =>
    have r0 := hr 0 (by omega)
    have r1 := hr 1 (by omega)
    have r2 := hr 2 (by omega)
    have r3 := hr 3 (by omega)
    have r4 := hr 4 (by omega)
    have r5 := hr 5 (by omega)
    have r6 := hr 6 (by omega)
    have hw := wv_7 (m := m) (B := tx) (n := n) (b := s) (l := l) hll
    exact no (by omega) (by rw [hw]; omega)
/-- the tokens agree: k, v the class's, tk, va the reference's -/
def tkrel (k v tk va : Int) : Prop := (k = 0 ∧ tk = 0) ∨ (k = 1 ∧ tk = 6) ∨ (k = 2 ∧ tk = 3 ∧ va = v) ∨ (k = 3 ∧ tk = 2 ∧ va = v) ∨ (k = 4 ∧ tk = 4) ∨ (k = 5 ∧ tk = 5) ∨ (6 ≤ k ∧ k ≤ 11 ∧ tk = 1 ∧ va = k - 6)
theorem w_rel (d0 d1 d2 d3 d4 d5 : Bool) (v : Int) : tkrel (bif d0 then 6 else bif d1 then 7 else bif d2 then 8 else bif d3 then 9 else bif d4 then 10 else bif d5 then 11 else 1) v (bif decide ((bif d0 then (0 : Int) else bif d1 then 1 else bif d2 then 2 else bif d3 then 3 else bif d4 then 4 else bif d5 then 5 else -9) = -9) then 6 else 1) (bif d0 then 0 else bif d1 then 1 else bif d2 then 2 else bif d3 then 3 else bif d4 then 4 else bif d5 then 5 else -9) := by
  cases d0 <;> cases d1 <;> cases d2 <;> cases d3 <;> cases d4 <;> cases d5 <;> first | exact Or.inr (Or.inl ⟨rfl, rfl⟩) | exact Or.inr (Or.inr (Or.inr (Or.inr (Or.inr (Or.inr ⟨by decide, by decide, rfl, rfl⟩)))))
theorem tok_rel {bt tx : Nat → Int32} {n p v0 : Int} (hn : 0 ≤ n ∧ n ≤ 400) (h : tx_like bt tx n) (hp : 0 ≤ p ∧ p ≤ n) : ra_nx tx n p = cl_e bt n p ∧ ra_pl tx n p = ra_pl bt n p ∧ tkrel (cl_t bt n p) (cl_v bt n p) (ra_tk tx n p) (ra_va tx n p v0) := by
  have hpl : ra_pl tx n p = ra_pl bt n p := tx_skip rfl (fun q hq => tx_spc h hq) 400 hp.1 (by omega)
  have hs := pt_skip_r (f := pt_spc) (B := bt) (n := n) rfl 400 (p := p) hp.2 (by omega)
  have hs : p ≤ ra_pl bt n p ∧ ra_pl bt n p ≤ n := hs
  have hct : ra_c tx n p = pt_at tx n (ra_pl bt n p) := by unfold ra_c; rw [hpl]
  have hcb : ra_c bt n p = pt_at bt n (ra_pl bt n p) := rfl
  have hlo := tx_low (p := ra_pl bt n p) h (by omega)
  have hdi := tx_dig (p := ra_pl bt n p) h (by omega)
  have hat := tx_at (p := ra_pl bt n p) h (by omega)
  unfold ra_nx ra_tk ra_va cl_e cl_t cl_v
  refine ⟨?_, hpl, ?_⟩
  · rw [hct, hcb, hpl, hlo, hdi]
    rcases hat with ⟨q1, q2, q3⟩ | ⟨q1, q2, q3, q4⟩
    · rw [q2, decide_eq_true q1, decide_eq_true (show (-1 : Int) < 0 by decide)]
      simp only [cond_true]
    · rw [decide_eq_false (show ¬ pt_at tx n (ra_pl bt n p) < 0 by omega), decide_eq_false (show ¬ n ≤ ra_pl bt n p by omega)]
      show (bif pt_low (pt_at bt n (ra_pl bt n p)) then _ else _) = (bif pt_low (pt_at bt n (ra_pl bt n p)) then _ else _)
      cases g1 : pt_low (pt_at bt n (ra_pl bt n p)) with
      | true =>
        show pt_skip pt_low tx n (ra_pl bt n p) = pt_skip pt_low bt n (ra_pl bt n p + 1)
        rw [tx_skip rfl (fun q hq => tx_low h hq) 400 (by omega) (by omega), (pt_skip_y rfl g1).1]
      | false =>
        show (bif pt_dig (pt_at bt n (ra_pl bt n p)) then _ else _) = (bif pt_dig (pt_at bt n (ra_pl bt n p)) then _ else _)
        cases g2 : pt_dig (pt_at bt n (ra_pl bt n p)) with
        | true =>
          show pt_skip pt_dig tx n (ra_pl bt n p) = pt_skip pt_dig bt n (ra_pl bt n p + 1)
          rw [tx_skip rfl (fun q hq => tx_dig h hq) 400 (by omega) (by omega), (pt_skip_y rfl g2).1]
        | false => simp only [cond_false]
  · rcases hat with ⟨q1, q2, q3⟩ | ⟨q1, q2, q3, q4⟩
    · rw [hct, q2, decide_eq_true q1]
      exact Or.inl ⟨rfl, rfl⟩
    · rw [hct, hcb, hlo, hdi, decide_eq_false (show ¬ pt_at tx n (ra_pl bt n p) < 0 by omega), decide_eq_false (show ¬ n ≤ ra_pl bt n p by omega)]
      simp only [cond_false]
      cases g1 : pt_low (pt_at bt n (ra_pl bt n p)) with
      | true =>
        simp only [cond_true]
        have e1 := pt_skip_y (f := pt_low) (B := bt) (n := n) (p := ra_pl bt n p) rfl g1
        have hsk := pt_skip_r (f := pt_low) (B := bt) (n := n) rfl 400 (p := ra_pl bt n p + 1) (by omega) (by omega)
        have hw : ra_w tx n p = pw_of (pt_wv tx n (ra_pl bt n p) (pt_skip pt_low bt n (ra_pl bt n p + 1) - ra_pl bt n p).toNat (ra_pl bt n p) 0) := by
          unfold ra_w
          rw [hpl, tx_skip rfl (fun q hq => tx_low h hq) 400 (by omega) (by omega), e1.1]
        have hl : ∀ q : Int, ra_pl bt n p ≤ q → q < pt_skip pt_low bt n (ra_pl bt n p + 1) → 97 ≤ pt_at tx n q ∧ pt_at tx n q ≤ 122 := by
          intro q b1 b2
          rw [← e1.1] at b2
          have := pt_skip_in (f := pt_low) (B := bt) (n := n) rfl 400 (p := ra_pl bt n p) (by omega) q b1 b2
          rw [← tx_low h (by omega)] at this
          exact i3_t this
        rw [hw]
        unfold cw_t pw_of
        rw [sp_w0 h (by omega) (by omega) (by omega) hl, sp_w1 h (by omega) (by omega) (by omega) hl, sp_w2 h (by omega) (by omega) (by omega) hl, sp_w3 h (by omega) (by omega) (by omega) hl, sp_w4 h (by omega) (by omega) (by omega) hl, sp_w5 h (by omega) (by omega) (by omega) hl]
        exact w_rel _ _ _ _ _ _ _
      | false =>
        simp only [cond_false]
        cases g2 : pt_dig (pt_at bt n (ra_pl bt n p)) with
        | true =>
          simp only [cond_true]
          have e1 := pt_skip_y (f := pt_dig) (B := bt) (n := n) (p := ra_pl bt n p) rfl g2
          have hsk := pt_skip_r (f := pt_dig) (B := bt) (n := n) rfl 400 (p := ra_pl bt n p + 1) (by omega) (by omega)
          have hnn : ra_n tx n p = cl_n bt n p := by
            unfold ra_n cl_n
            rw [hpl, tx_skip rfl (fun q hq => tx_dig h hq) 400 (by omega) (by omega), e1.1]
            refine tx_num _ (fun q b1 b2 => ?_)
            have b2 : q < pt_skip pt_dig bt n (ra_pl bt n p) := by rw [e1.1]; omega
            have h3 := i3_t (pt_skip_in (f := pt_dig) (B := bt) (n := n) rfl 400 (p := ra_pl bt n p) (by omega) q b1 b2)
            have h4 := tx_ab (p := q) h (by omega)
            omega
          have hsk2 : pt_skip pt_dig tx n (ra_pl tx n p) = pt_skip pt_dig bt n (ra_pl bt n p + 1) := by
            rw [hpl, tx_skip rfl (fun q hq => tx_dig h hq) 400 (by omega) (by omega), e1.1]
          rw [hnn, hsk2, hpl]
          have hd2 := i3_t g2
          have ec : pt_at tx n (ra_pl bt n p) = pt_at bt n (ra_pl bt n p) := by omega
          rw [ec]
          cases decide (pt_at bt n (ra_pl bt n p) = 48) <;> cases decide (1 < pt_skip pt_dig bt n (ra_pl bt n p + 1) - ra_pl bt n p) <;> cases decide (999 < cl_n bt n p) <;> first | exact Or.inr (Or.inl ⟨rfl, rfl⟩) | exact Or.inr (Or.inr (Or.inl ⟨rfl, rfl, rfl⟩))
        | false =>
          simp only [cond_false]
          rw [tx_i3 (tx_ab h (show 0 ≤ ra_pl bt n p by omega)) (show (0 : Int) ≤ 65 by decide) (show (72 : Int) ≤ 127 by decide)]
          cases g3 : i3 (pt_at bt n (ra_pl bt n p)) 65 72 with
          | true =>
            have := i3_t g3
            exact Or.inr (Or.inr (Or.inr (Or.inl ⟨rfl, rfl, by show pt_at tx n _ - 65 = pt_at bt n _ - 65; omega⟩)))
          | false =>
            by_cases g4 : pt_at bt n (ra_pl bt n p) = 47
            · rw [decide_eq_true g4, decide_eq_true (show pt_at tx n (ra_pl bt n p) = 47 by omega)]
              exact Or.inr (Or.inr (Or.inr (Or.inr (Or.inl ⟨rfl, rfl⟩))))
            · rw [decide_eq_false g4, decide_eq_false (show ¬ pt_at tx n (ra_pl bt n p) = 47 by omega)]
              by_cases g5 : pt_at bt n (ra_pl bt n p) = 59
              · rw [decide_eq_true g5, decide_eq_true (show pt_at tx n (ra_pl bt n p) = 59 by omega)]
                exact Or.inr (Or.inr (Or.inr (Or.inr (Or.inr (Or.inl ⟨rfl, rfl⟩)))))
              · rw [decide_eq_false g5, decide_eq_false (show ¬ pt_at tx n (ra_pl bt n p) = 59 by omega)]
                exact Or.inr (Or.inl ⟨rfl, rfl⟩)
