/-! ===== fewest papers: the table, purely ===== -/
/-- the sum of what those in n have -/
def bSU (B : Nat → Int) (n : Nat) : Nat → Int
  | 0 => 0
  | j + 1 => bSU B n j + (bif n.testBit j then B j else 0)
/-- the most of the table over n without one of its own -/
def bMx (T : Nat → Int) (n : Nat) : Nat → Int
  | 0 => 0
  | j + 1 => bif n.testBit j && decide (bMx T n j < T (n - 2 ^ j)) then T (n - 2 ^ j) else bMx T n j
def bSt (B : Nat → Int) (T : Nat → Int) (n : Nat) : Int := bMx T n 8 + (bif !decide (n = 0) && decide (bSU B n 8 = 0) then 1 else 0)
def bTb (B : Nat → Int) : Nat → (Nat → Int)
  | 0 => fun _ => 0
  | t + 1 => fun n => if n = t then bSt B (bTb B t) t else bTb B t n
theorem bt_add : ∀ k : Nat, k < 8 → ∀ S : Nat, S < 256 → S.testBit k = false → ∀ p : Nat, p < 8 → (S + 2 ^ k).testBit p = (S.testBit p || decide (p = k)) := by decide +kernel
theorem bt_sub : ∀ k : Nat, k < 8 → ∀ S : Nat, S < 256 → S.testBit k = true → 2 ^ k ≤ S ∧ ∀ p : Nat, p < 8 → (S - 2 ^ k).testBit p = (S.testBit p && !decide (p = k)) := by decide +kernel
theorem bt_0 : ∀ S : Nat, S < 256 → S ≠ 0 → ∃ k, k < 8 ∧ S.testBit k = true := by decide +kernel
theorem bt_k : ∀ k : Nat, k < 8 → ∀ S : Nat, S < 256 → S.testBit k = false → S + 2 ^ k < 256 := by decide +kernel
theorem p2_pos (k : Nat) : 0 < 2 ^ k := Nat.two_pow_pos k
theorem bMx_c {T T' : Nat → Int} {n : Nat} (h : ∀ m : Nat, m < n → T m = T' m) : ∀ j : Nat, j ≤ 8 → n < 256 → bMx T n j = bMx T' n j
  | 0, _, _ => rfl
  | j + 1, hj, hn => by
    show (bif n.testBit j && decide (bMx T n j < T (n - 2 ^ j)) then T (n - 2 ^ j) else bMx T n j) = (bif n.testBit j && decide (bMx T' n j < T' (n - 2 ^ j)) then T' (n - 2 ^ j) else bMx T' n j)
    rw [bMx_c h j (by omega) hn]
    cases hb : n.testBit j with
    | false => rfl
    | true =>
      have := (bt_sub j (by omega) n hn hb).1
      have := p2_pos j
      rw [h (n - 2 ^ j) (by omega)]
theorem bTb_k {B : Nat → Int} {n : Nat} : ∀ k : Nat, bTb B (n + 1 + k) n = bTb B (n + 1) n
  | 0 => rfl
  | k + 1 => by
    show (if n = n + 1 + k then _ else bTb B (n + 1 + k) n) = _
    rw [if_neg (by omega), bTb_k k]
theorem bTb_n {B : Nat → Int} {n t : Nat} (h : n < t) : bTb B t n = bTb B (n + 1) n := by
  have := bTb_k (B := B) (n := n) (t - (n + 1))
  rw [show n + 1 + (t - (n + 1)) = t by omega] at this
  exact this
/-- the table's own rule -/
theorem bTb_e {B : Nat → Int} {n : Nat} (hn : n < 256) : bTb B 256 n = bSt B (bTb B 256) n := by
  rw [bTb_n hn]
  show (if n = n then bSt B (bTb B n) n else _) = _
  rw [if_pos rfl]
  unfold bSt
  rw [bMx_c (T := bTb B n) (T' := bTb B 256) (fun m hm => by rw [bTb_n hm, bTb_n (show m < 256 by omega)]) 8 (by decide) hn]
theorem bMx_0 {T : Nat → Int} {n : Nat} : ∀ j : Nat, 0 ≤ bMx T n j
  | 0 => Int.le_refl _
  | j + 1 => by
    have ih := bMx_0 (T := T) (n := n) j
    show 0 ≤ (bif n.testBit j && decide (bMx T n j < T (n - 2 ^ j)) then T (n - 2 ^ j) else bMx T n j)
    cases h : (n.testBit j && decide (bMx T n j < T (n - 2 ^ j))) with
    | false => exact ih
    | true =>
      rw [Bool.and_eq_true] at h
      have := of_decide_eq_true h.2
      show 0 ≤ T (n - 2 ^ j)
      omega
theorem bMx_ge {T : Nat → Int} {n p : Nat} (hp : n.testBit p = true) : ∀ j : Nat, p < j → T (n - 2 ^ p) ≤ bMx T n j
  | 0, h => by omega
  | j + 1, h => by
    show T (n - 2 ^ p) ≤ (bif n.testBit j && decide (bMx T n j < T (n - 2 ^ j)) then T (n - 2 ^ j) else bMx T n j)
    by_cases e : p = j
    · subst e
      rw [hp, Bool.true_and]
      by_cases q : bMx T n p < T (n - 2 ^ p)
      · rw [decide_eq_true q]; exact Int.le_refl _
      · rw [decide_eq_false q]; show T (n - 2 ^ p) ≤ bMx T n p; omega
    · have ih := bMx_ge (T := T) hp j (by omega)
      cases hb : (n.testBit j && decide (bMx T n j < T (n - 2 ^ j))) with
      | false => exact ih
      | true =>
        rw [Bool.and_eq_true] at hb
        have := of_decide_eq_true hb.2
        show T (n - 2 ^ p) ≤ T (n - 2 ^ j)
        omega
theorem bMx_le {T : Nat → Int} {n : Nat} {c : Int} (hc : 0 ≤ c) : ∀ j : Nat, (∀ p : Nat, p < j → n.testBit p = true → T (n - 2 ^ p) ≤ c) → bMx T n j ≤ c
  | 0, _ => hc
  | j + 1, h => by
    have ih := bMx_le (T := T) (n := n) hc j (fun p hp => h p (by omega))
    show (bif n.testBit j && decide (bMx T n j < T (n - 2 ^ j)) then T (n - 2 ^ j) else bMx T n j) ≤ c
    cases hb : (n.testBit j && decide (bMx T n j < T (n - 2 ^ j))) with
    | false => exact ih
    | true =>
      rw [Bool.and_eq_true] at hb
      exact h j (by omega) hb.1
theorem bMx_at {T : Nat → Int} {n : Nat} : ∀ j : Nat, bMx T n j = 0 ∨ ∃ p, p < j ∧ n.testBit p = true ∧ T (n - 2 ^ p) = bMx T n j
  | 0 => Or.inl rfl
  | j + 1 => by
    have ih := bMx_at (T := T) (n := n) j
    show (bif n.testBit j && decide (bMx T n j < T (n - 2 ^ j)) then T (n - 2 ^ j) else bMx T n j) = 0 ∨ ∃ p, p < j + 1 ∧ n.testBit p = true ∧ T (n - 2 ^ p) = (bif n.testBit j && decide (bMx T n j < T (n - 2 ^ j)) then T (n - 2 ^ j) else bMx T n j)
    cases hb : (n.testBit j && decide (bMx T n j < T (n - 2 ^ j))) with
    | false =>
      rcases ih with e | ⟨p, p1, p2, p3⟩
      · exact Or.inl e
      · exact Or.inr ⟨p, by omega, p2, p3⟩
    | true =>
      rw [Bool.and_eq_true] at hb
      exact Or.inr ⟨j, by omega, hb.1, rfl⟩
theorem bSU_add {B : Nat → Int} {S k : Nat} (hS : S < 256) (hk : k < 8) (hb : S.testBit k = false) : ∀ j : Nat, j ≤ 8 → bSU B (S + 2 ^ k) j = bSU B S j + (if k < j then B k else 0)
  | 0, _ => by rw [if_neg (by omega)]; rfl
  | j + 1, hj => by
    show bSU B (S + 2 ^ k) j + (bif (S + 2 ^ k).testBit j then B j else 0) = bSU B S j + (bif S.testBit j then B j else 0) + _
    rw [bSU_add hS hk hb j (by omega), bt_add k hk S hS hb j (by omega)]
    by_cases e : j = k
    · subst e
      rw [hb, decide_eq_true rfl, if_neg (by omega), if_pos (by omega)]
      show bSU B S j + 0 + B j = bSU B S j + 0 + B j
      rfl
    · rw [decide_eq_false e, Bool.or_false]
      by_cases q : k < j
      · rw [if_pos q, if_pos (by omega)]; omega
      · rw [if_neg q, if_neg (by omega)]; omega
theorem bT_ge {B : Nat → Int} {n : Nat} (hn : n < 256) : 0 ≤ bTb B 256 n ∧ bMx (bTb B 256) n 8 ≤ bTb B 256 n ∧ bTb B 256 n ≤ bMx (bTb B 256) n 8 + 1 := by
  have h0 := bMx_0 (T := bTb B 256) (n := n) 8
  rw [bTb_e hn]
  unfold bSt
  generalize bMx (bTb B 256) n 8 = m at h0 ⊢
  cases (!decide (n = 0) && decide (bSU B n 8 = 0)) with
  | true => show 0 ≤ m + 1 ∧ m ≤ m + 1 ∧ m + 1 ≤ m + 1; omega
  | false => show 0 ≤ m + 0 ∧ m ≤ m + 0 ∧ m + 0 ≤ m + 1; omega
/-- one whose balance is 0 makes a group more -/
theorem bT_zero {B : Nat → Int} {k : Nat} (hk : k < 8) (hB : B k = 0) : ∀ (m S : Nat), S ≤ m → S < 256 → S.testBit k = false → bTb B 256 (S + 2 ^ k) = bTb B 256 S + 1 := by
  intro m
  induction m with
  | zero =>
    intro S h0 hS hb
    have e : S = 0 := by omega
    subst e
    have hlt := bt_k k hk 0 (by decide) hb
    have hbk : (0 + 2 ^ k).testBit k = true := by rw [bt_add k hk 0 (by decide) hb k hk, decide_eq_true rfl, Bool.or_true]
    have t0 : bTb B 256 0 = 0 := by
      rw [bTb_e (by decide)]
      unfold bSt
      have : bMx (bTb B 256) 0 8 = 0 := by
        rcases bMx_at (T := bTb B 256) (n := 0) 8 with e | ⟨p, p1, p2, -⟩
        · exact e
        · rw [Nat.zero_testBit] at p2; cases p2
      rw [this]
      rfl
    have hM : bMx (bTb B 256) (0 + 2 ^ k) 8 = 0 := by
      refine Int.le_antisymm (bMx_le (Int.le_refl _) 8 (fun p hp hpb => ?_)) (bMx_0 8)
      rw [bt_add k hk 0 (by decide) hb p hp, Nat.zero_testBit, Bool.false_or] at hpb
      have := of_decide_eq_true hpb
      subst this
      rw [show 0 + 2 ^ p - 2 ^ p = 0 by omega, t0]
      exact Int.le_refl _
    have := p2_pos k
    rw [bTb_e hlt, t0]
    unfold bSt
    rw [hM, bSU_add (by decide) hk hb 8 (by decide), if_pos hk, hB, decide_eq_false (show ¬ 0 + 2 ^ k = 0 by omega)]
    have z : bSU B 0 8 = 0 := by
      have : ∀ j : Nat, bSU B 0 j = 0 := fun j => by
        induction j with
        | zero => rfl
        | succ j ih =>
          show bSU B 0 j + (bif (0 : Nat).testBit j then B j else 0) = 0
          rw [ih, Nat.zero_testBit]
          rfl
      exact this 8
    rw [z]
    rfl
  | succ m ih =>
    intro S h0 hS hb
    by_cases e0 : S = 0
    · exact ih S (by omega) hS hb
    · have hlt := bt_k k hk S hS hb
      have g := bT_ge (B := B) hS
      have g0 := bMx_0 (T := bTb B 256) (n := S) 8
      have elt : ∀ p : Nat, p < 8 → S.testBit p = true → bTb B 256 (S + 2 ^ k - 2 ^ p) = bTb B 256 (S - 2 ^ p) + 1 := fun p hp hpb => by
        obtain ⟨s1, s2⟩ := bt_sub p hp S hS hpb
        have := p2_pos p
        have := p2_pos k
        rw [show S + 2 ^ k - 2 ^ p = (S - 2 ^ p) + 2 ^ k by omega]
        exact ih (S - 2 ^ p) (by omega) (by omega) (by rw [s2 k hk, hb]; rfl)
      have hM : bMx (bTb B 256) (S + 2 ^ k) 8 = bMx (bTb B 256) S 8 + 1 := by
        refine Int.le_antisymm (bMx_le (by omega) 8 (fun p hp hpb => ?_)) ?_
        · rw [bt_add k hk S hS hb p hp, Bool.or_eq_true] at hpb
          rcases hpb with q | q
          · rw [elt p hp q]
            have := bMx_ge (T := bTb B 256) q 8 hp
            omega
          · have := of_decide_eq_true q
            subst this
            rw [show S + 2 ^ p - 2 ^ p = S by omega]
            omega
        · have pick : ∃ p, p < 8 ∧ S.testBit p = true ∧ bMx (bTb B 256) S 8 ≤ bTb B 256 (S - 2 ^ p) := by
            rcases bMx_at (T := bTb B 256) (n := S) 8 with e | ⟨p, p1, p2, p3⟩
            · obtain ⟨p, p1, p2⟩ := bt_0 S hS e0
              obtain ⟨s1, -⟩ := bt_sub p p1 S hS p2
              have := p2_pos p
              have := (bT_ge (B := B) (n := S - 2 ^ p) (by omega)).1
              exact ⟨p, p1, p2, by omega⟩
            · exact ⟨p, p1, p2, by omega⟩
          obtain ⟨p, p1, p2, p3⟩ := pick
          have hpb : (S + 2 ^ k).testBit p = true := by rw [bt_add k hk S hS hb p p1, p2]; rfl
          have := bMx_ge (T := bTb B 256) hpb 8 p1
          rw [elt p p1 p2] at this
          omega
      have := p2_pos k
      rw [bTb_e hlt, bTb_e hS]
      unfold bSt
      rw [hM, bSU_add hS hk hb 8 (by decide), if_pos hk, hB, Int.add_zero, decide_eq_false (show ¬ S + 2 ^ k = 0 by omega), decide_eq_false e0]
      omega
/-- those whose balance isn't 0, and of the others those below j -/
def bSo (B : Nat → Int) (j : Nat) : Nat → Nat
  | 0 => 0
  | p + 1 => bSo B j p + (bif !decide (B p = 0) || decide (p < j) then 2 ^ p else 0)
theorem bSo_r {B : Nat → Int} {j : Nat} : ∀ p : Nat, bSo B j p < 2 ^ p
  | 0 => by show 0 < 1; decide
  | p + 1 => by
    have ih := bSo_r (B := B) (j := j) p
    show bSo B j p + (bif !decide (B p = 0) || decide (p < j) then 2 ^ p else 0) < 2 ^ (p + 1)
    rw [Nat.pow_succ]
    cases (!decide (B p = 0) || decide (p < j)) with
    | true => show bSo B j p + 2 ^ p < 2 ^ p * 2; omega
    | false => show bSo B j p + 0 < 2 ^ p * 2; omega
theorem bSo_b {B : Nat → Int} {j : Nat} : ∀ p : Nat, p ≤ 8 → ∀ k : Nat, k < 8 → (bSo B j p).testBit k = (decide (k < p) && (!decide (B k = 0) || decide (k < j)))
  | 0, _, k, _ => by
    show (0 : Nat).testBit k = _
    rw [Nat.zero_testBit]
    rfl
  | p + 1, hp, k, hk => by
    have ih := bSo_b (B := B) (j := j) p (by omega)
    have hr := bSo_r (B := B) (j := j) p
    have h256 : bSo B j p < 256 := Nat.lt_of_lt_of_le hr (Nat.pow_le_pow_right (by decide) (show p ≤ 8 by omega))
    have hpp : (bSo B j p).testBit p = false := Nat.testBit_lt_two_pow hr
    show (bSo B j p + (bif !decide (B p = 0) || decide (p < j) then 2 ^ p else 0)).testBit k = _
    cases hc : (!decide (B p = 0) || decide (p < j)) with
    | true =>
      rw [cond_true, bt_add p (by omega) _ h256 hpp k hk, ih k hk]
      by_cases e : k = p
      · subst e
        rw [decide_eq_true rfl, Bool.or_true, decide_eq_true (show k < k + 1 by omega), hc]
        rfl
      · rw [decide_eq_false e, Bool.or_false, show decide (k < p) = decide (k < p + 1) from decide_eq_decide.mpr (by omega)]
    | false =>
      rw [cond_false, Nat.add_zero, ih k hk]
      by_cases e : k = p
      · subst e
        rw [hc, Bool.and_false, Bool.and_false]
      · rw [show decide (k < p) = decide (k < p + 1) from decide_eq_decide.mpr (by omega)]
theorem bt_ext (a : Nat) (ha : a < 256) (b : Nat) (hb : b < 256) (h : ∀ k : Nat, k < 8 → a.testBit k = b.testBit k) : a = b := Nat.eq_of_testBit_eq (fun k => by
  rcases Nat.lt_or_ge k 8 with q | q
  · exact h k q
  · have p : 2 ^ 8 ≤ 2 ^ k := Nat.pow_le_pow_right (by decide) q
    rw [Nat.testBit_lt_two_pow (Nat.lt_of_lt_of_le ha p), Nat.testBit_lt_two_pow (Nat.lt_of_lt_of_le hb p)])
theorem bSo_8 {B : Nat → Int} : bSo B 8 8 = 255 := by
  refine bt_ext _ (bSo_r (B := B) (j := 8) 8) 255 (by decide) (fun k hk => ?_)
  rw [bSo_b 8 (by decide) k hk, decide_eq_true hk, Bool.or_true]
  have : ∀ k : Nat, k < 8 → (true && true) = (255 : Nat).testBit k := by decide +kernel
  exact this k hk
theorem bSo_s {B : Nat → Int} {j : Nat} (hj : j < 8) : bSo B (j + 1) 8 = bSo B j 8 + (if B j = 0 then 2 ^ j else 0) ∧ (B j = 0 → (bSo B j 8).testBit j = false) := by
  have hb : B j = 0 → (bSo B j 8).testBit j = false := fun h => by rw [bSo_b 8 (by decide) j hj, decide_eq_true h, decide_eq_false (show ¬ j < j by omega)]; simp
  refine ⟨?_, hb⟩
  by_cases e : B j = 0
  · rw [if_pos e]
    have r1 := bSo_r (B := B) (j := j) 8
    refine bt_ext _ (bSo_r (B := B) (j := j + 1) 8) _ (bt_k j hj _ r1 (hb e)) (fun k hk => ?_)
    rw [bt_add j hj _ r1 (hb e) k hk, bSo_b 8 (by decide) k hk, bSo_b 8 (by decide) k hk]
    by_cases q : k = j
    · subst q
      rw [decide_eq_true rfl, Bool.or_true, decide_eq_true hk, decide_eq_true (show k < k + 1 by omega), Bool.or_true]
      rfl
    · rw [decide_eq_false q, Bool.or_false, show decide (k < j + 1) = decide (k < j) from decide_eq_decide.mpr (by omega)]
  · rw [if_neg e]
    show bSo B (j + 1) 8 = bSo B j 8
    refine bt_ext _ (bSo_r (B := B) (j := j + 1) 8) _ (bSo_r (B := B) (j := j) 8) (fun k hk => ?_)
    rw [bSo_b 8 (by decide) k hk, bSo_b 8 (by decide) k hk]
    by_cases q : k = j
    · subst q
      rw [decide_eq_false e]; rfl
    · rw [show decide (k < j + 1) = decide (k < j) from decide_eq_decide.mpr (by omega)]
def bZc (B : Nat → Int) : Nat → Int
  | 0 => 0
  | j + 1 => bZc B j + (if B j = 0 then 1 else 0)
theorem bT_all {B : Nat → Int} : ∀ j : Nat, j ≤ 8 → bTb B 256 (bSo B j 8) = bTb B 256 (bSo B 0 8) + bZc B j
  | 0, _ => by show _ = _ + 0; omega
  | j + 1, hj => by
    obtain ⟨e1, e2⟩ := bSo_s (B := B) (show j < 8 by omega)
    have ih := bT_all (B := B) j (by omega)
    have r1 := bSo_r (B := B) (j := j) 8
    show bTb B 256 (bSo B (j + 1) 8) = bTb B 256 (bSo B 0 8) + (bZc B j + (if B j = 0 then 1 else 0))
    rw [e1]
    by_cases e : B j = 0
    · rw [if_pos e, if_pos e, bT_zero (by omega) e _ _ (Nat.le_refl _) r1 (e2 e), ih]
      omega
    · rw [if_neg e, if_neg e, Nat.add_zero, ih]
      omega
/-- how many have a balance that isn't 0 -/
def bOn (B : Nat → Int) : Nat → Int
  | 0 => 0
  | j + 1 => bOn B j + (if B j = 0 then 0 else 1)
theorem bOn_Z {B : Nat → Int} : ∀ j : Nat, bOn B j + bZc B j = (j : Int)
  | 0 => rfl
  | j + 1 => by
    have ih := bOn_Z (B := B) j
    show bOn B j + (if B j = 0 then 0 else 1) + (bZc B j + (if B j = 0 then 1 else 0)) = ((j + 1 : Nat) : Int)
    by_cases e : B j = 0
    · rw [if_pos e, if_pos e]; omega
    · rw [if_neg e, if_neg e]; omega
/-- both ways to say it come to the same -/
theorem bT_same {B : Nat → Int} : 8 - bTb B 256 255 = bOn B 8 - bTb B 256 (bSo B 0 8) := by
  have h1 := bT_all (B := B) 8 (by decide)
  have h2 := bOn_Z (B := B) 8
  rw [bSo_8] at h1
  omega
