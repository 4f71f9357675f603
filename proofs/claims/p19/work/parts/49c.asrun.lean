/-! ===== the checker is sound: answers, ranks, runs, methods ===== -/
section ASV
def as_part (E : Nat → Option Int) (q : Nat × Nat × Int × Nat) : Int := match E q.1 with
  | some x => bif Nat.beq q.2.2.2 0 then (q.2.1 : Int) * (q.2.2.1 - x) else (q.2.1 : Int) * (x - q.2.2.1)
  | none => 0
def as_sum (E : Nat → Option Int) : List (Nat × Nat × Int × Nat) → Int
  | [] => 0
  | q :: r => as_part E q + as_sum E r
theorem as_same {a b : Nat × Nat × Int × Nat} (h : ab_same a b = true) : a = b := by
  unfold ab_same at h
  simp only [Bool.and_eq_true, decide_eq_true_eq] at h
  obtain ⟨h1, h2, h3, h4⟩ := h
  obtain ⟨a1, a2, a3, a4⟩ := a
  obtain ⟨b1, b2, b3, b4⟩ := b
  have g1 : a1 = b1 := Nat.eq_of_beq_eq_true h1
  have g2 : a2 = b2 := Nat.eq_of_beq_eq_true h2
  have g3 : a3 = b3 := h3
  have g4 : a4 = b4 := Nat.eq_of_beq_eq_true h4
  rw [g1, g2, g3, g4]
theorem as_same_rf (a : Nat × Nat × Int × Nat) : ab_same a a = true := by
  unfold ab_same
  simp [Nat.beq_refl]
theorem as_sum_app (E : Nat → Option Int) : ∀ (s r : List (Nat × Nat × Int × Nat)), as_sum E (s ++ r) = as_sum E s + as_sum E r
  | [], r => by simp [as_sum]
  | q :: s, r => by
    show as_part E q + as_sum E (s ++ r) = as_part E q + as_sum E s + as_sum E r
    rw [as_sum_app E s r]
    omega
theorem as_sum_nn {E : Nat → Option Int} : ∀ {K : List (Nat × Nat × Int × Nat)}, (∀ q ∈ K, 0 ≤ as_part E q) → 0 ≤ as_sum E K
  | [], _ => Int.le_refl _
  | q :: K, h => by
    have h1 := h q List.mem_cons_self
    have h2 := as_sum_nn (K := K) (fun r hr => h r (List.mem_cons_of_mem _ hr))
    show 0 ≤ as_part E q + as_sum E K
    omega
/-- a list without doubles, all of it in another: its sum is not above the other's -/
theorem as_sum_sub {E : Nat → Option Int} : ∀ {K' K : List (Nat × Nat × Int × Nat)}, ab_ndp K' = true → (∀ q ∈ K', q ∈ K) → (∀ q ∈ K, 0 ≤ as_part E q) → as_sum E K' ≤ as_sum E K
  | [], K, _, _, h => as_sum_nn h
  | q :: K', K, hn, hs, h => by
    have hn : (!K'.any (ab_same q) && ab_ndp K') = true := hn
    rw [Bool.and_eq_true] at hn
    obtain ⟨s, r, e⟩ := List.append_of_mem (hs q List.mem_cons_self)
    subst e
    have h1 := as_sum_sub (K' := K') (K := s ++ r) hn.2 (fun p hp => by
      have hp1 := hs p (List.mem_cons_of_mem _ hp)
      rcases List.mem_append.mp hp1 with z | z
      · exact List.mem_append.mpr (Or.inl z)
      · rcases List.mem_cons.mp z with z | z
        · exfalso
          subst z
          have : K'.any (ab_same p) = true := List.any_eq_true.mpr ⟨p, hp, as_same_rf p⟩
          rw [this] at hn
          cases hn.1
        · exact List.mem_append.mpr (Or.inr z)) (fun p hp => h p (by
      rcases List.mem_append.mp hp with z | z
      · exact List.mem_append.mpr (Or.inl z)
      · exact List.mem_append.mpr (Or.inr (List.mem_cons_of_mem _ z))))
    rw [as_sum_app] at h1 ⊢
    show as_part E q + as_sum E K' ≤ as_sum E s + (as_part E q + as_sum E r)
    omega
theorem as_sum_ndf {K : List (Nat × Nat × Int × Nat)} (f : Nat × Nat × Int × Nat → Bool) : ab_ndp K = true → ab_ndp (K.filter f) = true := by
  induction K with
  | nil => exact fun h => h
  | cons q K ih =>
    intro h
    have h : (!K.any (ab_same q) && ab_ndp K) = true := h
    rw [Bool.and_eq_true] at h
    rw [List.filter_cons]
    split
    · show (!(K.filter f).any (ab_same q) && ab_ndp (K.filter f)) = true
      rw [Bool.and_eq_true]
      refine ⟨?_, ih h.2⟩
      rw [Bool.not_eq_true']
      have h1 : K.any (ab_same q) = false := by simpa using h.1
      rw [List.any_eq_false] at h1 ⊢
      exact fun p hp => h1 p (List.mem_filter.mp hp).1
    · exact ih h.2
theorem as_kok {sc : List ab_S} {lv : List (Nat × Value)} {st : List Value} {mw : List va_E} {t : ab_T} {K : List (Nat × Nat × Int × Nat)} (h : as_st lv st mw t) (hk : ab_kok sc t.1 K = true) : ab_ndp K = true ∧ ∀ q ∈ K, ab_bL sc q.1 = false ∧ (∃ x, as_E lv mw q.1 = some x) ∧ 0 ≤ as_part (as_E lv mw) q := by
  unfold ab_kok at hk
  rw [Bool.and_eq_true] at hk
  refine ⟨hk.1, fun q hq => ?_⟩
  have h1 := List.all_eq_true.mp hk.2 q hq
  rw [Bool.and_eq_true] at h1
  obtain ⟨h2, h3⟩ := h1
  refine ⟨by simpa using h2, ?_⟩
  split at h3
  · rename_i I hI
    obtain ⟨x, g1, g2, g3, g4⟩ := as_lkI h hI
    refine ⟨⟨_, g2⟩, ?_⟩
    have b1 := g3.1
    have b2 := g3.2.1
    unfold as_part
    rw [g2]
    simp only
    cases hb : Nat.beq q.2.2.2 0 with
    | true =>
      rw [hb] at h3
      have h3 : I.2.1 ≤ q.2.2.1 := by simpa using h3
      exact Int.mul_nonneg (Int.natCast_nonneg _) (by omega)
    | false =>
      rw [hb] at h3
      have h3 : q.2.2.1 ≤ I.1 := by simpa using h3
      exact Int.mul_nonneg (Int.natCast_nonneg _) (by omega)
  · cases h3
/-- a rank's parts behind a step -/
theorem as_dl {sc : List ab_S} {lv lv' : List (Nat × Value)} {st' : List Value} {mw mw' : List va_E} {u : ab_T} {K : List (Nat × Nat × Int × Nat)} {e : ab_E} (he : as_eff sc e lv mw lv' mw') (hu : as_st lv' st' mw' u) (hK : ∀ q ∈ K, ab_bL sc q.1 = false ∧ (∃ x, as_E lv mw q.1 = some x) ∧ 0 ≤ as_part (as_E lv mw) q) : ∀ {K' : List (Nat × Nat × Int × Nat)} {d : Int}, ab_dl K e u.1 K' = some d → as_sum (as_E lv' mw') K' ≤ as_sum (as_E lv mw) (K'.filter (fun q => K.any (ab_same q))) + d
  | [], d, h => by
    have h : some 0 = some d := h
    cases h
    exact Int.le_refl _
  | q :: K', d, h => by
    unfold ab_dl at h
    split at h
    · rename_i a b ha hb
      cases h
      have ih := as_dl he hu hK hb
      have fresh : ∀ a, (match ab_lk u.1 q.1 with
          | some (.inl I) => bif Nat.beq q.2.2.2 0 then some ((q.2.1 : Int) * (q.2.2.1 - I.1)) else some ((q.2.1 : Int) * (I.2.1 - q.2.2.1))
          | _ => none) = some a → as_part (as_E lv' mw') q ≤ a := by
        intro a ha
        split at ha
        · rename_i I hI
          obtain ⟨x, g1, g2, g3, g4⟩ := as_lkI hu hI
          have b1 := g3.1
          have b2 := g3.2.1
          unfold as_part
          rw [g2]
          simp only
          cases hb : Nat.beq q.2.2.2 0 with
          | true =>
            rw [hb] at ha
            cases ha
            exact Int.mul_le_mul_of_nonneg_left (by omega) (Int.natCast_nonneg _)
          | false =>
            rw [hb] at ha
            cases ha
            exact Int.mul_le_mul_of_nonneg_left (by omega) (Int.natCast_nonneg _)
        · cases ha
      unfold ab_dlt at ha
      rw [List.filter_cons]
      cases hin : K.any (ab_same q) with
      | false =>
        rw [hin] at ha
        simp only [cond_false] at ha
        have := fresh a ha
        show as_part (as_E lv' mw') q + as_sum (as_E lv' mw') K' ≤ as_sum (as_E lv mw) (K'.filter _) + (a + b)
        omega
      | true =>
        rw [hin] at ha
        simp only [cond_true] at ha
        obtain ⟨p, hp, hpe⟩ := List.any_eq_true.mp hin
        have hpe := as_same hpe
        subst hpe
        obtain ⟨hq, ⟨x, hx⟩, h0⟩ := hK q hp
        have hpos : as_part (as_E lv' mw') q ≤ as_part (as_E lv mw) q + a := by
          have he' := he q.1 x hq hx
          split at ha
          · cases ha
            have he' : as_E lv' mw' q.1 = some x := he'
            unfold as_part
            rw [he', hx]
            simp only
            omega
          · rename_i j k
            cases hj : Nat.beq j q.1 with
            | false =>
              rw [hj] at ha
              cases ha
              have hne : ¬ j = q.1 := fun z => by rw [z, Nat.beq_refl] at hj; cases hj
              have he' : (if j = q.1 then _ else as_E lv' mw' q.1 = some x) := he'
              rw [if_neg hne] at he'
              unfold as_part
              rw [he', hx]
              simp only
              omega
            | true =>
              rw [hj] at ha
              simp only [cond_true] at ha
              have hje := Nat.eq_of_beq_eq_true hj
              split at ha
              · rename_i c
                cases ha
                have he' : (if j = q.1 then as_E lv' mw' q.1 = some (x + c) else as_E lv' mw' q.1 = some x) := he'
                rw [if_pos hje] at he'
                unfold as_part
                rw [he', hx]
                simp only
                cases hb : Nat.beq q.2.2.2 0 with
                | true =>
                  simp only [cond_true]
                  rw [show q.2.2.1 - (x + c) = (q.2.2.1 - x) + -c by omega, Int.mul_add, Int.mul_neg]
                  omega
                | false =>
                  simp only [cond_false]
                  rw [show x + c - q.2.2.1 = (x - q.2.2.1) + c by omega, Int.mul_add]
                  omega
              · have := fresh a ha
                omega
        show as_part (as_E lv' mw') q + as_sum (as_E lv' mw') K' ≤ (as_part (as_E lv mw) q + as_sum (as_E lv mw) (K'.filter _)) + (a + b)
        omega
    · cases h
theorem as_bool {x : Int32} (h1 : 0 ≤ x.toInt) (h2 : x.toInt ≤ 1) : narrow .boolean (.int x) = .int x := by
  have : x = 0 ∨ x = 1 := by
    rcases (by omega : x.toInt = 0 ∨ x.toInt = 1) with e | e
    · exact Or.inl (Int32.toInt_inj.mp (by rw [e]; rfl))
    · exact Or.inr (Int32.toInt_inj.mp (by rw [e]; rfl))
  rcases this with rfl | rfl <;> rfl
variable {sh sc : List ab_S} {lv : List (Nat × Value)} {st : List Value} {mw : List va_E} {t : ab_T} {pc : Nat} {l : List ab_X}
variable {gf : Nat → Option (Nat × Nat)} {pf : Nat → Option (Nat × Nat × FieldType)} {qv : Nat → Option (Nat × Nat × List ab_Q)} {qs : Nat → Option (Nat × List ab_Q)} {ac : Nat → Bool} {kc gs : Nat → Option Value} {nL : Nat} {mv ms : Nat → Option (Nat × Option Nat × mm_F)} {rf : Nat → Nat → Option Value} {rt : Option FieldType} {ro : Nat → Option (Nat × Nat × (Nat → Int32))}
/-- the answer's number and what it says of the arguments -/
theorem as_ansI {vs : List Value} {R I : ab_I} {x : Int32} (h : as_st lv st mw t) (hI : as_in I x.toInt) (hq : as_pv (as_E lv mw) (as_G mw) I.2.2.2.2 x.toInt) (hp : ∀ j ∈ ab_pro (some (.inl R)), ∀ y, as_E lv mw j = some y → as_arg vs j = some y) (hl : ab_leI (ab_nop I) (ab_nop R) = true) (ha : (match R.2.2.2.2 with
    | [] => true
    | [4, s, l, h, 1, j] => (decide (I.1 = ab_sent s) && decide (I.2.1 = ab_sent s)) || ((match ab_lk t.1 j with
        | some (.inl J) => decide ((l : Int) ≤ J.1) && decide (J.2.1 ≤ (h : Int))
        | _ => false) || (match I.2.2.2.2 with
        | [4, s', l', h', 1, j'] => Nat.beq s s' && (Nat.beq j j' && (Nat.ble l l' && Nat.ble h' h))
        | _ => false))
    | [5, o, i] => (decide (I.1 = 0) && decide (I.2.1 = 0)) || (match ab_lk t.1 o with
        | some (.inl O) => (match ab_lk t.1 i with
          | some (.inl J) => (let jl : Int × Int := (match I.2.2.2.2 with
              | [4, 0, l, h, 1, i'] => bif Nat.beq i i' then (max J.1 l, min J.2.1 h) else (J.1, J.2.1)
              | _ => (J.1, J.2.1))
            (decide (O.1 = 1) && (decide (O.2.1 = 1) && (decide (0 ≤ jl.1) && decide (jl.2 ≤ 15)))) || (decide (O.1 = 0) && (decide (O.2.1 = 0) && (decide (0 ≤ jl.1) && decide (jl.2 ≤ 9)))))
          | _ => false)
        | _ => false)
    | _ => false) = true) : as_val (as_arg vs) as_g0 (.inl R) (.int x) := by
  have b1 := hI.1
  have b2 := hI.2.1
  refine ⟨(as_leI (E := fun _ => none) (G := fun _ _ => none) hl hI trivial).1, ?_⟩
  unfold ab_pro at hp
  simp only at hp
  split at ha
  · rename_i hR
    rw [hR]
    trivial
  · rename_i s l hh j hR
    rw [hR] at hp ⊢
    have hp := hp j List.mem_cons_self
    intro hv
    rw [Bool.or_eq_true, Bool.or_eq_true] at ha
    rcases ha with ha | ha | ha
    · rw [Bool.and_eq_true, decide_eq_true_eq, decide_eq_true_eq] at ha
      exfalso
      omega
    · split at ha
      · rename_i J hJ
        obtain ⟨y, g1, g2, g3, g4⟩ := as_lkI h hJ
        have c1 := g3.1
        have c2 := g3.2.1
        rw [Bool.and_eq_true, decide_eq_true_eq, decide_eq_true_eq] at ha
        exact ⟨_, hp _ g2, by omega, by omega⟩
      · cases ha
    · split at ha
      · rename_i s' l' h' j' hI'
        rw [hI'] at hq
        simp only [Bool.and_eq_true] at ha
        obtain ⟨e1, e2, e3, e4⟩ := ha
        have e1 := Nat.eq_of_beq_eq_true e1
        have e2 := Nat.eq_of_beq_eq_true e2
        have e3 := Nat.le_of_ble_eq_true e3
        have e4 := Nat.le_of_ble_eq_true e4
        subst e1; subst e2
        obtain ⟨y, y1, y2, y3⟩ := hq hv
        exact ⟨y, hp _ y1, by omega, by omega⟩
      · cases ha
  · rename_i o i hR
    rw [hR] at hp ⊢
    have hpo := hp o List.mem_cons_self
    have hpi := hp i (List.mem_cons_of_mem _ List.mem_cons_self)
    intro hv
    rw [Bool.or_eq_true] at ha
    rcases ha with ha | ha
    · rw [Bool.and_eq_true, decide_eq_true_eq, decide_eq_true_eq] at ha
      exfalso
      omega
    · split at ha
      · rename_i O hO
        obtain ⟨y, g1, g2, g3, g4⟩ := as_lkI h hO
        have c1 := g3.1
        have c2 := g3.2.1
        split at ha
        · rename_i J hJ
          obtain ⟨z, k1, k2, k3, k4⟩ := as_lkI h hJ
          have d1 := k3.1
          have d2 := k3.2.1
          have hz : ∀ jl : Int × Int, jl = (match I.2.2.2.2 with
              | [4, 0, l, h, 1, i'] => bif Nat.beq i i' then (max J.1 (l : Int), min J.2.1 (h : Int)) else (J.1, J.2.1)
              | _ => (J.1, J.2.1)) → jl.1 ≤ z.toInt ∧ z.toInt ≤ jl.2 := by
            intro jl hjl
            split at hjl
            · rename_i l' h' i' hI'
              rw [hI'] at hq
              cases hb : Nat.beq i i' with
              | false =>
                rw [hb] at hjl
                subst hjl
                exact ⟨d1, d2⟩
              | true =>
                rw [hb] at hjl
                have := Nat.eq_of_beq_eq_true hb
                subst this
                obtain ⟨z', z1, z2, z3⟩ := hq hv
                have : z' = z.toInt := Option.some.inj (z1.symm.trans k2)
                subst this
                subst hjl
                exact ⟨by show max J.1 (l' : Int) ≤ _; omega, by show _ ≤ min J.2.1 (h' : Int); omega⟩
            · subst hjl
              exact ⟨d1, d2⟩
          have hz := hz _ rfl
          simp only [Bool.or_eq_true, Bool.and_eq_true, decide_eq_true_eq] at ha
          refine ⟨_, _, hpo _ g2, hpi _ k2, ?_⟩
          rcases ha with ⟨a1, a2, a3, a4⟩ | ⟨a1, a2, a3, a4⟩
          · left; omega
          · right; omega
        · cases ha
      · cases ha
  · cases ha
theorem as_ans {i : Instr} {vs : List Value} {res : Option ab_V} (h : as_st lv st mw t) (hp : ∀ j ∈ ab_pro res, ∀ y, as_E lv mw j = some y → as_arg vs j = some y) (hk : ab_retk i rt = true) (ha : ab_ans rt res t = true) : ∃ r, mm_ex gf pf mv ms kc gs rf ro rt nL i pc lv st mw = some (.inr (r, mw)) ∧ as_rs vs res r := by
  unfold ab_ans at ha
  split at ha
  · rename_i ty R I ht
    have h2 := h.2.1
    rw [ht] at h2
    obtain ⟨x, w, rfl, g1, g2, g3⟩ := as_stkI h2
    cases w with
    | cons => exact g3.elim
    | nil =>
      rw [Bool.and_eq_true, Bool.and_eq_true] at ha
      obtain ⟨a1, a2, a3⟩ := ha
      have hv := as_ansI (vs := vs) h g1 g2 hp a1 a3
      have b1 := g1.1
      have b2 := g1.2.1
      have hty : narrow ty (.int x) = .int x := by
        rw [Bool.or_eq_true, decide_eq_true_eq] at a2
        rcases a2 with a2 | a2
        · subst a2; rfl
        · simp only [Bool.and_eq_true, decide_eq_true_eq] at a2
          obtain ⟨rfl, c1, c2⟩ := a2
          exact as_bool (by omega) (by omega)
      have hnl : ty ≠ .long := by
        intro z
        subst z
        simp at a2
      unfold ab_retk at hk
      split at hk
      · rename_i ty' hrt
        cases hrt
        refine ⟨some (.int x), ?_, hv⟩
        show mm_ret (some ty) 0 [.int x] mw = _
        unfold mm_ret
        simp [hty]
      · rename_i hrt
        cases hrt
        exact absurd rfl hnl
      · rename_i hrt
        cases hrt
      · cases hk
  · rename_i ht
    have h2 := h.2.1
    rw [ht] at h2
    obtain ⟨x, w, rfl, g3⟩ := as_stkL h2
    cases w with
    | cons => exact g3.elim
    | nil =>
      unfold ab_retk at hk
      split at hk
      · rename_i hrt
        cases hrt
        simp at hk
      · exact ⟨some (.long x), rfl, trivial⟩
      · rename_i hrt
        cases hrt
      · cases hk
  · rename_i ht
    have h2 := h.2.1
    rw [ht] at h2
    cases st with
    | cons => exact h2.elim
    | nil =>
      unfold ab_retk at hk
      split at hk
      · rename_i hrt
        cases hrt
      · rename_i hrt
        cases hrt
      · exact ⟨none, rfl, trivial⟩
      · cases hk
  · cases ha
variable {res : Option ab_V} {ins : Nat → Option Instr} {vs : List Value} {mw0 : List va_E} {nd : Nat → Option ab_N}
theorem as_bLn {j : Nat} (h : j < 1000) : ab_bL sc j = false := by
  unfold ab_bL
  cases hz : Nat.ble 1000 j with
  | false => rfl
  | true => have := Nat.le_of_ble_eq_true hz; omega
theorem as_one {n pc' : Nat} {i : Instr} {lv' : List (Nat × Value)} {st' : List Value} {mw' : List va_E} (h : ins pc = some i) (he : mm_ex gf pf mv ms kc gs rf ro rt nL i pc lv st mw = some (.inl (pc', lv', st', mw'))) : mm_run gf pf mv ms kc gs rf ro rt nL ins (n + 1) (pc, lv, st, mw) = mm_run gf pf mv ms kc gs rf ro rt nL ins n (pc', lv', st', mw') := by
  rw [mm_run, h]
  simp only [he]
theorem as_part3 {x y z : Int32} (hx : 0 ≤ x.toInt) (hy : 0 ≤ y.toInt) (hz : y.toInt < z.toInt) : z.toInt64 ≠ 0 ∧ 0 ≤ (x.toInt64 * y.toInt64 / z.toInt64).toInt32.toInt ∧ (x.toInt64 * y.toInt64 / z.toInt64).toInt32.toInt ≤ x.toInt := by
  have hx2 := as_hi x
  have hy2 := as_hi y
  have hz2 := as_hi z
  have e1 : x.toInt64.toInt = x.toInt := Int32.toInt_toInt64 x
  have e2 : y.toInt64.toInt = y.toInt := Int32.toInt_toInt64 y
  have e3 : z.toInt64.toInt = z.toInt := Int32.toInt_toInt64 z
  have hb1 : 0 ≤ x.toInt * y.toInt := Int.mul_nonneg hx hy
  have hb2 : x.toInt * y.toInt ≤ 2147483647 * 2147483647 := Int.mul_le_mul hx2 hy2 hy (by omega)
  have e4 : (x.toInt64 * y.toInt64).toInt = x.toInt * y.toInt := by
    rw [Int64.toInt_mul, e1, e2]
    apply Int.bmod_eq_of_le <;> omega
  have hq0 : 0 ≤ x.toInt * y.toInt / z.toInt := Int.ediv_nonneg hb1 (by omega)
  have hq1 : x.toInt * y.toInt / z.toInt ≤ x.toInt := by
    have : x.toInt * y.toInt ≤ x.toInt * z.toInt := Int.mul_le_mul_of_nonneg_left (by omega) hx
    have h2 := Int.ediv_le_ediv (c := z.toInt) (by omega) this
    rw [Int.mul_ediv_cancel _ (by omega)] at h2
    exact h2
  have e5 : (x.toInt64 * y.toInt64 / z.toInt64).toInt = x.toInt * y.toInt / z.toInt := by
    rw [Int64.toInt_div, e4, e3, Int.tdiv_eq_ediv_of_nonneg hb1]
    apply Int.bmod_eq_of_le <;> omega
  have e6 : (x.toInt64 * y.toInt64 / z.toInt64).toInt32.toInt = x.toInt * y.toInt / z.toInt := by
    rw [Int64.toInt_toInt32, e5]
    apply Int.bmod_eq_of_le <;> omega
  refine ⟨fun hz0 => ?_, by rw [e6]; exact hq0, by rw [e6]; exact hq1⟩
  rw [hz0] at e3
  have : (0 : Int64).toInt = 0 := rfl
  omega
theorem as_mac {x : ab_X} (h : as_st lv st mw t) (hl : ab_mac ins pc t = some x) : ∃ z : Int32, (∀ f, mm_run gf pf mv ms kc gs rf ro rt nL ins (f + 9) (pc, lv, st, mw) = mm_run gf pf mv ms kc gs rf ro rt nL ins f (x.1, lv, .int z :: st, mw)) ∧ as_st lv (.int z :: st) mw x.2.1 ∧ x.2.2 = none := by
  unfold ab_mac at hl
  split at hl
  · rename_i a b c i1 i2 i3 i4 i5 i6 i7 i8 i9
    split at hl
    · rename_i I hI
      obtain ⟨hb, e⟩ := mm_bif hl
      subst e
      simp only [Bool.and_eq_true, decide_eq_true_eq] at hb
      obtain ⟨⟨c1, c2, c3⟩, c4, c5⟩ := hb
      have c1 : a < 1000 := Nat.le_of_ble_eq_true c1
      have c2 : (b : Nat) < 1000 := Nat.le_of_ble_eq_true c2
      have c3 : c < 1000 := Nat.le_of_ble_eq_true c3
      obtain ⟨g, hg, hge⟩ := List.any_eq_true.mp c4
      have hge := beq_iff_eq.mp hge
      subst hge
      obtain ⟨xa, a1, a2, a3, a4⟩ := as_lkI h hI
      obtain ⟨vb, vc, f1, f2, f3, f4⟩ := h.2.2 _ hg
      have loc : ∀ j, j < 1000 → as_loc lv mw j = mm_get lv j := by
        intro j hj
        unfold as_loc
        cases hb : Nat.ble 1000 j with
        | false => rfl
        | true => have := Nat.le_of_ble_eq_true hb; omega
      have num : ∀ j v, j < 1000 → as_E lv mw j = some v → ∃ y : Int32, mm_get lv j = some (.int y) ∧ y.toInt = v := by
        intro j v hj hv
        unfold as_E at hv
        rw [loc j hj] at hv
        cases hm : mm_get lv j with
        | none => rw [hm] at hv; cases hv
        | some w =>
          rw [hm] at hv
          cases w with
          | int y => exact ⟨y, rfl, Option.some.inj hv⟩
          | _ => cases hv
      obtain ⟨y, y1, y2⟩ := num _ _ c2 f1
      obtain ⟨z, z1, z2⟩ := num _ _ c3 f2
      rw [loc a c1] at a1
      have b1 := a3.1
      have b2 := a3.2.1
      obtain ⟨k0, k1, k2⟩ := as_part3 (x := xa) (y := y) (z := z) (by omega) (by omega) (by omega)
      refine ⟨(xa.toInt64 * y.toInt64 / z.toInt64).toInt32, fun f => ?_, ⟨h.1, ⟨⟨⟨k1, by show _ ≤ I.2.1; omega, Int.emod_one _, Nat.one_pos⟩, trivial⟩, h.2.1⟩, h.2.2⟩, rfl⟩
      rw [as_one (pc' := pc + 2) (lv' := lv) (st' := .int xa :: st) (mw' := mw) i1 (by show mm_load 0 a (pc + 2) lv st mw = _; unfold mm_load; rw [a1]; rfl)]
      rw [as_one (pc' := pc + 3) (lv' := lv) (st' := .long xa.toInt64 :: st) (mw' := mw) i2 rfl]
      rw [as_one (pc' := pc + 4) (lv' := lv) (st' := .int y :: .long xa.toInt64 :: st) (mw' := mw) i3 (by show mm_load 0 b (pc + 4) lv _ mw = _; unfold mm_load; rw [y1]; rfl)]
      rw [as_one (pc' := pc + 5) (lv' := lv) (st' := .long y.toInt64 :: .long xa.toInt64 :: st) (mw' := mw) i4 rfl]
      rw [as_one (pc' := pc + 6) (lv' := lv) (st' := .long (xa.toInt64 * y.toInt64) :: st) (mw' := mw) i5 rfl]
      rw [as_one (pc' := pc + 8) (lv' := lv) (st' := .int z :: .long (xa.toInt64 * y.toInt64) :: st) (mw' := mw) i6 (by show mm_load 0 c (pc + 8) lv _ mw = _; unfold mm_load; rw [z1]; rfl)]
      rw [as_one (pc' := pc + 9) (lv' := lv) (st' := .long z.toInt64 :: .long (xa.toInt64 * y.toInt64) :: st) (mw' := mw) i7 rfl]
      rw [as_one (pc' := pc + 10) (lv' := lv) (st' := .long (xa.toInt64 * y.toInt64 / z.toInt64) :: st) (mw' := mw) i8 (by
        show mm_l2 (fun y => !decide (y = 0)) (fun x y => .long (x / y)) (pc + 10) lv (.long z.toInt64 :: .long (xa.toInt64 * y.toInt64) :: st) mw = _
        unfold mm_l2
        simp [k0])]
      rw [as_one (pc' := pc + 11) (lv' := lv) (st' := .int (xa.toInt64 * y.toInt64 / z.toInt64).toInt32 :: st) (mw' := mw) i9 rfl]
    · cases hl
  · cases hl
theorem as_run (h62 : as_OK sh = true) (hSb : as_Sub sh sc) (hv : as_LV sc qv mv) (hs : as_LS sc qs ms) (hac : ∀ n, ac n = true → ms n = some (5, none, mm_acp)) (hall : ∀ e n, nd e = some n → ab_nodeok sh sc gf pf qv qs ac kc gs ab_ro nL rt res ins nd n = true) (hpa : ∀ j ∈ ab_pro res, j < 1000 ∧ ∃ y, as_arg vs j = some y) : ∀ (N fuel : Nat) (e : Nat) (n : ab_N) (lv : List (Nat × Value)) (st : List Value) (mw : List va_E), fuel ≤ N → nd e = some n → as_st lv st mw n.2.1 → as_HI sh mw → as_Ex mw → as_Fr sh mw0 mw → (∀ j ∈ ab_pro res, as_E lv mw j = as_arg vs j) → n.2.2.1.1 + as_sum (as_E lv mw) n.2.2.1.2 < (fuel : Int) → ∃ r mw', mm_run gf pf mv ms kc gs rf mm_ro rt nL ins fuel (n.1, lv, st, mw) = some (r, mw') ∧ as_HI sh mw' ∧ as_Fr sh mw0 mw' ∧ as_rs vs res r := by
  have hrk : ∀ e n lv st mw, nd e = some n → as_st lv st mw n.2.1 → 0 ≤ n.2.2.1.1 + as_sum (as_E lv mw) n.2.2.1.2 := by
    intro e n lv st mw he h
    have hn := hall e n he
    unfold ab_nodeok at hn
    rw [Bool.and_eq_true, Bool.and_eq_true, Bool.and_eq_true, decide_eq_true_eq] at hn
    obtain ⟨h1, ⟨h2, h3⟩, h4⟩ := hn
    have := as_sum_nn (fun q hq => ((as_kok h h1).2 q hq).2.2)
    omega
  intro N
  induction N with
  | zero =>
    intro fuel e n lv st mw hN he h hH hX hF hp hr
    have := hrk e n lv st mw he h
    exfalso
    omega
  | succ N ih =>
    intro fuel e n lv st mw hN he h hH hX hF hp hr
    have hpos := hrk e n lv st mw he h
    cases fuel with
    | zero => exfalso; simp only [Int.natCast_zero] at hr; omega
    | succ fuel =>
    have hn := hall e n he
    unfold ab_nodeok at hn
    rw [Bool.and_eq_true, Bool.and_eq_true, Bool.and_eq_true, decide_eq_true_eq] at hn
    obtain ⟨h1, ⟨h2, h3⟩, h4⟩ := hn
    obtain ⟨k1, k2⟩ := as_kok h h1
    have hnol : as_nol n.2.1 := by
      intro q hq hz
      have := List.all_eq_true.mp h2 q hq
      rw [hz] at this
      cases this
    have tgt : ∀ (w : Int) (y : ab_X) (lv' : List (Nat × Value)) (st' : List Value) (mw' : List va_E), ab_to nd w n y = true → as_st lv' st' mw' y.2.1 → as_eff sc y.2.2 lv mw lv' mw' → ∃ e' m, nd e' = some m ∧ m.1 = y.1 ∧ as_st lv' st' mw' m.2.1 ∧ m.2.2.1.1 + as_sum (as_E lv' mw') m.2.2.1.2 + w < n.2.2.1.1 + as_sum (as_E lv mw) n.2.2.1.2 := by
      intro w y lv' st' mw' hy2 y3 y4
      unfold ab_to at hy2
      obtain ⟨e', he', hm⟩ := List.any_eq_true.mp hy2
      split at hm
      · rename_i m hnd
        rw [Bool.and_eq_true, Bool.and_eq_true] at hm
        obtain ⟨m1, m2, m3⟩ := hm
        split at m3
        · rename_i d hd
          rw [decide_eq_true_eq] at m3
          have s1 := as_le y3 m2
          have hm := hall e' m hnd
          unfold ab_nodeok at hm
          rw [Bool.and_eq_true] at hm
          have kk := (as_kok s1 hm.1).1
          have q1 := as_dl y4 s1 k2 hd
          have q2 := as_sum_sub (E := as_E lv mw) (as_sum_ndf (fun q => n.2.2.1.2.any (ab_same q)) kk) (K := n.2.2.1.2) (fun q hq => by
            obtain ⟨p, hp1, hp2⟩ := List.any_eq_true.mp (List.mem_filter.mp hq).2
            rw [as_same hp2]
            exact hp1) (fun q hq => (k2 q hq).2.2)
          exact ⟨e', m, hnd, Nat.eq_of_beq_eq_true m1, s1, by omega⟩
        · cases m3
      · cases hm
    split at h4
    · rename_i i hi
      cases hb : mm_isRet i with
      | true =>
        rw [hb] at h4
        simp only [cond_true] at h4
        rw [Bool.and_eq_true] at h4
        obtain ⟨r, r1, r2⟩ := as_ans (vs := vs) (gf := gf) (pf := pf) (mv := mv) (ms := ms) (kc := kc) (gs := gs) (rf := rf) (ro := mm_ro) (nL := nL) (pc := n.1) h (fun j hj y hy => by rw [← hp j hj]; exact hy) h4.1 h4.2
        refine ⟨r, mw, ?_, hH, hF, r2⟩
        unfold mm_run
        simp only [hi, r1, hb, cond_true]
      | false =>
        rw [hb] at h4
        simp only [cond_false] at h4
        split at h4
        · rename_i y hy
          obtain ⟨z, z1, z2, z3⟩ := as_mac (gf := gf) (pf := pf) (mv := mv) (ms := ms) (kc := kc) (gs := gs) (rf := rf) (ro := mm_ro) (rt := rt) (nL := nL) h hy
          obtain ⟨e', m, w1, w2, w3, w4⟩ := tgt 8 y lv (.int z :: st) mw h4 z2 (by rw [z3]; exact as_eff.no)
          have w5 := hrk e' m lv _ mw w1 w3
          obtain ⟨f, hf⟩ : ∃ f, fuel + 1 = f + 9 := ⟨fuel - 8, by omega⟩
          obtain ⟨r, mw', r1, r2⟩ := ih f e' m lv (.int z :: st) mw (by omega) w1 w3 hH hX hF hp (by omega)
          refine ⟨r, mw', ?_, r2⟩
          rw [hf, z1 f, ← w2]
          exact r1
        · split at h4
          · rename_i l hl
            obtain ⟨x, x1, x2, x3, y, y1, y2, y3, y4⟩ := as_step (rf := rf) (rt := rt) h hH hX hnol hSb hv hs hac hl
            have hy := List.all_eq_true.mp h4 y y1
            rw [Bool.and_eq_true] at hy
            obtain ⟨hy1, hy2⟩ := hy
            obtain ⟨e', m, w1, w2, w3, w4⟩ := tgt 0 y x.2.1 x.2.2.1 x.2.2.2 hy2 y3 y4
            have hE : ∀ j ∈ ab_pro res, as_E x.2.1 x.2.2.2 j = as_arg vs j := by
              intro j hj
              obtain ⟨j1, z, j2⟩ := hpa j hj
              have j3 : as_E lv mw j = some z := by rw [hp j hj]; exact j2
              have j4 := y4 j z (as_bLn j1) j3
              rw [j2]
              unfold ab_prot at hy1
              split at j4
              · exact j4
              · rename_i c hc
                rw [hc] at hy1
                simp only [Bool.not_eq_true', List.any_eq_false] at hy1
                rw [if_neg (fun zz => hy1 j hj (by rw [zz]; exact Nat.beq_refl j))] at j4
                exact j4
            obtain ⟨r, mw', r1, r2⟩ := ih fuel e' m x.2.1 x.2.2.1 x.2.2.2 (by omega) w1 w3 x2 (as_FrEx x3 x2 h62 hX) (hF.tr x3) hE (by omega)
            refine ⟨r, mw', ?_, r2⟩
            unfold mm_run
            simp only [hi, x1]
            rw [← r1, show m.1 = x.1 from w2.trans y2.symm]
          · cases h4
    · cases h4
theorem as_getA : ∀ (vs : List Value) (i j : Nat), (∀ v ∈ vs, v.category = 1) → mm_get (lv_args i vs) (i + j) = vs[j]?
  | [], i, j, _ => rfl
  | v :: vs, i, 0, h => by
    show mm_get ((i, v) :: _) (i + 0) = some v
    unfold mm_get
    rw [List.find?_cons_of_pos (by simp)]
    rfl
  | v :: vs, i, j + 1, h => by
    have h1 := h v List.mem_cons_self
    have ih := as_getA vs (i + 1) j (fun u hu => h u (List.mem_cons_of_mem _ hu))
    show mm_get ((i, v) :: lv_args (if v.category = 2 then i + 2 else i + 1) vs) (i + (j + 1)) = vs[j]?
    rw [if_neg (by omega), ← ih, show i + (j + 1) = i + 1 + j by omega]
    unfold mm_get
    rw [List.find?_cons_of_neg (by simp; omega)]
theorem as_slen : ∀ (vs : List Value), (∀ v ∈ vs, v.category = 1) → (lg_sl vs).length = vs.length
  | [], _ => rfl
  | v :: vs, h => by
    have ih := as_slen vs (fun u hu => h u (List.mem_cons_of_mem _ hu))
    unfold lg_sl at ih ⊢
    rw [List.flatMap_cons, List.length_append, ih, if_neg (by rw [h v List.mem_cons_self]; omega), List.length_cons]
    simp only [List.length_cons, List.length_nil]
    omega
theorem as_argL : ∀ (A : List ab_V) (i : Nat) (q : Nat × ab_V), q ∈ ab_argL i A → ∃ j, q.1 = i + j ∧ A[j]? = some q.2
  | [], i, q, h => by cases h
  | a :: A, i, q, h => by
    rcases List.mem_cons.mp h with e | h
    · subst e
      exact ⟨0, rfl, rfl⟩
    · obtain ⟨j, h1, h2⟩ := as_argL A (i + 1) q h
      exact ⟨j + 1, by omega, by simpa using h2⟩
/-- A CERTIFICATE THAT THE CHECKER TAKES: the method's meaning keeps its summary -/
theorem as_meth {A : List ab_V} {F : List (List Nat)} {C : List (List ab_N)} (hall : ab_all sh sc gf pf qv qs ac kc gs ab_ro nL rt res ins A F C = true) (h62 : as_OK sh = true) (hSb : as_Sub sh sc) (hv : as_LV sc qv mv) (hs : as_LS sc qs ms) (hac : ∀ n, ac n = true → ms n = some (5, none, mm_acp)) : as_Sum sh (A, F, res) (mm_S gf pf mv ms kc gs rf rt nL ins) := by
  intro vs mw hH hX hA hF
  have hA : as_stk (as_arg vs) as_g0 A vs := hA
  have hF : ∀ g ∈ F, as_fact (as_arg vs) as_g0 g := hF
  unfold ab_all at hall
  rw [Bool.and_eq_true, Bool.and_eq_true, Bool.and_eq_true, Bool.and_eq_true, Bool.and_eq_true] at hall
  obtain ⟨⟨⟨a1, a2, a3⟩, a4, a5⟩, a6⟩ := hall
  have a1 := Nat.le_of_ble_eq_true a1
  have a2 := Nat.le_of_ble_eq_true a2
  have hlen := as_stk_len hA
  have hcat : ∀ v ∈ vs, v.category = 1 := by
    intro v hv
    obtain ⟨j, hj, e⟩ := List.mem_iff_getElem.mp hv
    have hja : j < A.length := by omega
    obtain ⟨u, u1, u2⟩ := as_stk_get hA (List.getElem?_eq_getElem hja)
    rw [List.getElem?_eq_getElem hj, e] at u1
    cases u1
    have hz := List.all_eq_true.mp a4 A[j] (List.getElem_mem hja)
    have := as_catI u2 (fun z => by rw [z] at hz; cases hz)
    simpa using this
  have hE : ∀ j y, j < 1000 → (as_E (lv_args 0 vs) mw j = some y ↔ as_arg vs j = some y) := by
    intro j y hj
    unfold as_E as_loc as_arg
    have hb : Nat.ble 1000 j = false := by
      cases hb : Nat.ble 1000 j with
      | false => rfl
      | true => have := Nat.le_of_ble_eq_true hb; omega
    rw [hb]
    have := as_getA vs 0 j hcat
    rw [Nat.zero_add] at this
    simp only [cond_false, this]
  have hargs : ∀ j y, as_arg vs j = some y → j < vs.length := by
    intro j y hj
    unfold as_arg at hj
    cases hq : vs[j]? with
    | none => rw [hq] at hj; cases hj
    | some v => exact (List.getElem?_eq_some_iff.mp hq).1
  have hst : as_st (lv_args 0 vs) [] mw (ab_argL 0 A, [], F) := by
    refine ⟨fun q hq => ?_, trivial, fun f hf => ?_⟩
    · obtain ⟨j, j1, j2⟩ := as_argL A 0 q hq
      rw [Nat.zero_add] at j1
      obtain ⟨v, v1, v2⟩ := as_stk_get hA j2
      have hjl : j < A.length := (List.getElem?_eq_some_iff.mp j2).1
      refine ⟨v, ?_, ?_⟩
      · rw [j1]
        unfold as_loc
        have hb : Nat.ble 1000 j = false := by
          cases hb : Nat.ble 1000 j with
          | false => rfl
          | true => have := Nat.le_of_ble_eq_true hb; omega
        rw [hb]
        have := as_getA vs 0 j hcat
        rw [Nat.zero_add] at this
        simp only [cond_false, this]
        exact v1
      · have hz := List.all_eq_true.mp a4 q.2 (List.mem_of_getElem? j2)
        cases hq2 : q.2 with
        | inl I =>
          rw [hq2] at hz v2
          cases v with
          | int z =>
            refine ⟨v2.1, ?_⟩
            rw [List.isEmpty_iff.mp hz]
            exact trivial
          | _ => exact v2.elim
        | inr k =>
          rw [hq2] at v2
          cases k <;> cases v <;> first | exact v2 | exact v2.elim
    · have hf := hF f hf
      unfold as_fact at hf ⊢
      split at hf
      · obtain ⟨x, e, e1, e2, e3⟩ := hf
        cases e2
      · obtain ⟨x, y, e1, e2, e3⟩ := hf
        exact ⟨x, y, (hE _ _ (by have := hargs _ _ e1; omega)).mpr e1, (hE _ _ (by have := hargs _ _ e2; omega)).mpr e2, e3⟩
      · obtain ⟨x, y, e1, e2, e3⟩ := hf
        exact ⟨x, y, (hE _ _ (by have := hargs _ _ e1; omega)).mpr e1, (hE _ _ (by have := hargs _ _ e2; omega)).mpr e2, e3⟩
      · trivial
  have hpa : ∀ j ∈ ab_pro res, j < 1000 ∧ ∃ y, as_arg vs j = some y := by
    intro j hj
    have := List.all_eq_true.mp a3 j hj
    rw [Bool.and_eq_true] at this
    refine ⟨Nat.le_of_ble_eq_true this.1, ?_⟩
    have hz := this.2
    split at hz
    · rename_i I hI
      obtain ⟨x, x1, -⟩ := as_argI hA hI
      exact ⟨x, x1⟩
    · cases hz
  split at a5
  · rename_i n hn
    simp only [Bool.and_eq_true, decide_eq_true_eq] at a5
    obtain ⟨b1, b2, b3, b4⟩ := a5
    have s0 := as_le hst b2
    obtain ⟨r, mw', r1, r2, r3, r4⟩ := as_run (vs := vs) (mw0 := mw) (rf := rf) (nd := ab_nd C) h62 hSb hv hs hac (fun e n hn => by
      unfold ab_nd at hn
      split at hn
      · rename_i ch hch
        exact List.all_eq_true.mp (List.all_eq_true.mp a6 ch (List.mem_of_getElem? hch)) n (List.mem_of_getElem? hn)
      · cases hn) hpa mm_fuel mm_fuel 0 n (lv_args 0 vs) [] mw (Nat.le_refl _) hn s0 hH hX as_Fr.rf (fun j hj => by
        obtain ⟨j1, y, j2⟩ := hpa j hj
        rw [j2]
        exact (hE j y j1).mpr j2) (by
        rw [List.isEmpty_iff.mp b3]
        show n.2.2.1.1 + 0 < ((100000000000 : Nat) : Int)
        omega)
    refine ⟨r, mw', ?_, r2, r3, r4⟩
    unfold mm_S
    rw [as_slen vs hcat, ← hlen, Nat.ble_eq.mpr a1]
    simp only [cond_true]
    rw [← r1, Nat.eq_of_beq_eq_true b1]
  · cases a5
end ASV
