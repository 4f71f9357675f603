/-! ===== pay: the reference keeps the invariant ===== -/
theorem call_I {v : Bool} {f : mm_F} {A : List ab_V} {I : ab_I} {vs : List Value} {mw : List va_E} (u : as_Sum (shf v) (A, [], some (.inl I)) f) (h : LI v mw) (hA : as_stk (as_arg vs) as_g0 A vs) : ∃ (c : Int) (mw' : List va_E), f vs mw = some (some (iv c), mw') ∧ LI v mw' := by
  obtain ⟨r, mw', r1, r2, r3, r4⟩ := u vs mw h.1 h.2.1 hA (fun g hg => by cases hg)
  obtain ⟨c, e, -⟩ := as_rsI r4
  subst e
  exact ⟨c, mw', r1, LI_Fr h r2 r3⟩
theorem call_N {v : Bool} {f : mm_F} {A : List ab_V} {vs : List Value} {mw : List va_E} (u : as_Sum (shf v) (A, [], none) f) (h : LI v mw) (hA : as_stk (as_arg vs) as_g0 A vs) : ∃ (mw' : List va_E), f vs mw = some (none, mw') ∧ LI v mw' := by
  obtain ⟨r, mw', r1, r2, r3, r4⟩ := u vs mw h.1 h.2.1 hA (fun g hg => by cases hg)
  have e := as_rsN r4
  subst e
  exact ⟨mw', r1, LI_Fr h r2 r3⟩
theorem call_L {v : Bool} {f : mm_F} {A : List ab_V} {vs : List Value} {mw : List va_E} (u : as_Sum (shf v) (A, [], some (.inr none)) f) (h : LI v mw) (hA : as_stk (as_arg vs) as_g0 A vs) : ∃ (c : Int64) (mw' : List va_E), f vs mw = some (some (.long c), mw') ∧ LI v mw' := by
  obtain ⟨r, mw', r1, r2, r3, r4⟩ := u vs mw h.1 h.2.1 hA (fun g hg => by cases hg)
  obtain ⟨c, e⟩ := as_rsL r4
  subst e
  exact ⟨c, mw', r1, LI_Fr h r2 r3⟩
theorem LI_0 {v : Bool} {mw : List va_E} (h : LI v mw) : ∃ F, mw[0]? = some (.inr (11, F)) := by
  cases v with
  | false => obtain ⟨F, h1, -⟩ := hi_obj (k := 0) (sh := sh0) h.1 rfl; exact ⟨F, h1⟩
  | true => obtain ⟨F, h1, -⟩ := hi_obj (k := 0) (sh := sh1) h.1 rfl; exact ⟨F, h1⟩
theorem LI_56 {v : Bool} {mw : List va_E} (h : LI v mw) : ∃ F, mw[56]? = some (.inr (12, F)) := by
  cases v with
  | false => obtain ⟨F, h1, -⟩ := hi_obj (k := 56) (sh := sh0) h.1 rfl; exact ⟨F, h1⟩
  | true => obtain ⟨F, h1, -⟩ := hi_obj (k := 56) (sh := sh1) h.1 rfl; exact ⟨F, h1⟩
theorem LI_out {v : Bool} {mw : List va_E} (h : LI v mw) : mw[3000]? = none := by
  have : mw.length = 67 := by
    cases v with
    | false => exact h.1.1
    | true => exact h.1.1
  exact List.getElem?_eq_none (by omega)
theorem uGB (v : Bool) : as_Sum (shf v) ([.inr (some 56), .inl (0, 15, 1, 0, []), .inl (0, 9999, 1, 0, [])], [], none) sX12_goesBack := by
  cases v with
  | false => exact as_Sum.up sub0 uX12_goesBack_c0v0
  | true => exact as_Sum.up sub1 uX12_goesBack_c0v1
theorem uRest (v : Bool) : as_Sum (shf v) ([.inr (some 56), .inl (0, 9, 1, 0, [])], [], (some (.inl (0, 999, 1, 0, [])))) sX12_rest := by
  cases v with
  | false => exact as_Sum.up sub0 uX12_rest_c0v0
  | true => exact as_Sum.up sub1 uX12_rest_c0v1
def ps1 (s : Nat → Int32) (P : Nat) (n : Int) : Nat → Int32 := upd s P (Int32.ofInt ((s P).toInt - n))
def ps2 (s : Nat → Int32) (P : Nat) (n : Int) : Nat → Int32 := upd s P (Int32.ofInt ((s P).toInt + n))
theorem ps_RS {s de : Nat → Int32} {P T E : Nat} {n : Int} (h1 : RS s) (h2 : DEr de) (hX : ∀ d : Nat, d < 10 → (s d).toInt ≤ (de (3 * d + 2)).toInt) (hP : 122 ≤ P ∧ P ≤ 129) (hT : 122 ≤ T ∧ T ≤ 129) (hE : E < 10) (hn : 1 ≤ n ∧ n ≤ 999) (ha : (s E).toInt + n ≤ (de (3 * E + 2)).toInt) (hb : n ≤ (s P).toInt) (hc : P = T ∨ (s T).toInt + n ≤ 9999) : RS (ps2 (ps2 (ps1 s P n) T n) E n) ∧ ∀ d : Nat, d < 10 → (ps2 (ps2 (ps1 s P n) T n) E n d).toInt ≤ (de (3 * d + 2)).toInt := by
  have bP := h1.2 P hP.1 hP.2
  have bT := h1.2 T hT.1 hT.2
  have bE := h1.1 E hE
  have dE := (h2 E hE).2.2
  unfold i7 at bP bT bE dE
  have v1 : (Int32.ofInt ((s P).toInt - n)).toInt = (s P).toInt - n := iv_to ⟨by omega, by omega⟩
  have vT : i7 (ps2 (ps1 s P n) T n T) 0 9999 := by
    unfold ps2
    rw [upd_same]
    by_cases e : P = T
    · subst e
      unfold ps1
      rw [upd_same, v1]
      unfold i7
      rw [iv_to ⟨by omega, by omega⟩]
      omega
    · unfold ps1
      rw [upd_ne (Ne.symm e)]
      unfold i7
      rw [iv_to ⟨by omega, by omega⟩]
      omega
  have vE : (ps2 (ps2 (ps1 s P n) T n) E n E).toInt = (s E).toInt + n := by
    show (upd (ps2 (ps1 s P n) T n) E (Int32.ofInt ((ps2 (ps1 s P n) T n E).toInt + n)) E).toInt = _
    rw [upd_same]
    have e1 : ps2 (ps1 s P n) T n E = s E := by
      unfold ps2
      rw [upd_ne (by omega)]
      unfold ps1
      rw [upd_ne (by omega)]
    rw [e1]
    exact iv_to ⟨by omega, by omega⟩
  have vo : ∀ d : Nat, d < 10 → d ≠ E → ps2 (ps2 (ps1 s P n) T n) E n d = s d := by
    intro d hd hne
    unfold ps2
    rw [upd_ne hne, upd_ne (by omega)]
    unfold ps1
    rw [upd_ne (by omega)]
  refine ⟨⟨fun j hj => ?_, fun j j1 j2 => ?_⟩, fun d hd => ?_⟩
  · by_cases e : j = E
    · subst e
      unfold i7
      rw [vE]
      omega
    · rw [vo j hj e]
      exact h1.1 j hj
  · have e0 : ps2 (ps2 (ps1 s P n) T n) E n j = ps2 (ps1 s P n) T n j := by
      show upd _ E _ j = _
      rw [upd_ne (by omega)]
    rw [e0]
    by_cases e : j = T
    · rw [e]; exact vT
    · have e1 : ps2 (ps1 s P n) T n j = ps1 s P n j := by
        show upd _ T _ j = _
        rw [upd_ne e]
      rw [e1]
      unfold ps1
      by_cases e2 : j = P
      · rw [e2, upd_same]
        unfold i7
        rw [v1]
        omega
      · rw [upd_ne e2]
        exact h1.2 j j1 j2
  · by_cases e : d = E
    · subst e
      rw [vE]
      exact ha
    · rw [vo d hd e]
      exact hX d hd
theorem ps_i {s de : Nat → Int32} {P : Nat} {n : Int} (hP : 10 ≤ P ∧ P ≤ 25) (h : RS s ∧ ∀ d : Nat, d < 10 → (s d).toInt ≤ (de (3 * d + 2)).toInt) : RS (ps2 s P n) ∧ ∀ d : Nat, d < 10 → (ps2 s P n d).toInt ≤ (de (3 * d + 2)).toInt := by
  unfold ps2
  exact ⟨⟨fun j hj => by rw [upd_ne (by omega)]; exact h.1.1 j hj, fun j j1 j2 => by rw [upd_ne (by omega)]; exact h.1.2 j j1 j2⟩, fun d hd => by rw [upd_ne (by omega)]; exact h.2 d hd⟩
/-- the same, as the machine has the places -/
theorem ps_Z {s de sd : Nat → Int32} {pr to d n : Int} (h1 : RS s) (h2 : DEr de) (hX : EXx s de sd) (hp : 0 ≤ pr ∧ pr ≤ 7) (ht : 0 ≤ to ∧ to ≤ 7) (hd : 0 ≤ d ∧ d ≤ 9) (hn : 1 ≤ n ∧ n ≤ 999) (ha : n ≤ fR de s d) (hb : n ≤ (s (Int.toNat (122 + pr))).toInt) (hc : pr = to ∨ (s (Int.toNat (122 + to))).toInt + n ≤ 9999) : RS (ps2 (ps2 (ps1 s (Int.toNat (122 + pr)) n) (Int.toNat (122 + to)) n) (Int.toNat (0 + d)) n) ∧ ∀ q : Nat, q < 10 → (ps2 (ps2 (ps1 s (Int.toNat (122 + pr)) n) (Int.toNat (122 + to)) n) (Int.toNat (0 + d)) n q).toInt ≤ (de (3 * q + 2)).toInt := by
  obtain ⟨x, rfl⟩ := Int.eq_ofNat_of_zero_le hd.1
  unfold fR at ha
  rw [show Int.toNat (3 * (x : Int) + 2) = 3 * x + 2 by omega, show Int.toNat (0 + (x : Int)) = x by omega] at ha
  rw [show Int.toNat (0 + (x : Int)) = x by omega]
  exact ps_RS h1 h2 hX.2 (by omega) (by omega) (by omega) hn (by omega) hb (by
    rcases hc with e | e
    · left; rw [e]
    · exact Or.inr e)
theorem fAS_r {de sd s : Nat → Int32} {sn k i : Int} (h1 : RS s) (h2 : DEr de) (hS : SDr sd) (hk : k = 1 ∧ 0 ≤ i ∧ i ≤ 15 ∨ k = 0 ∧ 0 ≤ i ∧ i ≤ 9) : -2147483648 ≤ fAS de sd s sn k i ∧ fAS de sd s sn k i ≤ 2147483647 := by
  unfold fAS
  rcases hk with ⟨rfl, hi⟩ | ⟨rfl, hi⟩
  · exact fMA_r (fR_r h1 h2 (sd_r hS hi).2.1)
  · have := fR_r h1 h2 hi
    show -2147483648 ≤ (bif fF s (de (Int.toNat (3 * i))).toInt then 0 else fR de s i) ∧ (bif fF s (de (Int.toNat (3 * i))).toInt then 0 else fR de s i) ≤ 2147483647
    cases fF s (de (Int.toNat (3 * i))).toInt with
    | true => show (-2147483648 : Int) ≤ 0 ∧ (0 : Int) ≤ 2147483647; decide
    | false => show -2147483648 ≤ fR de s i ∧ fR de s i ≤ 2147483647; omega
theorem fAS_1 {de sd s : Nat → Int32} {sn i : Int} (hX : EXx s de sd) (hS : SDr sd) (hi : 0 ≤ i ∧ i ≤ 15) : fAS de sd s sn 1 i ≤ fR de s (sd (Int.toNat (5 * i + 1))).toInt := fMA_le (fR_0 hX (sd_r hS hi).2.1)
theorem fAS_0 {de sd s : Nat → Int32} {sn i : Int} (hX : EXx s de sd) (hi : 0 ≤ i ∧ i ≤ 9) : fAS de sd s sn 0 i ≤ fR de s i := by
  have := fR_0 (sd := sd) hX hi
  show (bif fF s (de (Int.toNat (3 * i))).toInt then 0 else fR de s i) ≤ fR de s i
  cases fF s (de (Int.toNat (3 * i))).toInt with
  | true => exact this
  | false => exact Int.le_refl _
theorem fTH_t {db sn k i : Int} (hd : 0 ≤ db ∧ db ≤ 10) (hn : 0 ≤ sn ∧ sn ≤ 16) (h : fTH db sn k i = true) : k = 1 ∧ 0 ≤ i ∧ i ≤ 15 ∨ k = 0 ∧ 0 ≤ i ∧ i ≤ 9 := by
  unfold fTH at h
  rw [Bool.and_eq_true] at h
  have h1 := i3_t h.1
  by_cases e : k = 1
  · have h2 := h.2
    rw [decide_eq_true e] at h2
    have := i3_t h2
    omega
  · have h2 := h.2
    rw [decide_eq_false e] at h2
    have := i3_t h2
    omega
section PY
variable {C : List va_E} {tr : Int64} {th db sn dm sm ty nx tk pl va fa lr ri : Int} {s kp ik tn de sd dd sr tx pa : Nat → Int32} {i k n : Int} {v : Bool}
abbrev rn_X12_pay (N : Nat) (c : mm_C) (Q : mm_R → Prop) : Prop := rn (mm_gf gLX12) (mm_pf pLX12) (mm_mv vX12_pay) (mm_mv zX12_pay) (mm_kc kLX12) mm_gs0 mm_rf0 mm_ro (some .int) 7 (mm_ins iX12_pay) N c Q
theorem pay_rn (hC : C.length = 56) (hLI : ∀ s' : Nat → Int32, RS s' → EXx s' de sd → LI v (C ++ rL (ro_ (0 : Int) tr db sn dm sm ty nx tk pl va fa lr ri) s' kp ik tn de sd dd sr tx pa)) (hS : SDr sd) (hE : DEr de) (hX : EXx s de sd) (hRS : RS s) (hd : 0 ≤ db ∧ db ≤ 10) (hn : 0 ≤ sn ∧ sn ≤ 16) (hk : -2147483648 ≤ k ∧ k ≤ 2147483647) (hi : -2147483648 ≤ i ∧ i ≤ 2147483647) (hN : -2147483648 ≤ n ∧ n ≤ 2147483647) : ∃ r, sX12_pay [.ref 56, iv k, iv i, iv n] (C ++ rL (ro_ th tr db sn dm sm ty nx tk pl va fa lr ri) s kp ik tn de sd dd sr tx pa) = some r ∧ (fun r : mm_R => ∃ (c : Int) (mw2 : List va_E), r = (some (iv c), mw2) ∧ LI v mw2) r := by
  refine rn_S rfl ?_
  refine rn_up (N := 1000) (by decide) ?_
  refine r_al rfl rfl ?_
  refine r_ic rfl ?_
  refine r_pf rfl rfl (rg_56 hC) rfl (rp_th hC) ?_
  refine r_al rfl rfl ?_
  refine r_il rfl rfl ?_
  refine r_il rfl rfl ?_
  refine r_v3s rfl rfl (rg_56 hC) rfl (c_isThereR hC hk hi hd hn) ?_
  refine r_zeq rfl rfl (bi_r _) (fun g1 => ?_) (fun g1 => ?_)
  · refine r_ic rfl ?_
    exact r_ret rfl rfl ⟨_, _, rfl, hLI s hRS hX⟩
  · have g1 := fTH_t hd hn (bi_1 g1)
    refine r_il rfl rfl ?_
    refine r_ic rfl ?_
    refine r_si rfl (by decide) ?_
    refine r_s3s rfl rfl rfl (c_in hN (by decide) (by decide)) ?_
    refine r_zne rfl rfl (bi_r _) (fun g2 => ?_) (fun g2 => ?_)
    · have g2 := i3_t (bi_1 g2)
      refine r_il rfl rfl ?_
      refine r_ic rfl ?_
      refine r_cne rfl rfl (by omega) (by omega) (fun g3 => ?_) (fun g3 => ?_)
      · have k0 : k = 0 := by omega
        have dr : 0 ≤ i ∧ i ≤ 9 := by omega
        have pr := (de_r hE dr).1
        have le : fAS de sd s sn k i ≤ fR de s i := by rw [k0]; exact fAS_0 hX dr
        have tr' := (de_r hE dr).2.1
        have bp := hRS.2 (Int.toNat (122 + (de (Int.toNat (3 * i))).toInt)) (by omega) (by omega)
        have bt' := hRS.2 (Int.toNat (122 + (de (Int.toNat (3 * i + 1))).toInt)) (by omega) (by omega)
        unfold i7 at bp bt'
        have as := fAS_r (sn := sn) hRS hE hS g1
        refine r_il rfl rfl ?_
        refine r_isw (lv' := [(4, _), (0, _), (1, _), (2, _), (3, _)]) rfl rfl rfl ?_
        refine r_il rfl rfl ?_
        refine r_ic rfl ?_
        refine r_cne rfl rfl (by omega) (by omega) (fun g4 => ?_) (fun g4 => ?_)
        · refine r_al rfl rfl ?_
          refine r_gf rfl rfl (rg_56 hC) rfl ?_
          refine r_ic rfl ?_
          refine r_ilw rfl rfl ?_
          refine r_mul rfl ?_
          refine r_ia rfl (rg_61 hC) (by omega) (by omega) (by decide) ?_
          refine r_isw (lv' := [(5, _), (4, _), (0, _), (1, _), (2, _), (3, _)]) rfl rfl rfl ?_
          refine r_al rfl rfl ?_
          refine r_gf rfl rfl (rg_56 hC) rfl ?_
          refine r_ic rfl ?_
          refine r_ilw rfl rfl ?_
          refine r_mul rfl ?_
          refine r_ic rfl ?_
          refine r_add rfl ?_
          refine r_ia rfl (rg_61 hC) (by omega) (by omega) (by decide) ?_
          refine r_isw (lv' := [(6, _), (5, _), (4, _), (0, _), (1, _), (2, _), (3, _)]) rfl rfl rfl ?_
          refine r_il rfl rfl ?_
          refine r_al rfl rfl ?_
          refine r_il rfl rfl ?_
          refine r_il rfl rfl ?_
          refine r_v3s rfl rfl (rg_56 hC) rfl (c_askedR hC g1 hS hE hX hRS hn) ?_
          refine r_cgt rfl rfl (by omega) as (fun g5 => ?_) (fun g5 => ?_)
          · refine r_bi rfl (by decide) ?_
            exact r_ret rfl rfl ⟨_, _, rfl, hLI s hRS hX⟩
          · refine r_il rfl rfl ?_
            refine r_al rfl rfl ?_
            refine r_gf rfl rfl (rg_56 hC) rfl ?_
            refine r_bi rfl (by decide) ?_
            refine r_ilw rfl rfl ?_
            refine r_add rfl ?_
            refine r_ia rfl (rg_57 hC) (by omega) (by omega) (by decide) ?_
            refine r_cgt rfl rfl (by omega) (by omega) (fun g6 => ?_) (fun g6 => ?_)
            · refine r_bi rfl (by decide) ?_
              exact r_ret rfl rfl ⟨_, _, rfl, hLI s hRS hX⟩
            · refine r_ilw rfl rfl ?_
              refine r_ilw rfl rfl ?_
              have K : ((de (Int.toNat (3 * i))).toInt = (de (Int.toNat (3 * i + 1))).toInt ∨ (s (Int.toNat (122 + (de (Int.toNat (3 * i + 1))).toInt))).toInt + n ≤ 9999) → rn_X12_pay 500 (140, [(6, iv ((de (Int.toNat (((3) * (i)) + (1)))).toInt)), (5, iv ((de (Int.toNat ((3) * (i)))).toInt)), (4, iv (i)), (0, .ref 56), (1, iv (k)), (2, iv (i)), (3, iv (n))], [], (C ++ rL (ro_ (0) tr db sn dm sm ty nx tk pl va fa lr ri) s kp ik tn de sd dd sr tx pa)) (fun r : mm_R => ∃ (c : Int) (mw2 : List va_E), r = (some (iv c), mw2) ∧ LI v mw2) := by
                intro hc
                have hz := ps_Z hRS hE hX pr tr' dr g2 (by omega) g6 hc
                refine r_al rfl rfl ?_
                refine r_gf rfl rfl (rg_56 hC) rfl ?_
                refine r_bi rfl (by decide) ?_
                refine r_ilw rfl rfl ?_
                refine r_add rfl ?_
                refine r_dup2 rfl rfl rfl ?_
                refine r_ia rfl (rg_57 hC) (by omega) (by omega) (by decide) ?_
                refine r_il rfl rfl ?_
                refine r_sub rfl ?_
                refine r_ias rfl (rg_57 hC) (by omega) (by omega) (by decide) (rs_57 hC) ?_
                refine r_al rfl rfl ?_
                refine r_gf rfl rfl (rg_56 hC) rfl ?_
                refine r_bi rfl (by decide) ?_
                refine r_ilw rfl rfl ?_
                refine r_add rfl ?_
                refine r_dup2 rfl rfl rfl ?_
                refine r_ia rfl (rg_57 hC) (by omega) (by omega) (by decide) ?_
                refine r_il rfl rfl ?_
                refine r_add rfl ?_
                refine r_ias rfl (rg_57 hC) (by omega) (by omega) (by decide) (rs_57 hC) ?_
                refine r_al rfl rfl ?_
                refine r_gf rfl rfl (rg_56 hC) rfl ?_
                refine r_ic rfl ?_
                refine r_ilw rfl rfl ?_
                refine r_add rfl ?_
                refine r_dup2 rfl rfl rfl ?_
                refine r_ia rfl (rg_57 hC) (by omega) (by omega) (by decide) ?_
                refine r_il rfl rfl ?_
                refine r_add rfl ?_
                refine r_ias rfl (rg_57 hC) (by omega) (by omega) (by decide) (rs_57 hC) ?_
                refine r_il rfl rfl ?_
                refine r_ic rfl ?_
                refine r_cne rfl rfl (by omega) (by omega) (fun g7 => ?_) (fun g7 => ?_)
                · refine r_al rfl rfl ?_
                  refine r_ilw rfl rfl ?_
                  refine r_v2s rfl rfl (rg_56 hC) rfl (c_restR hC dr) ?_
                  exact r_ret rfl rfl ⟨_, _, rfl, hLI (ps2 (ps2 (ps1 s (Int.toNat (122 + (de (Int.toNat (3 * i))).toInt)) n) (Int.toNat (122 + (de (Int.toNat (3 * i + 1))).toInt)) n) (Int.toNat (0 + i)) n) hz.1 ⟨hX.1, hz.2⟩⟩
                · exact absurd g7 g3
              refine r_ceq rfl rfl (by omega) (by omega) (fun g8 => ?_) (fun g8 => ?_)
              · exact rn_up (by decide) (K (Or.inl g8))
              · refine r_al rfl rfl ?_
                refine r_gf rfl rfl (rg_56 hC) rfl ?_
                refine r_bi rfl (by decide) ?_
                refine r_ilw rfl rfl ?_
                refine r_add rfl ?_
                refine r_ia rfl (rg_57 hC) (by omega) (by omega) (by decide) ?_
                refine r_il rfl rfl ?_
                refine r_add rfl ?_
                refine r_si rfl (by decide) ?_
                refine r_cle rfl rfl (by omega) (by omega) (fun g9 => ?_) (fun g9 => ?_)
                · exact rn_up (by decide) (K (Or.inr g9))
                · refine r_bi rfl (by decide) ?_
                  exact r_ret rfl rfl ⟨_, _, rfl, hLI s hRS hX⟩
        · exact absurd g4 g3
      · have hi15 : 0 ≤ i ∧ i ≤ 15 := by omega
        have dr := (sd_r hS hi15).2.1
        have pr := (sd_r hS hi15).1
        have le : fAS de sd s sn k i ≤ fR de s (sd (Int.toNat (5 * i + 1))).toInt := by rw [g3]; exact fAS_1 hX hS hi15
        have tr' := (de_r hE dr).2.1
        have bp := hRS.2 (Int.toNat (122 + (sd (Int.toNat (5 * i))).toInt)) (by omega) (by omega)
        have bt' := hRS.2 (Int.toNat (122 + (de (Int.toNat (3 * (sd (Int.toNat (5 * i + 1))).toInt + 1))).toInt)) (by omega) (by omega)
        unfold i7 at bp bt'
        have as := fAS_r (sn := sn) hRS hE hS g1
        refine r_al rfl rfl ?_
        refine r_gf rfl rfl (rg_56 hC) rfl ?_
        refine r_ic rfl ?_
        refine r_il rfl rfl ?_
        refine r_mul rfl ?_
        refine r_ic rfl ?_
        refine r_add rfl ?_
        refine r_ia rfl (rg_62 hC) (by omega) (by omega) (by decide) ?_
        refine r_goto rfl rfl ?_
        refine r_isw (lv' := [(4, _), (0, _), (1, _), (2, _), (3, _)]) rfl rfl rfl ?_
        refine r_il rfl rfl ?_
        refine r_ic rfl ?_
        refine r_cne rfl rfl (by omega) (by omega) (fun g4 => ?_) (fun g4 => ?_)
        · exact absurd g3 g4
        · refine r_al rfl rfl ?_
          refine r_gf rfl rfl (rg_56 hC) rfl ?_
          refine r_ic rfl ?_
          refine r_il rfl rfl ?_
          refine r_mul rfl ?_
          refine r_ia rfl (rg_62 hC) (by omega) (by omega) (by decide) ?_
          refine r_goto rfl rfl ?_
          refine r_isw (lv' := [(5, _), (4, _), (0, _), (1, _), (2, _), (3, _)]) rfl rfl rfl ?_
          refine r_al rfl rfl ?_
          refine r_gf rfl rfl (rg_56 hC) rfl ?_
          refine r_ic rfl ?_
          refine r_ilw rfl rfl ?_
          refine r_mul rfl ?_
          refine r_ic rfl ?_
          refine r_add rfl ?_
          refine r_ia rfl (rg_61 hC) (by omega) (by omega) (by decide) ?_
          refine r_isw (lv' := [(6, _), (5, _), (4, _), (0, _), (1, _), (2, _), (3, _)]) rfl rfl rfl ?_
          refine r_il rfl rfl ?_
          refine r_al rfl rfl ?_
          refine r_il rfl rfl ?_
          refine r_il rfl rfl ?_
          refine r_v3s rfl rfl (rg_56 hC) rfl (c_askedR hC g1 hS hE hX hRS hn) ?_
          refine r_cgt rfl rfl (by omega) as (fun g5 => ?_) (fun g5 => ?_)
          · refine r_bi rfl (by decide) ?_
            exact r_ret rfl rfl ⟨_, _, rfl, hLI s hRS hX⟩
          · refine r_il rfl rfl ?_
            refine r_al rfl rfl ?_
            refine r_gf rfl rfl (rg_56 hC) rfl ?_
            refine r_bi rfl (by decide) ?_
            refine r_ilw rfl rfl ?_
            refine r_add rfl ?_
            refine r_ia rfl (rg_57 hC) (by omega) (by omega) (by decide) ?_
            refine r_cgt rfl rfl (by omega) (by omega) (fun g6 => ?_) (fun g6 => ?_)
            · refine r_bi rfl (by decide) ?_
              exact r_ret rfl rfl ⟨_, _, rfl, hLI s hRS hX⟩
            · refine r_ilw rfl rfl ?_
              refine r_ilw rfl rfl ?_
              have K : ((sd (Int.toNat (5 * i))).toInt = (de (Int.toNat (3 * (sd (Int.toNat (5 * i + 1))).toInt + 1))).toInt ∨ (s (Int.toNat (122 + (de (Int.toNat (3 * (sd (Int.toNat (5 * i + 1))).toInt + 1))).toInt))).toInt + n ≤ 9999) → rn_X12_pay 500 (140, [(6, iv ((de (Int.toNat (((3) * ((sd (Int.toNat (((5) * (i)) + (1)))).toInt)) + (1)))).toInt)), (5, iv ((sd (Int.toNat ((5) * (i)))).toInt)), (4, iv ((sd (Int.toNat (((5) * (i)) + (1)))).toInt)), (0, .ref 56), (1, iv (k)), (2, iv (i)), (3, iv (n))], [], (C ++ rL (ro_ (0) tr db sn dm sm ty nx tk pl va fa lr ri) s kp ik tn de sd dd sr tx pa)) (fun r : mm_R => ∃ (c : Int) (mw2 : List va_E), r = (some (iv c), mw2) ∧ LI v mw2) := by
                intro hc
                have hz := ps_Z hRS hE hX pr tr' dr g2 (by omega) g6 hc
                refine r_al rfl rfl ?_
                refine r_gf rfl rfl (rg_56 hC) rfl ?_
                refine r_bi rfl (by decide) ?_
                refine r_ilw rfl rfl ?_
                refine r_add rfl ?_
                refine r_dup2 rfl rfl rfl ?_
                refine r_ia rfl (rg_57 hC) (by omega) (by omega) (by decide) ?_
                refine r_il rfl rfl ?_
                refine r_sub rfl ?_
                refine r_ias rfl (rg_57 hC) (by omega) (by omega) (by decide) (rs_57 hC) ?_
                refine r_al rfl rfl ?_
                refine r_gf rfl rfl (rg_56 hC) rfl ?_
                refine r_bi rfl (by decide) ?_
                refine r_ilw rfl rfl ?_
                refine r_add rfl ?_
                refine r_dup2 rfl rfl rfl ?_
                refine r_ia rfl (rg_57 hC) (by omega) (by omega) (by decide) ?_
                refine r_il rfl rfl ?_
                refine r_add rfl ?_
                refine r_ias rfl (rg_57 hC) (by omega) (by omega) (by decide) (rs_57 hC) ?_
                refine r_al rfl rfl ?_
                refine r_gf rfl rfl (rg_56 hC) rfl ?_
                refine r_ic rfl ?_
                refine r_ilw rfl rfl ?_
                refine r_add rfl ?_
                refine r_dup2 rfl rfl rfl ?_
                refine r_ia rfl (rg_57 hC) (by omega) (by omega) (by decide) ?_
                refine r_il rfl rfl ?_
                refine r_add rfl ?_
                refine r_ias rfl (rg_57 hC) (by omega) (by omega) (by decide) (rs_57 hC) ?_
                refine r_il rfl rfl ?_
                refine r_ic rfl ?_
                refine r_cne rfl rfl (by omega) (by omega) (fun g7 => ?_) (fun g7 => ?_)
                · exact absurd g3 g7
                · refine r_al rfl rfl ?_
                  refine r_gf rfl rfl (rg_56 hC) rfl ?_
                  refine r_bi rfl (by decide) ?_
                  refine r_il rfl rfl ?_
                  refine r_add rfl ?_
                  refine r_dup2 rfl rfl rfl ?_
                  refine r_ia rfl (rg_57 hC) (by omega) (by omega) (by decide) ?_
                  refine r_il rfl rfl ?_
                  refine r_add rfl ?_
                  refine r_ias rfl (rg_57 hC) (by omega) (by omega) (by decide) (rs_57 hC) ?_
                  refine r_al rfl rfl ?_
                  refine r_il rfl rfl ?_
                  refine r_il rfl rfl ?_
                  have h4 := ps_i (P := Int.toNat (10 + i)) (n := n) (by omega) hz
                  have L4 := hLI (ps2 (ps2 (ps2 (ps1 s (Int.toNat (122 + (sd (Int.toNat (5 * i))).toInt)) n) (Int.toNat (122 + (de (Int.toNat (3 * (sd (Int.toNat (5 * i + 1))).toInt + 1))).toInt)) n) (Int.toNat (0 + (sd (Int.toNat (5 * i + 1))).toInt)) n) (Int.toNat (10 + i)) n) h4.1 ⟨hX.1, h4.2⟩
                  obtain ⟨mw1, c1, L1⟩ := call_N (vs := [.ref 56, iv i, iv n]) (uGB v) L4 ⟨rfl, av_i (by omega) (by decide) (by decide), av_i (by omega) (by decide) (by decide), trivial⟩
                  obtain ⟨F1, h56⟩ := LI_56 L1
                  obtain ⟨c, mw2, c2, L2⟩ := call_I (vs := [.ref 56, iv ((sd (Int.toNat (5 * i + 1))).toInt)]) (uRest v) L1 ⟨rfl, av_i dr (by decide) (by decide), trivial⟩
                  refine r_v3n rfl rfl (rg_56 hC) rfl c1 ?_
                  refine r_al rfl rfl ?_
                  refine r_ilw rfl rfl ?_
                  refine r_v2s rfl rfl h56 rfl c2 ?_
                  exact r_ret rfl rfl ⟨_, _, rfl, L2⟩
              refine r_ceq rfl rfl (by omega) (by omega) (fun g8 => ?_) (fun g8 => ?_)
              · exact rn_up (by decide) (K (Or.inl g8))
              · refine r_al rfl rfl ?_
                refine r_gf rfl rfl (rg_56 hC) rfl ?_
                refine r_bi rfl (by decide) ?_
                refine r_ilw rfl rfl ?_
                refine r_add rfl ?_
                refine r_ia rfl (rg_57 hC) (by omega) (by omega) (by decide) ?_
                refine r_il rfl rfl ?_
                refine r_add rfl ?_
                refine r_si rfl (by decide) ?_
                refine r_cle rfl rfl (by omega) (by omega) (fun g9 => ?_) (fun g9 => ?_)
                · exact rn_up (by decide) (K (Or.inr g9))
                · refine r_bi rfl (by decide) ?_
                  exact r_ret rfl rfl ⟨_, _, rfl, hLI s hRS hX⟩
    · refine r_ic rfl ?_
      exact r_ret rfl rfl ⟨_, _, rfl, hLI s hRS hX⟩
end PY
theorem LI_pay {v : Bool} {mw : List va_E} {k i n : Int} (hk : -2147483648 ≤ k ∧ k ≤ 2147483647) (hi : -2147483648 ≤ i ∧ i ≤ 2147483647) (hN : -2147483648 ≤ n ∧ n ≤ 2147483647) (h : LI v mw) : ∃ (c : Int) (mw2 : List va_E), sX12_pay [.ref 56, iv k, iv i, iv n] mw = some (some (iv c), mw2) ∧ LI v mw2 := by
  obtain ⟨ki, ln, bt, rl, cp, cs, ct, cv, rr, dr, ja, ea, ma, a1, a2, a3, a4, a5, a6, a7, a8, jb, eb, mb, b1, b2, b3, b4, b5, b6, b7, b8, re, fl, g1, g2, g3, g4, g5, D, th, tr, db, sn, dm, sm, ty, nx, tk, pl, va, fa, lr, ri, s, kp, ik, tn, de, sd, dd, sr, tx, pa, e, ⟨⟨⟨hD, hM⟩, he, hc, r1, r2, r3, r4, r5, r6, r7, r8, r9, r10⟩, hX, hK, et, hl⟩⟩ := LI_form h
  subst e
  have hC : (cW ki ln bt rl cp cs ct cv rr dr ja ea ma a1 a2 a3 a4 a5 a6 a7 a8 jb eb mb b1 b2 b3 b4 b5 b6 b7 b8 re fl g1 g2 g3 g4 g5 D).length = 56 := by rw [cW_len9, hD]
  obtain ⟨r, hr, c, mw2, e, h2⟩ := pay_rn (C := (cW ki ln bt rl cp cs ct cv rr dr ja ea ma a1 a2 a3 a4 a5 a6 a7 a8 jb eb mb b1 b2 b3 b4 b5 b6 b7 b8 re fl g1 g2 g3 g4 g5 D)) (v := v) (k := k) (i := i) (n := n) (th := th) (tr := tr) (db := db) (sn := sn) (dm := dm) (sm := sm) (ty := ty) (nx := nx) (tk := tk) (pl := pl) (va := va) (fa := fa) (lr := lr) (ri := ri) (s := s) (kp := kp) (ik := ik) (tn := tn) (de := de) (sd := sd) (dd := dd) (sr := sr) (tx := tx) (pa := pa) hC (fun s' a1 a2 => LI_to (v := v) (th := 0) (s := s') (tr := tr) (db := db) (sn := sn) (dm := dm) (sm := sm) (ty := ty) (nx := nx) (tk := tk) (pl := pl) (va := va) (fa := fa) (lr := lr) (ri := ri) (kp := kp) (ik := ik) (tn := tn) (de := de) (sd := sd) (dd := dd) (sr := sr) (tx := tx) (pa := pa) ⟨⟨⟨hD, hM⟩, he, hc, r1, r2, r3, r4, r5, a1, r7, r8, r9, r10⟩, a2, hK, et, hl⟩) r9 r8 hX r6 r1 r2 hk hi hN
  subst e
  exact ⟨c, mw2, hr, h2⟩
