/-! ===== bits of whole numbers (began as rows of kit/laws/BITS) ===== -/
def zb (x : Int32) (i : Nat) : Bool := x.toBitVec.getLsbD i
theorem zb_ext {x y : Int32} (h : ∀ i, i < 32 → zb x i = zb y i) : x = y := Int32.toBitVec_inj.mp (BitVec.eq_of_getLsbD_eq (fun i hi => h i hi))
theorem zb_or (x y : Int32) (i : Nat) : zb (x ||| y) i = (zb x i || zb y i) := by unfold zb; rw [Int32.toBitVec_or, BitVec.getLsbD_or]
theorem zb_and (x y : Int32) (i : Nat) : zb (x &&& y) i = (zb x i && zb y i) := by unfold zb; rw [Int32.toBitVec_and, BitVec.getLsbD_and]
theorem zb_0 (i : Nat) : zb 0 i = false := BitVec.getLsbD_zero
theorem zb_1 : ∀ i, i < 32 → zb 1 i = decide (i = 0) := by decide +kernel
theorem zs_l : ∀ n : Nat, n < 32 → ((Int32.ofInt (n : Int) &&& 31).toBitVec.smod 32).toNat = n := by decide +kernel
theorem zb_shl (n : Nat) (hn : n < 32) (x : Int32) {i : Nat} (hi : i < 32) : zb (x <<< (Int32.ofInt (n : Int) &&& 31)) i = (decide (n ≤ i) && zb x (i - n)) := by
  unfold zb
  rw [Int32.toBitVec_shiftLeft]
  show (x.toBitVec <<< ((Int32.ofInt (n : Int) &&& 31).toBitVec.smod 32).toNat).getLsbD i = _
  rw [zs_l n hn, BitVec.getLsbD_shiftLeft]
  rcases Nat.lt_or_ge i n with h | h
  · simp [h, Nat.not_le.mpr h]
  · simp [hi, h, Nat.not_lt.mpr h]
theorem zb_shr (n : Nat) (hn : n < 32) (x : Int32) {i : Nat} (hi : i < 32) : zb (x >>> (Int32.ofInt (n : Int) &&& 31)) i = if n + i < 32 then zb x (n + i) else zb x 31 := by
  unfold zb
  rw [Int32.toBitVec_shiftRight]
  show (x.toBitVec.sshiftRight ((Int32.ofInt (n : Int) &&& 31).toBitVec.smod 32).toNat).getLsbD i = _
  rw [zs_l n hn, BitVec.getLsbD_sshiftRight, BitVec.msb_eq_getLsbD_last]
  simp [hi]
/-- the bit n of a, as the machine reads it -/
theorem zb_bit {a : Int} {n : Nat} (hn : n < 32) : oAnd (oShr a (n : Int)) 1 = bi (zb (Int32.ofInt a) n) := by
  unfold oAnd oShr
  rw [Int32.ofInt_toInt]
  have e : (Int32.ofInt a >>> (Int32.ofInt (n : Int) &&& 31)) &&& Int32.ofInt 1 = Int32.ofInt (bi (zb (Int32.ofInt a) n)) := by
    apply zb_ext
    intro i hi
    rw [zb_and, zb_shr n hn _ hi]
    have h1 : zb (Int32.ofInt 1) i = decide (i = 0) := zb_1 i hi
    rw [h1]
    by_cases z : i = 0
    · subst z
      rw [Nat.add_zero, if_pos hn]
      cases zb (Int32.ofInt a) n <;> rfl
    · rw [decide_eq_false z, Bool.and_false]
      cases zb (Int32.ofInt a) n with
      | false => exact (zb_0 i).symm
      | true => exact ((zb_1 i hi).trans (decide_eq_false z)).symm
  rw [e, iv_to (bi_r _)]
theorem zb_one {n : Nat} (hn : n < 32) : zb (Int32.ofInt (oShl 1 (n : Int))) n = true := by
  unfold oShl
  rw [Int32.ofInt_toInt, zb_shl n hn _ hn]
  simp
  rfl
/-- how many of the first eight bits are wanting -/
def zm (x : Int32) : Nat := (List.range 8).countP (fun p => !zb x p)
theorem cnt_lt {α : Type} {p q : α → Bool} : ∀ {l : List α}, (∀ x ∈ l, p x = true → q x = true) → (∃ x ∈ l, q x = true ∧ p x = false) → l.countP p < l.countP q
  | [], _, h => by obtain ⟨x, h1, -⟩ := h; cases h1
  | a :: l, h, hx => by
    have hm : l.countP p ≤ l.countP q := List.countP_mono_left (fun x hx => h x (List.mem_cons_of_mem _ hx))
    rw [List.countP_cons, List.countP_cons]
    obtain ⟨x, h1, h2, h3⟩ := hx
    rcases List.mem_cons.mp h1 with rfl | h1
    · rw [h2, h3]
      simp
      omega
    · have := cnt_lt (fun x hx => h x (List.mem_cons_of_mem _ hx)) ⟨x, h1, h2, h3⟩
      have ha := h a List.mem_cons_self
      cases hp : p a with
      | false => simp; split <;> omega
      | true => rw [ha hp]; simp; omega
theorem zm_lt {x m : Int32} {q : Nat} (hq : q < 8) (h1 : zb m q = true) (h2 : zb x q = false) : zm (x ||| m) < zm x := by
  refine cnt_lt (fun p _ h => ?_) ⟨q, List.mem_range.mpr hq, by rw [h2]; rfl, by rw [zb_or, h1, h2]; rfl⟩
  rw [zb_or] at h
  cases hz : zb x p with
  | false => rfl
  | true => rw [hz] at h; cases h
theorem zm_8 (x : Int32) : zm x ≤ 8 := by
  have := List.countP_le_length (p := fun p => !zb x p) (l := List.range 8)
  rw [List.length_range] at this
  exact this
/-! ===== sums as calls ===== -/
theorem av_t {E : Nat → Option Int} {G : Nat → Int → Option Int} (x : Int32) : as_val E G (.inl ((-2147483648), 2147483647, 1, 0, [])) (.int x) := ⟨as_inTop x, trivial⟩
theorem av_i {E : Nat → Option Int} {G : Nat → Int → Option Int} {lo hi z : Int} (h : lo ≤ z ∧ z ≤ hi) (h0 : -2147483648 ≤ lo) (h1 : hi ≤ 2147483647) : as_val E G (.inl (lo, hi, 1, 0, [])) (iv z) := by
  have e : (Int32.ofInt z).toInt = z := iv_to ⟨by omega, by omega⟩
  refine ⟨⟨?_, ?_, Int.emod_one _, Nat.one_pos⟩, trivial⟩
  · show lo ≤ (Int32.ofInt z).toInt
    omega
  · show (Int32.ofInt z).toInt ≤ hi
    omega
/-- an answer that is a number -/
theorem as_rsI {vs : List Value} {I : ab_I} {r : Option Value} (h : as_rs vs (some (.inl I)) r) : ∃ v : Int, r = some (iv v) ∧ I.1 ≤ v ∧ v ≤ I.2.1 ∧ (-2147483648 ≤ v ∧ v ≤ 2147483647) := by
  cases r with
  | none => exact h.elim
  | some w =>
    cases w with
    | int x => exact ⟨x.toInt, by rw [iv_of], h.1.1, h.1.2.1, as_lo x, as_hi x⟩
    | _ => exact h.elim
theorem as_rsN {vs : List Value} {r : Option Value} (h : as_rs vs none r) : r = none := by
  cases r with
  | none => rfl
  | some w => exact h.elim
theorem as_rsL {vs : List Value} {r : Option Value} (h : as_rs vs (some (.inr none)) r) : ∃ x : Int64, r = some (.long x) := by
  cases r with
  | none => exact h.elim
  | some w =>
    cases w with
    | long x => exact ⟨x, rfl⟩
    | _ => exact h.elim
theorem hi_obj {sh : List ab_S} {mw : List va_E} {k : Nat} {o : Nat × List ab_F} (h : as_HI sh mw) (hk : sh[k]? = some (.inr (.inl o))) : ∃ F, mw[k]? = some (.inr (o.1, F)) ∧ F.length = o.2.length ∧ ∀ (j : Nat) (G : ab_F), o.2[j]? = some G → ∃ v, F[j]? = some v ∧ as_fok G v := by
  obtain ⟨x, h1, h2, h3, h4⟩ := as_obj h hk
  exact ⟨x.2, by rw [h1, ← h2], h3, h4⟩
theorem hi_arr {sh : List ab_S} {mw : List va_E} {k t n : Nat} {rs : List ab_R} (h : as_HI sh mw) (hk : sh[k]? = some (.inl (t, n, rs))) : ∃ f, mw[k]? = some (.inl (t, n, .inl f)) ∧ ∀ j, j < n → ∃ r ∈ rs, as_row f j r := by
  obtain ⟨x, f, h1, h2, h3, h4, h5⟩ := as_arr h (show ab_arr sh k = some (t, n, rs) by unfold ab_arr; rw [hk])
  refine ⟨f, ?_, h5⟩
  rw [h1]
  obtain ⟨a, b, c⟩ := x
  have h2 : a = t := h2
  have h3 : b = n := h3
  have h4 : c = .inl f := h4
  rw [h2, h3, h4]
theorem fok_ref {k : Nat} {v : Value} (h : as_fok (.inr (some (some k))) v) : v = .ref k := by
  cases v with
  | ref q => have h : q = k := h
             rw [h]
  | _ => exact h.elim
theorem fok_int {b : Bool} {lo hi : Int} {v : Value} (h : as_fok (.inl (b, lo, hi)) v) : ∃ z : Int, v = iv z ∧ lo ≤ z ∧ z ≤ hi ∧ -2147483648 ≤ z ∧ z ≤ 2147483647 := by
  cases v with
  | int x => exact ⟨x.toInt, iv_of x, h.1, h.2, as_lo x, as_hi x⟩
  | _ => exact h.elim
theorem fok_long {v : Value} (h : as_fok (.inr (some none)) v) : ∃ z : Int64, v = .long z := by
  cases v with
  | long x => exact ⟨x, rfl⟩
  | _ => exact h.elim
/-! ===== the reference's chained: it ends ===== -/
def cj (more down : Int) : Prop := Int32.ofInt more = 0 ∨ ∃ q, q < 8 ∧ zb (Int32.ofInt more) q = true ∧ zb (Int32.ofInt down) q = false
def uBH : ab_Q := ([.inr (some 56), .inl (0, 7, 1, 0, []), .inl ((-2147483648), 2147483647, 1, 0, [])], [], (some (.inl ((-2147483648), 2147483647, 1, 0, []))))
section CH
variable {sh : List ab_S} {mw0 : List va_E} {Q : mm_R → Prop}
theorem uBH_call {f : mm_F} {mw : List va_E} {p d : Int} (u : as_Sum sh uBH f) (hk : as_OK sh = true) (hH : as_HI sh mw) (hX : as_Ex mw) (hf : as_Fr sh mw0 mw) (hp : 0 ≤ p ∧ p ≤ 7) : ∃ (v : Int) (mw' : List va_E), f [.ref 56, iv p, iv d] mw = some (some (iv v), mw') ∧ (-2147483648 ≤ v ∧ v ≤ 2147483647) ∧ as_HI sh mw' ∧ as_Ex mw' ∧ as_Fr sh mw0 mw' := by
  obtain ⟨r, mw', r1, r2, r3, r4⟩ := u [.ref 56, iv p, iv d] mw hH hX ⟨rfl, av_i hp (by decide) (by decide), av_t _, trivial⟩ (fun g hg => by cases hg)
  obtain ⟨v, e, -, -, hv⟩ := as_rsI r4
  subst e
  exact ⟨v, mw', r1, hv, r2, as_FrEx r3 r2 hk hX, as_Fr.tr hf r3⟩

abbrev rn_X12_chained (N : Nat) (c : mm_C) (Q : mm_R → Prop) : Prop := rn (mm_gf gLX12) (mm_pf pLX12) (mm_mv vX12_chained) (mm_mv zX12_chained) (mm_kc kLX12) mm_gs0 mm_rf0 mm_ro (some .int) 6 (mm_ins iX12_chained) N c Q
theorem ch_in (hk : as_OK sh = true) (h56 : ∃ F, sh[56]? = some (.inr (.inl (12, F)))) (uB : as_Sum sh uBH sX12_burdenOf) (uH : as_Sum sh uBH sX12_hasOf) {a r d : Int} {N : Nat} (k : ∀ (more : Int) (mw : List va_E), as_HI sh mw → as_Ex mw → as_Fr sh mw0 mw → cj more d → (-2147483648 ≤ more ∧ more ≤ 2147483647) → rn_X12_chained N (79, [(5, iv (((8 : Nat) : Int))), (4, iv (more)), (3, iv (r)), (2, iv (d)), (0, .ref 56), (1, iv (a))], [], mw) Q) : ∀ (m j : Nat) (more : Int) (mw : List va_E), j + m = 8 → as_HI sh mw → as_Ex mw → as_Fr sh mw0 mw → cj more d → (-2147483648 ≤ more ∧ more ≤ 2147483647) → rn_X12_chained (N + 40 * m + 40) (27, [(5, iv (((j : Nat) : Int))), (4, iv (more)), (3, iv (r)), (2, iv (d)), (0, .ref 56), (1, iv (a))], [], mw) Q := by
  intro m
  induction m with
  | zero =>
    intro j more mw hj hH hX hF hJ hm
    have hj : j = 8 := by omega
    subst hj
    refine rn_up (N := N + 40) (by omega) ?_
    refine r_ilw rfl rfl ?_
    refine r_bi rfl (by decide) ?_
    refine r_cge rfl rfl (by omega) (by omega) (fun g1 => ?_) (fun g1 => ?_)
    · exact rn_up (by omega) (k more mw hH hX hF hJ hm)
    · omega
  | succ m ih =>
    intro j more mw hj hH hX hF hJ hm
    refine rn_up (N := N + 40 * m + 40 + 40) (by omega) ?_
    refine r_ilw rfl rfl ?_
    refine r_bi rfl (by decide) ?_
    refine r_cge rfl rfl (by omega) (by omega) (fun g1 => ?_) (fun g1 => ?_)
    · omega
    · refine r_ilw rfl rfl ?_
      refine r_il rfl rfl ?_
      refine r_ilw rfl rfl ?_
      refine r_shr rfl ?_
      refine r_ic rfl ?_
      refine r_and rfl ?_
      refine r_eq (zb_bit (by omega)) ?_
      refine r_zne rfl rfl (bi_r _) (fun g2 => ?_) (fun g2 => ?_)
      · have e : oOr more 0 = more := by unfold oOr; rw [show Int32.ofInt more ||| Int32.ofInt 0 = Int32.ofInt more from Int32.or_zero]; exact iv_to hm
        refine r_ic rfl ?_
        refine r_or rfl ?_
        refine r_isw (lv' := [(4, _), (5, _), (3, _), (2, _), (0, _), (1, _)]) rfl rfl rfl ?_
        refine r_inc (lv' := [(5, _), (4, _), (3, _), (2, _), (0, _), (1, _)]) rfl rfl rfl rfl ?_
        refine r_goto rfl rfl ?_
        exact rn_up (by omega) (ih (j + 1) _ _ (by omega) hH hX hF (by rw [e]; exact hJ) (oOr_r _ _))
      · have g2 : zb (Int32.ofInt d) j = false := bi_0 (by have := bi_01 (zb (Int32.ofInt d) j); omega)
        obtain ⟨Fx, hsx⟩ := h56
        obtain ⟨F, h56, -, -⟩ := hi_obj hH hsx
        obtain ⟨v1, mw1, c1, cr1, H1, X1, F1⟩ := uBH_call (p := (j : Int)) (d := d) uB hk hH hX hF (by omega)
        refine r_al rfl rfl ?_
        refine r_ilw rfl rfl ?_
        refine r_il rfl rfl ?_
        refine r_v3s rfl rfl h56 rfl c1 ?_
        obtain ⟨F', h56, -, -⟩ := hi_obj H1 hsx
        obtain ⟨v2, mw2, c2, cr2, H2, X2, F2⟩ := uBH_call (p := (j : Int)) (d := d) uH hk H1 X1 F1 (by omega)
        refine r_al rfl rfl ?_
        refine r_ilw rfl rfl ?_
        refine r_il rfl rfl ?_
        refine r_v3s rfl rfl h56 rfl c2 ?_
        refine r_cle rfl rfl cr1 cr2 (fun g3 => ?_) (fun g3 => ?_)
        · have e : oOr more 0 = more := by unfold oOr; rw [show Int32.ofInt more ||| Int32.ofInt 0 = Int32.ofInt more from Int32.or_zero]; exact iv_to hm
          refine r_ic rfl ?_
          refine r_or rfl ?_
          refine r_isw (lv' := [(4, _), (5, _), (3, _), (2, _), (0, _), (1, _)]) rfl rfl rfl ?_
          refine r_inc (lv' := [(5, _), (4, _), (3, _), (2, _), (0, _), (1, _)]) rfl rfl rfl rfl ?_
          refine r_goto rfl rfl ?_
          exact rn_up (by omega) (ih (j + 1) _ _ (by omega) H2 X2 F2 (by rw [e]; exact hJ) (oOr_r _ _))
        · refine r_ic rfl ?_
          refine r_ilw rfl rfl ?_
          refine r_shl rfl ?_
          refine r_goto rfl rfl ?_
          refine r_or rfl ?_
          refine r_isw (lv' := [(4, _), (5, _), (3, _), (2, _), (0, _), (1, _)]) rfl rfl rfl ?_
          refine r_inc (lv' := [(5, _), (4, _), (3, _), (2, _), (0, _), (1, _)]) rfl rfl rfl rfl ?_
          refine r_goto rfl rfl ?_
          exact rn_up (by omega) (ih (j + 1) _ _ (by omega) H2 X2 F2 (Or.inr ⟨j, by omega, by unfold oOr; rw [Int32.ofInt_toInt, zb_or, zb_one (by omega), Bool.or_true], g2⟩) (oOr_r _ _))
theorem ch_out (hk : as_OK sh = true) (h56 : ∃ F, sh[56]? = some (.inr (.inl (12, F)))) (uB : as_Sum sh uBH sX12_burdenOf) (uH : as_Sum sh uBH sX12_hasOf) {a : Int} (hQ : ∀ (v : Int) (mw : List va_E), as_HI sh mw → as_Fr sh mw0 mw → Q (some (iv v), mw)) : ∀ (n : Nat) (r d : Int) (mw : List va_E), zm (Int32.ofInt d) ≤ n → as_HI sh mw → as_Ex mw → as_Fr sh mw0 mw → rn_X12_chained (500 * n + 500) (27, [(5, iv (((0 : Nat) : Int))), (4, iv (0)), (3, iv (r)), (2, iv (d)), (0, .ref 56), (1, iv (a))], [], mw) Q := by
  intro n
  induction n with
  | zero =>
    intro r d mw hz hH hX hF
    refine rn_up (N := 100 + 40 * 8 + 40) (by omega) (ch_in hk h56 uB uH ?_ 8 0 0 mw rfl hH hX hF (Or.inl rfl) (by decide))
    intro more mw hH hX hF hJ hm
    refine r_il rfl rfl ?_
    refine r_ilw rfl rfl ?_
    refine r_or rfl ?_
    refine r_is (lv' := [(2, _), (5, _), (4, _), (3, _), (0, _), (1, _)]) rfl rfl rfl ?_
    refine r_il rfl rfl ?_
    refine r_ilw rfl rfl ?_
    refine r_zeq rfl rfl (by omega) (fun g1 => ?_) (fun g1 => ?_)
    · refine r_ic rfl ?_
      refine r_add rfl ?_
      refine r_is (lv' := [(3, _), (2, _), (5, _), (4, _), (0, _), (1, _)]) rfl rfl rfl ?_
      refine r_goto rfl rfl ?_
      refine r_ilw rfl rfl ?_
      refine r_zeq rfl rfl (by omega) (fun g2 => ?_) (fun g2 => ?_)
      · refine r_il rfl rfl ?_
        refine r_si rfl (by decide) ?_
        refine r_il rfl rfl ?_
        refine r_mul rfl ?_
        refine r_add rfl ?_
        exact r_ret rfl rfl (hQ _ _ hH hF)
      · exact absurd g1 g2
    · obtain ⟨q, q1, q2, q3⟩ : ∃ q, q < 8 ∧ zb (Int32.ofInt more) q = true ∧ zb (Int32.ofInt d) q = false := by
        rcases hJ with h | h
        · exact absurd ((iv_inj (b := 0) hm (by decide)).mp h) g1
        · exact h
      have hl := zm_lt q1 q2 q3
      omega
  | succ n ih =>
    intro r d mw hz hH hX hF
    refine rn_up (N := 500 * n + 500 + 100 + 40 * 8 + 40) (by omega) (ch_in hk h56 uB uH ?_ 8 0 0 mw rfl hH hX hF (Or.inl rfl) (by decide))
    intro more mw hH hX hF hJ hm
    refine r_il rfl rfl ?_
    refine r_ilw rfl rfl ?_
    refine r_or rfl ?_
    refine r_is (lv' := [(2, _), (5, _), (4, _), (3, _), (0, _), (1, _)]) rfl rfl rfl ?_
    refine r_il rfl rfl ?_
    refine r_ilw rfl rfl ?_
    refine r_zeq rfl rfl (by omega) (fun g1 => ?_) (fun g1 => ?_)
    · refine r_ic rfl ?_
      refine r_add rfl ?_
      refine r_is (lv' := [(3, _), (2, _), (5, _), (4, _), (0, _), (1, _)]) rfl rfl rfl ?_
      refine r_goto rfl rfl ?_
      refine r_ilw rfl rfl ?_
      refine r_zeq rfl rfl (by omega) (fun g2 => ?_) (fun g2 => ?_)
      · refine r_il rfl rfl ?_
        refine r_si rfl (by decide) ?_
        refine r_il rfl rfl ?_
        refine r_mul rfl ?_
        refine r_add rfl ?_
        exact r_ret rfl rfl (hQ _ _ hH hF)
      · exact absurd g1 g2
    · obtain ⟨q, q1, q2, q3⟩ : ∃ q, q < 8 ∧ zb (Int32.ofInt more) q = true ∧ zb (Int32.ofInt d) q = false := by
        rcases hJ with h | h
        · exact absurd ((iv_inj (b := 0) hm (by decide)).mp h) g1
        · exact h
      have hl := zm_lt q1 q2 q3
      refine r_ic rfl ?_
      refine r_goto rfl rfl ?_
      refine r_add rfl ?_
      refine r_is (lv' := [(3, _), (2, _), (5, _), (4, _), (0, _), (1, _)]) rfl rfl rfl ?_
      refine r_goto rfl rfl ?_
      refine r_ilw rfl rfl ?_
      refine r_zeq rfl rfl (by omega) (fun g2 => ?_) (fun g2 => ?_)
      · exact absurd g2 g1
      · refine r_ic rfl ?_
        refine r_isw (lv' := [(4, _), (3, _), (2, _), (5, _), (0, _), (1, _)]) rfl rfl rfl ?_
        refine r_ic rfl ?_
        refine r_isw (lv' := [(5, _), (4, _), (3, _), (2, _), (0, _), (1, _)]) rfl rfl rfl ?_
        refine rn_up (by omega) (ih _ (oOr d more) mw ?_ hH hX hF)
        unfold oOr
        rw [Int32.ofInt_toInt]
        omega
theorem ch_sum (hk : as_OK sh = true) (h56 : ∃ F, sh[56]? = some (.inr (.inl (12, F)))) (uB : as_Sum sh uBH sX12_burdenOf) (uH : as_Sum sh uBH sX12_hasOf) (h2 : ∃ F : List ab_F, sh[56]? = some (.inr (.inl (12, F))) ∧ F[2]? = some (.inr (some (some 57)))) (h57 : ∃ rs, sh[57]? = some (.inl (0, 131, rs))) : as_Sum sh ([.inr (some 56), .inl (0, 255, 1, 0, [])], [], (some (.inl ((-2147483648), 2147483647, 1, 0, [])))) sX12_chained := by
  intro vs mw hH hX hA hF
  match vs, hA with
  | [w1, w2], ⟨a1, a2, _⟩ =>
  obtain rfl : w1 = .ref 56 := by
    cases w1 with
    | ref q => have a1 : q = 56 := a1
               rw [a1]
    | _ => exact a1.elim
  obtain ⟨a, rfl⟩ : ∃ a : Int, w2 = iv a := by
    cases w2 with
    | int x => exact ⟨x.toInt, iv_of x⟩
    | _ => exact a2.elim
  obtain ⟨Fx, hsx, hs2⟩ := h2
  obtain ⟨F, h56', -, hF2⟩ := hi_obj hH hsx
  obtain ⟨v, hv1, hv2⟩ := hF2 2 _ hs2
  rw [fok_ref hv2] at hv1
  obtain ⟨rs, h57⟩ := h57
  obtain ⟨f, h57, -⟩ := hi_arr hH h57
  have K : ∃ r, sX12_chained [.ref 56, iv a] mw = some r ∧ (fun r : mm_R => ∃ (v : Int) (mw' : List va_E), r = (some (iv v), mw') ∧ as_HI sh mw' ∧ as_Fr sh mw mw') r := by
    refine rn_S rfl ?_
    refine rn_up (N := 500 * 8 + 500 + 100) (by decide) ?_
    refine r_il rfl rfl ?_
    refine r_al rfl rfl ?_
    refine r_gf rfl rfl h56' hv1 ?_
    refine r_si rfl (by decide) ?_
    refine r_ia rfl h57 (by omega) (by omega) (by decide) ?_
    refine r_or rfl ?_
    refine r_is (lv' := [(2, _), (0, _), (1, _)]) rfl rfl rfl ?_
    refine r_ic rfl ?_
    refine r_is (lv' := [(3, _), (2, _), (0, _), (1, _)]) rfl rfl rfl ?_
    refine r_ic rfl ?_
    refine r_isw (lv' := [(4, _), (3, _), (2, _), (0, _), (1, _)]) rfl rfl rfl ?_
    refine r_ilw rfl rfl ?_
    refine r_zeq rfl rfl (by omega) (fun g1 => ?_) (fun g1 => ?_)
    · exact absurd g1 (by decide)
    · refine r_ic rfl ?_
      refine r_isw (lv' := [(4, _), (3, _), (2, _), (0, _), (1, _)]) rfl rfl rfl ?_
      refine r_ic rfl ?_
      refine r_isw (lv' := [(5, _), (4, _), (3, _), (2, _), (0, _), (1, _)]) rfl rfl rfl ?_
      refine rn_up (N := 500 * 8 + 500) (by decide) (ch_out hk h56 uB uH (fun v mw' h1 h2 => ⟨v, mw', rfl, h1, h2⟩) 8 _ _ mw (zm_8 _) hH hX as_Fr.rf)
  obtain ⟨r, r1, v, mw', r2, r3, r4⟩ := K
  subst r2
  exact ⟨_, mw', r1, r3, r4, av_t _⟩
end CH
