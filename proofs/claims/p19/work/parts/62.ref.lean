/-! ===== the reference reads a token ===== -/
theorem lg_to {z : Int} (h : -9223372036854775808 ≤ z ∧ z ≤ 9223372036854775807) : (Int64.ofInt z).toInt = z := by
  exact Int64.toInt_ofInt_of_le (by omega) (by omega)
theorem lg_i {c : Int} (h : -2147483648 ≤ c ∧ c ≤ 2147483647) : (Int32.ofInt c).toInt64 = Int64.ofInt c := by
  apply Int64.toInt_inj.mp
  rw [Int32.toInt_toInt64, iv_to h, lg_to (by omega)]
theorem lg_fold {z c : Int} (h : -2147483648 ≤ c ∧ c ≤ 2147483647) : (Int64.ofInt 256 * Int64.ofInt z + (Int32.ofInt c).toInt64) = Int64.ofInt (256 * z + c) := by
  rw [lg_i h, Int64.ofInt_add, Int64.ofInt_mul]
def lcm (a b : Int) : Int := bif decide (b < a) then 1 else bif decide (a = b) then 0 else -1
theorem lcm_r (a b : Int) : -2147483648 ≤ lcm a b ∧ lcm a b ≤ 2147483647 := by
  unfold lcm
  cases decide (b < a) <;> cases decide (a = b) <;> decide
theorem lcm_0 {a b : Int} (h : lcm a b = 0) : a = b := by
  unfold lcm at h
  by_cases h1 : b < a
  · simp [h1] at h
  · by_cases h2 : a = b
    · exact h2
    · simp [h1, h2] at h
theorem lcm_n {a b : Int} (h : ¬ lcm a b = 0) : ¬ a = b := by
  intro e
  apply h
  unfold lcm
  have : ¬ b < a := by omega
  simp [this, e]
theorem lcm_c {a b : Int} (ha : -9223372036854775808 ≤ a ∧ a ≤ 9223372036854775807) (hb : -9223372036854775808 ≤ b ∧ b ≤ 9223372036854775807) : (lg_cmp (Int64.ofInt a) (Int64.ofInt b)).toInt = lcm a b := by
  unfold lg_cmp lcm
  have e1 : (Int64.ofInt a > Int64.ofInt b) ↔ b < a := by
    rw [gt_iff_lt, Int64.lt_iff_toInt_lt, lg_to ha, lg_to hb]
  have e2 : (Int64.ofInt a = Int64.ofInt b) ↔ a = b := by
    rw [← Int64.toInt_inj, lg_to ha, lg_to hb]
  by_cases h1 : b < a
  · have h1' := e1.mpr h1
    simp [h1, h1']
  · have h1' := fun q => h1 (e1.mp q)
    by_cases h2 : a = b
    · have h2' := e2.mpr h2
      simp [h2]
    · have h2' : ¬ Int64.ofInt a = Int64.ofInt b := fun q => h2 (e2.mp q)
      rw [if_neg h1', if_neg h2', decide_eq_false h1, decide_eq_false h2]
      rfl
def wadd (z c : Int) : Int := bif decide (c = 0) then z else 256 * z + c
def pw_of (z : Int) : Int := bif decide (z = 1684365940) then 0 else bif decide (z = 495873781348) then 1 else bif decide (z = 1870030194) then 2 else bif decide (z = 512853240933) then 3 else bif decide (z = 1885434484) then 4 else bif decide (z = 108187682958948) then 5 else -9
theorem pw_of_r (z : Int) : -9 ≤ pw_of z ∧ pw_of z ≤ 5 := by
  unfold pw_of
  cases decide (z = 1684365940) <;> cases decide (z = 495873781348) <;> cases decide (z = 1870030194) <;> cases decide (z = 512853240933) <;> cases decide (z = 1885434484) <;> cases decide (z = 108187682958948) <;> decide
def pt_wv (B : Nat → Int32) (n b : Int) : Nat → Int → Int → Int
  | 0, _, z => z
  | m + 1, q, z => pt_wv B n b m (q + 1) (bif decide (q - b < 7) then 256 * z + pt_at B n q else z)
def pt_num (B : Nat → Int32) (n : Int) : Nat → Int → Int → Int
  | 0, _, v => v
  | m + 1, q, v => pt_num B n m (q + 1) (bif decide (999 < v) then v else 10 * v + pt_at B n q - 48)
def ra_pl (B : Nat → Int32) (n p : Int) : Int := pt_skip pt_spc B n p
def ra_c (B : Nat → Int32) (n p : Int) : Int := pt_at B n (ra_pl B n p)
def ra_nx (B : Nat → Int32) (n p : Int) : Int := bif decide (ra_c B n p < 0) then ra_pl B n p else bif pt_low (ra_c B n p) then pt_skip pt_low B n (ra_pl B n p) else bif pt_dig (ra_c B n p) then pt_skip pt_dig B n (ra_pl B n p) else ra_pl B n p + 1
def ra_w (B : Nat → Int32) (n p : Int) : Int := pw_of (pt_wv B n (ra_pl B n p) (pt_skip pt_low B n (ra_pl B n p) - ra_pl B n p).toNat (ra_pl B n p) 0)
def ra_n (B : Nat → Int32) (n p : Int) : Int := pt_num B n (pt_skip pt_dig B n (ra_pl B n p) - ra_pl B n p).toNat (ra_pl B n p) 0
def ra_va (B : Nat → Int32) (n p v : Int) : Int := bif decide (ra_c B n p < 0) then v else bif pt_low (ra_c B n p) then ra_w B n p else bif pt_dig (ra_c B n p) then ra_n B n p else ra_c B n p - 65
def ra_tk (B : Nat → Int32) (n p : Int) : Int := bif decide (ra_c B n p < 0) then 0 else bif pt_low (ra_c B n p) then (bif decide (ra_w B n p = -9) then 6 else 1) else bif pt_dig (ra_c B n p) then (bif decide (999 < ra_n B n p) || (decide (ra_c B n p = 48) && decide (1 < pt_skip pt_dig B n (ra_pl B n p) - ra_pl B n p)) then 6 else 3) else bif i3 (ra_c B n p) 65 72 then 2 else bif decide (ra_c B n p = 47) then 4 else bif decide (ra_c B n p = 59) then 5 else 6
section R2
variable {gf : Nat → Option (Nat × Nat)} {pf : Nat → Option (Nat × Nat × FieldType)} {mv ms : Nat → Option (Nat × Option Nat × mm_F)} {kc : Nat → Option Value} {gs : Nat → Option Value} {rf : Nat → Nat → Option Value} {ro : Nat → Option (Nat × Nat × (Nat → Int32))} {rt : Option FieldType} {nL : Nat} {ins : Nat → Option Instr} {N pc : Nat} {lv : List (Nat × Value)} {st : List Value} {mw : List va_E} {Q : mm_R → Prop}
theorem r_lc0 (h : ins pc = some (.lconst 0)) (k : rn gf pf mv ms kc gs rf ro rt nL ins N (pc + 1, lv, lgv 0 :: st, mw) Q) : rn gf pf mv ms kc gs rf ro rt nL ins (N + 1) (pc, lv, st, mw) Q := rn_one h rfl k
theorem r_lcmpv {a b : Int} (h : ins pc = some .lcmp) (ha : -9223372036854775808 ≤ a ∧ a ≤ 9223372036854775807) (hb : -9223372036854775808 ≤ b ∧ b ≤ 9223372036854775807) (k : rn gf pf mv ms kc gs rf ro rt nL ins N (pc + 1, lv, iv (lcm a b) :: st, mw) Q) : rn gf pf mv ms kc gs rf ro rt nL ins (N + 1) (pc, lv, lgv b :: lgv a :: st, mw) Q := r_lcmp h (by rw [lcm_c ha hb]; exact k)
end R2
section R3
variable {C : List va_E} {tr : Int64} {th db sn dm sm ty nx tk pl va fa lr ri : Int} {s kp ik tn de sd dd sr tx pa : Nat → Int32} {mw : List va_E} {a b c d e f k z : Int}
theorem c_add (hc : -2147483648 ≤ c ∧ c ≤ 2147483647) : sX12_add [lgv z, iv c] mw = some (some (lgv (wadd z c)), mw) := by
  suffices K : ∃ r, sX12_add [lgv z, iv c] mw = some r ∧ r = (some (lgv (wadd z c)), mw) by
    obtain ⟨r, h1, h2⟩ := K
    rw [h1, h2]
  refine rn_S rfl ?_
  refine rn_up (N := 100) (by decide) ?_
  refine r_il rfl rfl ?_
  refine r_zne rfl rfl (by omega) (fun h1 => ?_) (fun h1 => ?_)
  · refine r_ldc2 rfl rfl ?_
    refine r_ll rfl rfl ?_
    refine r_lmul rfl ?_
    refine r_il rfl rfl ?_
    refine r_i2l rfl ?_
    refine r_ladd rfl ?_
    have e : wadd z c = 256 * z + c := by unfold wadd; simp [h1]
    rw [e]
    exact r_retl rfl rfl (by show (some (Value.long (Int64.ofInt 256 * Int64.ofInt z + (Int32.ofInt c).toInt64)), mw) = _; rw [lg_fold hc]; rfl)
  · refine r_ll rfl rfl ?_
    refine r_goto rfl rfl ?_
    have e : wadd z c = z := by unfold wadd; simp [h1]
    rw [e]
    exact r_retl rfl rfl rfl
theorem c_word (ha : -2147483648 ≤ a ∧ a ≤ 2147483647) (hb : -2147483648 ≤ b ∧ b ≤ 2147483647) (hc : -2147483648 ≤ c ∧ c ≤ 2147483647) (hd : -2147483648 ≤ d ∧ d ≤ 2147483647) (he : -2147483648 ≤ e ∧ e ≤ 2147483647) (hf : -2147483648 ≤ f ∧ f ≤ 2147483647) : sX12_word [iv a, iv b, iv c, iv d, iv e, iv f] mw = some (some (lgv (wadd (wadd (wadd (wadd (wadd (wadd 0 a) b) c) d) e) f)), mw) := by
  suffices K : ∃ r, sX12_word [iv a, iv b, iv c, iv d, iv e, iv f] mw = some r ∧ r = (some (lgv (wadd (wadd (wadd (wadd (wadd (wadd 0 a) b) c) d) e) f)), mw) by
    obtain ⟨r, h1, h2⟩ := K
    rw [h1, h2]
  refine rn_S rfl ?_
  refine rn_up (N := 100) (by decide) ?_
  refine r_lc0 rfl ?_
  refine r_il rfl rfl ?_
  refine r_s2s rfl rfl rfl (c_add (by assumption)) ?_
  refine r_il rfl rfl ?_
  refine r_s2s rfl rfl rfl (c_add (by assumption)) ?_
  refine r_il rfl rfl ?_
  refine r_s2s rfl rfl rfl (c_add (by assumption)) ?_
  refine r_il rfl rfl ?_
  refine r_s2s rfl rfl rfl (c_add (by assumption)) ?_
  refine r_ilw rfl rfl ?_
  refine r_s2s rfl rfl rfl (c_add (by assumption)) ?_
  refine r_ilw rfl rfl ?_
  refine r_s2s rfl rfl rfl (c_add (by assumption)) ?_
  exact r_retl rfl rfl rfl
theorem c_word0 : sX12_word [iv 100, iv 101, iv 98, iv 116, iv 0, iv 0] mw = some (some (lgv 1684365940), mw) := c_word (by decide) (by decide) (by decide) (by decide) (by decide) (by decide)
theorem c_word1 : sX12_word [iv 115, iv 116, iv 97, iv 110, iv 100, iv 0] mw = some (some (lgv 495873781348), mw) := c_word (by decide) (by decide) (by decide) (by decide) (by decide) (by decide)
theorem c_word2 : sX12_word [iv 111, iv 118, iv 101, iv 114, iv 0, iv 0] mw = some (some (lgv 1870030194), mw) := c_word (by decide) (by decide) (by decide) (by decide) (by decide) (by decide)
theorem c_word3 : sX12_word [iv 119, iv 104, iv 111, iv 108, iv 101, iv 0] mw = some (some (lgv 512853240933), mw) := c_word (by decide) (by decide) (by decide) (by decide) (by decide) (by decide)
theorem c_word4 : sX12_word [iv 112, iv 97, iv 114, iv 116, iv 0, iv 0] mw = some (some (lgv 1885434484), mw) := c_word (by decide) (by decide) (by decide) (by decide) (by decide) (by decide)
theorem c_word5 : sX12_word [iv 98, iv 101, iv 104, iv 105, iv 110, iv 100] mw = some (some (lgv 108187682958948), mw) := c_word (by decide) (by decide) (by decide) (by decide) (by decide) (by decide)
theorem c_wordOf (hz : 0 ≤ z ∧ z ≤ 9223372036854775807) : sX12_wordOf [lgv z] mw = some (some (iv (pw_of z)), mw) := by
  suffices K : ∃ r, sX12_wordOf [lgv z] mw = some r ∧ r = (some (iv (pw_of z)), mw) by
    obtain ⟨r, h1, h2⟩ := K
    rw [h1, h2]
  refine rn_S rfl ?_
  refine rn_up (N := 100) (by decide) ?_
  refine r_ll rfl rfl ?_
  refine r_bi rfl (by decide) ?_
  refine r_bi rfl (by decide) ?_
  refine r_bi rfl (by decide) ?_
  refine r_bi rfl (by decide) ?_
  refine r_ic rfl ?_
  refine r_ic rfl ?_
  refine r_s6s rfl rfl rfl c_word0 ?_
  refine r_lcmpv rfl (by omega) (by decide) ?_
  refine r_zne rfl rfl (lcm_r _ _) (fun g0 => ?_) (fun g0 => ?_)
  · refine r_ll rfl rfl ?_
    refine r_bi rfl (by decide) ?_
    refine r_bi rfl (by decide) ?_
    refine r_bi rfl (by decide) ?_
    refine r_bi rfl (by decide) ?_
    refine r_bi rfl (by decide) ?_
    refine r_ic rfl ?_
    refine r_s6s rfl rfl rfl c_word1 ?_
    refine r_lcmpv rfl (by omega) (by decide) ?_
    refine r_zne rfl rfl (lcm_r _ _) (fun g1 => ?_) (fun g1 => ?_)
    · refine r_ll rfl rfl ?_
      refine r_bi rfl (by decide) ?_
      refine r_bi rfl (by decide) ?_
      refine r_bi rfl (by decide) ?_
      refine r_bi rfl (by decide) ?_
      refine r_ic rfl ?_
      refine r_ic rfl ?_
      refine r_s6s rfl rfl rfl c_word2 ?_
      refine r_lcmpv rfl (by omega) (by decide) ?_
      refine r_zne rfl rfl (lcm_r _ _) (fun g2 => ?_) (fun g2 => ?_)
      · refine r_ll rfl rfl ?_
        refine r_bi rfl (by decide) ?_
        refine r_bi rfl (by decide) ?_
        refine r_bi rfl (by decide) ?_
        refine r_bi rfl (by decide) ?_
        refine r_bi rfl (by decide) ?_
        refine r_ic rfl ?_
        refine r_s6s rfl rfl rfl c_word3 ?_
        refine r_lcmpv rfl (by omega) (by decide) ?_
        refine r_zne rfl rfl (lcm_r _ _) (fun g3 => ?_) (fun g3 => ?_)
        · refine r_ll rfl rfl ?_
          refine r_bi rfl (by decide) ?_
          refine r_bi rfl (by decide) ?_
          refine r_bi rfl (by decide) ?_
          refine r_bi rfl (by decide) ?_
          refine r_ic rfl ?_
          refine r_ic rfl ?_
          refine r_s6s rfl rfl rfl c_word4 ?_
          refine r_lcmpv rfl (by omega) (by decide) ?_
          refine r_zne rfl rfl (lcm_r _ _) (fun g4 => ?_) (fun g4 => ?_)
          · refine r_ll rfl rfl ?_
            refine r_bi rfl (by decide) ?_
            refine r_bi rfl (by decide) ?_
            refine r_bi rfl (by decide) ?_
            refine r_bi rfl (by decide) ?_
            refine r_bi rfl (by decide) ?_
            refine r_bi rfl (by decide) ?_
            refine r_s6s rfl rfl rfl c_word5 ?_
            refine r_lcmpv rfl (by omega) (by decide) ?_
            refine r_zne rfl rfl (lcm_r _ _) (fun g5 => ?_) (fun g5 => ?_)
            · refine r_bi rfl (by decide) ?_
              have e : pw_of z = -9 := by unfold pw_of; simp [lcm_n g0, lcm_n g1, lcm_n g2, lcm_n g3, lcm_n g4, lcm_n g5]
              rw [e]
              exact r_ret rfl rfl rfl
            · refine r_ic rfl ?_
              refine r_goto rfl rfl ?_
              have e : pw_of z = 5 := by unfold pw_of; simp [lcm_n g0, lcm_n g1, lcm_n g2, lcm_n g3, lcm_n g4, lcm_0 g5]
              rw [e]
              exact r_ret rfl rfl rfl
          · refine r_ic rfl ?_
            refine r_goto rfl rfl ?_
            have e : pw_of z = 4 := by unfold pw_of; simp [lcm_n g0, lcm_n g1, lcm_n g2, lcm_n g3, lcm_0 g4]
            rw [e]
            exact r_ret rfl rfl rfl
        · refine r_ic rfl ?_
          refine r_goto rfl rfl ?_
          have e : pw_of z = 3 := by unfold pw_of; simp [lcm_n g0, lcm_n g1, lcm_n g2, lcm_0 g3]
          rw [e]
          exact r_ret rfl rfl rfl
      · refine r_ic rfl ?_
        refine r_goto rfl rfl ?_
        have e : pw_of z = 2 := by unfold pw_of; simp [lcm_n g0, lcm_n g1, lcm_0 g2]
        rw [e]
        exact r_ret rfl rfl rfl
    · refine r_ic rfl ?_
      refine r_goto rfl rfl ?_
      have e : pw_of z = 1 := by unfold pw_of; simp [lcm_n g0, lcm_0 g1]
      rw [e]
      exact r_ret rfl rfl rfl
  · refine r_ic rfl ?_
    refine r_goto rfl rfl ?_
    have e : pw_of z = 0 := by unfold pw_of; simp [lcm_0 g0]
    rw [e]
    exact r_ret rfl rfl rfl
end R3
