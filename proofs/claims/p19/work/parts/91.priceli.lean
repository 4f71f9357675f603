/-! ===== price: the reference ===== -/
section PRR
variable {C : List va_E} {tr : Int64} {th db sn dm sm ty nx tk pl va fa lr ri : Int} {s kp ik tn de sd dd sr tx pa : Nat → Int32} {k i : Int} {Q : mm_R → Prop} {N : Nat}
theorem rp_tr {z : Int64} (hC : C.length = 56) : (C ++ rL (ro_ th tr db sn dm sm ty nx tk pl va fa lr ri) s kp ik tn de sd dd sr tx pa).set 56 (.inr (12, ((ro_ th tr db sn dm sm ty nx tk pl va fa lr ri).set 1 (.long z)))) = (C ++ rL (ro_ th z db sn dm sm ty nx tk pl va fa lr ri) s kp ik tn de sd dd sr tx pa) := rs_56 hC
abbrev rn_X12_price (N : Nat) (c : mm_C) (Q : mm_R → Prop) : Prop := rn (mm_gf gLX12) (mm_pf pLX12) (mm_mv vX12_price) (mm_mv zX12_price) (mm_kc kLX12) mm_gs0 mm_rf0 mm_ro (some .int) 5 (mm_ins iX12_price) N c Q
theorem c_priceRB (hC : C.length = 56) (hk : -2147483648 ≤ k ∧ k ≤ 2147483647) (hi : -2147483648 ≤ i ∧ i ≤ 2147483647) (hn : 0 ≤ sn ∧ sn ≤ 16) (hb : (i3 k 0 6 && i3 i 0 (sn - 1)) = false) : sX12_price [.ref 56, iv (k), iv (i)] (C ++ rL (ro_ th tr db sn dm sm ty nx tk pl va fa lr ri) s kp ik tn de sd dd sr tx pa) = some (some (iv (-1)), (C ++ rL (ro_ (0 : Int) tr db sn dm sm ty nx tk pl va fa lr ri) s kp ik tn de sd dd sr tx pa)) := by
  have main : ∀ Q : mm_R → Prop, Q (some (iv (-1)), (C ++ rL (ro_ (0 : Int) tr db sn dm sm ty nx tk pl va fa lr ri) s kp ik tn de sd dd sr tx pa)) → rn_X12_price (1000) (0, [(0, .ref 56), (1, iv (k)), (2, iv (i))], [], (C ++ rL (ro_ th tr db sn dm sm ty nx tk pl va fa lr ri) s kp ik tn de sd dd sr tx pa)) Q := by
    intro Q hQ
    refine r_al rfl rfl ?_
    refine r_ic rfl ?_
    refine r_pf rfl rfl (rg_56 hC) rfl (rp_th hC) ?_
    refine r_il rfl rfl ?_
    refine r_ic rfl ?_
    refine r_bi rfl (by decide) ?_
    refine r_s3s rfl rfl rfl (c_in hk (by decide) (by decide)) ?_
    refine r_zeq rfl rfl (bi_r _) (fun g1 => ?_) (fun g1 => ?_)
    · refine r_ic rfl ?_
      exact r_ret rfl rfl hQ
    · refine r_al rfl rfl ?_
      refine r_il rfl rfl ?_
      refine r_v2s rfl rfl (rg_56 hC) rfl (c_isStandR hC hi hn) ?_
      refine r_zne rfl rfl (bi_r _) (fun g2 => ?_) (fun g2 => ?_)
      · rw [bi_1 g1, bi_1 g2] at hb
        cases hb
      · refine r_ic rfl ?_
        exact r_ret rfl rfl hQ
  obtain ⟨r, h1, h2⟩ := rn_S (vs := [.ref 56, iv (k), iv (i)]) (Q := fun r => r = (some (iv (-1)), (C ++ rL (ro_ (0 : Int) tr db sn dm sm ty nx tk pl va fa lr ri) s kp ik tn de sd dd sr tx pa))) rfl (rn_up (N := 1000) (M := mm_fuel) (by decide) (main (fun r => r = (some (iv (-1)), (C ++ rL (ro_ (0 : Int) tr db sn dm sm ty nx tk pl va fa lr ri) s kp ik tn de sd dd sr tx pa))) rfl))
  have h1 : sX12_price [.ref 56, iv (k), iv (i)] (C ++ rL (ro_ th tr db sn dm sm ty nx tk pl va fa lr ri) s kp ik tn de sd dd sr tx pa) = some r := h1
  rw [h1, h2]
theorem c_priceRG_0 (hC : C.length = 56) (hn : 0 ≤ sn ∧ sn ≤ 16) (hS : SDr sd) (hb : i3 i 0 (sn - 1) = true) : ∃ z : Int, sX12_price [.ref 56, iv (0), iv (i)] (C ++ rL (ro_ th tr db sn dm sm ty nx tk pl va fa lr ri) s kp ik tn de sd dd sr tx pa) = some (some (iv z), (C ++ rL (ro_ (0 : Int) (tr + 1) db sn dm sm ty nx tk pl va fa lr ri) s kp ik tn de sd dd sr tx pa)) := by
  have rb := i3_t hb
  have rp := (sd_r hS (show 0 ≤ i ∧ i ≤ 15 by omega)).1
  have rd := (sd_r hS (show 0 ≤ i ∧ i ≤ 15 by omega)).2.1
  have main : ∀ Q : mm_R → Prop, (∀ z : Int, Q (some (iv z), (C ++ rL (ro_ (0 : Int) (tr + 1) db sn dm sm ty nx tk pl va fa lr ri) s kp ik tn de sd dd sr tx pa))) → rn_X12_price 300 (0, [(0, .ref 56), (1, iv (0)), (2, iv (i))], [], (C ++ rL (ro_ th tr db sn dm sm ty nx tk pl va fa lr ri) s kp ik tn de sd dd sr tx pa)) Q := by
    intro Q hQ
    refine r_al rfl rfl ?_
    refine r_ic rfl ?_
    refine r_pf rfl rfl (rg_56 hC) rfl (rp_th hC) ?_
    refine r_il rfl rfl ?_
    refine r_ic rfl ?_
    refine r_bi rfl (by decide) ?_
    refine r_s3s rfl rfl rfl (c_in (by decide) (by decide) (by decide)) ?_
    refine r_zeq rfl rfl (bi_r _) (fun g1 => ?_) (fun g1 => ?_)
    · exact absurd g1 (by decide)
    · refine r_al rfl rfl ?_
      refine r_il rfl rfl ?_
      refine r_v2s rfl rfl (rg_56 hC) rfl (c_isStandR hC (by omega) hn) ?_
      rw [hb]
      refine r_zne rfl rfl (bi_r _) (fun g2 => ?_) (fun g2 => ?_)
      · refine r_al rfl rfl ?_
        refine r_il rfl rfl ?_
        refine r_v2s rfl rfl (rg_56 hC) rfl (c_leftR hC (by omega)) ?_
        refine r_is (lv' := [(3, _), (0, _), (1, _), (2, _)]) rfl rfl rfl ?_
        refine r_il rfl rfl ?_
        refine r_al rfl rfl ?_
        refine r_gf rfl rfl (rg_56 hC) rfl ?_
        refine r_bi rfl (by decide) ?_
        refine r_al rfl rfl ?_
        refine r_gf rfl rfl (rg_56 hC) rfl ?_
        refine r_ic rfl ?_
        refine r_il rfl rfl ?_
        refine r_mul rfl ?_
        refine r_ia rfl (rg_62 hC) (by omega) (by omega) (by decide) ?_
        refine r_add rfl ?_
        refine r_ia rfl (rg_57 hC) (by omega) (by omega) (by decide) ?_
        refine r_bi rfl (by decide) ?_
        refine r_odiv rfl (by decide) ?_
        refine r_add rfl ?_
        refine r_isw (lv' := [(4, _), (3, _), (0, _), (1, _), (2, _)]) rfl rfl rfl ?_
        refine r_al rfl rfl ?_
        refine r_dup rfl rfl ?_
        refine r_gf rfl rfl (rg_56 hC) rfl ?_
        refine r_il rfl rfl ?_
        refine r_zne rfl rfl (by decide) (fun g => ?_) (fun g => ?_)
        · exact absurd rfl g
        · refine r_lc rfl ?_
          refine r_goto rfl rfl ?_
          refine r_ladd rfl ?_
          refine r_pfl rfl rfl (rg_56 hC) rfl (rp_tr hC) ?_
          refine r_il rfl rfl ?_
          refine r_zne rfl rfl (by decide) (fun e => ?_) (fun e => ?_)
          · exact absurd rfl e
          · refine r_il rfl rfl ?_
            refine r_goto rfl rfl ?_
            exact r_ret rfl rfl (hQ _)
      · exact absurd g2 (by decide)
  obtain ⟨r, h1, z, h2⟩ := rn_S (vs := [.ref 56, iv (0), iv (i)]) (Q := fun r => ∃ z : Int, r = (some (iv z), (C ++ rL (ro_ (0 : Int) (tr + 1) db sn dm sm ty nx tk pl va fa lr ri) s kp ik tn de sd dd sr tx pa))) rfl (rn_up (N := 300) (M := mm_fuel) (by decide) (main (fun r => ∃ z : Int, r = (some (iv z), (C ++ rL (ro_ (0 : Int) (tr + 1) db sn dm sm ty nx tk pl va fa lr ri) s kp ik tn de sd dd sr tx pa))) (fun z => ⟨z, rfl⟩)))
  have h1 : sX12_price [.ref 56, iv (0), iv (i)] (C ++ rL (ro_ th tr db sn dm sm ty nx tk pl va fa lr ri) s kp ik tn de sd dd sr tx pa) = some r := h1
  exact ⟨z, by rw [h1, h2]⟩
theorem c_priceRG_1 (hC : C.length = 56) (hn : 0 ≤ sn ∧ sn ≤ 16) (hS : SDr sd) (hb : i3 i 0 (sn - 1) = true) : ∃ z : Int, sX12_price [.ref 56, iv (1), iv (i)] (C ++ rL (ro_ th tr db sn dm sm ty nx tk pl va fa lr ri) s kp ik tn de sd dd sr tx pa) = some (some (iv z), (C ++ rL (ro_ (0 : Int) (tr + 11) db sn dm sm ty nx tk pl va fa lr ri) s kp ik tn de sd dd sr tx pa)) := by
  have rb := i3_t hb
  have rp := (sd_r hS (show 0 ≤ i ∧ i ≤ 15 by omega)).1
  have rd := (sd_r hS (show 0 ≤ i ∧ i ≤ 15 by omega)).2.1
  have main : ∀ Q : mm_R → Prop, (∀ z : Int, Q (some (iv z), (C ++ rL (ro_ (0 : Int) (tr + 11) db sn dm sm ty nx tk pl va fa lr ri) s kp ik tn de sd dd sr tx pa))) → rn_X12_price 300 (0, [(0, .ref 56), (1, iv (1)), (2, iv (i))], [], (C ++ rL (ro_ th tr db sn dm sm ty nx tk pl va fa lr ri) s kp ik tn de sd dd sr tx pa)) Q := by
    intro Q hQ
    refine r_al rfl rfl ?_
    refine r_ic rfl ?_
    refine r_pf rfl rfl (rg_56 hC) rfl (rp_th hC) ?_
    refine r_il rfl rfl ?_
    refine r_ic rfl ?_
    refine r_bi rfl (by decide) ?_
    refine r_s3s rfl rfl rfl (c_in (by decide) (by decide) (by decide)) ?_
    refine r_zeq rfl rfl (bi_r _) (fun g1 => ?_) (fun g1 => ?_)
    · exact absurd g1 (by decide)
    · refine r_al rfl rfl ?_
      refine r_il rfl rfl ?_
      refine r_v2s rfl rfl (rg_56 hC) rfl (c_isStandR hC (by omega) hn) ?_
      rw [hb]
      refine r_zne rfl rfl (bi_r _) (fun g2 => ?_) (fun g2 => ?_)
      · refine r_al rfl rfl ?_
        refine r_il rfl rfl ?_
        refine r_v2s rfl rfl (rg_56 hC) rfl (c_leftR hC (by omega)) ?_
        refine r_is (lv' := [(3, _), (0, _), (1, _), (2, _)]) rfl rfl rfl ?_
        refine r_il rfl rfl ?_
        refine r_al rfl rfl ?_
        refine r_gf rfl rfl (rg_56 hC) rfl ?_
        refine r_bi rfl (by decide) ?_
        refine r_al rfl rfl ?_
        refine r_gf rfl rfl (rg_56 hC) rfl ?_
        refine r_ic rfl ?_
        refine r_il rfl rfl ?_
        refine r_mul rfl ?_
        refine r_ia rfl (rg_62 hC) (by omega) (by omega) (by decide) ?_
        refine r_add rfl ?_
        refine r_ia rfl (rg_57 hC) (by omega) (by omega) (by decide) ?_
        refine r_bi rfl (by decide) ?_
        refine r_odiv rfl (by decide) ?_
        refine r_add rfl ?_
        refine r_isw (lv' := [(4, _), (3, _), (0, _), (1, _), (2, _)]) rfl rfl rfl ?_
        refine r_al rfl rfl ?_
        refine r_dup rfl rfl ?_
        refine r_gf rfl rfl (rg_56 hC) rfl ?_
        refine r_il rfl rfl ?_
        refine r_zne rfl rfl (by decide) (fun g => ?_) (fun g => ?_)
        · refine r_il rfl rfl ?_
          refine r_ic rfl ?_
          refine r_cne rfl rfl (by decide) (by decide) (fun gx => ?_) (fun gx => ?_)
          · exact absurd rfl gx
          · refine r_ldc2 rfl rfl ?_
            refine r_goto rfl rfl ?_
            refine r_ladd rfl ?_
            refine r_pfl rfl rfl (rg_56 hC) rfl (rp_tr hC) ?_
            refine r_il rfl rfl ?_
            refine r_zne rfl rfl (by decide) (fun e => ?_) (fun e => ?_)
            · refine r_il rfl rfl ?_
              refine r_ic rfl ?_
              refine r_cne rfl rfl (by decide) (by decide) (fun ex => ?_) (fun ex => ?_)
              · exact absurd rfl ex
              · refine r_il rfl rfl ?_
                refine r_al rfl rfl ?_
                refine r_al rfl rfl ?_
                refine r_gf rfl rfl (rg_56 hC) rfl ?_
                refine r_ic rfl ?_
                refine r_il rfl rfl ?_
                refine r_mul rfl ?_
                refine r_ic rfl ?_
                refine r_add rfl ?_
                refine r_ia rfl (rg_62 hC) (by omega) (by omega) (by decide) ?_
                refine r_v2s rfl rfl (rg_56 hC) rfl (c_restR hC rd) ?_
                refine r_add rfl ?_
                refine r_goto rfl rfl ?_
                exact r_ret rfl rfl (hQ _)
            · exact absurd e (by decide)
        · exact absurd g (by decide)
      · exact absurd g2 (by decide)
  obtain ⟨r, h1, z, h2⟩ := rn_S (vs := [.ref 56, iv (1), iv (i)]) (Q := fun r => ∃ z : Int, r = (some (iv z), (C ++ rL (ro_ (0 : Int) (tr + 11) db sn dm sm ty nx tk pl va fa lr ri) s kp ik tn de sd dd sr tx pa))) rfl (rn_up (N := 300) (M := mm_fuel) (by decide) (main (fun r => ∃ z : Int, r = (some (iv z), (C ++ rL (ro_ (0 : Int) (tr + 11) db sn dm sm ty nx tk pl va fa lr ri) s kp ik tn de sd dd sr tx pa))) (fun z => ⟨z, rfl⟩)))
  have h1 : sX12_price [.ref 56, iv (1), iv (i)] (C ++ rL (ro_ th tr db sn dm sm ty nx tk pl va fa lr ri) s kp ik tn de sd dd sr tx pa) = some r := h1
  exact ⟨z, by rw [h1, h2]⟩
theorem c_priceRG_2 (hC : C.length = 56) (hn : 0 ≤ sn ∧ sn ≤ 16) (hS : SDr sd) (hb : i3 i 0 (sn - 1) = true) : ∃ z : Int, sX12_price [.ref 56, iv (2), iv (i)] (C ++ rL (ro_ th tr db sn dm sm ty nx tk pl va fa lr ri) s kp ik tn de sd dd sr tx pa) = some (some (iv z), (C ++ rL (ro_ (0 : Int) (tr + 101) db sn dm sm ty nx tk pl va fa lr ri) s kp ik tn de sd dd sr tx pa)) := by
  have rb := i3_t hb
  have rp := (sd_r hS (show 0 ≤ i ∧ i ≤ 15 by omega)).1
  have rd := (sd_r hS (show 0 ≤ i ∧ i ≤ 15 by omega)).2.1
  have main : ∀ Q : mm_R → Prop, (∀ z : Int, Q (some (iv z), (C ++ rL (ro_ (0 : Int) (tr + 101) db sn dm sm ty nx tk pl va fa lr ri) s kp ik tn de sd dd sr tx pa))) → rn_X12_price 300 (0, [(0, .ref 56), (1, iv (2)), (2, iv (i))], [], (C ++ rL (ro_ th tr db sn dm sm ty nx tk pl va fa lr ri) s kp ik tn de sd dd sr tx pa)) Q := by
    intro Q hQ
    refine r_al rfl rfl ?_
    refine r_ic rfl ?_
    refine r_pf rfl rfl (rg_56 hC) rfl (rp_th hC) ?_
    refine r_il rfl rfl ?_
    refine r_ic rfl ?_
    refine r_bi rfl (by decide) ?_
    refine r_s3s rfl rfl rfl (c_in (by decide) (by decide) (by decide)) ?_
    refine r_zeq rfl rfl (bi_r _) (fun g1 => ?_) (fun g1 => ?_)
    · exact absurd g1 (by decide)
    · refine r_al rfl rfl ?_
      refine r_il rfl rfl ?_
      refine r_v2s rfl rfl (rg_56 hC) rfl (c_isStandR hC (by omega) hn) ?_
      rw [hb]
      refine r_zne rfl rfl (bi_r _) (fun g2 => ?_) (fun g2 => ?_)
      · refine r_al rfl rfl ?_
        refine r_il rfl rfl ?_
        refine r_v2s rfl rfl (rg_56 hC) rfl (c_leftR hC (by omega)) ?_
        refine r_is (lv' := [(3, _), (0, _), (1, _), (2, _)]) rfl rfl rfl ?_
        refine r_il rfl rfl ?_
        refine r_al rfl rfl ?_
        refine r_gf rfl rfl (rg_56 hC) rfl ?_
        refine r_bi rfl (by decide) ?_
        refine r_al rfl rfl ?_
        refine r_gf rfl rfl (rg_56 hC) rfl ?_
        refine r_ic rfl ?_
        refine r_il rfl rfl ?_
        refine r_mul rfl ?_
        refine r_ia rfl (rg_62 hC) (by omega) (by omega) (by decide) ?_
        refine r_add rfl ?_
        refine r_ia rfl (rg_57 hC) (by omega) (by omega) (by decide) ?_
        refine r_bi rfl (by decide) ?_
        refine r_odiv rfl (by decide) ?_
        refine r_add rfl ?_
        refine r_isw (lv' := [(4, _), (3, _), (0, _), (1, _), (2, _)]) rfl rfl rfl ?_
        refine r_al rfl rfl ?_
        refine r_dup rfl rfl ?_
        refine r_gf rfl rfl (rg_56 hC) rfl ?_
        refine r_il rfl rfl ?_
        refine r_zne rfl rfl (by decide) (fun g => ?_) (fun g => ?_)
        · refine r_il rfl rfl ?_
          refine r_ic rfl ?_
          refine r_cne rfl rfl (by decide) (by decide) (fun gx => ?_) (fun gx => ?_)
          · refine r_il rfl rfl ?_
            refine r_ic rfl ?_
            refine r_cne rfl rfl (by decide) (by decide) (fun gxx => ?_) (fun gxx => ?_)
            · exact absurd rfl gxx
            · refine r_ldc2 rfl rfl ?_
              refine r_goto rfl rfl ?_
              refine r_ladd rfl ?_
              refine r_pfl rfl rfl (rg_56 hC) rfl (rp_tr hC) ?_
              refine r_il rfl rfl ?_
              refine r_zne rfl rfl (by decide) (fun e => ?_) (fun e => ?_)
              · refine r_il rfl rfl ?_
                refine r_ic rfl ?_
                refine r_cne rfl rfl (by decide) (by decide) (fun ex => ?_) (fun ex => ?_)
                · refine r_il rfl rfl ?_
                  refine r_ic rfl ?_
                  refine r_cne rfl rfl (by decide) (by decide) (fun exx => ?_) (fun exx => ?_)
                  · exact absurd rfl exx
                  · refine r_il rfl rfl ?_
                    refine r_ic rfl ?_
                    refine r_odiv rfl (by decide) ?_
                    refine r_goto rfl rfl ?_
                    exact r_ret rfl rfl (hQ _)
                · exact absurd ex (by decide)
              · exact absurd e (by decide)
          · exact absurd gx (by decide)
        · exact absurd g (by decide)
      · exact absurd g2 (by decide)
  obtain ⟨r, h1, z, h2⟩ := rn_S (vs := [.ref 56, iv (2), iv (i)]) (Q := fun r => ∃ z : Int, r = (some (iv z), (C ++ rL (ro_ (0 : Int) (tr + 101) db sn dm sm ty nx tk pl va fa lr ri) s kp ik tn de sd dd sr tx pa))) rfl (rn_up (N := 300) (M := mm_fuel) (by decide) (main (fun r => ∃ z : Int, r = (some (iv z), (C ++ rL (ro_ (0 : Int) (tr + 101) db sn dm sm ty nx tk pl va fa lr ri) s kp ik tn de sd dd sr tx pa))) (fun z => ⟨z, rfl⟩)))
  have h1 : sX12_price [.ref 56, iv (2), iv (i)] (C ++ rL (ro_ th tr db sn dm sm ty nx tk pl va fa lr ri) s kp ik tn de sd dd sr tx pa) = some r := h1
  exact ⟨z, by rw [h1, h2]⟩
theorem c_priceRG_3 (hC : C.length = 56) (hn : 0 ≤ sn ∧ sn ≤ 16) (hS : SDr sd) (hb : i3 i 0 (sn - 1) = true) : ∃ z : Int, sX12_price [.ref 56, iv (3), iv (i)] (C ++ rL (ro_ th tr db sn dm sm ty nx tk pl va fa lr ri) s kp ik tn de sd dd sr tx pa) = some (some (iv z), (C ++ rL (ro_ (0 : Int) (tr + 1001) db sn dm sm ty nx tk pl va fa lr ri) s kp ik tn de sd dd sr tx pa)) := by
  have rb := i3_t hb
  have rp := (sd_r hS (show 0 ≤ i ∧ i ≤ 15 by omega)).1
  have rd := (sd_r hS (show 0 ≤ i ∧ i ≤ 15 by omega)).2.1
  have main : ∀ Q : mm_R → Prop, (∀ z : Int, Q (some (iv z), (C ++ rL (ro_ (0 : Int) (tr + 1001) db sn dm sm ty nx tk pl va fa lr ri) s kp ik tn de sd dd sr tx pa))) → rn_X12_price 300 (0, [(0, .ref 56), (1, iv (3)), (2, iv (i))], [], (C ++ rL (ro_ th tr db sn dm sm ty nx tk pl va fa lr ri) s kp ik tn de sd dd sr tx pa)) Q := by
    intro Q hQ
    refine r_al rfl rfl ?_
    refine r_ic rfl ?_
    refine r_pf rfl rfl (rg_56 hC) rfl (rp_th hC) ?_
    refine r_il rfl rfl ?_
    refine r_ic rfl ?_
    refine r_bi rfl (by decide) ?_
    refine r_s3s rfl rfl rfl (c_in (by decide) (by decide) (by decide)) ?_
    refine r_zeq rfl rfl (bi_r _) (fun g1 => ?_) (fun g1 => ?_)
    · exact absurd g1 (by decide)
    · refine r_al rfl rfl ?_
      refine r_il rfl rfl ?_
      refine r_v2s rfl rfl (rg_56 hC) rfl (c_isStandR hC (by omega) hn) ?_
      rw [hb]
      refine r_zne rfl rfl (bi_r _) (fun g2 => ?_) (fun g2 => ?_)
      · refine r_al rfl rfl ?_
        refine r_il rfl rfl ?_
        refine r_v2s rfl rfl (rg_56 hC) rfl (c_leftR hC (by omega)) ?_
        refine r_is (lv' := [(3, _), (0, _), (1, _), (2, _)]) rfl rfl rfl ?_
        refine r_il rfl rfl ?_
        refine r_al rfl rfl ?_
        refine r_gf rfl rfl (rg_56 hC) rfl ?_
        refine r_bi rfl (by decide) ?_
        refine r_al rfl rfl ?_
        refine r_gf rfl rfl (rg_56 hC) rfl ?_
        refine r_ic rfl ?_
        refine r_il rfl rfl ?_
        refine r_mul rfl ?_
        refine r_ia rfl (rg_62 hC) (by omega) (by omega) (by decide) ?_
        refine r_add rfl ?_
        refine r_ia rfl (rg_57 hC) (by omega) (by omega) (by decide) ?_
        refine r_bi rfl (by decide) ?_
        refine r_odiv rfl (by decide) ?_
        refine r_add rfl ?_
        refine r_isw (lv' := [(4, _), (3, _), (0, _), (1, _), (2, _)]) rfl rfl rfl ?_
        refine r_al rfl rfl ?_
        refine r_dup rfl rfl ?_
        refine r_gf rfl rfl (rg_56 hC) rfl ?_
        refine r_il rfl rfl ?_
        refine r_zne rfl rfl (by decide) (fun g => ?_) (fun g => ?_)
        · refine r_il rfl rfl ?_
          refine r_ic rfl ?_
          refine r_cne rfl rfl (by decide) (by decide) (fun gx => ?_) (fun gx => ?_)
          · refine r_il rfl rfl ?_
            refine r_ic rfl ?_
            refine r_cne rfl rfl (by decide) (by decide) (fun gxx => ?_) (fun gxx => ?_)
            · refine r_il rfl rfl ?_
              refine r_ic rfl ?_
              refine r_cne rfl rfl (by decide) (by decide) (fun gxxx => ?_) (fun gxxx => ?_)
              · exact absurd rfl gxxx
              · refine r_ldc2 rfl rfl ?_
                refine r_goto rfl rfl ?_
                refine r_ladd rfl ?_
                refine r_pfl rfl rfl (rg_56 hC) rfl (rp_tr hC) ?_
                refine r_il rfl rfl ?_
                refine r_zne rfl rfl (by decide) (fun e => ?_) (fun e => ?_)
                · refine r_il rfl rfl ?_
                  refine r_ic rfl ?_
                  refine r_cne rfl rfl (by decide) (by decide) (fun ex => ?_) (fun ex => ?_)
                  · refine r_il rfl rfl ?_
                    refine r_ic rfl ?_
                    refine r_cne rfl rfl (by decide) (by decide) (fun exx => ?_) (fun exx => ?_)
                    · refine r_il rfl rfl ?_
                      refine r_ic rfl ?_
                      refine r_cne rfl rfl (by decide) (by decide) (fun exxx => ?_) (fun exxx => ?_)
                      · exact absurd rfl exxx
                      · refine r_il rfl rfl ?_
                        refine r_ic rfl ?_
                        refine r_odiv rfl (by decide) ?_
                        refine r_goto rfl rfl ?_
                        exact r_ret rfl rfl (hQ _)
                    · exact absurd exx (by decide)
                  · exact absurd ex (by decide)
                · exact absurd e (by decide)
            · exact absurd gxx (by decide)
          · exact absurd gx (by decide)
        · exact absurd g (by decide)
      · exact absurd g2 (by decide)
  obtain ⟨r, h1, z, h2⟩ := rn_S (vs := [.ref 56, iv (3), iv (i)]) (Q := fun r => ∃ z : Int, r = (some (iv z), (C ++ rL (ro_ (0 : Int) (tr + 1001) db sn dm sm ty nx tk pl va fa lr ri) s kp ik tn de sd dd sr tx pa))) rfl (rn_up (N := 300) (M := mm_fuel) (by decide) (main (fun r => ∃ z : Int, r = (some (iv z), (C ++ rL (ro_ (0 : Int) (tr + 1001) db sn dm sm ty nx tk pl va fa lr ri) s kp ik tn de sd dd sr tx pa))) (fun z => ⟨z, rfl⟩)))
  have h1 : sX12_price [.ref 56, iv (3), iv (i)] (C ++ rL (ro_ th tr db sn dm sm ty nx tk pl va fa lr ri) s kp ik tn de sd dd sr tx pa) = some r := h1
  exact ⟨z, by rw [h1, h2]⟩
theorem c_priceRG_4 (hC : C.length = 56) (hn : 0 ≤ sn ∧ sn ≤ 16) (hS : SDr sd) (hb : i3 i 0 (sn - 1) = true) : ∃ z : Int, sX12_price [.ref 56, iv (4), iv (i)] (C ++ rL (ro_ th tr db sn dm sm ty nx tk pl va fa lr ri) s kp ik tn de sd dd sr tx pa) = some (some (iv z), (C ++ rL (ro_ (0 : Int) (tr + 11001) db sn dm sm ty nx tk pl va fa lr ri) s kp ik tn de sd dd sr tx pa)) := by
  have rb := i3_t hb
  have rp := (sd_r hS (show 0 ≤ i ∧ i ≤ 15 by omega)).1
  have rd := (sd_r hS (show 0 ≤ i ∧ i ≤ 15 by omega)).2.1
  have main : ∀ Q : mm_R → Prop, (∀ z : Int, Q (some (iv z), (C ++ rL (ro_ (0 : Int) (tr + 11001) db sn dm sm ty nx tk pl va fa lr ri) s kp ik tn de sd dd sr tx pa))) → rn_X12_price 300 (0, [(0, .ref 56), (1, iv (4)), (2, iv (i))], [], (C ++ rL (ro_ th tr db sn dm sm ty nx tk pl va fa lr ri) s kp ik tn de sd dd sr tx pa)) Q := by
    intro Q hQ
    refine r_al rfl rfl ?_
    refine r_ic rfl ?_
    refine r_pf rfl rfl (rg_56 hC) rfl (rp_th hC) ?_
    refine r_il rfl rfl ?_
    refine r_ic rfl ?_
    refine r_bi rfl (by decide) ?_
    refine r_s3s rfl rfl rfl (c_in (by decide) (by decide) (by decide)) ?_
    refine r_zeq rfl rfl (bi_r _) (fun g1 => ?_) (fun g1 => ?_)
    · exact absurd g1 (by decide)
    · refine r_al rfl rfl ?_
      refine r_il rfl rfl ?_
      refine r_v2s rfl rfl (rg_56 hC) rfl (c_isStandR hC (by omega) hn) ?_
      rw [hb]
      refine r_zne rfl rfl (bi_r _) (fun g2 => ?_) (fun g2 => ?_)
      · refine r_al rfl rfl ?_
        refine r_il rfl rfl ?_
        refine r_v2s rfl rfl (rg_56 hC) rfl (c_leftR hC (by omega)) ?_
        refine r_is (lv' := [(3, _), (0, _), (1, _), (2, _)]) rfl rfl rfl ?_
        refine r_il rfl rfl ?_
        refine r_al rfl rfl ?_
        refine r_gf rfl rfl (rg_56 hC) rfl ?_
        refine r_bi rfl (by decide) ?_
        refine r_al rfl rfl ?_
        refine r_gf rfl rfl (rg_56 hC) rfl ?_
        refine r_ic rfl ?_
        refine r_il rfl rfl ?_
        refine r_mul rfl ?_
        refine r_ia rfl (rg_62 hC) (by omega) (by omega) (by decide) ?_
        refine r_add rfl ?_
        refine r_ia rfl (rg_57 hC) (by omega) (by omega) (by decide) ?_
        refine r_bi rfl (by decide) ?_
        refine r_odiv rfl (by decide) ?_
        refine r_add rfl ?_
        refine r_isw (lv' := [(4, _), (3, _), (0, _), (1, _), (2, _)]) rfl rfl rfl ?_
        refine r_al rfl rfl ?_
        refine r_dup rfl rfl ?_
        refine r_gf rfl rfl (rg_56 hC) rfl ?_
        refine r_il rfl rfl ?_
        refine r_zne rfl rfl (by decide) (fun g => ?_) (fun g => ?_)
        · refine r_il rfl rfl ?_
          refine r_ic rfl ?_
          refine r_cne rfl rfl (by decide) (by decide) (fun gx => ?_) (fun gx => ?_)
          · refine r_il rfl rfl ?_
            refine r_ic rfl ?_
            refine r_cne rfl rfl (by decide) (by decide) (fun gxx => ?_) (fun gxx => ?_)
            · refine r_il rfl rfl ?_
              refine r_ic rfl ?_
              refine r_cne rfl rfl (by decide) (by decide) (fun gxxx => ?_) (fun gxxx => ?_)
              · refine r_il rfl rfl ?_
                refine r_ic rfl ?_
                refine r_cne rfl rfl (by decide) (by decide) (fun gxxxx => ?_) (fun gxxxx => ?_)
                · exact absurd rfl gxxxx
                · refine r_ldc2 rfl rfl ?_
                  refine r_goto rfl rfl ?_
                  refine r_ladd rfl ?_
                  refine r_pfl rfl rfl (rg_56 hC) rfl (rp_tr hC) ?_
                  refine r_il rfl rfl ?_
                  refine r_zne rfl rfl (by decide) (fun e => ?_) (fun e => ?_)
                  · refine r_il rfl rfl ?_
                    refine r_ic rfl ?_
                    refine r_cne rfl rfl (by decide) (by decide) (fun ex => ?_) (fun ex => ?_)
                    · refine r_il rfl rfl ?_
                      refine r_ic rfl ?_
                      refine r_cne rfl rfl (by decide) (by decide) (fun exx => ?_) (fun exx => ?_)
                      · refine r_il rfl rfl ?_
                        refine r_ic rfl ?_
                        refine r_cne rfl rfl (by decide) (by decide) (fun exxx => ?_) (fun exxx => ?_)
                        · refine r_il rfl rfl ?_
                          refine r_ic rfl ?_
                          refine r_cne rfl rfl (by decide) (by decide) (fun exxxx => ?_) (fun exxxx => ?_)
                          · exact absurd rfl exxxx
                          · refine r_il rfl rfl ?_
                            refine r_ic rfl ?_
                            refine r_odiv rfl (by decide) ?_
                            refine r_ic rfl ?_
                            refine r_add rfl ?_
                            refine r_goto rfl rfl ?_
                            exact r_ret rfl rfl (hQ _)
                        · exact absurd exxx (by decide)
                      · exact absurd exx (by decide)
                    · exact absurd ex (by decide)
                  · exact absurd e (by decide)
              · exact absurd gxxx (by decide)
            · exact absurd gxx (by decide)
          · exact absurd gx (by decide)
        · exact absurd g (by decide)
      · exact absurd g2 (by decide)
  obtain ⟨r, h1, z, h2⟩ := rn_S (vs := [.ref 56, iv (4), iv (i)]) (Q := fun r => ∃ z : Int, r = (some (iv z), (C ++ rL (ro_ (0 : Int) (tr + 11001) db sn dm sm ty nx tk pl va fa lr ri) s kp ik tn de sd dd sr tx pa))) rfl (rn_up (N := 300) (M := mm_fuel) (by decide) (main (fun r => ∃ z : Int, r = (some (iv z), (C ++ rL (ro_ (0 : Int) (tr + 11001) db sn dm sm ty nx tk pl va fa lr ri) s kp ik tn de sd dd sr tx pa))) (fun z => ⟨z, rfl⟩)))
  have h1 : sX12_price [.ref 56, iv (4), iv (i)] (C ++ rL (ro_ th tr db sn dm sm ty nx tk pl va fa lr ri) s kp ik tn de sd dd sr tx pa) = some r := h1
  exact ⟨z, by rw [h1, h2]⟩
theorem c_priceRG_5 (hC : C.length = 56) (hn : 0 ≤ sn ∧ sn ≤ 16) (hS : SDr sd) (hb : i3 i 0 (sn - 1) = true) : ∃ z : Int, sX12_price [.ref 56, iv (5), iv (i)] (C ++ rL (ro_ th tr db sn dm sm ty nx tk pl va fa lr ri) s kp ik tn de sd dd sr tx pa) = some (some (iv z), (C ++ rL (ro_ (0 : Int) (tr + 100001) db sn dm sm ty nx tk pl va fa lr ri) s kp ik tn de sd dd sr tx pa)) := by
  have rb := i3_t hb
  have rp := (sd_r hS (show 0 ≤ i ∧ i ≤ 15 by omega)).1
  have rd := (sd_r hS (show 0 ≤ i ∧ i ≤ 15 by omega)).2.1
  have main : ∀ Q : mm_R → Prop, (∀ z : Int, Q (some (iv z), (C ++ rL (ro_ (0 : Int) (tr + 100001) db sn dm sm ty nx tk pl va fa lr ri) s kp ik tn de sd dd sr tx pa))) → rn_X12_price 300 (0, [(0, .ref 56), (1, iv (5)), (2, iv (i))], [], (C ++ rL (ro_ th tr db sn dm sm ty nx tk pl va fa lr ri) s kp ik tn de sd dd sr tx pa)) Q := by
    intro Q hQ
    refine r_al rfl rfl ?_
    refine r_ic rfl ?_
    refine r_pf rfl rfl (rg_56 hC) rfl (rp_th hC) ?_
    refine r_il rfl rfl ?_
    refine r_ic rfl ?_
    refine r_bi rfl (by decide) ?_
    refine r_s3s rfl rfl rfl (c_in (by decide) (by decide) (by decide)) ?_
    refine r_zeq rfl rfl (bi_r _) (fun g1 => ?_) (fun g1 => ?_)
    · exact absurd g1 (by decide)
    · refine r_al rfl rfl ?_
      refine r_il rfl rfl ?_
      refine r_v2s rfl rfl (rg_56 hC) rfl (c_isStandR hC (by omega) hn) ?_
      rw [hb]
      refine r_zne rfl rfl (bi_r _) (fun g2 => ?_) (fun g2 => ?_)
      · refine r_al rfl rfl ?_
        refine r_il rfl rfl ?_
        refine r_v2s rfl rfl (rg_56 hC) rfl (c_leftR hC (by omega)) ?_
        refine r_is (lv' := [(3, _), (0, _), (1, _), (2, _)]) rfl rfl rfl ?_
        refine r_il rfl rfl ?_
        refine r_al rfl rfl ?_
        refine r_gf rfl rfl (rg_56 hC) rfl ?_
        refine r_bi rfl (by decide) ?_
        refine r_al rfl rfl ?_
        refine r_gf rfl rfl (rg_56 hC) rfl ?_
        refine r_ic rfl ?_
        refine r_il rfl rfl ?_
        refine r_mul rfl ?_
        refine r_ia rfl (rg_62 hC) (by omega) (by omega) (by decide) ?_
        refine r_add rfl ?_
        refine r_ia rfl (rg_57 hC) (by omega) (by omega) (by decide) ?_
        refine r_bi rfl (by decide) ?_
        refine r_odiv rfl (by decide) ?_
        refine r_add rfl ?_
        refine r_isw (lv' := [(4, _), (3, _), (0, _), (1, _), (2, _)]) rfl rfl rfl ?_
        refine r_al rfl rfl ?_
        refine r_dup rfl rfl ?_
        refine r_gf rfl rfl (rg_56 hC) rfl ?_
        refine r_il rfl rfl ?_
        refine r_zne rfl rfl (by decide) (fun g => ?_) (fun g => ?_)
        · refine r_il rfl rfl ?_
          refine r_ic rfl ?_
          refine r_cne rfl rfl (by decide) (by decide) (fun gx => ?_) (fun gx => ?_)
          · refine r_il rfl rfl ?_
            refine r_ic rfl ?_
            refine r_cne rfl rfl (by decide) (by decide) (fun gxx => ?_) (fun gxx => ?_)
            · refine r_il rfl rfl ?_
              refine r_ic rfl ?_
              refine r_cne rfl rfl (by decide) (by decide) (fun gxxx => ?_) (fun gxxx => ?_)
              · refine r_il rfl rfl ?_
                refine r_ic rfl ?_
                refine r_cne rfl rfl (by decide) (by decide) (fun gxxxx => ?_) (fun gxxxx => ?_)
                · refine r_il rfl rfl ?_
                  refine r_ic rfl ?_
                  refine r_cne rfl rfl (by decide) (by decide) (fun gxxxxx => ?_) (fun gxxxxx => ?_)
                  · exact absurd rfl gxxxxx
                  · refine r_ldc2 rfl rfl ?_
                    refine r_goto rfl rfl ?_
                    refine r_ladd rfl ?_
                    refine r_pfl rfl rfl (rg_56 hC) rfl (rp_tr hC) ?_
                    refine r_il rfl rfl ?_
                    refine r_zne rfl rfl (by decide) (fun e => ?_) (fun e => ?_)
                    · refine r_il rfl rfl ?_
                      refine r_ic rfl ?_
                      refine r_cne rfl rfl (by decide) (by decide) (fun ex => ?_) (fun ex => ?_)
                      · refine r_il rfl rfl ?_
                        refine r_ic rfl ?_
                        refine r_cne rfl rfl (by decide) (by decide) (fun exx => ?_) (fun exx => ?_)
                        · refine r_il rfl rfl ?_
                          refine r_ic rfl ?_
                          refine r_cne rfl rfl (by decide) (by decide) (fun exxx => ?_) (fun exxx => ?_)
                          · refine r_il rfl rfl ?_
                            refine r_ic rfl ?_
                            refine r_cne rfl rfl (by decide) (by decide) (fun exxxx => ?_) (fun exxxx => ?_)
                            · refine r_il rfl rfl ?_
                              refine r_ic rfl ?_
                              refine r_cne rfl rfl (by decide) (by decide) (fun exxxxx => ?_) (fun exxxxx => ?_)
                              · exact absurd rfl exxxxx
                              · refine r_ilw rfl rfl ?_
                                refine r_goto rfl rfl ?_
                                exact r_ret rfl rfl (hQ _)
                            · exact absurd exxxx (by decide)
                          · exact absurd exxx (by decide)
                        · exact absurd exx (by decide)
                      · exact absurd ex (by decide)
                    · exact absurd e (by decide)
                · exact absurd gxxxx (by decide)
              · exact absurd gxxx (by decide)
            · exact absurd gxx (by decide)
          · exact absurd gx (by decide)
        · exact absurd g (by decide)
      · exact absurd g2 (by decide)
  obtain ⟨r, h1, z, h2⟩ := rn_S (vs := [.ref 56, iv (5), iv (i)]) (Q := fun r => ∃ z : Int, r = (some (iv z), (C ++ rL (ro_ (0 : Int) (tr + 100001) db sn dm sm ty nx tk pl va fa lr ri) s kp ik tn de sd dd sr tx pa))) rfl (rn_up (N := 300) (M := mm_fuel) (by decide) (main (fun r => ∃ z : Int, r = (some (iv z), (C ++ rL (ro_ (0 : Int) (tr + 100001) db sn dm sm ty nx tk pl va fa lr ri) s kp ik tn de sd dd sr tx pa))) (fun z => ⟨z, rfl⟩)))
  have h1 : sX12_price [.ref 56, iv (5), iv (i)] (C ++ rL (ro_ th tr db sn dm sm ty nx tk pl va fa lr ri) s kp ik tn de sd dd sr tx pa) = some r := h1
  exact ⟨z, by rw [h1, h2]⟩
theorem c_priceRG_6 (hC : C.length = 56) (hn : 0 ≤ sn ∧ sn ≤ 16) (hS : SDr sd) (hb : i3 i 0 (sn - 1) = true) : ∃ z : Int, sX12_price [.ref 56, iv (6), iv (i)] (C ++ rL (ro_ th tr db sn dm sm ty nx tk pl va fa lr ri) s kp ik tn de sd dd sr tx pa) = some (some (iv z), (C ++ rL (ro_ (0 : Int) (tr + 1100001) db sn dm sm ty nx tk pl va fa lr ri) s kp ik tn de sd dd sr tx pa)) := by
  have rb := i3_t hb
  have rp := (sd_r hS (show 0 ≤ i ∧ i ≤ 15 by omega)).1
  have rd := (sd_r hS (show 0 ≤ i ∧ i ≤ 15 by omega)).2.1
  have main : ∀ Q : mm_R → Prop, (∀ z : Int, Q (some (iv z), (C ++ rL (ro_ (0 : Int) (tr + 1100001) db sn dm sm ty nx tk pl va fa lr ri) s kp ik tn de sd dd sr tx pa))) → rn_X12_price 300 (0, [(0, .ref 56), (1, iv (6)), (2, iv (i))], [], (C ++ rL (ro_ th tr db sn dm sm ty nx tk pl va fa lr ri) s kp ik tn de sd dd sr tx pa)) Q := by
    intro Q hQ
    refine r_al rfl rfl ?_
    refine r_ic rfl ?_
    refine r_pf rfl rfl (rg_56 hC) rfl (rp_th hC) ?_
    refine r_il rfl rfl ?_
    refine r_ic rfl ?_
    refine r_bi rfl (by decide) ?_
    refine r_s3s rfl rfl rfl (c_in (by decide) (by decide) (by decide)) ?_
    refine r_zeq rfl rfl (bi_r _) (fun g1 => ?_) (fun g1 => ?_)
    · exact absurd g1 (by decide)
    · refine r_al rfl rfl ?_
      refine r_il rfl rfl ?_
      refine r_v2s rfl rfl (rg_56 hC) rfl (c_isStandR hC (by omega) hn) ?_
      rw [hb]
      refine r_zne rfl rfl (bi_r _) (fun g2 => ?_) (fun g2 => ?_)
      · refine r_al rfl rfl ?_
        refine r_il rfl rfl ?_
        refine r_v2s rfl rfl (rg_56 hC) rfl (c_leftR hC (by omega)) ?_
        refine r_is (lv' := [(3, _), (0, _), (1, _), (2, _)]) rfl rfl rfl ?_
        refine r_il rfl rfl ?_
        refine r_al rfl rfl ?_
        refine r_gf rfl rfl (rg_56 hC) rfl ?_
        refine r_bi rfl (by decide) ?_
        refine r_al rfl rfl ?_
        refine r_gf rfl rfl (rg_56 hC) rfl ?_
        refine r_ic rfl ?_
        refine r_il rfl rfl ?_
        refine r_mul rfl ?_
        refine r_ia rfl (rg_62 hC) (by omega) (by omega) (by decide) ?_
        refine r_add rfl ?_
        refine r_ia rfl (rg_57 hC) (by omega) (by omega) (by decide) ?_
        refine r_bi rfl (by decide) ?_
        refine r_odiv rfl (by decide) ?_
        refine r_add rfl ?_
        refine r_isw (lv' := [(4, _), (3, _), (0, _), (1, _), (2, _)]) rfl rfl rfl ?_
        refine r_al rfl rfl ?_
        refine r_dup rfl rfl ?_
        refine r_gf rfl rfl (rg_56 hC) rfl ?_
        refine r_il rfl rfl ?_
        refine r_zne rfl rfl (by decide) (fun g => ?_) (fun g => ?_)
        · refine r_il rfl rfl ?_
          refine r_ic rfl ?_
          refine r_cne rfl rfl (by decide) (by decide) (fun gx => ?_) (fun gx => ?_)
          · refine r_il rfl rfl ?_
            refine r_ic rfl ?_
            refine r_cne rfl rfl (by decide) (by decide) (fun gxx => ?_) (fun gxx => ?_)
            · refine r_il rfl rfl ?_
              refine r_ic rfl ?_
              refine r_cne rfl rfl (by decide) (by decide) (fun gxxx => ?_) (fun gxxx => ?_)
              · refine r_il rfl rfl ?_
                refine r_ic rfl ?_
                refine r_cne rfl rfl (by decide) (by decide) (fun gxxxx => ?_) (fun gxxxx => ?_)
                · refine r_il rfl rfl ?_
                  refine r_ic rfl ?_
                  refine r_cne rfl rfl (by decide) (by decide) (fun gxxxxx => ?_) (fun gxxxxx => ?_)
                  · refine r_ldc2 rfl rfl ?_
                    refine r_ladd rfl ?_
                    refine r_pfl rfl rfl (rg_56 hC) rfl (rp_tr hC) ?_
                    refine r_il rfl rfl ?_
                    refine r_zne rfl rfl (by decide) (fun e => ?_) (fun e => ?_)
                    · refine r_il rfl rfl ?_
                      refine r_ic rfl ?_
                      refine r_cne rfl rfl (by decide) (by decide) (fun ex => ?_) (fun ex => ?_)
                      · refine r_il rfl rfl ?_
                        refine r_ic rfl ?_
                        refine r_cne rfl rfl (by decide) (by decide) (fun exx => ?_) (fun exx => ?_)
                        · refine r_il rfl rfl ?_
                          refine r_ic rfl ?_
                          refine r_cne rfl rfl (by decide) (by decide) (fun exxx => ?_) (fun exxx => ?_)
                          · refine r_il rfl rfl ?_
                            refine r_ic rfl ?_
                            refine r_cne rfl rfl (by decide) (by decide) (fun exxxx => ?_) (fun exxxx => ?_)
                            · refine r_il rfl rfl ?_
                              refine r_ic rfl ?_
                              refine r_cne rfl rfl (by decide) (by decide) (fun exxxxx => ?_) (fun exxxxx => ?_)
                              · refine r_ilw rfl rfl ?_
                                refine r_il rfl rfl ?_
                                refine r_sub rfl ?_
                                exact r_ret rfl rfl (hQ _)
                              · exact absurd exxxxx (by decide)
                            · exact absurd exxxx (by decide)
                          · exact absurd exxx (by decide)
                        · exact absurd exx (by decide)
                      · exact absurd ex (by decide)
                    · exact absurd e (by decide)
                  · exact absurd gxxxxx (by decide)
                · exact absurd gxxxx (by decide)
              · exact absurd gxxx (by decide)
            · exact absurd gxx (by decide)
          · exact absurd gx (by decide)
        · exact absurd g (by decide)
      · exact absurd g2 (by decide)
  obtain ⟨r, h1, z, h2⟩ := rn_S (vs := [.ref 56, iv (6), iv (i)]) (Q := fun r => ∃ z : Int, r = (some (iv z), (C ++ rL (ro_ (0 : Int) (tr + 1100001) db sn dm sm ty nx tk pl va fa lr ri) s kp ik tn de sd dd sr tx pa))) rfl (rn_up (N := 300) (M := mm_fuel) (by decide) (main (fun r => ∃ z : Int, r = (some (iv z), (C ++ rL (ro_ (0 : Int) (tr + 1100001) db sn dm sm ty nx tk pl va fa lr ri) s kp ik tn de sd dd sr tx pa))) (fun z => ⟨z, rfl⟩)))
  have h1 : sX12_price [.ref 56, iv (6), iv (i)] (C ++ rL (ro_ th tr db sn dm sm ty nx tk pl va fa lr ri) s kp ik tn de sd dd sr tx pa) = some r := h1
  exact ⟨z, by rw [h1, h2]⟩
end PRR
theorem LI_price0 {mw : List va_E} {k i : Int} (hk : -2147483648 ≤ k ∧ k ≤ 2147483647) (hi : -2147483648 ≤ i ∧ i ≤ 2147483647) (h : LI false mw) : ∃ (c c' : Int) (mw1 mw2 : List va_E), sX11_price [.ref 0, iv k, iv i] mw = some (some (iv c), mw1) ∧ sX12_price [.ref 56, iv k, iv i] mw1 = some (some (iv c'), mw2) ∧ LI false mw2 ∧ mid mw1 := by
  refine LI_elim h (fun ki ln bt rl cp cs ct cv rr dr ja ea ma a1 a2 a3 a4 a5 a6 a7 a8 jb eb mb b1 b2 b3 b4 b5 b6 b7 b8 re fl g1 g2 g3 g4 g5 rt la rs rg pd du ds me tt gr su gp mk rf m1 m2 m3 m4 m5 mr mf n1 n2 n3 n4 n5 nr nf th tr db sn dm sm ty nx tk pl va fa lr ri s kp ik tn de sd dd sr tx pa e hh => ?_)
  obtain ⟨⟨⟨hla, hrf⟩, ⟨e1, e2⟩, ⟨q1, q2, q3, q4, q5, q6, q7, q8, q9, q10⟩, r1, r2, r3, r4, r5, r6, r7, r8, r9, r10⟩, hX, hK, ⟨et, hl⟩, hRo, hRo2, hLG, hI0, hI1, hik, htt, hmk⟩ := hh
  subst e
  clear h
  obtain rfl : rr = 5 := e1
  obtain rfl : dr = 14 := e2
  obtain ⟨k1, k2, k3, k4, k5⟩ := hRo rfl
  subst k2
  cases hok : (i3 k 0 6 && i3 i 0 (ma - 1)) with
  | false =>
    refine ⟨-1, -1, (GW ki ln bt rl cp cs ct cv 5 14 ja ea ma a1 a2 a3 a4 a5 a6 a7 a8 jb eb mb b1 b2 b3 b4 b5 b6 b7 b8 re fl g1 g2 g3 g4 g5 rt la rs rg pd du ds me tt gr su gp mk rf m1 m2 m3 m4 m5 mr mf n1 n2 n3 n4 n5 nr nf th tr db ma dm sm ty nx tk pl va fa lr ri s kp ik tn de sd dd sr tx pa), (GW ki ln bt rl cp cs ct cv 5 14 ja ea ma a1 a2 a3 a4 a5 a6 a7 a8 jb eb mb b1 b2 b3 b4 b5 b6 b7 b8 re fl g1 g2 g3 g4 g5 rt la rs rg pd du ds me tt gr su gp mk rf m1 m2 m3 m4 m5 mr mf n1 n2 n3 n4 n5 nr nf 0 tr db ma dm sm ty nx tk pl va fa lr ri s kp ik tn de sd dd sr tx pa), c_priceB0 hk hi r2 hok, c_priceRB (C := (cW ki ln bt rl cp cs ct cv 5 14 ja ea ma a1 a2 a3 a4 a5 a6 a7 a8 jb eb mb b1 b2 b3 b4 b5 b6 b7 b8 re fl g1 g2 g3 g4 g5 (dW rt la rs rg pd du ds me tt gr su gp mk rf m1 m2 m3 m4 m5 mr mf n1 n2 n3 n4 n5 nr nf []))) (th := th) (tr := tr) (db := db) (sn := ma) (dm := dm) (sm := sm) (ty := ty) (nx := nx) (tk := tk) (pl := pl) (va := va) (fa := fa) (lr := lr) (ri := ri) (s := s) (kp := kp) (ik := ik) (tn := tn) (de := de) (sd := sd) (dd := dd) (sr := sr) (tx := tx) (pa := pa) rfl hk hi r2 hok, ?_, mid_GW⟩
    exact LI_to ⟨⟨⟨hla, hrf⟩, ⟨rfl, rfl⟩, ⟨q1, q2, q3, q4, q5, q6, q7, q8, q9, q10⟩, r1, r2, r3, r4, r5, r6, r7, r8, r9, r10⟩, hX, hK, ⟨et, hl⟩, hRo, hRo2, hLG, hI0, hI1, hik, htt, hmk⟩
  | true =>
    rw [Bool.and_eq_true] at hok
    obtain ⟨w1, w2⟩ := hok
    have rk := i3_t w1
    have hk7 : k = 0 ∨ k = 1 ∨ k = 2 ∨ k = 3 ∨ k = 4 ∨ k = 5 ∨ k = 6 := by omega
    rcases hk7 with rfl | rfl | rfl | rfl | rfl | rfl | rfl
    · obtain ⟨z1, h1⟩ := c_priceG0_0 (E := (rL (ro_ th tr db ma dm sm ty nx tk pl va fa lr ri) s kp ik tn de sd dd sr tx pa)) (i := i) (ki := ki) (ln := ln) (bt := bt) (rl := rl) (cp := cp) (cs := cs) (ct := ct) (cv := cv) (ja := ja) (ea := ea) (ma := ma) (a1 := a1) (a2 := a2) (a3 := a3) (a4 := a4) (a5 := a5) (a6 := a6) (a7 := a7) (a8 := a8) (jb := jb) (eb := eb) (mb := mb) (b1 := b1) (b2 := b2) (b3 := b3) (b4 := b4) (b5 := b5) (b6 := b6) (b7 := b7) (b8 := b8) (re := re) (fl := fl) (g1 := g1) (g2 := g2) (g3 := g3) (g4 := g4) (g5 := g5) (rt := rt) (la := la) (rs := rs) (rg := rg) (pd := pd) (du := du) (ds := ds) (me := me) (tt := tt) (gr := gr) (su := su) (gp := gp) (mk := mk) (rf := rf) (m1 := m1) (m2 := m2) (m3 := m3) (m4 := m4) (m5 := m5) (mr := mr) (mf := mf) (n1 := n1) (n2 := n2) (n3 := n3) (n4 := n4) (n5 := n5) (nr := nr) (nf := nf) rfl r2 q8 w2
      obtain ⟨z2, h2⟩ := c_priceRG_0 (C := (cW ki ln bt rl cp cs ct cv 5 14 ja ea ma a1 a2 a3 a4 a5 a6 a7 a8 jb eb mb b1 b2 b3 b4 b5 b6 b7 b8 re fl g1 g2 g3 g4 g5 (dW rt la rs rg pd du ds me tt gr su gp (mk + (Int32.ofInt (mm_mrk (Int.toNat 0)).toInt).toInt64) rf m1 m2 m3 m4 m5 mr mf n1 n2 n3 n4 n5 nr nf []))) (i := i) (th := th) (tr := tr) (db := db) (sn := ma) (dm := dm) (sm := sm) (ty := ty) (nx := nx) (tk := tk) (pl := pl) (va := va) (fa := fa) (lr := lr) (ri := ri) (s := s) (kp := kp) (ik := ik) (tn := tn) (de := de) (sd := sd) (dd := dd) (sr := sr) (tx := tx) (pa := pa) rfl r2 r9 w2
      have hm : (mk + (Int32.ofInt (mm_mrk (Int.toNat 0)).toInt).toInt64) = tr + 1 := by rw [hmk, show (Int32.ofInt (mm_mrk (Int.toNat 0)).toInt).toInt64 = 1 by decide +kernel]
      exact ⟨z1, z2, (GW ki ln bt rl cp cs ct cv 5 14 ja ea ma a1 a2 a3 a4 a5 a6 a7 a8 jb eb mb b1 b2 b3 b4 b5 b6 b7 b8 re fl g1 g2 g3 g4 g5 rt la rs rg pd du ds me tt gr su gp (mk + (Int32.ofInt (mm_mrk (Int.toNat 0)).toInt).toInt64) rf m1 m2 m3 m4 m5 mr mf n1 n2 n3 n4 n5 nr nf th tr db ma dm sm ty nx tk pl va fa lr ri s kp ik tn de sd dd sr tx pa), (GW ki ln bt rl cp cs ct cv 5 14 ja ea ma a1 a2 a3 a4 a5 a6 a7 a8 jb eb mb b1 b2 b3 b4 b5 b6 b7 b8 re fl g1 g2 g3 g4 g5 rt la rs rg pd du ds me tt gr su gp (mk + (Int32.ofInt (mm_mrk (Int.toNat 0)).toInt).toInt64) rf m1 m2 m3 m4 m5 mr mf n1 n2 n3 n4 n5 nr nf 0 (tr + 1) db ma dm sm ty nx tk pl va fa lr ri s kp ik tn de sd dd sr tx pa), h1, h2, LI_to ⟨⟨⟨hla, hrf⟩, ⟨rfl, rfl⟩, ⟨q1, q2, q3, q4, q5, q6, q7, q8, q9, q10⟩, r1, r2, r3, r4, r5, r6, r7, r8, r9, r10⟩, hX, hK, ⟨et, hl⟩, hRo, hRo2, hLG, hI0, hI1, hik, htt, hm⟩, mid_GW⟩
    · obtain ⟨z1, h1⟩ := c_priceG0_1 (E := (rL (ro_ th tr db ma dm sm ty nx tk pl va fa lr ri) s kp ik tn de sd dd sr tx pa)) (i := i) (ki := ki) (ln := ln) (bt := bt) (rl := rl) (cp := cp) (cs := cs) (ct := ct) (cv := cv) (ja := ja) (ea := ea) (ma := ma) (a1 := a1) (a2 := a2) (a3 := a3) (a4 := a4) (a5 := a5) (a6 := a6) (a7 := a7) (a8 := a8) (jb := jb) (eb := eb) (mb := mb) (b1 := b1) (b2 := b2) (b3 := b3) (b4 := b4) (b5 := b5) (b6 := b6) (b7 := b7) (b8 := b8) (re := re) (fl := fl) (g1 := g1) (g2 := g2) (g3 := g3) (g4 := g4) (g5 := g5) (rt := rt) (la := la) (rs := rs) (rg := rg) (pd := pd) (du := du) (ds := ds) (me := me) (tt := tt) (gr := gr) (su := su) (gp := gp) (mk := mk) (rf := rf) (m1 := m1) (m2 := m2) (m3 := m3) (m4 := m4) (m5 := m5) (mr := mr) (mf := mf) (n1 := n1) (n2 := n2) (n3 := n3) (n4 := n4) (n5 := n5) (nr := nr) (nf := nf) rfl r2 q8 w2
      obtain ⟨z2, h2⟩ := c_priceRG_1 (C := (cW ki ln bt rl cp cs ct cv 5 14 ja ea ma a1 a2 a3 a4 a5 a6 a7 a8 jb eb mb b1 b2 b3 b4 b5 b6 b7 b8 re fl g1 g2 g3 g4 g5 (dW rt la rs rg pd du ds me tt gr su gp ((mk + (Int32.ofInt (mm_mrk (Int.toNat 1)).toInt).toInt64) + (Int32.ofInt (mm_mrk (Int.toNat 0)).toInt).toInt64) rf m1 m2 m3 m4 m5 mr mf n1 n2 n3 n4 n5 nr nf []))) (i := i) (th := th) (tr := tr) (db := db) (sn := ma) (dm := dm) (sm := sm) (ty := ty) (nx := nx) (tk := tk) (pl := pl) (va := va) (fa := fa) (lr := lr) (ri := ri) (s := s) (kp := kp) (ik := ik) (tn := tn) (de := de) (sd := sd) (dd := dd) (sr := sr) (tx := tx) (pa := pa) rfl r2 r9 w2
      have hm : ((mk + (Int32.ofInt (mm_mrk (Int.toNat 1)).toInt).toInt64) + (Int32.ofInt (mm_mrk (Int.toNat 0)).toInt).toInt64) = tr + 11 := by rw [hmk, Int64.add_assoc, show ((Int32.ofInt (mm_mrk (Int.toNat 1)).toInt).toInt64 + (Int32.ofInt (mm_mrk (Int.toNat 0)).toInt).toInt64) = 11 by decide +kernel]
      exact ⟨z1, z2, (GW ki ln bt rl cp cs ct cv 5 14 ja ea ma a1 a2 a3 a4 a5 a6 a7 a8 jb eb mb b1 b2 b3 b4 b5 b6 b7 b8 re fl g1 g2 g3 g4 g5 rt la rs rg pd du ds me tt gr su gp ((mk + (Int32.ofInt (mm_mrk (Int.toNat 1)).toInt).toInt64) + (Int32.ofInt (mm_mrk (Int.toNat 0)).toInt).toInt64) rf m1 m2 m3 m4 m5 mr mf n1 n2 n3 n4 n5 nr nf th tr db ma dm sm ty nx tk pl va fa lr ri s kp ik tn de sd dd sr tx pa), (GW ki ln bt rl cp cs ct cv 5 14 ja ea ma a1 a2 a3 a4 a5 a6 a7 a8 jb eb mb b1 b2 b3 b4 b5 b6 b7 b8 re fl g1 g2 g3 g4 g5 rt la rs rg pd du ds me tt gr su gp ((mk + (Int32.ofInt (mm_mrk (Int.toNat 1)).toInt).toInt64) + (Int32.ofInt (mm_mrk (Int.toNat 0)).toInt).toInt64) rf m1 m2 m3 m4 m5 mr mf n1 n2 n3 n4 n5 nr nf 0 (tr + 11) db ma dm sm ty nx tk pl va fa lr ri s kp ik tn de sd dd sr tx pa), h1, h2, LI_to ⟨⟨⟨hla, hrf⟩, ⟨rfl, rfl⟩, ⟨q1, q2, q3, q4, q5, q6, q7, q8, q9, q10⟩, r1, r2, r3, r4, r5, r6, r7, r8, r9, r10⟩, hX, hK, ⟨et, hl⟩, hRo, hRo2, hLG, hI0, hI1, hik, htt, hm⟩, mid_GW⟩
    · obtain ⟨z1, h1⟩ := c_priceG0_2 (E := (rL (ro_ th tr db ma dm sm ty nx tk pl va fa lr ri) s kp ik tn de sd dd sr tx pa)) (i := i) (ki := ki) (ln := ln) (bt := bt) (rl := rl) (cp := cp) (cs := cs) (ct := ct) (cv := cv) (ja := ja) (ea := ea) (ma := ma) (a1 := a1) (a2 := a2) (a3 := a3) (a4 := a4) (a5 := a5) (a6 := a6) (a7 := a7) (a8 := a8) (jb := jb) (eb := eb) (mb := mb) (b1 := b1) (b2 := b2) (b3 := b3) (b4 := b4) (b5 := b5) (b6 := b6) (b7 := b7) (b8 := b8) (re := re) (fl := fl) (g1 := g1) (g2 := g2) (g3 := g3) (g4 := g4) (g5 := g5) (rt := rt) (la := la) (rs := rs) (rg := rg) (pd := pd) (du := du) (ds := ds) (me := me) (tt := tt) (gr := gr) (su := su) (gp := gp) (mk := mk) (rf := rf) (m1 := m1) (m2 := m2) (m3 := m3) (m4 := m4) (m5 := m5) (mr := mr) (mf := mf) (n1 := n1) (n2 := n2) (n3 := n3) (n4 := n4) (n5 := n5) (nr := nr) (nf := nf) rfl r2 q8 w2
      obtain ⟨z2, h2⟩ := c_priceRG_2 (C := (cW ki ln bt rl cp cs ct cv 5 14 ja ea ma a1 a2 a3 a4 a5 a6 a7 a8 jb eb mb b1 b2 b3 b4 b5 b6 b7 b8 re fl g1 g2 g3 g4 g5 (dW rt la rs rg pd du ds me tt gr su gp ((mk + (Int32.ofInt (mm_mrk (Int.toNat 2)).toInt).toInt64) + (Int32.ofInt (mm_mrk (Int.toNat 0)).toInt).toInt64) rf m1 m2 m3 m4 m5 mr mf n1 n2 n3 n4 n5 nr nf []))) (i := i) (th := th) (tr := tr) (db := db) (sn := ma) (dm := dm) (sm := sm) (ty := ty) (nx := nx) (tk := tk) (pl := pl) (va := va) (fa := fa) (lr := lr) (ri := ri) (s := s) (kp := kp) (ik := ik) (tn := tn) (de := de) (sd := sd) (dd := dd) (sr := sr) (tx := tx) (pa := pa) rfl r2 r9 w2
      have hm : ((mk + (Int32.ofInt (mm_mrk (Int.toNat 2)).toInt).toInt64) + (Int32.ofInt (mm_mrk (Int.toNat 0)).toInt).toInt64) = tr + 101 := by rw [hmk, Int64.add_assoc, show ((Int32.ofInt (mm_mrk (Int.toNat 2)).toInt).toInt64 + (Int32.ofInt (mm_mrk (Int.toNat 0)).toInt).toInt64) = 101 by decide +kernel]
      exact ⟨z1, z2, (GW ki ln bt rl cp cs ct cv 5 14 ja ea ma a1 a2 a3 a4 a5 a6 a7 a8 jb eb mb b1 b2 b3 b4 b5 b6 b7 b8 re fl g1 g2 g3 g4 g5 rt la rs rg pd du ds me tt gr su gp ((mk + (Int32.ofInt (mm_mrk (Int.toNat 2)).toInt).toInt64) + (Int32.ofInt (mm_mrk (Int.toNat 0)).toInt).toInt64) rf m1 m2 m3 m4 m5 mr mf n1 n2 n3 n4 n5 nr nf th tr db ma dm sm ty nx tk pl va fa lr ri s kp ik tn de sd dd sr tx pa), (GW ki ln bt rl cp cs ct cv 5 14 ja ea ma a1 a2 a3 a4 a5 a6 a7 a8 jb eb mb b1 b2 b3 b4 b5 b6 b7 b8 re fl g1 g2 g3 g4 g5 rt la rs rg pd du ds me tt gr su gp ((mk + (Int32.ofInt (mm_mrk (Int.toNat 2)).toInt).toInt64) + (Int32.ofInt (mm_mrk (Int.toNat 0)).toInt).toInt64) rf m1 m2 m3 m4 m5 mr mf n1 n2 n3 n4 n5 nr nf 0 (tr + 101) db ma dm sm ty nx tk pl va fa lr ri s kp ik tn de sd dd sr tx pa), h1, h2, LI_to ⟨⟨⟨hla, hrf⟩, ⟨rfl, rfl⟩, ⟨q1, q2, q3, q4, q5, q6, q7, q8, q9, q10⟩, r1, r2, r3, r4, r5, r6, r7, r8, r9, r10⟩, hX, hK, ⟨et, hl⟩, hRo, hRo2, hLG, hI0, hI1, hik, htt, hm⟩, mid_GW⟩
    · obtain ⟨z1, h1⟩ := c_priceG0_3 (E := (rL (ro_ th tr db ma dm sm ty nx tk pl va fa lr ri) s kp ik tn de sd dd sr tx pa)) (i := i) (ki := ki) (ln := ln) (bt := bt) (rl := rl) (cp := cp) (cs := cs) (ct := ct) (cv := cv) (ja := ja) (ea := ea) (ma := ma) (a1 := a1) (a2 := a2) (a3 := a3) (a4 := a4) (a5 := a5) (a6 := a6) (a7 := a7) (a8 := a8) (jb := jb) (eb := eb) (mb := mb) (b1 := b1) (b2 := b2) (b3 := b3) (b4 := b4) (b5 := b5) (b6 := b6) (b7 := b7) (b8 := b8) (re := re) (fl := fl) (g1 := g1) (g2 := g2) (g3 := g3) (g4 := g4) (g5 := g5) (rt := rt) (la := la) (rs := rs) (rg := rg) (pd := pd) (du := du) (ds := ds) (me := me) (tt := tt) (gr := gr) (su := su) (gp := gp) (mk := mk) (rf := rf) (m1 := m1) (m2 := m2) (m3 := m3) (m4 := m4) (m5 := m5) (mr := mr) (mf := mf) (n1 := n1) (n2 := n2) (n3 := n3) (n4 := n4) (n5 := n5) (nr := nr) (nf := nf) rfl r2 q8 w2
      obtain ⟨z2, h2⟩ := c_priceRG_3 (C := (cW ki ln bt rl cp cs ct cv 5 14 ja ea ma a1 a2 a3 a4 a5 a6 a7 a8 jb eb mb b1 b2 b3 b4 b5 b6 b7 b8 re fl g1 g2 g3 g4 g5 (dW rt la rs rg pd du ds me tt gr su gp ((mk + (Int32.ofInt (mm_mrk (Int.toNat 3)).toInt).toInt64) + (Int32.ofInt (mm_mrk (Int.toNat 0)).toInt).toInt64) rf m1 m2 m3 m4 m5 mr mf n1 n2 n3 n4 n5 nr nf []))) (i := i) (th := th) (tr := tr) (db := db) (sn := ma) (dm := dm) (sm := sm) (ty := ty) (nx := nx) (tk := tk) (pl := pl) (va := va) (fa := fa) (lr := lr) (ri := ri) (s := s) (kp := kp) (ik := ik) (tn := tn) (de := de) (sd := sd) (dd := dd) (sr := sr) (tx := tx) (pa := pa) rfl r2 r9 w2
      have hm : ((mk + (Int32.ofInt (mm_mrk (Int.toNat 3)).toInt).toInt64) + (Int32.ofInt (mm_mrk (Int.toNat 0)).toInt).toInt64) = tr + 1001 := by rw [hmk, Int64.add_assoc, show ((Int32.ofInt (mm_mrk (Int.toNat 3)).toInt).toInt64 + (Int32.ofInt (mm_mrk (Int.toNat 0)).toInt).toInt64) = 1001 by decide +kernel]
      exact ⟨z1, z2, (GW ki ln bt rl cp cs ct cv 5 14 ja ea ma a1 a2 a3 a4 a5 a6 a7 a8 jb eb mb b1 b2 b3 b4 b5 b6 b7 b8 re fl g1 g2 g3 g4 g5 rt la rs rg pd du ds me tt gr su gp ((mk + (Int32.ofInt (mm_mrk (Int.toNat 3)).toInt).toInt64) + (Int32.ofInt (mm_mrk (Int.toNat 0)).toInt).toInt64) rf m1 m2 m3 m4 m5 mr mf n1 n2 n3 n4 n5 nr nf th tr db ma dm sm ty nx tk pl va fa lr ri s kp ik tn de sd dd sr tx pa), (GW ki ln bt rl cp cs ct cv 5 14 ja ea ma a1 a2 a3 a4 a5 a6 a7 a8 jb eb mb b1 b2 b3 b4 b5 b6 b7 b8 re fl g1 g2 g3 g4 g5 rt la rs rg pd du ds me tt gr su gp ((mk + (Int32.ofInt (mm_mrk (Int.toNat 3)).toInt).toInt64) + (Int32.ofInt (mm_mrk (Int.toNat 0)).toInt).toInt64) rf m1 m2 m3 m4 m5 mr mf n1 n2 n3 n4 n5 nr nf 0 (tr + 1001) db ma dm sm ty nx tk pl va fa lr ri s kp ik tn de sd dd sr tx pa), h1, h2, LI_to ⟨⟨⟨hla, hrf⟩, ⟨rfl, rfl⟩, ⟨q1, q2, q3, q4, q5, q6, q7, q8, q9, q10⟩, r1, r2, r3, r4, r5, r6, r7, r8, r9, r10⟩, hX, hK, ⟨et, hl⟩, hRo, hRo2, hLG, hI0, hI1, hik, htt, hm⟩, mid_GW⟩
    · obtain ⟨z1, h1⟩ := c_priceG0_4 (E := (rL (ro_ th tr db ma dm sm ty nx tk pl va fa lr ri) s kp ik tn de sd dd sr tx pa)) (i := i) (ki := ki) (ln := ln) (bt := bt) (rl := rl) (cp := cp) (cs := cs) (ct := ct) (cv := cv) (ja := ja) (ea := ea) (ma := ma) (a1 := a1) (a2 := a2) (a3 := a3) (a4 := a4) (a5 := a5) (a6 := a6) (a7 := a7) (a8 := a8) (jb := jb) (eb := eb) (mb := mb) (b1 := b1) (b2 := b2) (b3 := b3) (b4 := b4) (b5 := b5) (b6 := b6) (b7 := b7) (b8 := b8) (re := re) (fl := fl) (g1 := g1) (g2 := g2) (g3 := g3) (g4 := g4) (g5 := g5) (rt := rt) (la := la) (rs := rs) (rg := rg) (pd := pd) (du := du) (ds := ds) (me := me) (tt := tt) (gr := gr) (su := su) (gp := gp) (mk := mk) (rf := rf) (m1 := m1) (m2 := m2) (m3 := m3) (m4 := m4) (m5 := m5) (mr := mr) (mf := mf) (n1 := n1) (n2 := n2) (n3 := n3) (n4 := n4) (n5 := n5) (nr := nr) (nf := nf) rfl r2 q8 w2
      obtain ⟨z2, h2⟩ := c_priceRG_4 (C := (cW ki ln bt rl cp cs ct cv 5 14 ja ea ma a1 a2 a3 a4 a5 a6 a7 a8 jb eb mb b1 b2 b3 b4 b5 b6 b7 b8 re fl g1 g2 g3 g4 g5 (dW rt la rs rg pd du ds me tt gr su gp (((mk + (Int32.ofInt (mm_mrk (Int.toNat 4)).toInt).toInt64) + (Int32.ofInt (mm_mrk (Int.toNat 3)).toInt).toInt64) + (Int32.ofInt (mm_mrk (Int.toNat 0)).toInt).toInt64) rf m1 m2 m3 m4 m5 mr mf n1 n2 n3 n4 n5 nr nf []))) (i := i) (th := th) (tr := tr) (db := db) (sn := ma) (dm := dm) (sm := sm) (ty := ty) (nx := nx) (tk := tk) (pl := pl) (va := va) (fa := fa) (lr := lr) (ri := ri) (s := s) (kp := kp) (ik := ik) (tn := tn) (de := de) (sd := sd) (dd := dd) (sr := sr) (tx := tx) (pa := pa) rfl r2 r9 w2
      have hm : (((mk + (Int32.ofInt (mm_mrk (Int.toNat 4)).toInt).toInt64) + (Int32.ofInt (mm_mrk (Int.toNat 3)).toInt).toInt64) + (Int32.ofInt (mm_mrk (Int.toNat 0)).toInt).toInt64) = tr + 11001 := by rw [hmk, Int64.add_assoc, Int64.add_assoc, show ((Int32.ofInt (mm_mrk (Int.toNat 4)).toInt).toInt64 + ((Int32.ofInt (mm_mrk (Int.toNat 3)).toInt).toInt64 + (Int32.ofInt (mm_mrk (Int.toNat 0)).toInt).toInt64)) = 11001 by decide +kernel]
      exact ⟨z1, z2, (GW ki ln bt rl cp cs ct cv 5 14 ja ea ma a1 a2 a3 a4 a5 a6 a7 a8 jb eb mb b1 b2 b3 b4 b5 b6 b7 b8 re fl g1 g2 g3 g4 g5 rt la rs rg pd du ds me tt gr su gp (((mk + (Int32.ofInt (mm_mrk (Int.toNat 4)).toInt).toInt64) + (Int32.ofInt (mm_mrk (Int.toNat 3)).toInt).toInt64) + (Int32.ofInt (mm_mrk (Int.toNat 0)).toInt).toInt64) rf m1 m2 m3 m4 m5 mr mf n1 n2 n3 n4 n5 nr nf th tr db ma dm sm ty nx tk pl va fa lr ri s kp ik tn de sd dd sr tx pa), (GW ki ln bt rl cp cs ct cv 5 14 ja ea ma a1 a2 a3 a4 a5 a6 a7 a8 jb eb mb b1 b2 b3 b4 b5 b6 b7 b8 re fl g1 g2 g3 g4 g5 rt la rs rg pd du ds me tt gr su gp (((mk + (Int32.ofInt (mm_mrk (Int.toNat 4)).toInt).toInt64) + (Int32.ofInt (mm_mrk (Int.toNat 3)).toInt).toInt64) + (Int32.ofInt (mm_mrk (Int.toNat 0)).toInt).toInt64) rf m1 m2 m3 m4 m5 mr mf n1 n2 n3 n4 n5 nr nf 0 (tr + 11001) db ma dm sm ty nx tk pl va fa lr ri s kp ik tn de sd dd sr tx pa), h1, h2, LI_to ⟨⟨⟨hla, hrf⟩, ⟨rfl, rfl⟩, ⟨q1, q2, q3, q4, q5, q6, q7, q8, q9, q10⟩, r1, r2, r3, r4, r5, r6, r7, r8, r9, r10⟩, hX, hK, ⟨et, hl⟩, hRo, hRo2, hLG, hI0, hI1, hik, htt, hm⟩, mid_GW⟩
    · obtain ⟨z1, h1⟩ := c_priceG0_5 (E := (rL (ro_ th tr db ma dm sm ty nx tk pl va fa lr ri) s kp ik tn de sd dd sr tx pa)) (i := i) (ki := ki) (ln := ln) (bt := bt) (rl := rl) (cp := cp) (cs := cs) (ct := ct) (cv := cv) (ja := ja) (ea := ea) (ma := ma) (a1 := a1) (a2 := a2) (a3 := a3) (a4 := a4) (a5 := a5) (a6 := a6) (a7 := a7) (a8 := a8) (jb := jb) (eb := eb) (mb := mb) (b1 := b1) (b2 := b2) (b3 := b3) (b4 := b4) (b5 := b5) (b6 := b6) (b7 := b7) (b8 := b8) (re := re) (fl := fl) (g1 := g1) (g2 := g2) (g3 := g3) (g4 := g4) (g5 := g5) (rt := rt) (la := la) (rs := rs) (rg := rg) (pd := pd) (du := du) (ds := ds) (me := me) (tt := tt) (gr := gr) (su := su) (gp := gp) (mk := mk) (rf := rf) (m1 := m1) (m2 := m2) (m3 := m3) (m4 := m4) (m5 := m5) (mr := mr) (mf := mf) (n1 := n1) (n2 := n2) (n3 := n3) (n4 := n4) (n5 := n5) (nr := nr) (nf := nf) rfl r2 q8 w2
      obtain ⟨z2, h2⟩ := c_priceRG_5 (C := (cW ki ln bt rl cp cs ct cv 5 14 ja ea ma a1 a2 a3 a4 a5 a6 a7 a8 jb eb mb b1 b2 b3 b4 b5 b6 b7 b8 re fl g1 g2 g3 g4 g5 (dW rt la rs rg pd du ds me tt gr su gp ((mk + (Int32.ofInt (mm_mrk (Int.toNat 5)).toInt).toInt64) + (Int32.ofInt (mm_mrk (Int.toNat 0)).toInt).toInt64) rf m1 m2 m3 m4 m5 mr mf n1 n2 n3 n4 n5 nr nf []))) (i := i) (th := th) (tr := tr) (db := db) (sn := ma) (dm := dm) (sm := sm) (ty := ty) (nx := nx) (tk := tk) (pl := pl) (va := va) (fa := fa) (lr := lr) (ri := ri) (s := s) (kp := kp) (ik := ik) (tn := tn) (de := de) (sd := sd) (dd := dd) (sr := sr) (tx := tx) (pa := pa) rfl r2 r9 w2
      have hm : ((mk + (Int32.ofInt (mm_mrk (Int.toNat 5)).toInt).toInt64) + (Int32.ofInt (mm_mrk (Int.toNat 0)).toInt).toInt64) = tr + 100001 := by rw [hmk, Int64.add_assoc, show ((Int32.ofInt (mm_mrk (Int.toNat 5)).toInt).toInt64 + (Int32.ofInt (mm_mrk (Int.toNat 0)).toInt).toInt64) = 100001 by decide +kernel]
      exact ⟨z1, z2, (GW ki ln bt rl cp cs ct cv 5 14 ja ea ma a1 a2 a3 a4 a5 a6 a7 a8 jb eb mb b1 b2 b3 b4 b5 b6 b7 b8 re fl g1 g2 g3 g4 g5 rt la rs rg pd du ds me tt gr su gp ((mk + (Int32.ofInt (mm_mrk (Int.toNat 5)).toInt).toInt64) + (Int32.ofInt (mm_mrk (Int.toNat 0)).toInt).toInt64) rf m1 m2 m3 m4 m5 mr mf n1 n2 n3 n4 n5 nr nf th tr db ma dm sm ty nx tk pl va fa lr ri s kp ik tn de sd dd sr tx pa), (GW ki ln bt rl cp cs ct cv 5 14 ja ea ma a1 a2 a3 a4 a5 a6 a7 a8 jb eb mb b1 b2 b3 b4 b5 b6 b7 b8 re fl g1 g2 g3 g4 g5 rt la rs rg pd du ds me tt gr su gp ((mk + (Int32.ofInt (mm_mrk (Int.toNat 5)).toInt).toInt64) + (Int32.ofInt (mm_mrk (Int.toNat 0)).toInt).toInt64) rf m1 m2 m3 m4 m5 mr mf n1 n2 n3 n4 n5 nr nf 0 (tr + 100001) db ma dm sm ty nx tk pl va fa lr ri s kp ik tn de sd dd sr tx pa), h1, h2, LI_to ⟨⟨⟨hla, hrf⟩, ⟨rfl, rfl⟩, ⟨q1, q2, q3, q4, q5, q6, q7, q8, q9, q10⟩, r1, r2, r3, r4, r5, r6, r7, r8, r9, r10⟩, hX, hK, ⟨et, hl⟩, hRo, hRo2, hLG, hI0, hI1, hik, htt, hm⟩, mid_GW⟩
    · obtain ⟨z1, h1⟩ := c_priceG0_6 (E := (rL (ro_ th tr db ma dm sm ty nx tk pl va fa lr ri) s kp ik tn de sd dd sr tx pa)) (i := i) (ki := ki) (ln := ln) (bt := bt) (rl := rl) (cp := cp) (cs := cs) (ct := ct) (cv := cv) (ja := ja) (ea := ea) (ma := ma) (a1 := a1) (a2 := a2) (a3 := a3) (a4 := a4) (a5 := a5) (a6 := a6) (a7 := a7) (a8 := a8) (jb := jb) (eb := eb) (mb := mb) (b1 := b1) (b2 := b2) (b3 := b3) (b4 := b4) (b5 := b5) (b6 := b6) (b7 := b7) (b8 := b8) (re := re) (fl := fl) (g1 := g1) (g2 := g2) (g3 := g3) (g4 := g4) (g5 := g5) (rt := rt) (la := la) (rs := rs) (rg := rg) (pd := pd) (du := du) (ds := ds) (me := me) (tt := tt) (gr := gr) (su := su) (gp := gp) (mk := mk) (rf := rf) (m1 := m1) (m2 := m2) (m3 := m3) (m4 := m4) (m5 := m5) (mr := mr) (mf := mf) (n1 := n1) (n2 := n2) (n3 := n3) (n4 := n4) (n5 := n5) (nr := nr) (nf := nf) rfl r2 q8 w2
      obtain ⟨z2, h2⟩ := c_priceRG_6 (C := (cW ki ln bt rl cp cs ct cv 5 14 ja ea ma a1 a2 a3 a4 a5 a6 a7 a8 jb eb mb b1 b2 b3 b4 b5 b6 b7 b8 re fl g1 g2 g3 g4 g5 (dW rt la rs rg pd du ds me tt gr su gp (((mk + (Int32.ofInt (mm_mrk (Int.toNat 6)).toInt).toInt64) + (Int32.ofInt (mm_mrk (Int.toNat 5)).toInt).toInt64) + (Int32.ofInt (mm_mrk (Int.toNat 0)).toInt).toInt64) rf m1 m2 m3 m4 m5 mr mf n1 n2 n3 n4 n5 nr nf []))) (i := i) (th := th) (tr := tr) (db := db) (sn := ma) (dm := dm) (sm := sm) (ty := ty) (nx := nx) (tk := tk) (pl := pl) (va := va) (fa := fa) (lr := lr) (ri := ri) (s := s) (kp := kp) (ik := ik) (tn := tn) (de := de) (sd := sd) (dd := dd) (sr := sr) (tx := tx) (pa := pa) rfl r2 r9 w2
      have hm : (((mk + (Int32.ofInt (mm_mrk (Int.toNat 6)).toInt).toInt64) + (Int32.ofInt (mm_mrk (Int.toNat 5)).toInt).toInt64) + (Int32.ofInt (mm_mrk (Int.toNat 0)).toInt).toInt64) = tr + 1100001 := by rw [hmk, Int64.add_assoc, Int64.add_assoc, show ((Int32.ofInt (mm_mrk (Int.toNat 6)).toInt).toInt64 + ((Int32.ofInt (mm_mrk (Int.toNat 5)).toInt).toInt64 + (Int32.ofInt (mm_mrk (Int.toNat 0)).toInt).toInt64)) = 1100001 by decide +kernel]
      exact ⟨z1, z2, (GW ki ln bt rl cp cs ct cv 5 14 ja ea ma a1 a2 a3 a4 a5 a6 a7 a8 jb eb mb b1 b2 b3 b4 b5 b6 b7 b8 re fl g1 g2 g3 g4 g5 rt la rs rg pd du ds me tt gr su gp (((mk + (Int32.ofInt (mm_mrk (Int.toNat 6)).toInt).toInt64) + (Int32.ofInt (mm_mrk (Int.toNat 5)).toInt).toInt64) + (Int32.ofInt (mm_mrk (Int.toNat 0)).toInt).toInt64) rf m1 m2 m3 m4 m5 mr mf n1 n2 n3 n4 n5 nr nf th tr db ma dm sm ty nx tk pl va fa lr ri s kp ik tn de sd dd sr tx pa), (GW ki ln bt rl cp cs ct cv 5 14 ja ea ma a1 a2 a3 a4 a5 a6 a7 a8 jb eb mb b1 b2 b3 b4 b5 b6 b7 b8 re fl g1 g2 g3 g4 g5 rt la rs rg pd du ds me tt gr su gp (((mk + (Int32.ofInt (mm_mrk (Int.toNat 6)).toInt).toInt64) + (Int32.ofInt (mm_mrk (Int.toNat 5)).toInt).toInt64) + (Int32.ofInt (mm_mrk (Int.toNat 0)).toInt).toInt64) rf m1 m2 m3 m4 m5 mr mf n1 n2 n3 n4 n5 nr nf 0 (tr + 1100001) db ma dm sm ty nx tk pl va fa lr ri s kp ik tn de sd dd sr tx pa), h1, h2, LI_to ⟨⟨⟨hla, hrf⟩, ⟨rfl, rfl⟩, ⟨q1, q2, q3, q4, q5, q6, q7, q8, q9, q10⟩, r1, r2, r3, r4, r5, r6, r7, r8, r9, r10⟩, hX, hK, ⟨et, hl⟩, hRo, hRo2, hLG, hI0, hI1, hik, htt, hm⟩, mid_GW⟩
theorem LI_price1 {mw : List va_E} {k i : Int} (hk : -2147483648 ≤ k ∧ k ≤ 2147483647) (hi : -2147483648 ≤ i ∧ i ≤ 2147483647) (h : LI true mw) : ∃ (c c' : Int) (mw1 mw2 : List va_E), sX11_price [.ref 0, iv k, iv i] mw = some (some (iv c), mw1) ∧ sX12_price [.ref 56, iv k, iv i] mw1 = some (some (iv c'), mw2) ∧ LI true mw2 ∧ mid mw1 := by
  refine LI_elim h (fun ki ln bt rl cp cs ct cv rr dr ja ea ma a1 a2 a3 a4 a5 a6 a7 a8 jb eb mb b1 b2 b3 b4 b5 b6 b7 b8 re fl g1 g2 g3 g4 g5 rt la rs rg pd du ds me tt gr su gp mk rf m1 m2 m3 m4 m5 mr mf n1 n2 n3 n4 n5 nr nf th tr db sn dm sm ty nx tk pl va fa lr ri s kp ik tn de sd dd sr tx pa e hh => ?_)
  obtain ⟨⟨⟨hla, hrf⟩, ⟨e1, e2⟩, ⟨q1, q2, q3, q4, q5, q6, q7, q8, q9, q10⟩, r1, r2, r3, r4, r5, r6, r7, r8, r9, r10⟩, hX, hK, ⟨et, hl⟩, hRo, hRo2, hLG, hI0, hI1, hik, htt, hmk⟩ := hh
  subst e
  clear h
  obtain rfl : rr = 14 := e1
  obtain rfl : dr = 5 := e2
  obtain ⟨k1, k2, k3, k4, k5⟩ := hRo2 rfl
  subst k2
  cases hok : (i3 k 0 6 && i3 i 0 (mb - 1)) with
  | false =>
    refine ⟨-1, -1, (GW ki ln bt rl cp cs ct cv 14 5 ja ea ma a1 a2 a3 a4 a5 a6 a7 a8 jb eb mb b1 b2 b3 b4 b5 b6 b7 b8 re fl g1 g2 g3 g4 g5 rt la rs rg pd du ds me tt gr su gp mk rf m1 m2 m3 m4 m5 mr mf n1 n2 n3 n4 n5 nr nf th tr db mb dm sm ty nx tk pl va fa lr ri s kp ik tn de sd dd sr tx pa), (GW ki ln bt rl cp cs ct cv 14 5 ja ea ma a1 a2 a3 a4 a5 a6 a7 a8 jb eb mb b1 b2 b3 b4 b5 b6 b7 b8 re fl g1 g2 g3 g4 g5 rt la rs rg pd du ds me tt gr su gp mk rf m1 m2 m3 m4 m5 mr mf n1 n2 n3 n4 n5 nr nf 0 tr db mb dm sm ty nx tk pl va fa lr ri s kp ik tn de sd dd sr tx pa), c_priceB1 hk hi r2 hok, c_priceRB (C := (cW ki ln bt rl cp cs ct cv 14 5 ja ea ma a1 a2 a3 a4 a5 a6 a7 a8 jb eb mb b1 b2 b3 b4 b5 b6 b7 b8 re fl g1 g2 g3 g4 g5 (dW rt la rs rg pd du ds me tt gr su gp mk rf m1 m2 m3 m4 m5 mr mf n1 n2 n3 n4 n5 nr nf []))) (th := th) (tr := tr) (db := db) (sn := mb) (dm := dm) (sm := sm) (ty := ty) (nx := nx) (tk := tk) (pl := pl) (va := va) (fa := fa) (lr := lr) (ri := ri) (s := s) (kp := kp) (ik := ik) (tn := tn) (de := de) (sd := sd) (dd := dd) (sr := sr) (tx := tx) (pa := pa) rfl hk hi r2 hok, ?_, mid_GW⟩
    exact LI_to ⟨⟨⟨hla, hrf⟩, ⟨rfl, rfl⟩, ⟨q1, q2, q3, q4, q5, q6, q7, q8, q9, q10⟩, r1, r2, r3, r4, r5, r6, r7, r8, r9, r10⟩, hX, hK, ⟨et, hl⟩, hRo, hRo2, hLG, hI0, hI1, hik, htt, hmk⟩
  | true =>
    rw [Bool.and_eq_true] at hok
    obtain ⟨w1, w2⟩ := hok
    have rk := i3_t w1
    have hk7 : k = 0 ∨ k = 1 ∨ k = 2 ∨ k = 3 ∨ k = 4 ∨ k = 5 ∨ k = 6 := by omega
    rcases hk7 with rfl | rfl | rfl | rfl | rfl | rfl | rfl
    · obtain ⟨z1, h1⟩ := c_priceG1_0 (E := (rL (ro_ th tr db mb dm sm ty nx tk pl va fa lr ri) s kp ik tn de sd dd sr tx pa)) (i := i) (ki := ki) (ln := ln) (bt := bt) (rl := rl) (cp := cp) (cs := cs) (ct := ct) (cv := cv) (ja := ja) (ea := ea) (ma := ma) (a1 := a1) (a2 := a2) (a3 := a3) (a4 := a4) (a5 := a5) (a6 := a6) (a7 := a7) (a8 := a8) (jb := jb) (eb := eb) (mb := mb) (b1 := b1) (b2 := b2) (b3 := b3) (b4 := b4) (b5 := b5) (b6 := b6) (b7 := b7) (b8 := b8) (re := re) (fl := fl) (g1 := g1) (g2 := g2) (g3 := g3) (g4 := g4) (g5 := g5) (rt := rt) (la := la) (rs := rs) (rg := rg) (pd := pd) (du := du) (ds := ds) (me := me) (tt := tt) (gr := gr) (su := su) (gp := gp) (mk := mk) (rf := rf) (m1 := m1) (m2 := m2) (m3 := m3) (m4 := m4) (m5 := m5) (mr := mr) (mf := mf) (n1 := n1) (n2 := n2) (n3 := n3) (n4 := n4) (n5 := n5) (nr := nr) (nf := nf) rfl r2 q10 w2
      obtain ⟨z2, h2⟩ := c_priceRG_0 (C := (cW ki ln bt rl cp cs ct cv 14 5 ja ea ma a1 a2 a3 a4 a5 a6 a7 a8 jb eb mb b1 b2 b3 b4 b5 b6 b7 b8 re fl g1 g2 g3 g4 g5 (dW rt la rs rg pd du ds me tt gr su gp (mk + (Int32.ofInt (mm_mrk (Int.toNat 0)).toInt).toInt64) rf m1 m2 m3 m4 m5 mr mf n1 n2 n3 n4 n5 nr nf []))) (i := i) (th := th) (tr := tr) (db := db) (sn := mb) (dm := dm) (sm := sm) (ty := ty) (nx := nx) (tk := tk) (pl := pl) (va := va) (fa := fa) (lr := lr) (ri := ri) (s := s) (kp := kp) (ik := ik) (tn := tn) (de := de) (sd := sd) (dd := dd) (sr := sr) (tx := tx) (pa := pa) rfl r2 r9 w2
      have hm : (mk + (Int32.ofInt (mm_mrk (Int.toNat 0)).toInt).toInt64) = tr + 1 := by rw [hmk, show (Int32.ofInt (mm_mrk (Int.toNat 0)).toInt).toInt64 = 1 by decide +kernel]
      exact ⟨z1, z2, (GW ki ln bt rl cp cs ct cv 14 5 ja ea ma a1 a2 a3 a4 a5 a6 a7 a8 jb eb mb b1 b2 b3 b4 b5 b6 b7 b8 re fl g1 g2 g3 g4 g5 rt la rs rg pd du ds me tt gr su gp (mk + (Int32.ofInt (mm_mrk (Int.toNat 0)).toInt).toInt64) rf m1 m2 m3 m4 m5 mr mf n1 n2 n3 n4 n5 nr nf th tr db mb dm sm ty nx tk pl va fa lr ri s kp ik tn de sd dd sr tx pa), (GW ki ln bt rl cp cs ct cv 14 5 ja ea ma a1 a2 a3 a4 a5 a6 a7 a8 jb eb mb b1 b2 b3 b4 b5 b6 b7 b8 re fl g1 g2 g3 g4 g5 rt la rs rg pd du ds me tt gr su gp (mk + (Int32.ofInt (mm_mrk (Int.toNat 0)).toInt).toInt64) rf m1 m2 m3 m4 m5 mr mf n1 n2 n3 n4 n5 nr nf 0 (tr + 1) db mb dm sm ty nx tk pl va fa lr ri s kp ik tn de sd dd sr tx pa), h1, h2, LI_to ⟨⟨⟨hla, hrf⟩, ⟨rfl, rfl⟩, ⟨q1, q2, q3, q4, q5, q6, q7, q8, q9, q10⟩, r1, r2, r3, r4, r5, r6, r7, r8, r9, r10⟩, hX, hK, ⟨et, hl⟩, hRo, hRo2, hLG, hI0, hI1, hik, htt, hm⟩, mid_GW⟩
    · obtain ⟨z1, h1⟩ := c_priceG1_1 (E := (rL (ro_ th tr db mb dm sm ty nx tk pl va fa lr ri) s kp ik tn de sd dd sr tx pa)) (i := i) (ki := ki) (ln := ln) (bt := bt) (rl := rl) (cp := cp) (cs := cs) (ct := ct) (cv := cv) (ja := ja) (ea := ea) (ma := ma) (a1 := a1) (a2 := a2) (a3 := a3) (a4 := a4) (a5 := a5) (a6 := a6) (a7 := a7) (a8 := a8) (jb := jb) (eb := eb) (mb := mb) (b1 := b1) (b2 := b2) (b3 := b3) (b4 := b4) (b5 := b5) (b6 := b6) (b7 := b7) (b8 := b8) (re := re) (fl := fl) (g1 := g1) (g2 := g2) (g3 := g3) (g4 := g4) (g5 := g5) (rt := rt) (la := la) (rs := rs) (rg := rg) (pd := pd) (du := du) (ds := ds) (me := me) (tt := tt) (gr := gr) (su := su) (gp := gp) (mk := mk) (rf := rf) (m1 := m1) (m2 := m2) (m3 := m3) (m4 := m4) (m5 := m5) (mr := mr) (mf := mf) (n1 := n1) (n2 := n2) (n3 := n3) (n4 := n4) (n5 := n5) (nr := nr) (nf := nf) rfl r2 q10 w2
      obtain ⟨z2, h2⟩ := c_priceRG_1 (C := (cW ki ln bt rl cp cs ct cv 14 5 ja ea ma a1 a2 a3 a4 a5 a6 a7 a8 jb eb mb b1 b2 b3 b4 b5 b6 b7 b8 re fl g1 g2 g3 g4 g5 (dW rt la rs rg pd du ds me tt gr su gp ((mk + (Int32.ofInt (mm_mrk (Int.toNat 1)).toInt).toInt64) + (Int32.ofInt (mm_mrk (Int.toNat 0)).toInt).toInt64) rf m1 m2 m3 m4 m5 mr mf n1 n2 n3 n4 n5 nr nf []))) (i := i) (th := th) (tr := tr) (db := db) (sn := mb) (dm := dm) (sm := sm) (ty := ty) (nx := nx) (tk := tk) (pl := pl) (va := va) (fa := fa) (lr := lr) (ri := ri) (s := s) (kp := kp) (ik := ik) (tn := tn) (de := de) (sd := sd) (dd := dd) (sr := sr) (tx := tx) (pa := pa) rfl r2 r9 w2
      have hm : ((mk + (Int32.ofInt (mm_mrk (Int.toNat 1)).toInt).toInt64) + (Int32.ofInt (mm_mrk (Int.toNat 0)).toInt).toInt64) = tr + 11 := by rw [hmk, Int64.add_assoc, show ((Int32.ofInt (mm_mrk (Int.toNat 1)).toInt).toInt64 + (Int32.ofInt (mm_mrk (Int.toNat 0)).toInt).toInt64) = 11 by decide +kernel]
      exact ⟨z1, z2, (GW ki ln bt rl cp cs ct cv 14 5 ja ea ma a1 a2 a3 a4 a5 a6 a7 a8 jb eb mb b1 b2 b3 b4 b5 b6 b7 b8 re fl g1 g2 g3 g4 g5 rt la rs rg pd du ds me tt gr su gp ((mk + (Int32.ofInt (mm_mrk (Int.toNat 1)).toInt).toInt64) + (Int32.ofInt (mm_mrk (Int.toNat 0)).toInt).toInt64) rf m1 m2 m3 m4 m5 mr mf n1 n2 n3 n4 n5 nr nf th tr db mb dm sm ty nx tk pl va fa lr ri s kp ik tn de sd dd sr tx pa), (GW ki ln bt rl cp cs ct cv 14 5 ja ea ma a1 a2 a3 a4 a5 a6 a7 a8 jb eb mb b1 b2 b3 b4 b5 b6 b7 b8 re fl g1 g2 g3 g4 g5 rt la rs rg pd du ds me tt gr su gp ((mk + (Int32.ofInt (mm_mrk (Int.toNat 1)).toInt).toInt64) + (Int32.ofInt (mm_mrk (Int.toNat 0)).toInt).toInt64) rf m1 m2 m3 m4 m5 mr mf n1 n2 n3 n4 n5 nr nf 0 (tr + 11) db mb dm sm ty nx tk pl va fa lr ri s kp ik tn de sd dd sr tx pa), h1, h2, LI_to ⟨⟨⟨hla, hrf⟩, ⟨rfl, rfl⟩, ⟨q1, q2, q3, q4, q5, q6, q7, q8, q9, q10⟩, r1, r2, r3, r4, r5, r6, r7, r8, r9, r10⟩, hX, hK, ⟨et, hl⟩, hRo, hRo2, hLG, hI0, hI1, hik, htt, hm⟩, mid_GW⟩
    · obtain ⟨z1, h1⟩ := c_priceG1_2 (E := (rL (ro_ th tr db mb dm sm ty nx tk pl va fa lr ri) s kp ik tn de sd dd sr tx pa)) (i := i) (ki := ki) (ln := ln) (bt := bt) (rl := rl) (cp := cp) (cs := cs) (ct := ct) (cv := cv) (ja := ja) (ea := ea) (ma := ma) (a1 := a1) (a2 := a2) (a3 := a3) (a4 := a4) (a5 := a5) (a6 := a6) (a7 := a7) (a8 := a8) (jb := jb) (eb := eb) (mb := mb) (b1 := b1) (b2 := b2) (b3 := b3) (b4 := b4) (b5 := b5) (b6 := b6) (b7 := b7) (b8 := b8) (re := re) (fl := fl) (g1 := g1) (g2 := g2) (g3 := g3) (g4 := g4) (g5 := g5) (rt := rt) (la := la) (rs := rs) (rg := rg) (pd := pd) (du := du) (ds := ds) (me := me) (tt := tt) (gr := gr) (su := su) (gp := gp) (mk := mk) (rf := rf) (m1 := m1) (m2 := m2) (m3 := m3) (m4 := m4) (m5 := m5) (mr := mr) (mf := mf) (n1 := n1) (n2 := n2) (n3 := n3) (n4 := n4) (n5 := n5) (nr := nr) (nf := nf) rfl r2 q10 w2
      obtain ⟨z2, h2⟩ := c_priceRG_2 (C := (cW ki ln bt rl cp cs ct cv 14 5 ja ea ma a1 a2 a3 a4 a5 a6 a7 a8 jb eb mb b1 b2 b3 b4 b5 b6 b7 b8 re fl g1 g2 g3 g4 g5 (dW rt la rs rg pd du ds me tt gr su gp ((mk + (Int32.ofInt (mm_mrk (Int.toNat 2)).toInt).toInt64) + (Int32.ofInt (mm_mrk (Int.toNat 0)).toInt).toInt64) rf m1 m2 m3 m4 m5 mr mf n1 n2 n3 n4 n5 nr nf []))) (i := i) (th := th) (tr := tr) (db := db) (sn := mb) (dm := dm) (sm := sm) (ty := ty) (nx := nx) (tk := tk) (pl := pl) (va := va) (fa := fa) (lr := lr) (ri := ri) (s := s) (kp := kp) (ik := ik) (tn := tn) (de := de) (sd := sd) (dd := dd) (sr := sr) (tx := tx) (pa := pa) rfl r2 r9 w2
      have hm : ((mk + (Int32.ofInt (mm_mrk (Int.toNat 2)).toInt).toInt64) + (Int32.ofInt (mm_mrk (Int.toNat 0)).toInt).toInt64) = tr + 101 := by rw [hmk, Int64.add_assoc, show ((Int32.ofInt (mm_mrk (Int.toNat 2)).toInt).toInt64 + (Int32.ofInt (mm_mrk (Int.toNat 0)).toInt).toInt64) = 101 by decide +kernel]
      exact ⟨z1, z2, (GW ki ln bt rl cp cs ct cv 14 5 ja ea ma a1 a2 a3 a4 a5 a6 a7 a8 jb eb mb b1 b2 b3 b4 b5 b6 b7 b8 re fl g1 g2 g3 g4 g5 rt la rs rg pd du ds me tt gr su gp ((mk + (Int32.ofInt (mm_mrk (Int.toNat 2)).toInt).toInt64) + (Int32.ofInt (mm_mrk (Int.toNat 0)).toInt).toInt64) rf m1 m2 m3 m4 m5 mr mf n1 n2 n3 n4 n5 nr nf th tr db mb dm sm ty nx tk pl va fa lr ri s kp ik tn de sd dd sr tx pa), (GW ki ln bt rl cp cs ct cv 14 5 ja ea ma a1 a2 a3 a4 a5 a6 a7 a8 jb eb mb b1 b2 b3 b4 b5 b6 b7 b8 re fl g1 g2 g3 g4 g5 rt la rs rg pd du ds me tt gr su gp ((mk + (Int32.ofInt (mm_mrk (Int.toNat 2)).toInt).toInt64) + (Int32.ofInt (mm_mrk (Int.toNat 0)).toInt).toInt64) rf m1 m2 m3 m4 m5 mr mf n1 n2 n3 n4 n5 nr nf 0 (tr + 101) db mb dm sm ty nx tk pl va fa lr ri s kp ik tn de sd dd sr tx pa), h1, h2, LI_to ⟨⟨⟨hla, hrf⟩, ⟨rfl, rfl⟩, ⟨q1, q2, q3, q4, q5, q6, q7, q8, q9, q10⟩, r1, r2, r3, r4, r5, r6, r7, r8, r9, r10⟩, hX, hK, ⟨et, hl⟩, hRo, hRo2, hLG, hI0, hI1, hik, htt, hm⟩, mid_GW⟩
    · obtain ⟨z1, h1⟩ := c_priceG1_3 (E := (rL (ro_ th tr db mb dm sm ty nx tk pl va fa lr ri) s kp ik tn de sd dd sr tx pa)) (i := i) (ki := ki) (ln := ln) (bt := bt) (rl := rl) (cp := cp) (cs := cs) (ct := ct) (cv := cv) (ja := ja) (ea := ea) (ma := ma) (a1 := a1) (a2 := a2) (a3 := a3) (a4 := a4) (a5 := a5) (a6 := a6) (a7 := a7) (a8 := a8) (jb := jb) (eb := eb) (mb := mb) (b1 := b1) (b2 := b2) (b3 := b3) (b4 := b4) (b5 := b5) (b6 := b6) (b7 := b7) (b8 := b8) (re := re) (fl := fl) (g1 := g1) (g2 := g2) (g3 := g3) (g4 := g4) (g5 := g5) (rt := rt) (la := la) (rs := rs) (rg := rg) (pd := pd) (du := du) (ds := ds) (me := me) (tt := tt) (gr := gr) (su := su) (gp := gp) (mk := mk) (rf := rf) (m1 := m1) (m2 := m2) (m3 := m3) (m4 := m4) (m5 := m5) (mr := mr) (mf := mf) (n1 := n1) (n2 := n2) (n3 := n3) (n4 := n4) (n5 := n5) (nr := nr) (nf := nf) rfl r2 q10 w2
      obtain ⟨z2, h2⟩ := c_priceRG_3 (C := (cW ki ln bt rl cp cs ct cv 14 5 ja ea ma a1 a2 a3 a4 a5 a6 a7 a8 jb eb mb b1 b2 b3 b4 b5 b6 b7 b8 re fl g1 g2 g3 g4 g5 (dW rt la rs rg pd du ds me tt gr su gp ((mk + (Int32.ofInt (mm_mrk (Int.toNat 3)).toInt).toInt64) + (Int32.ofInt (mm_mrk (Int.toNat 0)).toInt).toInt64) rf m1 m2 m3 m4 m5 mr mf n1 n2 n3 n4 n5 nr nf []))) (i := i) (th := th) (tr := tr) (db := db) (sn := mb) (dm := dm) (sm := sm) (ty := ty) (nx := nx) (tk := tk) (pl := pl) (va := va) (fa := fa) (lr := lr) (ri := ri) (s := s) (kp := kp) (ik := ik) (tn := tn) (de := de) (sd := sd) (dd := dd) (sr := sr) (tx := tx) (pa := pa) rfl r2 r9 w2
      have hm : ((mk + (Int32.ofInt (mm_mrk (Int.toNat 3)).toInt).toInt64) + (Int32.ofInt (mm_mrk (Int.toNat 0)).toInt).toInt64) = tr + 1001 := by rw [hmk, Int64.add_assoc, show ((Int32.ofInt (mm_mrk (Int.toNat 3)).toInt).toInt64 + (Int32.ofInt (mm_mrk (Int.toNat 0)).toInt).toInt64) = 1001 by decide +kernel]
      exact ⟨z1, z2, (GW ki ln bt rl cp cs ct cv 14 5 ja ea ma a1 a2 a3 a4 a5 a6 a7 a8 jb eb mb b1 b2 b3 b4 b5 b6 b7 b8 re fl g1 g2 g3 g4 g5 rt la rs rg pd du ds me tt gr su gp ((mk + (Int32.ofInt (mm_mrk (Int.toNat 3)).toInt).toInt64) + (Int32.ofInt (mm_mrk (Int.toNat 0)).toInt).toInt64) rf m1 m2 m3 m4 m5 mr mf n1 n2 n3 n4 n5 nr nf th tr db mb dm sm ty nx tk pl va fa lr ri s kp ik tn de sd dd sr tx pa), (GW ki ln bt rl cp cs ct cv 14 5 ja ea ma a1 a2 a3 a4 a5 a6 a7 a8 jb eb mb b1 b2 b3 b4 b5 b6 b7 b8 re fl g1 g2 g3 g4 g5 rt la rs rg pd du ds me tt gr su gp ((mk + (Int32.ofInt (mm_mrk (Int.toNat 3)).toInt).toInt64) + (Int32.ofInt (mm_mrk (Int.toNat 0)).toInt).toInt64) rf m1 m2 m3 m4 m5 mr mf n1 n2 n3 n4 n5 nr nf 0 (tr + 1001) db mb dm sm ty nx tk pl va fa lr ri s kp ik tn de sd dd sr tx pa), h1, h2, LI_to ⟨⟨⟨hla, hrf⟩, ⟨rfl, rfl⟩, ⟨q1, q2, q3, q4, q5, q6, q7, q8, q9, q10⟩, r1, r2, r3, r4, r5, r6, r7, r8, r9, r10⟩, hX, hK, ⟨et, hl⟩, hRo, hRo2, hLG, hI0, hI1, hik, htt, hm⟩, mid_GW⟩
    · obtain ⟨z1, h1⟩ := c_priceG1_4 (E := (rL (ro_ th tr db mb dm sm ty nx tk pl va fa lr ri) s kp ik tn de sd dd sr tx pa)) (i := i) (ki := ki) (ln := ln) (bt := bt) (rl := rl) (cp := cp) (cs := cs) (ct := ct) (cv := cv) (ja := ja) (ea := ea) (ma := ma) (a1 := a1) (a2 := a2) (a3 := a3) (a4 := a4) (a5 := a5) (a6 := a6) (a7 := a7) (a8 := a8) (jb := jb) (eb := eb) (mb := mb) (b1 := b1) (b2 := b2) (b3 := b3) (b4 := b4) (b5 := b5) (b6 := b6) (b7 := b7) (b8 := b8) (re := re) (fl := fl) (g1 := g1) (g2 := g2) (g3 := g3) (g4 := g4) (g5 := g5) (rt := rt) (la := la) (rs := rs) (rg := rg) (pd := pd) (du := du) (ds := ds) (me := me) (tt := tt) (gr := gr) (su := su) (gp := gp) (mk := mk) (rf := rf) (m1 := m1) (m2 := m2) (m3 := m3) (m4 := m4) (m5 := m5) (mr := mr) (mf := mf) (n1 := n1) (n2 := n2) (n3 := n3) (n4 := n4) (n5 := n5) (nr := nr) (nf := nf) rfl r2 q10 w2
      obtain ⟨z2, h2⟩ := c_priceRG_4 (C := (cW ki ln bt rl cp cs ct cv 14 5 ja ea ma a1 a2 a3 a4 a5 a6 a7 a8 jb eb mb b1 b2 b3 b4 b5 b6 b7 b8 re fl g1 g2 g3 g4 g5 (dW rt la rs rg pd du ds me tt gr su gp (((mk + (Int32.ofInt (mm_mrk (Int.toNat 4)).toInt).toInt64) + (Int32.ofInt (mm_mrk (Int.toNat 3)).toInt).toInt64) + (Int32.ofInt (mm_mrk (Int.toNat 0)).toInt).toInt64) rf m1 m2 m3 m4 m5 mr mf n1 n2 n3 n4 n5 nr nf []))) (i := i) (th := th) (tr := tr) (db := db) (sn := mb) (dm := dm) (sm := sm) (ty := ty) (nx := nx) (tk := tk) (pl := pl) (va := va) (fa := fa) (lr := lr) (ri := ri) (s := s) (kp := kp) (ik := ik) (tn := tn) (de := de) (sd := sd) (dd := dd) (sr := sr) (tx := tx) (pa := pa) rfl r2 r9 w2
      have hm : (((mk + (Int32.ofInt (mm_mrk (Int.toNat 4)).toInt).toInt64) + (Int32.ofInt (mm_mrk (Int.toNat 3)).toInt).toInt64) + (Int32.ofInt (mm_mrk (Int.toNat 0)).toInt).toInt64) = tr + 11001 := by rw [hmk, Int64.add_assoc, Int64.add_assoc, show ((Int32.ofInt (mm_mrk (Int.toNat 4)).toInt).toInt64 + ((Int32.ofInt (mm_mrk (Int.toNat 3)).toInt).toInt64 + (Int32.ofInt (mm_mrk (Int.toNat 0)).toInt).toInt64)) = 11001 by decide +kernel]
      exact ⟨z1, z2, (GW ki ln bt rl cp cs ct cv 14 5 ja ea ma a1 a2 a3 a4 a5 a6 a7 a8 jb eb mb b1 b2 b3 b4 b5 b6 b7 b8 re fl g1 g2 g3 g4 g5 rt la rs rg pd du ds me tt gr su gp (((mk + (Int32.ofInt (mm_mrk (Int.toNat 4)).toInt).toInt64) + (Int32.ofInt (mm_mrk (Int.toNat 3)).toInt).toInt64) + (Int32.ofInt (mm_mrk (Int.toNat 0)).toInt).toInt64) rf m1 m2 m3 m4 m5 mr mf n1 n2 n3 n4 n5 nr nf th tr db mb dm sm ty nx tk pl va fa lr ri s kp ik tn de sd dd sr tx pa), (GW ki ln bt rl cp cs ct cv 14 5 ja ea ma a1 a2 a3 a4 a5 a6 a7 a8 jb eb mb b1 b2 b3 b4 b5 b6 b7 b8 re fl g1 g2 g3 g4 g5 rt la rs rg pd du ds me tt gr su gp (((mk + (Int32.ofInt (mm_mrk (Int.toNat 4)).toInt).toInt64) + (Int32.ofInt (mm_mrk (Int.toNat 3)).toInt).toInt64) + (Int32.ofInt (mm_mrk (Int.toNat 0)).toInt).toInt64) rf m1 m2 m3 m4 m5 mr mf n1 n2 n3 n4 n5 nr nf 0 (tr + 11001) db mb dm sm ty nx tk pl va fa lr ri s kp ik tn de sd dd sr tx pa), h1, h2, LI_to ⟨⟨⟨hla, hrf⟩, ⟨rfl, rfl⟩, ⟨q1, q2, q3, q4, q5, q6, q7, q8, q9, q10⟩, r1, r2, r3, r4, r5, r6, r7, r8, r9, r10⟩, hX, hK, ⟨et, hl⟩, hRo, hRo2, hLG, hI0, hI1, hik, htt, hm⟩, mid_GW⟩
    · obtain ⟨z1, h1⟩ := c_priceG1_5 (E := (rL (ro_ th tr db mb dm sm ty nx tk pl va fa lr ri) s kp ik tn de sd dd sr tx pa)) (i := i) (ki := ki) (ln := ln) (bt := bt) (rl := rl) (cp := cp) (cs := cs) (ct := ct) (cv := cv) (ja := ja) (ea := ea) (ma := ma) (a1 := a1) (a2 := a2) (a3 := a3) (a4 := a4) (a5 := a5) (a6 := a6) (a7 := a7) (a8 := a8) (jb := jb) (eb := eb) (mb := mb) (b1 := b1) (b2 := b2) (b3 := b3) (b4 := b4) (b5 := b5) (b6 := b6) (b7 := b7) (b8 := b8) (re := re) (fl := fl) (g1 := g1) (g2 := g2) (g3 := g3) (g4 := g4) (g5 := g5) (rt := rt) (la := la) (rs := rs) (rg := rg) (pd := pd) (du := du) (ds := ds) (me := me) (tt := tt) (gr := gr) (su := su) (gp := gp) (mk := mk) (rf := rf) (m1 := m1) (m2 := m2) (m3 := m3) (m4 := m4) (m5 := m5) (mr := mr) (mf := mf) (n1 := n1) (n2 := n2) (n3 := n3) (n4 := n4) (n5 := n5) (nr := nr) (nf := nf) rfl r2 q10 w2
      obtain ⟨z2, h2⟩ := c_priceRG_5 (C := (cW ki ln bt rl cp cs ct cv 14 5 ja ea ma a1 a2 a3 a4 a5 a6 a7 a8 jb eb mb b1 b2 b3 b4 b5 b6 b7 b8 re fl g1 g2 g3 g4 g5 (dW rt la rs rg pd du ds me tt gr su gp ((mk + (Int32.ofInt (mm_mrk (Int.toNat 5)).toInt).toInt64) + (Int32.ofInt (mm_mrk (Int.toNat 0)).toInt).toInt64) rf m1 m2 m3 m4 m5 mr mf n1 n2 n3 n4 n5 nr nf []))) (i := i) (th := th) (tr := tr) (db := db) (sn := mb) (dm := dm) (sm := sm) (ty := ty) (nx := nx) (tk := tk) (pl := pl) (va := va) (fa := fa) (lr := lr) (ri := ri) (s := s) (kp := kp) (ik := ik) (tn := tn) (de := de) (sd := sd) (dd := dd) (sr := sr) (tx := tx) (pa := pa) rfl r2 r9 w2
      have hm : ((mk + (Int32.ofInt (mm_mrk (Int.toNat 5)).toInt).toInt64) + (Int32.ofInt (mm_mrk (Int.toNat 0)).toInt).toInt64) = tr + 100001 := by rw [hmk, Int64.add_assoc, show ((Int32.ofInt (mm_mrk (Int.toNat 5)).toInt).toInt64 + (Int32.ofInt (mm_mrk (Int.toNat 0)).toInt).toInt64) = 100001 by decide +kernel]
      exact ⟨z1, z2, (GW ki ln bt rl cp cs ct cv 14 5 ja ea ma a1 a2 a3 a4 a5 a6 a7 a8 jb eb mb b1 b2 b3 b4 b5 b6 b7 b8 re fl g1 g2 g3 g4 g5 rt la rs rg pd du ds me tt gr su gp ((mk + (Int32.ofInt (mm_mrk (Int.toNat 5)).toInt).toInt64) + (Int32.ofInt (mm_mrk (Int.toNat 0)).toInt).toInt64) rf m1 m2 m3 m4 m5 mr mf n1 n2 n3 n4 n5 nr nf th tr db mb dm sm ty nx tk pl va fa lr ri s kp ik tn de sd dd sr tx pa), (GW ki ln bt rl cp cs ct cv 14 5 ja ea ma a1 a2 a3 a4 a5 a6 a7 a8 jb eb mb b1 b2 b3 b4 b5 b6 b7 b8 re fl g1 g2 g3 g4 g5 rt la rs rg pd du ds me tt gr su gp ((mk + (Int32.ofInt (mm_mrk (Int.toNat 5)).toInt).toInt64) + (Int32.ofInt (mm_mrk (Int.toNat 0)).toInt).toInt64) rf m1 m2 m3 m4 m5 mr mf n1 n2 n3 n4 n5 nr nf 0 (tr + 100001) db mb dm sm ty nx tk pl va fa lr ri s kp ik tn de sd dd sr tx pa), h1, h2, LI_to ⟨⟨⟨hla, hrf⟩, ⟨rfl, rfl⟩, ⟨q1, q2, q3, q4, q5, q6, q7, q8, q9, q10⟩, r1, r2, r3, r4, r5, r6, r7, r8, r9, r10⟩, hX, hK, ⟨et, hl⟩, hRo, hRo2, hLG, hI0, hI1, hik, htt, hm⟩, mid_GW⟩
    · obtain ⟨z1, h1⟩ := c_priceG1_6 (E := (rL (ro_ th tr db mb dm sm ty nx tk pl va fa lr ri) s kp ik tn de sd dd sr tx pa)) (i := i) (ki := ki) (ln := ln) (bt := bt) (rl := rl) (cp := cp) (cs := cs) (ct := ct) (cv := cv) (ja := ja) (ea := ea) (ma := ma) (a1 := a1) (a2 := a2) (a3 := a3) (a4 := a4) (a5 := a5) (a6 := a6) (a7 := a7) (a8 := a8) (jb := jb) (eb := eb) (mb := mb) (b1 := b1) (b2 := b2) (b3 := b3) (b4 := b4) (b5 := b5) (b6 := b6) (b7 := b7) (b8 := b8) (re := re) (fl := fl) (g1 := g1) (g2 := g2) (g3 := g3) (g4 := g4) (g5 := g5) (rt := rt) (la := la) (rs := rs) (rg := rg) (pd := pd) (du := du) (ds := ds) (me := me) (tt := tt) (gr := gr) (su := su) (gp := gp) (mk := mk) (rf := rf) (m1 := m1) (m2 := m2) (m3 := m3) (m4 := m4) (m5 := m5) (mr := mr) (mf := mf) (n1 := n1) (n2 := n2) (n3 := n3) (n4 := n4) (n5 := n5) (nr := nr) (nf := nf) rfl r2 q10 w2
      obtain ⟨z2, h2⟩ := c_priceRG_6 (C := (cW ki ln bt rl cp cs ct cv 14 5 ja ea ma a1 a2 a3 a4 a5 a6 a7 a8 jb eb mb b1 b2 b3 b4 b5 b6 b7 b8 re fl g1 g2 g3 g4 g5 (dW rt la rs rg pd du ds me tt gr su gp (((mk + (Int32.ofInt (mm_mrk (Int.toNat 6)).toInt).toInt64) + (Int32.ofInt (mm_mrk (Int.toNat 5)).toInt).toInt64) + (Int32.ofInt (mm_mrk (Int.toNat 0)).toInt).toInt64) rf m1 m2 m3 m4 m5 mr mf n1 n2 n3 n4 n5 nr nf []))) (i := i) (th := th) (tr := tr) (db := db) (sn := mb) (dm := dm) (sm := sm) (ty := ty) (nx := nx) (tk := tk) (pl := pl) (va := va) (fa := fa) (lr := lr) (ri := ri) (s := s) (kp := kp) (ik := ik) (tn := tn) (de := de) (sd := sd) (dd := dd) (sr := sr) (tx := tx) (pa := pa) rfl r2 r9 w2
      have hm : (((mk + (Int32.ofInt (mm_mrk (Int.toNat 6)).toInt).toInt64) + (Int32.ofInt (mm_mrk (Int.toNat 5)).toInt).toInt64) + (Int32.ofInt (mm_mrk (Int.toNat 0)).toInt).toInt64) = tr + 1100001 := by rw [hmk, Int64.add_assoc, Int64.add_assoc, show ((Int32.ofInt (mm_mrk (Int.toNat 6)).toInt).toInt64 + ((Int32.ofInt (mm_mrk (Int.toNat 5)).toInt).toInt64 + (Int32.ofInt (mm_mrk (Int.toNat 0)).toInt).toInt64)) = 1100001 by decide +kernel]
      exact ⟨z1, z2, (GW ki ln bt rl cp cs ct cv 14 5 ja ea ma a1 a2 a3 a4 a5 a6 a7 a8 jb eb mb b1 b2 b3 b4 b5 b6 b7 b8 re fl g1 g2 g3 g4 g5 rt la rs rg pd du ds me tt gr su gp (((mk + (Int32.ofInt (mm_mrk (Int.toNat 6)).toInt).toInt64) + (Int32.ofInt (mm_mrk (Int.toNat 5)).toInt).toInt64) + (Int32.ofInt (mm_mrk (Int.toNat 0)).toInt).toInt64) rf m1 m2 m3 m4 m5 mr mf n1 n2 n3 n4 n5 nr nf th tr db mb dm sm ty nx tk pl va fa lr ri s kp ik tn de sd dd sr tx pa), (GW ki ln bt rl cp cs ct cv 14 5 ja ea ma a1 a2 a3 a4 a5 a6 a7 a8 jb eb mb b1 b2 b3 b4 b5 b6 b7 b8 re fl g1 g2 g3 g4 g5 rt la rs rg pd du ds me tt gr su gp (((mk + (Int32.ofInt (mm_mrk (Int.toNat 6)).toInt).toInt64) + (Int32.ofInt (mm_mrk (Int.toNat 5)).toInt).toInt64) + (Int32.ofInt (mm_mrk (Int.toNat 0)).toInt).toInt64) rf m1 m2 m3 m4 m5 mr mf n1 n2 n3 n4 n5 nr nf 0 (tr + 1100001) db mb dm sm ty nx tk pl va fa lr ri s kp ik tn de sd dd sr tx pa), h1, h2, LI_to ⟨⟨⟨hla, hrf⟩, ⟨rfl, rfl⟩, ⟨q1, q2, q3, q4, q5, q6, q7, q8, q9, q10⟩, r1, r2, r3, r4, r5, r6, r7, r8, r9, r10⟩, hX, hK, ⟨et, hl⟩, hRo, hRo2, hLG, hI0, hI1, hik, htt, hm⟩, mid_GW⟩
theorem LI_price {v : Bool} {mw : List va_E} {k i : Int} (hk : -2147483648 ≤ k ∧ k ≤ 2147483647) (hi : -2147483648 ≤ i ∧ i ≤ 2147483647) (h : LI v mw) : ∃ (c c' : Int) (mw1 mw2 : List va_E), sX11_price [.ref 0, iv k, iv i] mw = some (some (iv c), mw1) ∧ sX12_price [.ref 56, iv k, iv i] mw1 = some (some (iv c'), mw2) ∧ LI v mw2 ∧ mid mw1 := by
  cases v with
  | false => exact LI_price0 hk hi h
  | true => exact LI_price1 hk hi h
