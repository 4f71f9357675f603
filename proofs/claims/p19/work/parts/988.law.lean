/-! ===== the law: its loop ===== -/
abbrev rnL (L : Nat) (xs : Nat → Int32) (N : Nat) (c : mm_C) (Q : mm_R → Prop) : Prop := rn (fun _ => none) (fun _ => none) (mm_mv vL_law) (fun _ => none) (mm_kc kL_law) mm_gs0 mm_rf0 (lw_ro L xs) (some .boolean) 4 (mm_ins iL_law) N c Q
theorem uv_X11_standing (v : Bool) : as_Sum (shf v) ([.inr (some 0), .inl ((-2147483648), 2147483647, 1, 0, []), .inl ((-2147483648), 2147483647, 1, 0, [])], [], (some (.inl ((-2147483648), 2147483647, 1, 0, [4, 1, 0, 5, 1, 2])))) sX11_standing := by
  cases v with
  | false => exact as_Sum.up sub0 uX11_standing_c0v0
  | true => exact as_Sum.up sub1 uX11_standing_c0v1
theorem uv_X12_standing (v : Bool) : as_Sum (shf v) ([.inr (some 56), .inl ((-2147483648), 2147483647, 1, 0, []), .inl ((-2147483648), 2147483647, 1, 0, [])], [], (some (.inl ((-2147483648), 2147483647, 1, 0, [4, 1, 0, 5, 1, 2])))) sX12_standing := by
  cases v with
  | false => exact as_Sum.up sub0 uX12_standing_c0v0
  | true => exact as_Sum.up sub1 uX12_standing_c0v1
theorem uv_X11_ask (v : Bool) : as_Sum (shf v) ([.inr (some 0), .inl ((-2147483648), 2147483647, 1, 0, []), .inl ((-2147483648), 2147483647, 1, 0, [])], [], (some (.inl ((-2147483648), 2147483647, 1, 0, [4, 1, 0, 1, 1, 1])))) sX11_ask := by
  cases v with
  | false => exact as_Sum.up sub0 uX11_ask_c0v0
  | true => exact as_Sum.up sub1 uX11_ask_c0v1
theorem uv_X12_ask (v : Bool) : as_Sum (shf v) ([.inr (some 56), .inl ((-2147483648), 2147483647, 1, 0, []), .inl ((-2147483648), 2147483647, 1, 0, [])], [], (some (.inl ((-1), 999, 1, 0, [4, 1, 0, 1, 1, 1])))) sX12_ask := by
  cases v with
  | false => exact as_Sum.up sub0 uX12_ask_c0v0
  | true => exact as_Sum.up sub1 uX12_ask_c0v1
theorem uv_X11_back (v : Bool) : as_Sum (shf v) ([.inr (some 0), .inl ((-2147483648), 2147483647, 1, 0, []), .inl ((-2147483648), 2147483647, 1, 0, [])], [], (some (.inl ((-2147483648), 2147483647, 1, 0, [4, 1, 0, 7, 1, 1])))) sX11_back := by
  cases v with
  | false => exact as_Sum.up sub0 uX11_back_c0v0
  | true => exact as_Sum.up sub1 uX11_back_c0v1
theorem uv_X12_back (v : Bool) : as_Sum (shf v) ([.inr (some 56), .inl ((-2147483648), 2147483647, 1, 0, []), .inl ((-2147483648), 2147483647, 1, 0, [])], [], (some (.inl ((-2147483648), 2147483647, 1, 0, [4, 1, 0, 7, 1, 1])))) sX12_back := by
  cases v with
  | false => exact as_Sum.up sub0 uX12_back_c0v0
  | true => exact as_Sum.up sub1 uX12_back_c0v1
theorem uv_X11_burden (v : Bool) : as_Sum (shf v) ([.inr (some 0), .inl ((-2147483648), 2147483647, 1, 0, []), .inl ((-2147483648), 2147483647, 1, 0, []), .inl ((-2147483648), 2147483647, 1, 0, [])], [], (some (.inl ((-2147483648), 2147483647, 1, 0, [4, 1, 0, 1, 1, 3])))) sX11_burden := by
  cases v with
  | false => exact as_Sum.up sub0 uX11_burden_c0v0
  | true => exact as_Sum.up sub1 uX11_burden_c0v1
theorem uv_X12_burden (v : Bool) : as_Sum (shf v) ([.inr (some 56), .inl ((-2147483648), 2147483647, 1, 0, []), .inl ((-2147483648), 2147483647, 1, 0, []), .inl ((-2147483648), 2147483647, 1, 0, [])], [], (some (.inl ((-2147483648), 2147483647, 1, 0, [4, 1, 0, 1, 1, 3])))) sX12_burden := by
  cases v with
  | false => exact as_Sum.up sub0 uX12_burden_c0v0
  | true => exact as_Sum.up sub1 uX12_burden_c0v1
theorem uv_X11_chain (v : Bool) : as_Sum (shf v) ([.inr (some 0), .inl ((-2147483648), 2147483647, 1, 0, []), .inl ((-2147483648), 2147483647, 1, 0, [])], [], (some (.inl ((-2147483648), 2147483647, 1, 0, [4, 1, 0, 1, 1, 2])))) sX11_chain := by
  cases v with
  | false => exact as_Sum.up sub0 uX11_chain_c0v0
  | true => exact as_Sum.up sub1 uX11_chain_c0v1
theorem uv_X12_chain (v : Bool) : as_Sum (shf v) ([.inr (some 56), .inl ((-2147483648), 2147483647, 1, 0, []), .inl ((-2147483648), 2147483647, 1, 0, [])], [], (some (.inl ((-2147483648), 2147483647, 1, 0, [4, 1, 0, 1, 1, 2])))) sX12_chain := by
  cases v with
  | false => exact as_Sum.up sub0 uX12_chain_c0v0
  | true => exact as_Sum.up sub1 uX12_chain_c0v1
theorem uv_X11_worst (v : Bool) : as_Sum (shf v) ([.inr (some 0)], [], (some (.inl ((-9), 7, 1, 0, [])))) sX11_worst := by
  cases v with
  | false => exact as_Sum.up sub0 uX11_worst_c0v0
  | true => exact as_Sum.up sub1 uX11_worst_c0v1
theorem uv_X12_worst (v : Bool) : as_Sum (shf v) ([.inr (some 56)], [], (some (.inl ((-9), 7, 1, 0, [])))) sX12_worst := by
  cases v with
  | false => exact as_Sum.up sub0 uX12_worst_c0v0
  | true => exact as_Sum.up sub1 uX12_worst_c0v1
theorem uv_X11_lose (v : Bool) : as_Sum (shf v) ([.inr (some 0), .inl ((-2147483648), 2147483647, 1, 0, [])], [], (some (.inl ((-2147483648), 2147483647, 1, 0, [4, 1, 0, 7, 1, 1])))) sX11_lose := by
  cases v with
  | false => exact as_Sum.up sub0 uX11_lose_c0v0
  | true => exact as_Sum.up sub1 uX11_lose_c0v1
theorem uv_X12_lose (v : Bool) : as_Sum (shf v) ([.inr (some 56), .inl ((-2147483648), 2147483647, 1, 0, [])], [], (some (.inl ((-9), 2147483647, 1, 0, [4, 1, 0, 7, 1, 1])))) sX12_lose := by
  cases v with
  | false => exact as_Sum.up sub0 uX12_lose_c0v0
  | true => exact as_Sum.up sub1 uX12_lose_c0v1
theorem uv_X11_rounds (v : Bool) : as_Sum (shf v) ([.inr (some 0), .inl ((-2147483648), 2147483647, 1, 0, [])], [], (some (.inl ((-2147483648), 2147483647, 1, 0, [4, 1, 0, 1, 1, 1])))) sX11_rounds := by
  cases v with
  | false => exact as_Sum.up sub0 uX11_rounds_c0v0
  | true => exact as_Sum.up sub1 uX11_rounds_c0v1
theorem uv_X12_rounds (v : Bool) : as_Sum (shf v) ([.inr (some 56), .inl ((-2147483648), 2147483647, 1, 0, [])], [], (some (.inl ((-2147483648), 2147483647, 1, 0, [4, 1, 0, 1, 1, 1])))) sX12_rounds := by
  cases v with
  | false => exact uX12_rounds_c0v0
  | true => exact uX12_rounds_c0v1
theorem uv_X11_end (v : Bool) : as_Sum (shf v) ([.inr (some 0), .inl ((-2147483648), 2147483647, 1, 0, [])], [], (some (.inl ((-2147483648), 2147483647, 1, 0, [])))) sX11_end := by
  cases v with
  | false => exact as_Sum.up sub0 uX11_end_c0v0
  | true => exact as_Sum.up sub1 uX11_end_c0v1
theorem uv_X12_end (v : Bool) : as_Sum (shf v) ([.inr (some 56), .inl ((-2147483648), 2147483647, 1, 0, [])], [], (some (.inl ((-2147483648), 2147483647, 1, 0, [])))) sX12_end := by
  cases v with
  | false => exact uX12_end_c0v0
  | true => exact uX12_end_c0v1
theorem uv_X11_worth (v : Bool) : as_Sum (shf v) ([.inr (some 0), .inl ((-2147483648), 2147483647, 1, 0, [])], [], (some (.inl ((-2147483648), 2147483647, 1, 0, [4, 1, 0, 9, 1, 1])))) sX11_worth := by
  cases v with
  | false => exact as_Sum.up sub0 uX11_worth_c0v0
  | true => exact as_Sum.up sub1 uX11_worth_c0v1
theorem uv_X12_worth (v : Bool) : as_Sum (shf v) ([.inr (some 56), .inl ((-2147483648), 2147483647, 1, 0, [])], [], (some (.inl ((-2147483648), 2147483647, 1, 0, [4, 1, 0, 9, 1, 1])))) sX12_worth := by
  cases v with
  | false => exact as_Sum.up sub0 uX12_worth_c0v0
  | true => exact as_Sum.up sub1 uX12_worth_c0v1
theorem uv_X11_balance (v : Bool) : as_Sum (shf v) ([.inr (some 0), .inl ((-2147483648), 2147483647, 1, 0, [])], [], (some (.inl ((-2147483648), 2147483647, 1, 0, [])))) sX11_balance := by
  cases v with
  | false => exact as_Sum.up sub0 uX11_balance_c0v0
  | true => exact as_Sum.up sub1 uX11_balance_c0v1
section RNL
variable {gf : Nat → Option (Nat × Nat)} {pf : Nat → Option (Nat × Nat × FieldType)} {mv ms : Nat → Option (Nat × Option Nat × mm_F)} {kc : Nat → Option Value} {gs : Nat → Option Value} {rf : Nat → Nat → Option Value} {ro : Nat → Option (Nat × Nat × (Nat → Int32))} {rt : Option FieldType} {nL : Nat} {ins : Nat → Option Instr} {N pc : Nat} {lv : List (Nat × Value)} {st : List Value} {mw : List va_E} {Q : mm_R → Prop}
theorem r_lor {x y : Int64} (h : ins pc = some .lor) (k : rn gf pf mv ms kc gs rf ro rt nL ins N (pc + 1, lv, .long (x ||| y) :: st, mw) Q) : rn gf pf mv ms kc gs rf ro rt nL ins (N + 1) (pc, lv, .long y :: .long x :: st, mw) Q := rn_one h rfl k
end RNL
theorem lg_same (x : Int64) : (lg_cmp x x).toInt = 0 := by
  unfold lg_cmp
  simp
section LAW
variable {L : Nat} {xs : Nat → Int32} {v : Bool} {mw : List va_E} {i : Int} {N : Nat} {Q : mm_R → Prop}
theorem law_0 (h : LI v mw) (hi : 0 ≤ i ∧ i + 4 ≤ (L : Int)) (hL : L ≤ 2048) (k : ∀ (v : Bool) (mw : List va_E), LI v mw → rnL L xs N (873, [(3, iv (i)), (2, .ref 56), (1, .ref 0), (0, .ref 3000)], [], mw) Q) : rnL L xs (N + 60) (148, [(3, iv (i)), (2, .ref 56), (1, .ref 0), (0, .ref 3000)], [], mw) Q := by
  have hout := LI_out h
  obtain ⟨F0, h0⟩ := LI_0 h
  refine r_al rfl rfl ?_
  refine r_al rfl rfl ?_
  refine r_il rfl rfl ?_
  refine r_ic rfl ?_
  refine r_add rfl ?_
  refine r_iao rfl hout rfl (by omega) (by omega) (by omega) ?_
  refine r_i2l rfl ?_
  refine r_bi rfl (by decide) ?_
  refine r_lshl rfl ?_
  refine r_al rfl rfl ?_
  refine r_il rfl rfl ?_
  refine r_ic rfl ?_
  refine r_add rfl ?_
  refine r_iao rfl hout rfl (by omega) (by omega) (by omega) ?_
  refine r_i2l rfl ?_
  refine r_ldc2 rfl rfl ?_
  refine r_land rfl ?_
  refine r_lor rfl ?_
  refine r_al rfl rfl ?_
  refine r_il rfl rfl ?_
  refine r_ic rfl ?_
  refine r_add rfl ?_
  refine r_iao rfl hout rfl (by omega) (by omega) (by omega) ?_
  obtain ⟨c1, mw1, mw2, e1, e2, hE, hout, F56, h56⟩ := LI_type (x := (((Int32.ofInt ((xs (Int.toNat ((i) + (1)))).toInt)).toInt64) <<< ((Int32.ofInt (32)).toInt64 &&& 63)) ||| (((Int32.ofInt ((xs (Int.toNat ((i) + (2)))).toInt)).toInt64) &&& (4294967295))) (a := (xs (Int.toNat ((i) + (3)))).toInt) (as_r _) h
  refine r_v3s rfl rfl h0 rfl e1 ?_
  refine r_pop rfl rfl ?_
  refine r_al rfl rfl ?_
  refine r_al rfl rfl ?_
  refine r_il rfl rfl ?_
  refine r_ic rfl ?_
  refine r_add rfl ?_
  refine r_iao rfl hout rfl (by omega) (by omega) (by omega) ?_
  refine r_i2l rfl ?_
  refine r_bi rfl (by decide) ?_
  refine r_lshl rfl ?_
  refine r_al rfl rfl ?_
  refine r_il rfl rfl ?_
  refine r_ic rfl ?_
  refine r_add rfl ?_
  refine r_iao rfl hout rfl (by omega) (by omega) (by omega) ?_
  refine r_i2l rfl ?_
  refine r_ldc2 rfl rfl ?_
  refine r_land rfl ?_
  refine r_lor rfl ?_
  refine r_al rfl rfl ?_
  refine r_il rfl rfl ?_
  refine r_ic rfl ?_
  refine r_add rfl ?_
  refine r_iao rfl hout rfl (by omega) (by omega) (by omega) ?_
  refine r_v3s rfl rfl h56 rfl e2 ?_
  refine r_pop rfl rfl ?_
  refine r_goto rfl rfl ?_
  exact rn_up (by omega) (k _ _ hE)
theorem law_1 (h : LI v mw) (hi : 0 ≤ i ∧ i + 4 ≤ (L : Int)) (hL : L ≤ 2048) (k : ∀ (v : Bool) (mw : List va_E), LI v mw → rnL L xs N (873, [(3, iv (i)), (2, .ref 56), (1, .ref 0), (0, .ref 3000)], [], mw) Q) : rnL L xs (N + 60) (211, [(3, iv (i)), (2, .ref 56), (1, .ref 0), (0, .ref 3000)], [], mw) Q := by
  have hout := LI_out h
  obtain ⟨F0, h0⟩ := LI_0 h
  refine r_al rfl rfl ?_
  obtain ⟨c1, mw1, mw2, e1, e2, hE, hout, F56, h56⟩ := LI_clear   h
  refine r_v1s rfl rfl h0 rfl e1 ?_
  refine r_pop rfl rfl ?_
  refine r_al rfl rfl ?_
  refine r_v1s rfl rfl h56 rfl e2 ?_
  refine r_pop rfl rfl ?_
  refine r_goto rfl rfl ?_
  exact rn_up (by omega) (k _ _ hE)
theorem law_2 (h : LI v mw) (hi : 0 ≤ i ∧ i + 4 ≤ (L : Int)) (hL : L ≤ 2048) (k : ∀ (v : Bool) (mw : List va_E), LI v mw → rnL L xs N (873, [(3, iv (i)), (2, .ref 56), (1, .ref 0), (0, .ref 3000)], [], mw) Q) : rnL L xs (N + 60) (224, [(3, iv (i)), (2, .ref 56), (1, .ref 0), (0, .ref 3000)], [], mw) Q := by
  have hout := LI_out h
  obtain ⟨F0, h0⟩ := LI_0 h
  refine r_al rfl rfl ?_
  obtain ⟨v2, c1, mw1, mw2, e1, e2, hE, hout, F56, h56⟩ := LI_papers   h
  refine r_v1s rfl rfl h0 rfl e1 ?_
  refine r_pop rfl rfl ?_
  refine r_al rfl rfl ?_
  refine r_v1s rfl rfl h56 rfl e2 ?_
  refine r_pop rfl rfl ?_
  refine r_goto rfl rfl ?_
  exact rn_up (by omega) (k _ _ hE)
theorem law_3 (h : LI v mw) (hi : 0 ≤ i ∧ i + 4 ≤ (L : Int)) (hL : L ≤ 2048) (k : ∀ (v : Bool) (mw : List va_E), LI v mw → rnL L xs N (873, [(3, iv (i)), (2, .ref 56), (1, .ref 0), (0, .ref 3000)], [], mw) Q) : rnL L xs (N + 60) (237, [(3, iv (i)), (2, .ref 56), (1, .ref 0), (0, .ref 3000)], [], mw) Q := by
  have hout := LI_out h
  obtain ⟨F0, h0⟩ := LI_0 h
  refine r_al rfl rfl ?_
  refine r_al rfl rfl ?_
  refine r_il rfl rfl ?_
  refine r_ic rfl ?_
  refine r_add rfl ?_
  refine r_iao rfl hout rfl (by omega) (by omega) (by omega) ?_
  refine r_al rfl rfl ?_
  refine r_il rfl rfl ?_
  refine r_ic rfl ?_
  refine r_add rfl ?_
  refine r_iao rfl hout rfl (by omega) (by omega) (by omega) ?_
  obtain ⟨c1, mw1, mw2, e1, e2, hE, hout, F56, h56⟩ := LI_debt (a := (xs (Int.toNat ((i) + (1)))).toInt) (b := (xs (Int.toNat ((i) + (2)))).toInt) (as_r _) (as_r _) h
  refine r_v3s rfl rfl h0 rfl e1 ?_
  refine r_pop rfl rfl ?_
  refine r_al rfl rfl ?_
  refine r_al rfl rfl ?_
  refine r_il rfl rfl ?_
  refine r_ic rfl ?_
  refine r_add rfl ?_
  refine r_iao rfl hout rfl (by omega) (by omega) (by omega) ?_
  refine r_al rfl rfl ?_
  refine r_il rfl rfl ?_
  refine r_ic rfl ?_
  refine r_add rfl ?_
  refine r_iao rfl hout rfl (by omega) (by omega) (by omega) ?_
  refine r_v3s rfl rfl h56 rfl e2 ?_
  refine r_pop rfl rfl ?_
  refine r_goto rfl rfl ?_
  exact rn_up (by omega) (k _ _ hE)
theorem law_4 (h : LI v mw) (hi : 0 ≤ i ∧ i + 4 ≤ (L : Int)) (hL : L ≤ 2048) (k : ∀ (v : Bool) (mw : List va_E), LI v mw → rnL L xs N (873, [(3, iv (i)), (2, .ref 56), (1, .ref 0), (0, .ref 3000)], [], mw) Q) : rnL L xs (N + 60) (270, [(3, iv (i)), (2, .ref 56), (1, .ref 0), (0, .ref 3000)], [], mw) Q := by
  have hout := LI_out h
  obtain ⟨F0, h0⟩ := LI_0 h
  refine r_al rfl rfl ?_
  refine r_al rfl rfl ?_
  refine r_il rfl rfl ?_
  refine r_ic rfl ?_
  refine r_add rfl ?_
  refine r_iao rfl hout rfl (by omega) (by omega) (by omega) ?_
  refine r_al rfl rfl ?_
  refine r_il rfl rfl ?_
  refine r_ic rfl ?_
  refine r_add rfl ?_
  refine r_iao rfl hout rfl (by omega) (by omega) (by omega) ?_
  obtain ⟨c1, mw1, e1, h⟩ := call_I (vs := [.ref 0, iv ((xs (Int.toNat ((i) + (1)))).toInt), iv ((xs (Int.toNat ((i) + (2)))).toInt)]) (uv_X11_standing v) h ⟨rfl, av_t _, av_t _, trivial⟩
  have hout := LI_out h
  obtain ⟨F56, h56⟩ := LI_56 h
  refine r_v3s rfl rfl h0 rfl e1 ?_
  refine r_pop rfl rfl ?_
  refine r_al rfl rfl ?_
  refine r_al rfl rfl ?_
  refine r_il rfl rfl ?_
  refine r_ic rfl ?_
  refine r_add rfl ?_
  refine r_iao rfl hout rfl (by omega) (by omega) (by omega) ?_
  refine r_al rfl rfl ?_
  refine r_il rfl rfl ?_
  refine r_ic rfl ?_
  refine r_add rfl ?_
  refine r_iao rfl hout rfl (by omega) (by omega) (by omega) ?_
  obtain ⟨c2, mw2, e2, hE⟩ := call_I (vs := [.ref 56, iv ((xs (Int.toNat ((i) + (1)))).toInt), iv ((xs (Int.toNat ((i) + (2)))).toInt)]) (uv_X12_standing v) h ⟨rfl, av_t _, av_t _, trivial⟩
  refine r_v3s rfl rfl h56 rfl e2 ?_
  refine r_pop rfl rfl ?_
  refine r_goto rfl rfl ?_
  exact rn_up (by omega) (k _ _ hE)
theorem law_5 (h : LI v mw) (hi : 0 ≤ i ∧ i + 4 ≤ (L : Int)) (hL : L ≤ 2048) (k : ∀ (v : Bool) (mw : List va_E), LI v mw → rnL L xs N (873, [(3, iv (i)), (2, .ref 56), (1, .ref 0), (0, .ref 3000)], [], mw) Q) : rnL L xs (N + 60) (303, [(3, iv (i)), (2, .ref 56), (1, .ref 0), (0, .ref 3000)], [], mw) Q := by
  have hout := LI_out h
  obtain ⟨F0, h0⟩ := LI_0 h
  refine r_al rfl rfl ?_
  refine r_al rfl rfl ?_
  refine r_il rfl rfl ?_
  refine r_ic rfl ?_
  refine r_add rfl ?_
  refine r_iao rfl hout rfl (by omega) (by omega) (by omega) ?_
  refine r_al rfl rfl ?_
  refine r_il rfl rfl ?_
  refine r_ic rfl ?_
  refine r_add rfl ?_
  refine r_iao rfl hout rfl (by omega) (by omega) (by omega) ?_
  refine r_al rfl rfl ?_
  refine r_il rfl rfl ?_
  refine r_ic rfl ?_
  refine r_add rfl ?_
  refine r_iao rfl hout rfl (by omega) (by omega) (by omega) ?_
  obtain ⟨c1, mw1, mw2, e1, e2, hE, hout, F56, h56⟩ := LI_person (a := (xs (Int.toNat ((i) + (1)))).toInt) (b := (xs (Int.toNat ((i) + (2)))).toInt) (x := (xs (Int.toNat ((i) + (3)))).toInt) (as_r _) (as_r _) (as_r _) h
  refine r_v4s rfl rfl h0 rfl e1 ?_
  refine r_pop rfl rfl ?_
  refine r_al rfl rfl ?_
  refine r_al rfl rfl ?_
  refine r_il rfl rfl ?_
  refine r_ic rfl ?_
  refine r_add rfl ?_
  refine r_iao rfl hout rfl (by omega) (by omega) (by omega) ?_
  refine r_al rfl rfl ?_
  refine r_il rfl rfl ?_
  refine r_ic rfl ?_
  refine r_add rfl ?_
  refine r_iao rfl hout rfl (by omega) (by omega) (by omega) ?_
  refine r_al rfl rfl ?_
  refine r_il rfl rfl ?_
  refine r_ic rfl ?_
  refine r_add rfl ?_
  refine r_iao rfl hout rfl (by omega) (by omega) (by omega) ?_
  refine r_v4s rfl rfl h56 rfl e2 ?_
  refine r_pop rfl rfl ?_
  refine r_goto rfl rfl ?_
  exact rn_up (by omega) (k _ _ hE)
theorem law_6 (h : LI v mw) (hi : 0 ≤ i ∧ i + 4 ≤ (L : Int)) (hL : L ≤ 2048) (k : ∀ (v : Bool) (mw : List va_E), LI v mw → rnL L xs N (873, [(3, iv (i)), (2, .ref 56), (1, .ref 0), (0, .ref 3000)], [], mw) Q) : rnL L xs (N + 60) (346, [(3, iv (i)), (2, .ref 56), (1, .ref 0), (0, .ref 3000)], [], mw) Q := by
  have hout := LI_out h
  obtain ⟨F0, h0⟩ := LI_0 h
  refine r_al rfl rfl ?_
  refine r_al rfl rfl ?_
  refine r_il rfl rfl ?_
  refine r_ic rfl ?_
  refine r_add rfl ?_
  refine r_iao rfl hout rfl (by omega) (by omega) (by omega) ?_
  refine r_al rfl rfl ?_
  refine r_il rfl rfl ?_
  refine r_ic rfl ?_
  refine r_add rfl ?_
  refine r_iao rfl hout rfl (by omega) (by omega) (by omega) ?_
  obtain ⟨c1, mw1, mw2, e1, e2, hE, hout, F56, h56⟩ := LI_has (a := (xs (Int.toNat ((i) + (1)))).toInt) (b := (xs (Int.toNat ((i) + (2)))).toInt) (as_r _) (as_r _) h
  refine r_v3s rfl rfl h0 rfl e1 ?_
  refine r_pop rfl rfl ?_
  refine r_al rfl rfl ?_
  refine r_al rfl rfl ?_
  refine r_il rfl rfl ?_
  refine r_ic rfl ?_
  refine r_add rfl ?_
  refine r_iao rfl hout rfl (by omega) (by omega) (by omega) ?_
  refine r_al rfl rfl ?_
  refine r_il rfl rfl ?_
  refine r_ic rfl ?_
  refine r_add rfl ?_
  refine r_iao rfl hout rfl (by omega) (by omega) (by omega) ?_
  refine r_v3s rfl rfl h56 rfl e2 ?_
  refine r_pop rfl rfl ?_
  refine r_goto rfl rfl ?_
  exact rn_up (by omega) (k _ _ hE)
theorem law_7 (h : LI v mw) (hi : 0 ≤ i ∧ i + 4 ≤ (L : Int)) (hL : L ≤ 2048) (k : ∀ (v : Bool) (mw : List va_E), LI v mw → rnL L xs N (873, [(3, iv (i)), (2, .ref 56), (1, .ref 0), (0, .ref 3000)], [], mw) Q) : rnL L xs (N + 60) (379, [(3, iv (i)), (2, .ref 56), (1, .ref 0), (0, .ref 3000)], [], mw) Q := by
  have hout := LI_out h
  obtain ⟨F0, h0⟩ := LI_0 h
  refine r_al rfl rfl ?_
  refine r_al rfl rfl ?_
  refine r_il rfl rfl ?_
  refine r_ic rfl ?_
  refine r_add rfl ?_
  refine r_iao rfl hout rfl (by omega) (by omega) (by omega) ?_
  refine r_al rfl rfl ?_
  refine r_il rfl rfl ?_
  refine r_ic rfl ?_
  refine r_add rfl ?_
  refine r_iao rfl hout rfl (by omega) (by omega) (by omega) ?_
  obtain ⟨c1, mw1, e1, h⟩ := call_I (vs := [.ref 0, iv ((xs (Int.toNat ((i) + (1)))).toInt), iv ((xs (Int.toNat ((i) + (2)))).toInt)]) (uv_X11_ask v) h ⟨rfl, av_t _, av_t _, trivial⟩
  have hout := LI_out h
  obtain ⟨F56, h56⟩ := LI_56 h
  refine r_v3s rfl rfl h0 rfl e1 ?_
  refine r_pop rfl rfl ?_
  refine r_al rfl rfl ?_
  refine r_al rfl rfl ?_
  refine r_il rfl rfl ?_
  refine r_ic rfl ?_
  refine r_add rfl ?_
  refine r_iao rfl hout rfl (by omega) (by omega) (by omega) ?_
  refine r_al rfl rfl ?_
  refine r_il rfl rfl ?_
  refine r_ic rfl ?_
  refine r_add rfl ?_
  refine r_iao rfl hout rfl (by omega) (by omega) (by omega) ?_
  obtain ⟨c2, mw2, e2, hE⟩ := call_I (vs := [.ref 56, iv ((xs (Int.toNat ((i) + (1)))).toInt), iv ((xs (Int.toNat ((i) + (2)))).toInt)]) (uv_X12_ask v) h ⟨rfl, av_t _, av_t _, trivial⟩
  refine r_v3s rfl rfl h56 rfl e2 ?_
  refine r_pop rfl rfl ?_
  refine r_goto rfl rfl ?_
  exact rn_up (by omega) (k _ _ hE)
theorem law_8 (h : LI v mw) (hi : 0 ≤ i ∧ i + 4 ≤ (L : Int)) (hL : L ≤ 2048) (k : ∀ (v : Bool) (mw : List va_E), LI v mw → rnL L xs N (873, [(3, iv (i)), (2, .ref 56), (1, .ref 0), (0, .ref 3000)], [], mw) Q) : rnL L xs (N + 60) (412, [(3, iv (i)), (2, .ref 56), (1, .ref 0), (0, .ref 3000)], [], mw) Q := by
  have hout := LI_out h
  obtain ⟨F0, h0⟩ := LI_0 h
  refine r_al rfl rfl ?_
  refine r_al rfl rfl ?_
  refine r_il rfl rfl ?_
  refine r_ic rfl ?_
  refine r_add rfl ?_
  refine r_iao rfl hout rfl (by omega) (by omega) (by omega) ?_
  refine r_al rfl rfl ?_
  refine r_il rfl rfl ?_
  refine r_ic rfl ?_
  refine r_add rfl ?_
  refine r_iao rfl hout rfl (by omega) (by omega) (by omega) ?_
  refine r_al rfl rfl ?_
  refine r_il rfl rfl ?_
  refine r_ic rfl ?_
  refine r_add rfl ?_
  refine r_iao rfl hout rfl (by omega) (by omega) (by omega) ?_
  obtain ⟨c1, mw1, mw2, e1, e2, hE, hout, F56, h56⟩ := LI_pay (k := (xs (Int.toNat ((i) + (1)))).toInt) (i := (xs (Int.toNat ((i) + (2)))).toInt) (n := (xs (Int.toNat ((i) + (3)))).toInt) (as_r _) (as_r _) (as_r _) h
  refine r_v4s rfl rfl h0 rfl e1 ?_
  refine r_pop rfl rfl ?_
  refine r_al rfl rfl ?_
  refine r_al rfl rfl ?_
  refine r_il rfl rfl ?_
  refine r_ic rfl ?_
  refine r_add rfl ?_
  refine r_iao rfl hout rfl (by omega) (by omega) (by omega) ?_
  refine r_al rfl rfl ?_
  refine r_il rfl rfl ?_
  refine r_ic rfl ?_
  refine r_add rfl ?_
  refine r_iao rfl hout rfl (by omega) (by omega) (by omega) ?_
  refine r_al rfl rfl ?_
  refine r_il rfl rfl ?_
  refine r_ic rfl ?_
  refine r_add rfl ?_
  refine r_iao rfl hout rfl (by omega) (by omega) (by omega) ?_
  refine r_v4s rfl rfl h56 rfl e2 ?_
  refine r_pop rfl rfl ?_
  refine r_goto rfl rfl ?_
  exact rn_up (by omega) (k _ _ hE)
theorem law_9 (h : LI v mw) (hi : 0 ≤ i ∧ i + 4 ≤ (L : Int)) (hL : L ≤ 2048) (k : ∀ (v : Bool) (mw : List va_E), LI v mw → rnL L xs N (873, [(3, iv (i)), (2, .ref 56), (1, .ref 0), (0, .ref 3000)], [], mw) Q) : rnL L xs (N + 60) (455, [(3, iv (i)), (2, .ref 56), (1, .ref 0), (0, .ref 3000)], [], mw) Q := by
  have hout := LI_out h
  obtain ⟨F0, h0⟩ := LI_0 h
  refine r_al rfl rfl ?_
  refine r_al rfl rfl ?_
  refine r_il rfl rfl ?_
  refine r_ic rfl ?_
  refine r_add rfl ?_
  refine r_iao rfl hout rfl (by omega) (by omega) (by omega) ?_
  refine r_al rfl rfl ?_
  refine r_il rfl rfl ?_
  refine r_ic rfl ?_
  refine r_add rfl ?_
  refine r_iao rfl hout rfl (by omega) (by omega) (by omega) ?_
  obtain ⟨c1, mw1, e1, h⟩ := call_I (vs := [.ref 0, iv ((xs (Int.toNat ((i) + (1)))).toInt), iv ((xs (Int.toNat ((i) + (2)))).toInt)]) (uv_X11_back v) h ⟨rfl, av_t _, av_t _, trivial⟩
  have hout := LI_out h
  obtain ⟨F56, h56⟩ := LI_56 h
  refine r_v3s rfl rfl h0 rfl e1 ?_
  refine r_pop rfl rfl ?_
  refine r_al rfl rfl ?_
  refine r_al rfl rfl ?_
  refine r_il rfl rfl ?_
  refine r_ic rfl ?_
  refine r_add rfl ?_
  refine r_iao rfl hout rfl (by omega) (by omega) (by omega) ?_
  refine r_al rfl rfl ?_
  refine r_il rfl rfl ?_
  refine r_ic rfl ?_
  refine r_add rfl ?_
  refine r_iao rfl hout rfl (by omega) (by omega) (by omega) ?_
  obtain ⟨c2, mw2, e2, hE⟩ := call_I (vs := [.ref 56, iv ((xs (Int.toNat ((i) + (1)))).toInt), iv ((xs (Int.toNat ((i) + (2)))).toInt)]) (uv_X12_back v) h ⟨rfl, av_t _, av_t _, trivial⟩
  refine r_v3s rfl rfl h56 rfl e2 ?_
  refine r_pop rfl rfl ?_
  refine r_goto rfl rfl ?_
  exact rn_up (by omega) (k _ _ hE)
theorem law_10 (h : LI v mw) (hi : 0 ≤ i ∧ i + 4 ≤ (L : Int)) (hL : L ≤ 2048) (k : ∀ (v : Bool) (mw : List va_E), LI v mw → rnL L xs N (873, [(3, iv (i)), (2, .ref 56), (1, .ref 0), (0, .ref 3000)], [], mw) Q) : rnL L xs (N + 60) (488, [(3, iv (i)), (2, .ref 56), (1, .ref 0), (0, .ref 3000)], [], mw) Q := by
  have hout := LI_out h
  obtain ⟨F0, h0⟩ := LI_0 h
  refine r_al rfl rfl ?_
  refine r_al rfl rfl ?_
  refine r_il rfl rfl ?_
  refine r_ic rfl ?_
  refine r_add rfl ?_
  refine r_iao rfl hout rfl (by omega) (by omega) (by omega) ?_
  refine r_al rfl rfl ?_
  refine r_il rfl rfl ?_
  refine r_ic rfl ?_
  refine r_add rfl ?_
  refine r_iao rfl hout rfl (by omega) (by omega) (by omega) ?_
  obtain ⟨c1, mw1, mw2, e1, e2, hE, hout, F56, h56⟩ := LI_release (i := (xs (Int.toNat ((i) + (1)))).toInt) (law := (xs (Int.toNat ((i) + (2)))).toInt) (as_r _) (as_r _) h
  refine r_v3s rfl rfl h0 rfl e1 ?_
  refine r_pop rfl rfl ?_
  refine r_al rfl rfl ?_
  refine r_al rfl rfl ?_
  refine r_il rfl rfl ?_
  refine r_ic rfl ?_
  refine r_add rfl ?_
  refine r_iao rfl hout rfl (by omega) (by omega) (by omega) ?_
  refine r_al rfl rfl ?_
  refine r_il rfl rfl ?_
  refine r_ic rfl ?_
  refine r_add rfl ?_
  refine r_iao rfl hout rfl (by omega) (by omega) (by omega) ?_
  refine r_v3s rfl rfl h56 rfl e2 ?_
  refine r_pop rfl rfl ?_
  refine r_goto rfl rfl ?_
  exact rn_up (by omega) (k _ _ hE)
theorem law_11 (h : LI v mw) (hi : 0 ≤ i ∧ i + 4 ≤ (L : Int)) (hL : L ≤ 2048) (k : ∀ (v : Bool) (mw : List va_E), LI v mw → rnL L xs N (873, [(3, iv (i)), (2, .ref 56), (1, .ref 0), (0, .ref 3000)], [], mw) Q) : rnL L xs (N + 60) (521, [(3, iv (i)), (2, .ref 56), (1, .ref 0), (0, .ref 3000)], [], mw) Q := by
  have hout := LI_out h
  obtain ⟨F0, h0⟩ := LI_0 h
  refine r_al rfl rfl ?_
  refine r_al rfl rfl ?_
  refine r_il rfl rfl ?_
  refine r_ic rfl ?_
  refine r_add rfl ?_
  refine r_iao rfl hout rfl (by omega) (by omega) (by omega) ?_
  refine r_al rfl rfl ?_
  refine r_il rfl rfl ?_
  refine r_ic rfl ?_
  refine r_add rfl ?_
  refine r_iao rfl hout rfl (by omega) (by omega) (by omega) ?_
  refine r_al rfl rfl ?_
  refine r_il rfl rfl ?_
  refine r_ic rfl ?_
  refine r_add rfl ?_
  refine r_iao rfl hout rfl (by omega) (by omega) (by omega) ?_
  obtain ⟨c1, mw1, e1, h⟩ := call_I (vs := [.ref 0, iv ((xs (Int.toNat ((i) + (1)))).toInt), iv ((xs (Int.toNat ((i) + (2)))).toInt), iv ((xs (Int.toNat ((i) + (3)))).toInt)]) (uv_X11_burden v) h ⟨rfl, av_t _, av_t _, av_t _, trivial⟩
  have hout := LI_out h
  obtain ⟨F56, h56⟩ := LI_56 h
  refine r_v4s rfl rfl h0 rfl e1 ?_
  refine r_pop rfl rfl ?_
  refine r_al rfl rfl ?_
  refine r_al rfl rfl ?_
  refine r_il rfl rfl ?_
  refine r_ic rfl ?_
  refine r_add rfl ?_
  refine r_iao rfl hout rfl (by omega) (by omega) (by omega) ?_
  refine r_al rfl rfl ?_
  refine r_il rfl rfl ?_
  refine r_ic rfl ?_
  refine r_add rfl ?_
  refine r_iao rfl hout rfl (by omega) (by omega) (by omega) ?_
  refine r_al rfl rfl ?_
  refine r_il rfl rfl ?_
  refine r_ic rfl ?_
  refine r_add rfl ?_
  refine r_iao rfl hout rfl (by omega) (by omega) (by omega) ?_
  obtain ⟨c2, mw2, e2, hE⟩ := call_I (vs := [.ref 56, iv ((xs (Int.toNat ((i) + (1)))).toInt), iv ((xs (Int.toNat ((i) + (2)))).toInt), iv ((xs (Int.toNat ((i) + (3)))).toInt)]) (uv_X12_burden v) h ⟨rfl, av_t _, av_t _, av_t _, trivial⟩
  refine r_v4s rfl rfl h56 rfl e2 ?_
  refine r_pop rfl rfl ?_
  refine r_goto rfl rfl ?_
  exact rn_up (by omega) (k _ _ hE)
theorem law_12 (h : LI v mw) (hi : 0 ≤ i ∧ i + 4 ≤ (L : Int)) (hL : L ≤ 2048) (k : ∀ (v : Bool) (mw : List va_E), LI v mw → rnL L xs N (873, [(3, iv (i)), (2, .ref 56), (1, .ref 0), (0, .ref 3000)], [], mw) Q) : rnL L xs (N + 60) (564, [(3, iv (i)), (2, .ref 56), (1, .ref 0), (0, .ref 3000)], [], mw) Q := by
  have hout := LI_out h
  obtain ⟨F0, h0⟩ := LI_0 h
  refine r_al rfl rfl ?_
  refine r_al rfl rfl ?_
  refine r_il rfl rfl ?_
  refine r_ic rfl ?_
  refine r_add rfl ?_
  refine r_iao rfl hout rfl (by omega) (by omega) (by omega) ?_
  refine r_al rfl rfl ?_
  refine r_il rfl rfl ?_
  refine r_ic rfl ?_
  refine r_add rfl ?_
  refine r_iao rfl hout rfl (by omega) (by omega) (by omega) ?_
  obtain ⟨c1, mw1, e1, h⟩ := call_I (vs := [.ref 0, iv ((xs (Int.toNat ((i) + (1)))).toInt), iv ((xs (Int.toNat ((i) + (2)))).toInt)]) (uv_X11_chain v) h ⟨rfl, av_t _, av_t _, trivial⟩
  have hout := LI_out h
  obtain ⟨F56, h56⟩ := LI_56 h
  refine r_v3s rfl rfl h0 rfl e1 ?_
  refine r_pop rfl rfl ?_
  refine r_al rfl rfl ?_
  refine r_al rfl rfl ?_
  refine r_il rfl rfl ?_
  refine r_ic rfl ?_
  refine r_add rfl ?_
  refine r_iao rfl hout rfl (by omega) (by omega) (by omega) ?_
  refine r_al rfl rfl ?_
  refine r_il rfl rfl ?_
  refine r_ic rfl ?_
  refine r_add rfl ?_
  refine r_iao rfl hout rfl (by omega) (by omega) (by omega) ?_
  obtain ⟨c2, mw2, e2, hE⟩ := call_I (vs := [.ref 56, iv ((xs (Int.toNat ((i) + (1)))).toInt), iv ((xs (Int.toNat ((i) + (2)))).toInt)]) (uv_X12_chain v) h ⟨rfl, av_t _, av_t _, trivial⟩
  refine r_v3s rfl rfl h56 rfl e2 ?_
  refine r_pop rfl rfl ?_
  refine r_goto rfl rfl ?_
  exact rn_up (by omega) (k _ _ hE)
theorem law_13 (h : LI v mw) (hi : 0 ≤ i ∧ i + 4 ≤ (L : Int)) (hL : L ≤ 2048) (k : ∀ (v : Bool) (mw : List va_E), LI v mw → rnL L xs N (873, [(3, iv (i)), (2, .ref 56), (1, .ref 0), (0, .ref 3000)], [], mw) Q) : rnL L xs (N + 60) (597, [(3, iv (i)), (2, .ref 56), (1, .ref 0), (0, .ref 3000)], [], mw) Q := by
  have hout := LI_out h
  obtain ⟨F0, h0⟩ := LI_0 h
  refine r_al rfl rfl ?_
  obtain ⟨c1, mw1, e1, h⟩ := call_I (vs := [.ref 0]) (uv_X11_worst v) h ⟨rfl, trivial⟩
  have hout := LI_out h
  obtain ⟨F56, h56⟩ := LI_56 h
  refine r_v1s rfl rfl h0 rfl e1 ?_
  refine r_pop rfl rfl ?_
  refine r_al rfl rfl ?_
  obtain ⟨c2, mw2, e2, hE⟩ := call_I (vs := [.ref 56]) (uv_X12_worst v) h ⟨rfl, trivial⟩
  refine r_v1s rfl rfl h56 rfl e2 ?_
  refine r_pop rfl rfl ?_
  refine r_goto rfl rfl ?_
  exact rn_up (by omega) (k _ _ hE)
theorem law_14 (h : LI v mw) (hi : 0 ≤ i ∧ i + 4 ≤ (L : Int)) (hL : L ≤ 2048) (k : ∀ (v : Bool) (mw : List va_E), LI v mw → rnL L xs N (873, [(3, iv (i)), (2, .ref 56), (1, .ref 0), (0, .ref 3000)], [], mw) Q) : rnL L xs (N + 60) (610, [(3, iv (i)), (2, .ref 56), (1, .ref 0), (0, .ref 3000)], [], mw) Q := by
  have hout := LI_out h
  obtain ⟨F0, h0⟩ := LI_0 h
  refine r_al rfl rfl ?_
  refine r_al rfl rfl ?_
  refine r_il rfl rfl ?_
  refine r_ic rfl ?_
  refine r_add rfl ?_
  refine r_iao rfl hout rfl (by omega) (by omega) (by omega) ?_
  obtain ⟨c1, mw1, e1, h⟩ := call_I (vs := [.ref 0, iv ((xs (Int.toNat ((i) + (1)))).toInt)]) (uv_X11_lose v) h ⟨rfl, av_t _, trivial⟩
  have hout := LI_out h
  obtain ⟨F56, h56⟩ := LI_56 h
  refine r_v2s rfl rfl h0 rfl e1 ?_
  refine r_pop rfl rfl ?_
  refine r_al rfl rfl ?_
  refine r_al rfl rfl ?_
  refine r_il rfl rfl ?_
  refine r_ic rfl ?_
  refine r_add rfl ?_
  refine r_iao rfl hout rfl (by omega) (by omega) (by omega) ?_
  obtain ⟨c2, mw2, e2, hE⟩ := call_I (vs := [.ref 56, iv ((xs (Int.toNat ((i) + (1)))).toInt)]) (uv_X12_lose v) h ⟨rfl, av_t _, trivial⟩
  refine r_v2s rfl rfl h56 rfl e2 ?_
  refine r_pop rfl rfl ?_
  refine r_goto rfl rfl ?_
  exact rn_up (by omega) (k _ _ hE)
theorem law_15 (h : LI v mw) (hi : 0 ≤ i ∧ i + 4 ≤ (L : Int)) (hL : L ≤ 2048) (k : ∀ (v : Bool) (mw : List va_E), LI v mw → rnL L xs N (873, [(3, iv (i)), (2, .ref 56), (1, .ref 0), (0, .ref 3000)], [], mw) Q) : rnL L xs (N + 60) (633, [(3, iv (i)), (2, .ref 56), (1, .ref 0), (0, .ref 3000)], [], mw) Q := by
  have hout := LI_out h
  obtain ⟨F0, h0⟩ := LI_0 h
  refine r_al rfl rfl ?_
  refine r_al rfl rfl ?_
  refine r_il rfl rfl ?_
  refine r_ic rfl ?_
  refine r_add rfl ?_
  refine r_iao rfl hout rfl (by omega) (by omega) (by omega) ?_
  obtain ⟨c1, mw1, e1, h⟩ := call_I (vs := [.ref 0, iv ((xs (Int.toNat ((i) + (1)))).toInt)]) (uv_X11_rounds v) h ⟨rfl, av_t _, trivial⟩
  have hout := LI_out h
  obtain ⟨F56, h56⟩ := LI_56 h
  refine r_v2s rfl rfl h0 rfl e1 ?_
  refine r_pop rfl rfl ?_
  refine r_al rfl rfl ?_
  refine r_al rfl rfl ?_
  refine r_il rfl rfl ?_
  refine r_ic rfl ?_
  refine r_add rfl ?_
  refine r_iao rfl hout rfl (by omega) (by omega) (by omega) ?_
  obtain ⟨c2, mw2, e2, hE⟩ := call_I (vs := [.ref 56, iv ((xs (Int.toNat ((i) + (1)))).toInt)]) (uv_X12_rounds v) h ⟨rfl, av_t _, trivial⟩
  refine r_v2s rfl rfl h56 rfl e2 ?_
  refine r_pop rfl rfl ?_
  refine r_goto rfl rfl ?_
  exact rn_up (by omega) (k _ _ hE)
theorem law_16 (h : LI v mw) (hi : 0 ≤ i ∧ i + 4 ≤ (L : Int)) (hL : L ≤ 2048) (k : ∀ (v : Bool) (mw : List va_E), LI v mw → rnL L xs N (873, [(3, iv (i)), (2, .ref 56), (1, .ref 0), (0, .ref 3000)], [], mw) Q) : rnL L xs (N + 60) (656, [(3, iv (i)), (2, .ref 56), (1, .ref 0), (0, .ref 3000)], [], mw) Q := by
  have hout := LI_out h
  obtain ⟨F0, h0⟩ := LI_0 h
  refine r_al rfl rfl ?_
  refine r_al rfl rfl ?_
  refine r_il rfl rfl ?_
  refine r_ic rfl ?_
  refine r_add rfl ?_
  refine r_iao rfl hout rfl (by omega) (by omega) (by omega) ?_
  obtain ⟨c1, mw1, e1, h⟩ := call_I (vs := [.ref 0, iv ((xs (Int.toNat ((i) + (1)))).toInt)]) (uv_X11_end v) h ⟨rfl, av_t _, trivial⟩
  have hout := LI_out h
  obtain ⟨F56, h56⟩ := LI_56 h
  refine r_v2s rfl rfl h0 rfl e1 ?_
  refine r_pop rfl rfl ?_
  refine r_al rfl rfl ?_
  refine r_al rfl rfl ?_
  refine r_il rfl rfl ?_
  refine r_ic rfl ?_
  refine r_add rfl ?_
  refine r_iao rfl hout rfl (by omega) (by omega) (by omega) ?_
  obtain ⟨c2, mw2, e2, hE⟩ := call_I (vs := [.ref 56, iv ((xs (Int.toNat ((i) + (1)))).toInt)]) (uv_X12_end v) h ⟨rfl, av_t _, trivial⟩
  refine r_v2s rfl rfl h56 rfl e2 ?_
  refine r_pop rfl rfl ?_
  refine r_goto rfl rfl ?_
  exact rn_up (by omega) (k _ _ hE)
theorem law_17 (h : LI v mw) (hi : 0 ≤ i ∧ i + 4 ≤ (L : Int)) (hL : L ≤ 2048) (k : ∀ (v : Bool) (mw : List va_E), LI v mw → rnL L xs N (873, [(3, iv (i)), (2, .ref 56), (1, .ref 0), (0, .ref 3000)], [], mw) Q) : rnL L xs (N + 60) (679, [(3, iv (i)), (2, .ref 56), (1, .ref 0), (0, .ref 3000)], [], mw) Q := by
  have hout := LI_out h
  obtain ⟨F0, h0⟩ := LI_0 h
  refine r_al rfl rfl ?_
  refine r_al rfl rfl ?_
  refine r_il rfl rfl ?_
  refine r_ic rfl ?_
  refine r_add rfl ?_
  refine r_iao rfl hout rfl (by omega) (by omega) (by omega) ?_
  refine r_al rfl rfl ?_
  refine r_il rfl rfl ?_
  refine r_ic rfl ?_
  refine r_add rfl ?_
  refine r_iao rfl hout rfl (by omega) (by omega) (by omega) ?_
  obtain ⟨c1, mw1, mw2, e1, e2, hE, hout, F56, h56⟩ := LI_bears (a := (xs (Int.toNat ((i) + (1)))).toInt) (b := (xs (Int.toNat ((i) + (2)))).toInt) (as_r _) (as_r _) h
  refine r_v3s rfl rfl h0 rfl e1 ?_
  refine r_al rfl rfl ?_
  refine r_al rfl rfl ?_
  refine r_il rfl rfl ?_
  refine r_ic rfl ?_
  refine r_add rfl ?_
  refine r_iao rfl hout rfl (by omega) (by omega) (by omega) ?_
  refine r_al rfl rfl ?_
  refine r_il rfl rfl ?_
  refine r_ic rfl ?_
  refine r_add rfl ?_
  refine r_iao rfl hout rfl (by omega) (by omega) (by omega) ?_
  refine r_v3s rfl rfl h56 rfl e2 ?_
  rw [iv_nrm c1]
  refine r_ceq rfl rfl (nrm_r _) (nrm_r _) (fun g1 => ?_) (fun g1 => ?_)
  · exact rn_up (by omega) (k _ _ hE)
  · exact absurd rfl g1
theorem law_18 (h : LI v mw) (hi : 0 ≤ i ∧ i + 4 ≤ (L : Int)) (hL : L ≤ 2048) (k : ∀ (v : Bool) (mw : List va_E), LI v mw → rnL L xs N (873, [(3, iv (i)), (2, .ref 56), (1, .ref 0), (0, .ref 3000)], [], mw) Q) : rnL L xs (N + 60) (712, [(3, iv (i)), (2, .ref 56), (1, .ref 0), (0, .ref 3000)], [], mw) Q := by
  have hout := LI_out h
  obtain ⟨F0, h0⟩ := LI_0 h
  refine r_al rfl rfl ?_
  refine r_al rfl rfl ?_
  refine r_il rfl rfl ?_
  refine r_ic rfl ?_
  refine r_add rfl ?_
  refine r_iao rfl hout rfl (by omega) (by omega) (by omega) ?_
  obtain ⟨c1, mw1, e1, h⟩ := call_I (vs := [.ref 0, iv ((xs (Int.toNat ((i) + (1)))).toInt)]) (uv_X11_worth v) h ⟨rfl, av_t _, trivial⟩
  have hout := LI_out h
  obtain ⟨F56, h56⟩ := LI_56 h
  refine r_v2s rfl rfl h0 rfl e1 ?_
  refine r_pop rfl rfl ?_
  refine r_al rfl rfl ?_
  refine r_al rfl rfl ?_
  refine r_il rfl rfl ?_
  refine r_ic rfl ?_
  refine r_add rfl ?_
  refine r_iao rfl hout rfl (by omega) (by omega) (by omega) ?_
  obtain ⟨c2, mw2, e2, hE⟩ := call_I (vs := [.ref 56, iv ((xs (Int.toNat ((i) + (1)))).toInt)]) (uv_X12_worth v) h ⟨rfl, av_t _, trivial⟩
  refine r_v2s rfl rfl h56 rfl e2 ?_
  refine r_pop rfl rfl ?_
  refine r_goto rfl rfl ?_
  exact rn_up (by omega) (k _ _ hE)
theorem law_19 (h : LI v mw) (hi : 0 ≤ i ∧ i + 4 ≤ (L : Int)) (hL : L ≤ 2048) (k : ∀ (v : Bool) (mw : List va_E), LI v mw → rnL L xs N (873, [(3, iv (i)), (2, .ref 56), (1, .ref 0), (0, .ref 3000)], [], mw) Q) : rnL L xs (N + 60) (735, [(3, iv (i)), (2, .ref 56), (1, .ref 0), (0, .ref 3000)], [], mw) Q := by
  have hout := LI_out h
  obtain ⟨F0, h0⟩ := LI_0 h
  refine r_al rfl rfl ?_
  refine r_al rfl rfl ?_
  refine r_il rfl rfl ?_
  refine r_ic rfl ?_
  refine r_add rfl ?_
  refine r_iao rfl hout rfl (by omega) (by omega) (by omega) ?_
  obtain ⟨c1, mw1, e1, h⟩ := call_I (vs := [.ref 0, iv ((xs (Int.toNat ((i) + (1)))).toInt)]) (uv_X11_balance v) h ⟨rfl, av_t _, trivial⟩
  have hout := LI_out h
  obtain ⟨F56, h56⟩ := LI_56 h
  refine r_v2s rfl rfl h0 rfl e1 ?_
  refine r_pop rfl rfl ?_
  refine r_al rfl rfl ?_
  refine r_al rfl rfl ?_
  refine r_il rfl rfl ?_
  refine r_ic rfl ?_
  refine r_add rfl ?_
  refine r_iao rfl hout rfl (by omega) (by omega) (by omega) ?_
  obtain ⟨c2, mw2, e2, hE⟩ := LI_balance (a := (xs (Int.toNat ((i) + (1)))).toInt) (as_r _) h
  refine r_v2s rfl rfl h56 rfl e2 ?_
  refine r_pop rfl rfl ?_
  refine r_goto rfl rfl ?_
  exact rn_up (by omega) (k _ _ hE)
theorem law_20 (h : LI v mw) (hi : 0 ≤ i ∧ i + 4 ≤ (L : Int)) (hL : L ≤ 2048) (k : ∀ (v : Bool) (mw : List va_E), LI v mw → rnL L xs N (873, [(3, iv (i)), (2, .ref 56), (1, .ref 0), (0, .ref 3000)], [], mw) Q) : rnL L xs (N + 60) (758, [(3, iv (i)), (2, .ref 56), (1, .ref 0), (0, .ref 3000)], [], mw) Q := by
  have hout := LI_out h
  obtain ⟨F0, h0⟩ := LI_0 h
  refine r_al rfl rfl ?_
  refine r_al rfl rfl ?_
  refine r_il rfl rfl ?_
  refine r_ic rfl ?_
  refine r_add rfl ?_
  refine r_iao rfl hout rfl (by omega) (by omega) (by omega) ?_
  refine r_al rfl rfl ?_
  refine r_il rfl rfl ?_
  refine r_ic rfl ?_
  refine r_add rfl ?_
  refine r_iao rfl hout rfl (by omega) (by omega) (by omega) ?_
  obtain ⟨c1, c2, mw1, mw2, e1, e2, hE, hout, F56, h56⟩ := LI_price (k := (xs (Int.toNat ((i) + (1)))).toInt) (i := (xs (Int.toNat ((i) + (2)))).toInt) (as_r _) (as_r _) h
  refine r_v3s rfl rfl h0 rfl e1 ?_
  refine r_pop rfl rfl ?_
  refine r_al rfl rfl ?_
  refine r_al rfl rfl ?_
  refine r_il rfl rfl ?_
  refine r_ic rfl ?_
  refine r_add rfl ?_
  refine r_iao rfl hout rfl (by omega) (by omega) (by omega) ?_
  refine r_al rfl rfl ?_
  refine r_il rfl rfl ?_
  refine r_ic rfl ?_
  refine r_add rfl ?_
  refine r_iao rfl hout rfl (by omega) (by omega) (by omega) ?_
  refine r_v3s rfl rfl h56 rfl e2 ?_
  refine r_pop rfl rfl ?_
  refine r_goto rfl rfl ?_
  exact rn_up (by omega) (k _ _ hE)
theorem law_21 (h : LI v mw) (hi : 0 ≤ i ∧ i + 4 ≤ (L : Int)) (hL : L ≤ 2048) (k : ∀ (v : Bool) (mw : List va_E), LI v mw → rnL L xs N (873, [(3, iv (i)), (2, .ref 56), (1, .ref 0), (0, .ref 3000)], [], mw) Q) : rnL L xs (N + 60) (791, [(3, iv (i)), (2, .ref 56), (1, .ref 0), (0, .ref 3000)], [], mw) Q := by
  have hout := LI_out h
  obtain ⟨F0, h0⟩ := LI_0 h
  refine r_al rfl rfl ?_
  refine r_al rfl rfl ?_
  refine r_il rfl rfl ?_
  refine r_ic rfl ?_
  refine r_add rfl ?_
  refine r_iao rfl hout rfl (by omega) (by omega) (by omega) ?_
  obtain ⟨c1, mw1, mw2, e1, e2, hE, hout, F56, h56⟩ := LI_keep (a := (xs (Int.toNat ((i) + (1)))).toInt) (as_r _) h
  refine r_v2s rfl rfl h0 rfl e1 ?_
  refine r_pop rfl rfl ?_
  refine r_al rfl rfl ?_
  refine r_al rfl rfl ?_
  refine r_il rfl rfl ?_
  refine r_ic rfl ?_
  refine r_add rfl ?_
  refine r_iao rfl hout rfl (by omega) (by omega) (by omega) ?_
  refine r_v2s rfl rfl h56 rfl e2 ?_
  refine r_pop rfl rfl ?_
  refine r_goto rfl rfl ?_
  exact rn_up (by omega) (k _ _ hE)
theorem law_22 (h : LI v mw) (hi : 0 ≤ i ∧ i + 4 ≤ (L : Int)) (hL : L ≤ 2048) (k : ∀ (v : Bool) (mw : List va_E), LI v mw → rnL L xs N (873, [(3, iv (i)), (2, .ref 56), (1, .ref 0), (0, .ref 3000)], [], mw) Q) : rnL L xs (N + 60) (814, [(3, iv (i)), (2, .ref 56), (1, .ref 0), (0, .ref 3000)], [], mw) Q := by
  have hout := LI_out h
  obtain ⟨F0, h0⟩ := LI_0 h
  refine r_al rfl rfl ?_
  refine r_al rfl rfl ?_
  refine r_il rfl rfl ?_
  refine r_ic rfl ?_
  refine r_add rfl ?_
  refine r_iao rfl hout rfl (by omega) (by omega) (by omega) ?_
  obtain ⟨c1, mw1, mw2, e1, e2, hE, hout, F56, h56⟩ := LI_restore (a := (xs (Int.toNat ((i) + (1)))).toInt) (as_r _) h
  refine r_v2s rfl rfl h0 rfl e1 ?_
  refine r_pop rfl rfl ?_
  refine r_al rfl rfl ?_
  refine r_al rfl rfl ?_
  refine r_il rfl rfl ?_
  refine r_ic rfl ?_
  refine r_add rfl ?_
  refine r_iao rfl hout rfl (by omega) (by omega) (by omega) ?_
  refine r_v2s rfl rfl h56 rfl e2 ?_
  refine r_pop rfl rfl ?_
  refine r_goto rfl rfl ?_
  exact rn_up (by omega) (k _ _ hE)
theorem law_23 (h : LI v mw) (hi : 0 ≤ i ∧ i + 4 ≤ (L : Int)) (hL : L ≤ 2048) (k : ∀ (v : Bool) (mw : List va_E), LI v mw → rnL L xs N (873, [(3, iv (i)), (2, .ref 56), (1, .ref 0), (0, .ref 3000)], [], mw) Q) : rnL L xs (N + 60) (837, [(3, iv (i)), (2, .ref 56), (1, .ref 0), (0, .ref 3000)], [], mw) Q := by
  have hout := LI_out h
  obtain ⟨F0, h0⟩ := LI_0 h
  refine r_al rfl rfl ?_
  refine r_al rfl rfl ?_
  refine r_il rfl rfl ?_
  refine r_ic rfl ?_
  refine r_add rfl ?_
  refine r_iao rfl hout rfl (by omega) (by omega) (by omega) ?_
  obtain ⟨c1, mw1, mw2, e1, e2, hE, hout, F56, h56⟩ := LI_count (b := (xs (Int.toNat ((i) + (1)))).toInt) (as_r _) h
  refine r_v2s rfl rfl h0 rfl e1 ?_
  refine r_pop rfl rfl ?_
  refine r_al rfl rfl ?_
  refine r_al rfl rfl ?_
  refine r_il rfl rfl ?_
  refine r_ic rfl ?_
  refine r_add rfl ?_
  refine r_iao rfl hout rfl (by omega) (by omega) (by omega) ?_
  refine r_v2s rfl rfl h56 rfl e2 ?_
  refine r_pop rfl rfl ?_
  refine r_goto rfl rfl ?_
  exact rn_up (by omega) (k _ _ hE)
theorem law_24 (h : LI v mw) (hi : 0 ≤ i ∧ i + 4 ≤ (L : Int)) (hL : L ≤ 2048) (k : ∀ (v : Bool) (mw : List va_E), LI v mw → rnL L xs N (873, [(3, iv (i)), (2, .ref 56), (1, .ref 0), (0, .ref 3000)], [], mw) Q) : rnL L xs (N + 60) (860, [(3, iv (i)), (2, .ref 56), (1, .ref 0), (0, .ref 3000)], [], mw) Q := by
  have hout := LI_out h
  obtain ⟨F0, h0⟩ := LI_0 h
  refine r_al rfl rfl ?_
  obtain ⟨c1, mw1, mw2, e1, e2, hE, hout, F56, h56⟩ := LI_trace   h
  refine r_v1s rfl rfl h0 rfl e1 ?_
  refine r_pop2 rfl ?_
  refine r_al rfl rfl ?_
  refine r_v1s rfl rfl h56 rfl e2 ?_
  refine r_pop2 rfl ?_
  refine r_goto rfl rfl ?_
  exact rn_up (by omega) (k _ _ hE)
theorem or_31 (a : Int) : 0 ≤ oAnd a 31 ∧ oAnd a 31 ≤ 31 := as_andR (x := Int32.ofInt a) (y := Int32.ofInt 31) (by decide)
theorem law_lp (hL : L ≤ 2048) (hQ : ∀ mw : List va_E, Q (some (iv 1), mw)) : ∀ (m : Nat) (i : Int) (v : Bool) (mw : List va_E), LI v mw → 0 ≤ i → i ≤ 4000 → (L : Int) ≤ i + 4 * (m : Int) + 3 → rnL L xs (200 * m + 200) (18, [(3, iv (i)), (2, .ref 56), (1, .ref 0), (0, .ref 3000)], [], mw) Q := by
  intro m
  induction m with
  | zero =>
    intro i v mw h h0 h1 h2
    have hout := LI_out h
    refine r_il rfl rfl ?_
    refine r_al rfl rfl ?_
    refine r_alo rfl hout rfl ?_
    refine r_ic rfl ?_
    refine r_sub rfl ?_
    refine r_cgt rfl rfl (by omega) (by omega) (fun g1 => ?_) (fun g1 => ?_)
    · refine r_ic rfl ?_
      exact r_retb rfl rfl (Or.inr rfl) (hQ _)
    · omega
  | succ m ih =>
    intro i v mw h h0 h1 h2
    generalize hM : 200 * m + 200 = M at ih
    refine rn_up (N := M + 200) (by omega) ?_
    have hout := LI_out h
    refine r_il rfl rfl ?_
    refine r_al rfl rfl ?_
    refine r_alo rfl hout rfl ?_
    refine r_ic rfl ?_
    refine r_sub rfl ?_
    refine r_cgt rfl rfl (by omega) (by omega) (fun g1 => ?_) (fun g1 => ?_)
    · refine r_ic rfl ?_
      exact r_retb rfl rfl (Or.inr rfl) (hQ _)
    · have k : ∀ (v : Bool) (mw : List va_E), LI v mw → rnL L xs (M + 20) (873, [(3, iv (i)), (2, .ref 56), (1, .ref 0), (0, .ref 3000)], [], mw) Q := by
        intro v mw h
        refine r_inc (lv' := [(3, _), (2, _), (1, _), (0, _)]) rfl rfl rfl rfl ?_
        refine r_goto rfl rfl ?_
        exact rn_up (by omega) (ih _ v mw h (by omega) (by omega) (by omega))
      refine r_al rfl rfl ?_
      refine r_il rfl rfl ?_
      refine r_iao rfl hout rfl (by omega) (by omega) (by omega) ?_
      refine r_bi rfl (by decide) ?_
      refine r_and rfl ?_
      have hz := or_31 (xs (Int.toNat i)).toInt
      generalize oAnd (xs (Int.toNat i)).toInt 31 = z at hz ⊢
      have hc : z = 0 ∨ z = 1 ∨ z = 2 ∨ z = 3 ∨ z = 4 ∨ z = 5 ∨ z = 6 ∨ z = 7 ∨ z = 8 ∨ z = 9 ∨ z = 10 ∨ z = 11 ∨ z = 12 ∨ z = 13 ∨ z = 14 ∨ z = 15 ∨ z = 16 ∨ z = 17 ∨ z = 18 ∨ z = 19 ∨ z = 20 ∨ z = 21 ∨ z = 22 ∨ z = 23 ∨ z = 24 ∨ 25 ≤ z := by omega
      rcases hc with rfl | rfl | rfl | rfl | rfl | rfl | rfl | rfl | rfl | rfl | rfl | rfl | rfl | rfl | rfl | rfl | rfl | rfl | rfl | rfl | rfl | rfl | rfl | rfl | rfl | hz2
      · refine r_ts (off := 116) (q := 148) rfl (by decide) rfl rfl ?_
        exact rn_up (by omega) (law_0 (N := M + 20) h (by omega) hL k)
      · refine r_ts (off := 179) (q := 211) rfl (by decide) rfl rfl ?_
        exact rn_up (by omega) (law_1 (N := M + 20) h (by omega) hL k)
      · refine r_ts (off := 192) (q := 224) rfl (by decide) rfl rfl ?_
        exact rn_up (by omega) (law_2 (N := M + 20) h (by omega) hL k)
      · refine r_ts (off := 205) (q := 237) rfl (by decide) rfl rfl ?_
        exact rn_up (by omega) (law_3 (N := M + 20) h (by omega) hL k)
      · refine r_ts (off := 238) (q := 270) rfl (by decide) rfl rfl ?_
        exact rn_up (by omega) (law_4 (N := M + 20) h (by omega) hL k)
      · refine r_ts (off := 271) (q := 303) rfl (by decide) rfl rfl ?_
        exact rn_up (by omega) (law_5 (N := M + 20) h (by omega) hL k)
      · refine r_ts (off := 314) (q := 346) rfl (by decide) rfl rfl ?_
        exact rn_up (by omega) (law_6 (N := M + 20) h (by omega) hL k)
      · refine r_ts (off := 347) (q := 379) rfl (by decide) rfl rfl ?_
        exact rn_up (by omega) (law_7 (N := M + 20) h (by omega) hL k)
      · refine r_ts (off := 380) (q := 412) rfl (by decide) rfl rfl ?_
        exact rn_up (by omega) (law_8 (N := M + 20) h (by omega) hL k)
      · refine r_ts (off := 423) (q := 455) rfl (by decide) rfl rfl ?_
        exact rn_up (by omega) (law_9 (N := M + 20) h (by omega) hL k)
      · refine r_ts (off := 456) (q := 488) rfl (by decide) rfl rfl ?_
        exact rn_up (by omega) (law_10 (N := M + 20) h (by omega) hL k)
      · refine r_ts (off := 489) (q := 521) rfl (by decide) rfl rfl ?_
        exact rn_up (by omega) (law_11 (N := M + 20) h (by omega) hL k)
      · refine r_ts (off := 532) (q := 564) rfl (by decide) rfl rfl ?_
        exact rn_up (by omega) (law_12 (N := M + 20) h (by omega) hL k)
      · refine r_ts (off := 565) (q := 597) rfl (by decide) rfl rfl ?_
        exact rn_up (by omega) (law_13 (N := M + 20) h (by omega) hL k)
      · refine r_ts (off := 578) (q := 610) rfl (by decide) rfl rfl ?_
        exact rn_up (by omega) (law_14 (N := M + 20) h (by omega) hL k)
      · refine r_ts (off := 601) (q := 633) rfl (by decide) rfl rfl ?_
        exact rn_up (by omega) (law_15 (N := M + 20) h (by omega) hL k)
      · refine r_ts (off := 624) (q := 656) rfl (by decide) rfl rfl ?_
        exact rn_up (by omega) (law_16 (N := M + 20) h (by omega) hL k)
      · refine r_ts (off := 647) (q := 679) rfl (by decide) rfl rfl ?_
        exact rn_up (by omega) (law_17 (N := M + 20) h (by omega) hL k)
      · refine r_ts (off := 680) (q := 712) rfl (by decide) rfl rfl ?_
        exact rn_up (by omega) (law_18 (N := M + 20) h (by omega) hL k)
      · refine r_ts (off := 703) (q := 735) rfl (by decide) rfl rfl ?_
        exact rn_up (by omega) (law_19 (N := M + 20) h (by omega) hL k)
      · refine r_ts (off := 726) (q := 758) rfl (by decide) rfl rfl ?_
        exact rn_up (by omega) (law_20 (N := M + 20) h (by omega) hL k)
      · refine r_ts (off := 759) (q := 791) rfl (by decide) rfl rfl ?_
        exact rn_up (by omega) (law_21 (N := M + 20) h (by omega) hL k)
      · refine r_ts (off := 782) (q := 814) rfl (by decide) rfl rfl ?_
        exact rn_up (by omega) (law_22 (N := M + 20) h (by omega) hL k)
      · refine r_ts (off := 805) (q := 837) rfl (by decide) rfl rfl ?_
        exact rn_up (by omega) (law_23 (N := M + 20) h (by omega) hL k)
      · refine r_ts (off := 828) (q := 860) rfl (by decide) rfl rfl ?_
        exact rn_up (by omega) (law_24 (N := M + 20) h (by omega) hL k)
      · refine r_ts (off := 841) (q := 873) rfl (by omega) ?_ rfl ?_
        · unfold mm_tsw
          rw [decide_eq_true (show (24 : Int) < z by omega), Bool.or_true]
          rfl
        · exact rn_up (by omega) (k v mw h)
end LAW
