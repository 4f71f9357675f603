/-! ===== all steps of the small machine; a run of it; a method ===== -/
section MMV
variable {p : Program} {l : Launch} {e : Env} {R : Room} {s : State} {m : MethodId} {args : Array Value} {below : List Frame} {meth : Method} {c : Code} {D : va_G} {cl : List vw_C} {A : Nat → Prop} {H0 : Heap} {ad : Nat → Nat} {cy : Nat → ClassId} {nL : Nat} {cc : ByteArray} {Q : State → Prop} {G : List Cond} {own : String} {nc ns : Nat}
variable {gf : Nat → Option (Nat × Nat)} {pf : Nat → Option (Nat × Nat × FieldType)} {mv ms : Nat → Option (Nat × Option Nat × mm_F)} {kc : Nat → Option Value} {gs : Nat → Option Value} {rf : Nat → Nat → Option Value} {ro : Nat → Option (Nat × Nat × (Nat → Int32))} {rt : Option FieldType}
theorem mt_ret_ne {k : Nat} {st : List Value} {mw : List va_E} {x : mm_C} : ¬ mm_ret rt k st mw = some (.inl x) := by
  unfold mm_ret
  split
  · intro h
    obtain ⟨-, h2⟩ := mm_bif h
    cases h2
  · intro h; cases h
  · intro h; cases h
  · intro h; cases h
set_option maxHeartbeats 2000000 in
theorem mm_step {i : Instr} {pc : Nat} {lv : List (Nat × Value)} {st : List Value} {mw : List va_E} {x : mm_C} (hx : p.tables.exec = Jvm.exec) (hb : c.code = cc) (hts : ∀ w ∈ G, w.before args s = true) (hown : s.vm.findClass own = some m.cls) (hK : va_K D cl (mm_tys cy) s)
    (hgf : ∀ n ci k, gf n = some (ci, k) → mm_GF G cl own n ci k) (hpf : ∀ n ci k ty, pf n = some (ci, k, ty) → mm_PF G cl own n ci k ty)
    (hmv : ∀ ix n rc f, mv ix = some (n, rc, f) → mm_Call p l e R s m args below meth c D cl A H0 ad cy nL cc nc ns (.invokevirtual ix) n rc f) (hms : ∀ ix n rc f, ms ix = some (n, rc, f) → mm_Call p l e R s m args below meth c D cl A H0 ad cy nL cc nc ns (.invokestatic ix) n rc f)
    (hk1 : ∀ n v, kc (3 * n) = some v → mm_Kst p l e R s m args below meth c A H0 ad cc nc ns (.ldc n) 2 v) (hk2 : ∀ n v, kc (3 * n + 1) = some v → mm_Kst p l e R s m args below meth c A H0 ad cc nc ns (.ldc_w n) 3 v) (hk3 : ∀ n v, kc (3 * n + 2) = some v → mm_Kst p l e R s m args below meth c A H0 ad cc nc ns (.ldc2_w n) 3 v)
    (hgs : ∀ n v, gs n = some v → mm_Kst p l e R s m args below meth c A H0 ad cc nc ns (.getstatic n) 3 v) (hrf : ∀ n a v, rf a n = some v → mm_Rf p l e R s m args below meth c A H0 ad cc nc ns a n v) (hro : ∀ a t n f, ro a = some (t, n, f) → mm_Ro p l e R s m args below meth c A H0 ad cc nc ns a t n f)
    (hd : ∃ n, decode cc pc = .ok (i, n) ∧ (mm_len i ≠ 0 → n = mm_len i)) (h : mm_ex gf pf mv ms kc gs rf ro rt nL i pc lv st mw = some (.inl x)) (k : mm_Sim p l e R s m args below meth c D cl A H0 ad cy nL nc ns Q x) : mm_Sim p l e R s m args below meth c D cl A H0 ad cy nL nc ns Q (pc, lv, st, mw) := by
  cases i with
  | iconst n => obtain ⟨n1, hd, hn⟩ := hd; obtain rfl := hn (by simp [mm_len]); exact mt_push h (fun H locs ls rest z => lv_iconst hx hb hd rfl z) k
  | bipush n => obtain ⟨n1, hd, hn⟩ := hd; obtain rfl := hn (by simp [mm_len]); exact mt_push h (fun H locs ls rest z => lv_bipush hx hb hd rfl z) k
  | sipush n => obtain ⟨n1, hd, hn⟩ := hd; obtain rfl := hn (by simp [mm_len]); exact mt_push h (fun H locs ls rest z => lv_sipush hx hb hd rfl z) k
  | lconst n => obtain ⟨n1, hd, hn⟩ := hd; obtain rfl := hn (by simp [mm_len]); exact mt_push h (fun H locs ls rest z => lv_lconst hx hb hd rfl z) k
  | ldc n => obtain ⟨n1, hd, hn⟩ := hd; obtain rfl := hn (by simp [mm_len]); exact mt_const h hd (hk1 n) k
  | ldc_w n => obtain ⟨n1, hd, hn⟩ := hd; obtain rfl := hn (by simp [mm_len]); exact mt_const h hd (hk2 n) k
  | ldc2_w n => obtain ⟨n1, hd, hn⟩ := hd; obtain rfl := hn (by simp [mm_len]); exact mt_const h hd (hk3 n) k
  | iload_n n => obtain ⟨n1, hd, hn⟩ := hd; obtain rfl := hn (by simp [mm_len]); exact mt_load h (fun _ H locs ls rest a g z => lv_iload_n hx hb hd rfl g z) (fun z => absurd z (by decide)) (fun z => absurd z (by decide)) k
  | istore_n n => obtain ⟨n1, hd, hn⟩ := hd; obtain rfl := hn (by simp [mm_len]); exact mt_store h (fun _ H locs ls rest a lw g1 g2 z => lv_istore_n hx hb hd rfl g1 g2 rfl z) (fun z => absurd z (by decide)) (fun z => absurd z (by decide)) k
  | iload n => obtain ⟨n1, hd, hn⟩ := hd; obtain rfl := hn (by simp [mm_len]); exact mt_load h (fun _ H locs ls rest a g z => lv_iload hx hb hd g z) (fun z => absurd z (by decide)) (fun z => absurd z (by decide)) k
  | istore n => obtain ⟨n1, hd, hn⟩ := hd; obtain rfl := hn (by simp [mm_len]); exact mt_store h (fun _ H locs ls rest a lw g1 g2 z => lv_istore hx hb hd g1 g2 rfl z) (fun z => absurd z (by decide)) (fun z => absurd z (by decide)) k
  | lload_n n => obtain ⟨n1, hd, hn⟩ := hd; obtain rfl := hn (by simp [mm_len]); exact mt_load h (fun z => absurd z (by decide)) (fun _ H locs ls rest a g z => lv_lload_n hx hb hd rfl g z) (fun z => absurd z (by decide)) k
  | lstore_n n => obtain ⟨n1, hd, hn⟩ := hd; obtain rfl := hn (by simp [mm_len]); exact mt_store h (fun z => absurd z (by decide)) (fun _ H locs ls rest a lw g1 g2 z => lv_lstore_n hx hb hd rfl g1 g2 rfl z) (fun z => absurd z (by decide)) k
  | lload n => obtain ⟨n1, hd, hn⟩ := hd; obtain rfl := hn (by simp [mm_len]); exact mt_load h (fun z => absurd z (by decide)) (fun _ H locs ls rest a g z => lv_lload hx hb hd g z) (fun z => absurd z (by decide)) k
  | lstore n => obtain ⟨n1, hd, hn⟩ := hd; obtain rfl := hn (by simp [mm_len]); exact mt_store h (fun z => absurd z (by decide)) (fun _ H locs ls rest a lw g1 g2 z => lv_lstore hx hb hd g1 g2 rfl z) (fun z => absurd z (by decide)) k
  | aload_n n => obtain ⟨n1, hd, hn⟩ := hd; obtain rfl := hn (by simp [mm_len]); exact mt_load h (fun z => absurd z (by decide)) (fun z => absurd z (by decide)) (fun _ H locs ls rest a g z => lv_aload_n hx hb hd rfl g z) k
  | astore_n n => obtain ⟨n1, hd, hn⟩ := hd; obtain rfl := hn (by simp [mm_len]); exact mt_store h (fun z => absurd z (by decide)) (fun z => absurd z (by decide)) (fun _ H locs ls rest a lw g1 g2 z => lv_astore_n hx hb hd rfl g1 g2 rfl z) k
  | aload n => obtain ⟨n1, hd, hn⟩ := hd; obtain rfl := hn (by simp [mm_len]); exact mt_load h (fun z => absurd z (by decide)) (fun z => absurd z (by decide)) (fun _ H locs ls rest a g z => lv_aload hx hb hd g z) k
  | astore n => obtain ⟨n1, hd, hn⟩ := hd; obtain rfl := hn (by simp [mm_len]); exact mt_store h (fun z => absurd z (by decide)) (fun z => absurd z (by decide)) (fun _ H locs ls rest a lw g1 g2 z => lv_astore hx hb hd g1 g2 rfl z) k
  | iinc n q => obtain ⟨n1, hd, hn⟩ := hd; obtain rfl := hn (by simp [mm_len]); exact mt_iinc h hx hb hd k
  | dup => obtain ⟨n1, hd, hn⟩ := hd; obtain rfl := hn (by simp [mm_len]); exact mt_dup h hx hb hd k
  | dup2 => obtain ⟨n1, hd, hn⟩ := hd; obtain rfl := hn (by simp [mm_len]); exact mt_dup2 h hx hb hd k
  | pop => obtain ⟨n1, hd, hn⟩ := hd; obtain rfl := hn (by simp [mm_len]); exact mt_pop h (fun H locs ls rest v g z => lv_pop hx hb hd g z) k
  | pop2 => obtain ⟨n1, hd, hn⟩ := hd; obtain rfl := hn (by simp [mm_len]); exact mt_pop h (fun H locs ls rest v g z => lv_pop2_2 hx hb hd g z) k
  | iadd => obtain ⟨n1, hd, hn⟩ := hd; obtain rfl := hn (by simp [mm_len]); exact mt_i2 h (fun H locs ls rest a b g z => lv_iadd hx hb hd z) k
  | isub => obtain ⟨n1, hd, hn⟩ := hd; obtain rfl := hn (by simp [mm_len]); exact mt_i2 h (fun H locs ls rest a b g z => lv_isub hx hb hd z) k
  | imul => obtain ⟨n1, hd, hn⟩ := hd; obtain rfl := hn (by simp [mm_len]); exact mt_i2 h (fun H locs ls rest a b g z => lv_imul hx hb hd z) k
  | iand => obtain ⟨n1, hd, hn⟩ := hd; obtain rfl := hn (by simp [mm_len]); exact mt_i2 h (fun H locs ls rest a b g z => lv_iand hx hb hd z) k
  | ior => obtain ⟨n1, hd, hn⟩ := hd; obtain rfl := hn (by simp [mm_len]); exact mt_i2 h (fun H locs ls rest a b g z => lv_ior hx hb hd z) k
  | ixor => obtain ⟨n1, hd, hn⟩ := hd; obtain rfl := hn (by simp [mm_len]); exact mt_i2 h (fun H locs ls rest a b g z => lv_ixor hx hb hd z) k
  | ishl => obtain ⟨n1, hd, hn⟩ := hd; obtain rfl := hn (by simp [mm_len]); exact mt_i2 h (fun H locs ls rest a b g z => lv_ishl hx hb hd z) k
  | ishr => obtain ⟨n1, hd, hn⟩ := hd; obtain rfl := hn (by simp [mm_len]); exact mt_i2 h (fun H locs ls rest a b g z => lv_ishr hx hb hd z) k
  | idiv => obtain ⟨n1, hd, hn⟩ := hd; obtain rfl := hn (by simp [mm_len]); exact mt_i2 h (fun H locs ls rest a b g z => lv_idiv hx hb hd (by simpa using g) z) k
  | irem => obtain ⟨n1, hd, hn⟩ := hd; obtain rfl := hn (by simp [mm_len]); exact mt_i2 h (fun H locs ls rest a b g z => lv_irem hx hb hd (by simpa using g) z) k
  | iushr => obtain ⟨n1, hd, hn⟩ := hd; obtain rfl := hn (by simp [mm_len]); exact mt_i2 h (fun H locs ls rest a b g z => lv_iushr hx hb hd rfl z) k
  | i2l => obtain ⟨n1, hd, hn⟩ := hd; obtain rfl := hn (by simp [mm_len]); exact mt_i1 h (fun H locs ls rest a z => lv_i2l hx hb hd rfl z) k
  | i2b => obtain ⟨n1, hd, hn⟩ := hd; obtain rfl := hn (by simp [mm_len]); exact mt_i1 h (fun H locs ls rest a z => lv_i2b hx hb hd rfl z) k
  | i2c => obtain ⟨n1, hd, hn⟩ := hd; obtain rfl := hn (by simp [mm_len]); exact mt_i1 h (fun H locs ls rest a z => lv_i2c hx hb hd rfl z) k
  | l2i => obtain ⟨n1, hd, hn⟩ := hd; obtain rfl := hn (by simp [mm_len]); exact mt_l1 h (fun H locs ls rest a z => lv_l2i hx hb hd rfl z) k
  | ladd => obtain ⟨n1, hd, hn⟩ := hd; obtain rfl := hn (by simp [mm_len]); exact mt_l2 h (fun H locs ls rest a b g z => lv_ladd hx hb hd z) k
  | lmul => obtain ⟨n1, hd, hn⟩ := hd; obtain rfl := hn (by simp [mm_len]); exact mt_l2 h (fun H locs ls rest a b g z => lv_lmul hx hb hd z) k
  | land => obtain ⟨n1, hd, hn⟩ := hd; obtain rfl := hn (by simp [mm_len]); exact mt_l2 h (fun H locs ls rest a b g z => lv_land hx hb hd z) k
  | lor => obtain ⟨n1, hd, hn⟩ := hd; obtain rfl := hn (by simp [mm_len]); exact mt_l2 h (fun H locs ls rest a b g z => lv_lor hx hb hd z) k
  | ldiv => obtain ⟨n1, hd, hn⟩ := hd; obtain rfl := hn (by simp [mm_len]); exact mt_l2 h (fun H locs ls rest a b g z => lv_ldiv hx hb hd (by simpa using g) z) k
  | lcmp => obtain ⟨n1, hd, hn⟩ := hd; obtain rfl := hn (by simp [mm_len]); exact mt_l2 h (fun H locs ls rest a b g z => W.lcmp hx hb hd z) k
  | lshl => obtain ⟨n1, hd, hn⟩ := hd; obtain rfl := hn (by simp [mm_len]); exact mt_ls h (fun H locs ls rest a b z => lv_lshl hx hb hd rfl z) k
  | lshr => obtain ⟨n1, hd, hn⟩ := hd; obtain rfl := hn (by simp [mm_len]); exact mt_ls h (fun H locs ls rest a b z => lv_lshr hx hb hd rfl z) k
  | goto o => obtain ⟨n1, hd, hn⟩ := hd; obtain rfl := hn (by simp [mm_len]); exact mt_goto h hx hb hd k
  | ifCond cd o => obtain ⟨n1, hd, hn⟩ := hd; obtain rfl := hn (by simp [mm_len]); exact mt_if h hx hb hd k
  | if_icmp cd o => obtain ⟨n1, hd, hn⟩ := hd; obtain rfl := hn (by simp [mm_len]); exact mt_icmp h hx hb hd k
  | tableswitch d lo hi offs => obtain ⟨n1, hd, -⟩ := hd; exact mt_table h hx hb hd k
  | lookupswitch d ps => obtain ⟨n1, hd, -⟩ := hd; exact mt_lookup h hx hb hd k
  | getfield n => obtain ⟨n1, hd, hn⟩ := hd; obtain rfl := hn (by simp [mm_len]); exact mt_getf h hx hb hts hown hK hd (hgf n) (hrf n) k
  | putfield n => obtain ⟨n1, hd, hn⟩ := hd; obtain rfl := hn (by simp [mm_len]); exact mt_putf h hx hb hts hown hK hd (hpf n) k
  | getstatic n => obtain ⟨n1, hd, hn⟩ := hd; obtain rfl := hn (by simp [mm_len]); exact mt_const h hd (hgs n) k
  | iaload => obtain ⟨n1, hd, hn⟩ := hd; obtain rfl := hn (by simp [mm_len]); exact mt_iald h hx hb hK hd hro k
  | baload => obtain ⟨n1, hd, hn⟩ := hd; obtain rfl := hn (by simp [mm_len]); exact mt_bald h hx hb hK hd hro k
  | aaload => obtain ⟨n1, hd, hn⟩ := hd; obtain rfl := hn (by simp [mm_len]); exact mt_aald h hx hb hK hd k
  | iastore => obtain ⟨n1, hd, hn⟩ := hd; obtain rfl := hn (by simp [mm_len]); exact mt_iast h hx hb hK hd k
  | bastore => obtain ⟨n1, hd, hn⟩ := hd; obtain rfl := hn (by simp [mm_len]); exact mt_bast h hx hb hK hd k
  | arraylength => obtain ⟨n1, hd, hn⟩ := hd; obtain rfl := hn (by simp [mm_len]); exact mt_alen h hx hb hK hd hro k
  | invokevirtual n => obtain ⟨n1, hd, hn⟩ := hd; obtain rfl := hn (by simp [mm_len]); exact mt_call h hd (hmv n) k
  | invokestatic n => obtain ⟨n1, hd, hn⟩ := hd; obtain rfl := hn (by simp [mm_len]); exact mt_call h hd (hms n) k
  | ireturn => exact absurd h (mt_ret_ne)
  | lreturn => exact absurd h (mt_ret_ne)
  | return_ => exact absurd h (mt_ret_ne)
  | _ => exact absurd h (by intro z; cases z)
/-- the end of a method: its answer, and the world that it leaves -/
def mm_Qc (D : va_G) (cl : List vw_C) (ad : Nat → Nat) (cy : Nat → ClassId) (A : Nat → Prop) (r : mm_R) : Array Value → State → Outcome → State → Prop := fun _ st o t => o = .returned (r.1.map (mm_v ad)) ∧ va_P D cl (mm_w ad cy 0 r.2) t.heap ∧ va_D A (mm_w ad cy 0 r.2) ∧ va_F A st t
theorem mm_end {i : Instr} {pc : Nat} {lv : List (Nat × Value)} {st : List Value} {mw : List va_E} {r : mm_R} (hx : p.tables.exec = Jvm.exec) (hb : c.code = cc) (hr : meth.sig.returnType = rt) (hlk : meth.locks = false)
    (hd : ∃ n, decode cc pc = .ok (i, n) ∧ (mm_len i ≠ 0 → n = mm_len i)) (hi : mm_isRet i = true) (h : mm_ex gf pf mv ms kc gs rf ro rt nL i pc lv st mw = some (.inr r)) : mm_Sim p l e R s m args below meth c D cl A s.heap ad cy nL 0 0 (MQ below (mm_Qc D cl ad cy A r) args s 0 0 A) (pc, lv, st, mw) := by
  obtain ⟨n1, hd, hn⟩ := hd
  intro H locs ls hP hD hS hl
  cases i with
  | ireturn =>
    obtain rfl := hn (by simp [mm_len])
    have h : mm_ret rt 0 st mw = some (.inr r) := h
    unfold mm_ret at h
    split at h
    · obtain ⟨h1, h2⟩ := mm_bif h
      cases h2
      exact W.zret hx hb hr (by simpa using h1) (fun t ht _ => ⟨rfl, by rw [ht]; exact hP, hD, hS.F ht⟩) (fun q hq => hS.2.2 q hq) hd hlk
    · omega
    · omega
    · cases h
  | lreturn =>
    obtain rfl := hn (by simp [mm_len])
    have h : mm_ret rt 1 st mw = some (.inr r) := h
    unfold mm_ret at h
    split at h
    · omega
    · cases h
      exact W.lret hx hb hr (fun t ht _ => ⟨rfl, by rw [ht]; exact hP, hD, hS.F ht⟩) (fun q hq => hS.2.2 q hq) hd hlk
    · omega
    · cases h
  | return_ =>
    obtain rfl := hn (by simp [mm_len])
    have h : mm_ret rt 2 st mw = some (.inr r) := h
    unfold mm_ret at h
    split at h
    · omega
    · omega
    · cases h
      exact W.vret hx hb hr (fun t ht _ => ⟨rfl, by rw [ht]; exact hP, hD, hS.F ht⟩) (fun q hq => hS.2.2 q hq) hd hlk
    · cases h
  | _ => cases hi
/-- a run, to any end -/
theorem mm_runQ {ins : Nat → Option Instr} {r : mm_R} (hx : p.tables.exec = Jvm.exec) (hb : c.code = cc) (hts : ∀ w ∈ G, w.before args s = true) (hown : s.vm.findClass own = some m.cls) (hK : va_K D cl (mm_tys cy) s)
    (hgf : ∀ n ci k, gf n = some (ci, k) → mm_GF G cl own n ci k) (hpf : ∀ n ci k ty, pf n = some (ci, k, ty) → mm_PF G cl own n ci k ty)
    (hmv : ∀ ix n rc f, mv ix = some (n, rc, f) → mm_Call p l e R s m args below meth c D cl A H0 ad cy nL cc nc ns (.invokevirtual ix) n rc f) (hms : ∀ ix n rc f, ms ix = some (n, rc, f) → mm_Call p l e R s m args below meth c D cl A H0 ad cy nL cc nc ns (.invokestatic ix) n rc f)
    (hk1 : ∀ n v, kc (3 * n) = some v → mm_Kst p l e R s m args below meth c A H0 ad cc nc ns (.ldc n) 2 v) (hk2 : ∀ n v, kc (3 * n + 1) = some v → mm_Kst p l e R s m args below meth c A H0 ad cc nc ns (.ldc_w n) 3 v) (hk3 : ∀ n v, kc (3 * n + 2) = some v → mm_Kst p l e R s m args below meth c A H0 ad cc nc ns (.ldc2_w n) 3 v)
    (hgs : ∀ n v, gs n = some v → mm_Kst p l e R s m args below meth c A H0 ad cc nc ns (.getstatic n) 3 v) (hrf : ∀ n a v, rf a n = some v → mm_Rf p l e R s m args below meth c A H0 ad cc nc ns a n v) (hro : ∀ a t n f, ro a = some (t, n, f) → mm_Ro p l e R s m args below meth c A H0 ad cc nc ns a t n f)
    (hins : ∀ pc i, ins pc = some i → ∃ n, decode cc pc = .ok (i, n) ∧ (mm_len i ≠ 0 → n = mm_len i))
    (hend : ∀ pc lv st mw i, ins pc = some i → mm_isRet i = true → mm_ex gf pf mv ms kc gs rf ro rt nL i pc lv st mw = some (.inr r) → mm_Sim p l e R s m args below meth c D cl A H0 ad cy nL nc ns Q (pc, lv, st, mw)) :
    ∀ (n : Nat) (x : mm_C), mm_run gf pf mv ms kc gs rf ro rt nL ins n x = some r → mm_Sim p l e R s m args below meth c D cl A H0 ad cy nL nc ns Q x := by
  intro n
  induction n with
  | zero => intro x h; cases h
  | succ n ih =>
    rintro ⟨pc, lv, st, mw⟩ h
    unfold mm_run at h
    cases h1 : ins pc with
    | none => rw [h1] at h; cases h
    | some i =>
      rw [h1] at h
      simp only at h
      cases h2 : mm_ex gf pf mv ms kc gs rf ro rt nL i pc lv st mw with
      | none => rw [h2] at h; cases h
      | some y =>
        rw [h2] at h
        cases y with
        | inl x => exact mm_step hx hb hts hown hK hgf hpf hmv hms hk1 hk2 hk3 hgs hrf hro (hins pc i h1) h2 (ih x h)
        | inr q =>
          obtain ⟨h3, h4⟩ := mm_bif h
          subst h4
          exact hend pc lv st mw i h1 h3 h2
/-- a run -/
theorem mm_runW {ins : Nat → Option Instr} {r : mm_R} (hx : p.tables.exec = Jvm.exec) (hb : c.code = cc) (hr : meth.sig.returnType = rt) (hlk : meth.locks = false) (hts : ∀ w ∈ G, w.before args s = true) (hown : s.vm.findClass own = some m.cls) (hK : va_K D cl (mm_tys cy) s)
    (hgf : ∀ n ci k, gf n = some (ci, k) → mm_GF G cl own n ci k) (hpf : ∀ n ci k ty, pf n = some (ci, k, ty) → mm_PF G cl own n ci k ty)
    (hmv : ∀ ix n rc f, mv ix = some (n, rc, f) → mm_Call p l e R s m args below meth c D cl A s.heap ad cy nL cc 0 0 (.invokevirtual ix) n rc f) (hms : ∀ ix n rc f, ms ix = some (n, rc, f) → mm_Call p l e R s m args below meth c D cl A s.heap ad cy nL cc 0 0 (.invokestatic ix) n rc f)
    (hk1 : ∀ n v, kc (3 * n) = some v → mm_Kst p l e R s m args below meth c A s.heap ad cc 0 0 (.ldc n) 2 v) (hk2 : ∀ n v, kc (3 * n + 1) = some v → mm_Kst p l e R s m args below meth c A s.heap ad cc 0 0 (.ldc_w n) 3 v) (hk3 : ∀ n v, kc (3 * n + 2) = some v → mm_Kst p l e R s m args below meth c A s.heap ad cc 0 0 (.ldc2_w n) 3 v)
    (hgs : ∀ n v, gs n = some v → mm_Kst p l e R s m args below meth c A s.heap ad cc 0 0 (.getstatic n) 3 v) (hrf : ∀ n a v, rf a n = some v → mm_Rf p l e R s m args below meth c A s.heap ad cc 0 0 a n v) (hro : ∀ a t n f, ro a = some (t, n, f) → mm_Ro p l e R s m args below meth c A s.heap ad cc 0 0 a t n f)
    (hins : ∀ pc i, ins pc = some i → ∃ n, decode cc pc = .ok (i, n) ∧ (mm_len i ≠ 0 → n = mm_len i)) :
    ∀ (n : Nat) (x : mm_C), mm_run gf pf mv ms kc gs rf ro rt nL ins n x = some r → mm_Sim p l e R s m args below meth c D cl A s.heap ad cy nL 0 0 (MQ below (mm_Qc D cl ad cy A r) args s 0 0 A) x := by
  intro n x h
  exact mm_runQ hx hb hts hown hK hgf hpf hmv hms hk1 hk2 hk3 hgs hrf hro hins (fun pc lv st mw i h1 h3 h2 => mm_end hx hb hr hlk (hins pc i h1) h3 h2) n x h
end MMV
