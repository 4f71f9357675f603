/-! ===== the JVM does what the small machine does: fields, arrays, calls; all steps; a run; a method ===== -/
section MMU
variable {p : Program} {l : Launch} {e : Env} {R : Room} {s : State} {m : MethodId} {args : Array Value} {below : List Frame} {meth : Method} {c : Code} {D : va_G} {cl : List vw_C} {A : Nat → Prop} {H0 : Heap} {ad : Nat → Nat} {cy : Nat → ClassId} {nL : Nat} {cc : ByteArray} {Q : State → Prop} {G : List Cond} {own : String} {nc ns : Nat}
variable {pc : Nat} {lv : List (Nat × Value)} {st : List Value} {mw : List va_E} {x : mm_C}
theorem mt_getf {q : Option (Nat × Nat)} {rf : Nat → Option Value} {n : Nat} (h : mm_getf q rf (pc + 3) lv st mw = some (.inl x)) (hx : p.tables.exec = Jvm.exec) (hb : c.code = cc) (hts : ∀ w ∈ G, w.before args s = true) (hown : s.vm.findClass own = some m.cls) (hK : va_K D cl (mm_tys cy) s) (hd : decode cc pc = .ok (.getfield n, 3)) (hq : ∀ ci k, q = some (ci, k) → mm_GF G cl own n ci k) (hrf : ∀ a v, rf a = some v → mm_Rf p l e R s m args below meth c A H0 ad cc nc ns a n v) (k : mm_Sim p l e R s m args below meth c D cl A H0 ad cy nL nc ns Q x) : mm_Sim p l e R s m args below meth c D cl A H0 ad cy nL nc ns Q (pc, lv, st, mw) := by
  unfold mm_getf at h
  split at h
  · rename_i a r
    split at h
    · rename_i y hy
      split at h
      · rename_i ci j
        cases hc : y.1 == ci with
        | false => rw [hc] at h; cases h
        | true =>
          rw [hc] at h
          have h : (match y.2[j]? with | some v => some (Sum.inl (pc + 3, lv, v :: r, mw)) | none => none) = some (Sum.inl x : mm_C ⊕ mm_R) := h
          cases hv : y.2[j]? with
          | none => rw [hv] at h; cases h
          | some v =>
            rw [hv] at h
            cases h
            obtain ⟨C, T, N, g1, g2, g3, g4⟩ := hq ci j rfl
            have e1 : y.1 = ci := by simpa using hc
            intro H locs ls hP hD hS hl
            have hw : (mm_w ad cy 0 mw)[a]? = some (ad a, .inr (ci, y.2.map (mm_v ad))) := by rw [mm_w_at hy, ← e1]; rfl
            exact va_get hx hb hts g3 hown hK hP a hw g1 j g2 (hts _ g4) (fun _ z => z) (v := mm_v ad v) (by rw [List.getElem?_map, hv]; rfl) hd (k H locs ls hP hD hS hl)
      · cases h
    · cases h
    · split at h
      · rename_i v hv
        cases h
        intro H locs ls hP hD hS hl
        exact hrf a v hv Q pc H locs ls _ hd hS (k H locs ls hP hD hS hl)
      · cases h
  · cases h
theorem mm_nar {ty : FieldType} {v : Value} (ad : Nat → Nat) (h : narrow ty v = v) : narrow ty (mm_v ad v) = mm_v ad v := by
  cases v with
  | ref k => cases ty <;> rfl
  | _ => exact h
theorem mm_fit {ty : FieldType} {v : Value} (ad : Nat → Nat) (h : fits ty v = true) : fits ty (mm_v ad v) = true := by
  cases v with
  | ref k => cases ty <;> first | exact h | rfl
  | _ => exact h
theorem mt_putf {q : Option (Nat × Nat × FieldType)} {n : Nat} (h : mm_putf q (pc + 3) lv st mw = some (.inl x)) (hx : p.tables.exec = Jvm.exec) (hb : c.code = cc) (hts : ∀ w ∈ G, w.before args s = true) (hown : s.vm.findClass own = some m.cls) (hK : va_K D cl (mm_tys cy) s) (hd : decode cc pc = .ok (.putfield n, 3)) (hq : ∀ ci k ty, q = some (ci, k, ty) → mm_PF G cl own n ci k ty) (k : mm_Sim p l e R s m args below meth c D cl A H0 ad cy nL nc ns Q x) : mm_Sim p l e R s m args below meth c D cl A H0 ad cy nL nc ns Q (pc, lv, st, mw) := by
  unfold mm_putf at h
  split at h
  · rename_i ci j ty v a r
    split at h
    · rename_i y hy
      obtain ⟨h1, h2⟩ := mm_bif h
      cases h2
      simp only [Bool.and_eq_true, decide_eq_true_eq, beq_iff_eq] at h1
      obtain ⟨e1, e2, e3, e4⟩ := h1
      obtain ⟨C, T, N, ty0, g1, g2, g3, g4, g5, g6, g7, g8⟩ := hq ci j ty rfl
      intro H locs ls hP hD hS hl
      have hw : (mm_w ad cy 0 mw)[a]? = some (ad a, .inr (ci, y.2.map (mm_v ad))) := by rw [mm_w_at hy, ← e1]; rfl
      refine va_put hx hb hts g3 ty0 g5 g6 hown hK hP hD hS a hw g1 j g2 (hts _ g4) (fun _ z => z) g7 (g5 j g2) (v := mm_v ad v) (by rw [g8]; exact mm_nar ad e2) (by rw [g8]; exact mm_fit ad e3) (by rw [List.length_map]; exact Nat.le_of_ble_eq_true e4) hd (fun H1 locs1 hP1 hD1 hS1 => ?_)
      have hs : (mm_w ad cy 0 mw).set a (ad a, .inr (ci, (y.2.map (mm_v ad)).set j (mm_v ad v))) = mm_w ad cy 0 (mw.set a (.inr (y.1, y.2.set j v))) := by
        rw [← mm_w_put, e1]
        simp [mm_e, List.map_set]
      rw [hs] at hP1 hD1
      exact k H1 locs1 ls hP1 hD1 hS1 hl
    · cases h
  · cases h
theorem mm_tys_at (cy : Nat → ClassId) {t : Nat} (h : t ≤ 3) : (mm_tys cy)[t]? = some (cy t, mm_ty t) := by
  rcases (show t = 0 ∨ t = 1 ∨ t = 2 ∨ t = 3 by omega) with rfl | rfl | rfl | rfl <;> rfl
theorem mt_iald {ro : Nat → Option (Nat × Nat × (Nat → Int32))} (h : mm_iald ro (pc + 1) lv st mw = some (.inl x)) (hx : p.tables.exec = Jvm.exec) (hb : c.code = cc) (hK : va_K D cl (mm_tys cy) s) (hd : decode cc pc = .ok (.iaload, 1)) (hro : ∀ a t n f, ro a = some (t, n, f) → mm_Ro p l e R s m args below meth c A H0 ad cc nc ns a t n f) (k : mm_Sim p l e R s m args below meth c D cl A H0 ad cy nL nc ns Q x) : mm_Sim p l e R s m args below meth c D cl A H0 ad cy nL nc ns Q (pc, lv, st, mw) := by
  unfold mm_iald at h
  split at h
  · rename_i i a r
    split at h
    · rename_i y hy
      split at h
      · rename_i f hf
        obtain ⟨h1, h2⟩ := mm_bif h
        cases h2
        simp only [Bool.and_eq_true, beq_iff_eq] at h1
        intro H locs ls hP hD hS hl
        have hw : (mm_w ad cy 0 mw)[a]? = some (ad a, .inl (cy 0, y.2.1, .inl f)) := by
          rw [mm_w_at hy]
          obtain ⟨y1, y2, y3⟩ := y
          simp only at h1 hf
          simp [mm_e, mm_a, hf, h1.1]
        exact va_iald hx hb hK hP a 0 hw (mm_tys_at cy (by omega)) (mm_inB_in h1.2) hd (k H locs ls hP hD hS hl)
      · cases h
    · cases h
    · split at h
      · rename_i t n f hf
        obtain ⟨h1, h2⟩ := mm_bif h
        cases h2
        simp only [Bool.and_eq_true, beq_iff_eq] at h1
        intro H locs ls hP hD hS hl
        exact (hro a t n f hf).1 h1.1 Q pc H locs ls _ i (mm_inB_in h1.2) hd hS (k H locs ls hP hD hS hl)
      · cases h
  · cases h
theorem mt_bald {ro : Nat → Option (Nat × Nat × (Nat → Int32))} (h : mm_bald ro (pc + 1) lv st mw = some (.inl x)) (hx : p.tables.exec = Jvm.exec) (hb : c.code = cc) (hK : va_K D cl (mm_tys cy) s) (hd : decode cc pc = .ok (.baload, 1)) (hro : ∀ a t n f, ro a = some (t, n, f) → mm_Ro p l e R s m args below meth c A H0 ad cc nc ns a t n f) (k : mm_Sim p l e R s m args below meth c D cl A H0 ad cy nL nc ns Q x) : mm_Sim p l e R s m args below meth c D cl A H0 ad cy nL nc ns Q (pc, lv, st, mw) := by
  unfold mm_bald at h
  split at h
  · rename_i i a r
    split at h
    · rename_i y hy
      split at h
      · rename_i f hf
        obtain ⟨h1, h2⟩ := mm_bif h
        cases h2
        simp only [Bool.and_eq_true, Bool.or_eq_true, beq_iff_eq] at h1
        intro H locs ls hP hD hS hl
        have hw : (mm_w ad cy 0 mw)[a]? = some (ad a, .inl (cy y.1, y.2.1, .inl f)) := by
          rw [mm_w_at hy]
          obtain ⟨y1, y2, y3⟩ := y
          simp only at hf
          simp [mm_e, mm_a, hf]
        rcases h1.1 with h3 | h3
        · rw [h3] at hw
          exact va_bald hx hb hK hP a 1 hw (mm_tys_at cy (by omega)) (mm_inB_in h1.2) hd (k H locs ls hP hD hS hl)
        · rw [h3] at hw
          exact va_zald hx hb hK hP a 2 hw (mm_tys_at cy (by omega)) (mm_inB_in h1.2) hd (k H locs ls hP hD hS hl)
      · cases h
    · cases h
    · split at h
      · rename_i t n f hf
        obtain ⟨h1, h2⟩ := mm_bif h
        cases h2
        simp only [Bool.and_eq_true, beq_iff_eq] at h1
        intro H locs ls hP hD hS hl
        exact (hro a t n f hf).2.1 h1.1 Q pc H locs ls _ i (mm_inB_in h1.2) hd hS (k H locs ls hP hD hS hl)
      · cases h
  · cases h
theorem mt_aald (h : mm_aald (pc + 1) lv st mw = some (.inl x)) (hx : p.tables.exec = Jvm.exec) (hb : c.code = cc) (hK : va_K D cl (mm_tys cy) s) (hd : decode cc pc = .ok (.aaload, 1)) (k : mm_Sim p l e R s m args below meth c D cl A H0 ad cy nL nc ns Q x) : mm_Sim p l e R s m args below meth c D cl A H0 ad cy nL nc ns Q (pc, lv, st, mw) := by
  unfold mm_aald at h
  split at h
  · rename_i i a r
    split at h
    · rename_i y hy
      split at h
      · rename_i f hf
        obtain ⟨h1, h2⟩ := mm_bif h
        cases h2
        simp only [Bool.and_eq_true, beq_iff_eq] at h1
        intro H locs ls hP hD hS hl
        have hw : (mm_w ad cy 0 mw)[a]? = some (ad a, .inl (cy 3, y.2.1, .inr (.inr (.inr (.inr (fun j => (f j).map ad)))))) := by
          rw [mm_w_at hy]
          obtain ⟨y1, y2, y3⟩ := y
          simp only at h1 hf
          simp [mm_e, mm_a, hf, h1.1]
        refine va_aldq hx hb hK hP a 3 hw (mm_tys_at cy (by omega)) (mm_inB_in h1.2) hd ?_
        have e1 : va_rf ((f i.toNatClampNeg).map ad) = mm_v ad (va_rf (f i.toNatClampNeg)) := by cases f i.toNatClampNeg <;> rfl
        rw [e1]
        exact k H locs ls hP hD hS hl
      · cases h
    · cases h
  · cases h
theorem mt_iast (h : mm_iast (pc + 1) lv st mw = some (.inl x)) (hx : p.tables.exec = Jvm.exec) (hb : c.code = cc) (hK : va_K D cl (mm_tys cy) s) (hd : decode cc pc = .ok (.iastore, 1)) (k : mm_Sim p l e R s m args below meth c D cl A H0 ad cy nL nc ns Q x) : mm_Sim p l e R s m args below meth c D cl A H0 ad cy nL nc ns Q (pc, lv, st, mw) := by
  unfold mm_iast at h
  split at h
  · rename_i v i a r
    split at h
    · rename_i y hy
      split at h
      · rename_i f hf
        obtain ⟨h1, h2⟩ := mm_bif h
        cases h2
        simp only [Bool.and_eq_true, beq_iff_eq] at h1
        intro H locs ls hP hD hS hl
        have hw : (mm_w ad cy 0 mw)[a]? = some (ad a, .inl (cy 0, y.2.1, .inl f)) := by
          rw [mm_w_at hy]
          obtain ⟨y1, y2, y3⟩ := y
          simp only at h1 hf
          simp [mm_e, mm_a, hf, h1.1]
        refine va_iast hx hb hK hP hD hS a 0 hw (mm_tys_at cy (by omega)) (mm_inB_in h1.2) hd (fun H1 locs1 hP1 hD1 hS1 => ?_)
        have hs : (mm_w ad cy 0 mw).set a (ad a, .inl (cy 0, y.2.1, .inl (upd f i.toNatClampNeg v))) = mm_w ad cy 0 (mw.set a (.inl (y.1, y.2.1, .inl (upd f i.toNatClampNeg v)))) := by
          rw [← mm_w_put, h1.1]
          rfl
        rw [hs] at hP1 hD1
        exact k H1 locs1 ls hP1 hD1 hS1 hl
      · cases h
    · cases h
  · cases h
theorem mt_bast (h : mm_bast (pc + 1) lv st mw = some (.inl x)) (hx : p.tables.exec = Jvm.exec) (hb : c.code = cc) (hK : va_K D cl (mm_tys cy) s) (hd : decode cc pc = .ok (.bastore, 1)) (k : mm_Sim p l e R s m args below meth c D cl A H0 ad cy nL nc ns Q x) : mm_Sim p l e R s m args below meth c D cl A H0 ad cy nL nc ns Q (pc, lv, st, mw) := by
  unfold mm_bast at h
  split at h
  · rename_i v i a r
    split at h
    · rename_i y hy
      split at h
      · rename_i f hf
        obtain ⟨h1, h2⟩ := mm_bif h
        cases h2
        simp only [Bool.and_eq_true, Bool.or_eq_true, beq_iff_eq] at h1
        intro H locs ls hP hD hS hl
        have hw : (mm_w ad cy 0 mw)[a]? = some (ad a, .inl (cy y.1, y.2.1, .inl f)) := by
          rw [mm_w_at hy]
          obtain ⟨y1, y2, y3⟩ := y
          simp only at hf
          simp [mm_e, mm_a, hf]
        rcases h1.1 with h3 | h3
        · rw [h3] at hw
          refine va_bast hx hb hK hP hD hS a 1 hw (mm_tys_at cy (by omega)) (mm_inB_in h1.2) hd (fun H1 locs1 hP1 hD1 hS1 => ?_)
          have hs : (mm_w ad cy 0 mw).set a (ad a, .inl (cy 1, y.2.1, .inl (upd f i.toNatClampNeg (vp_nar .byte v)))) = mm_w ad cy 0 (mw.set a (.inl (y.1, y.2.1, .inl (upd f i.toNatClampNeg (vp_nar (mm_ty y.1) v))))) := by
            rw [← mm_w_put, h3]
            rfl
          rw [hs] at hP1 hD1
          exact k H1 locs1 ls hP1 hD1 hS1 hl
        · rw [h3] at hw
          refine va_zast hx hb hK hP hD hS a 2 hw (mm_tys_at cy (by omega)) (mm_inB_in h1.2) hd (fun H1 locs1 hP1 hD1 hS1 => ?_)
          have hs : (mm_w ad cy 0 mw).set a (ad a, .inl (cy 2, y.2.1, .inl (upd f i.toNatClampNeg (vp_nar .boolean v)))) = mm_w ad cy 0 (mw.set a (.inl (y.1, y.2.1, .inl (upd f i.toNatClampNeg (vp_nar (mm_ty y.1) v))))) := by
            rw [← mm_w_put, h3]
            rfl
          rw [hs] at hP1 hD1
          exact k H1 locs1 ls hP1 hD1 hS1 hl
      · cases h
    · cases h
  · cases h
theorem mm_a_len (ad : Nat → Nat) (y : vp_A) : (mm_a ad y).1 = y.1 := by
  obtain ⟨n, y⟩ := y
  rcases y with y | y | y | y | y <;> rfl
theorem mt_alen {ro : Nat → Option (Nat × Nat × (Nat → Int32))} (h : mm_alen ro (pc + 1) lv st mw = some (.inl x)) (hx : p.tables.exec = Jvm.exec) (hb : c.code = cc) (hK : va_K D cl (mm_tys cy) s) (hd : decode cc pc = .ok (.arraylength, 1)) (hro : ∀ a t n f, ro a = some (t, n, f) → mm_Ro p l e R s m args below meth c A H0 ad cc nc ns a t n f) (k : mm_Sim p l e R s m args below meth c D cl A H0 ad cy nL nc ns Q x) : mm_Sim p l e R s m args below meth c D cl A H0 ad cy nL nc ns Q (pc, lv, st, mw) := by
  unfold mm_alen at h
  split at h
  · rename_i a r
    split at h
    · rename_i y hy
      obtain ⟨h1, h2⟩ := mm_bif h
      cases h2
      intro H locs ls hP hD hS hl
      exact va_alen hx hb hK hP a y.1 (x := mm_a ad y.2) (mm_w_at hy) (mm_tys_at cy (Nat.le_of_ble_eq_true h1)) (v := Int32.ofNat y.2.1) (by rw [mm_a_len]) hd (k H locs ls hP hD hS hl)
    · cases h
    · split at h
      · rename_i t n f hf
        cases h
        intro H locs ls hP hD hS hl
        exact (hro a t n f hf).2.2 Q pc H locs ls _ hd hS (k H locs ls hP hD hS hl)
      · cases h
  · cases h
theorem mt_call {q : Option (Nat × Option Nat × mm_F)} {ix : Instr} (h : mm_call q (pc + 3) lv st mw = some (.inl x)) (hd : decode cc pc = .ok (ix, 3)) (hq : ∀ n rc f, q = some (n, rc, f) → mm_Call p l e R s m args below meth c D cl A H0 ad cy nL cc nc ns ix n rc f) (k : mm_Sim p l e R s m args below meth c D cl A H0 ad cy nL nc ns Q x) : mm_Sim p l e R s m args below meth c D cl A H0 ad cy nL nc ns Q (pc, lv, st, mw) := by
  unfold mm_call at h
  split at h
  · rename_i n rc f
    cases hc : (Nat.ble n st.length && (mm_rc rc (st.take n).reverse mw && Nat.ble ((st.drop n).map fun v => v.category).sum 8)) with
    | false => rw [hc] at h; cases h
    | true =>
      rw [hc] at h
      have h : (match f (st.take n).reverse mw with | some (r, mw') => some (Sum.inl (pc + 3, lv, r.toList ++ st.drop n, mw')) | none => none) = some (Sum.inl x : mm_C ⊕ mm_R) := h
      simp only [Bool.and_eq_true] at hc
      obtain ⟨h1, h2, h3⟩ := hc
      cases hf : f (st.take n).reverse mw with
      | none => rw [hf] at h; cases h
      | some y =>
        obtain ⟨r, mw'⟩ := y
        rw [hf] at h
        cases h
        intro H locs ls hP hD hS hl
        have e1 : st.map (mm_v ad) = ((st.take n).reverse.map (mm_v ad)).reverse ++ (st.drop n).map (mm_v ad) := by
          rw [List.map_reverse, List.reverse_reverse, ← List.map_append, List.take_append_drop]
        show W p l e R s m args below meth c H locs nc ns Q (F0 m pc ls (st.map (mm_v ad)))
        rw [e1]
        refine hq n rc f rfl (st.take n).reverse mw mw' r (by simp only [List.length_reverse, List.length_take]; have := Nat.le_of_ble_eq_true h1; omega) h2 hf Q pc H locs ls _ hl.1 hd hP hD hS ?_ (fun H1 locs1 hP1 hD1 hS1 => ?_)
        · have := Nat.le_of_ble_eq_true h3
          rw [List.map_map]
          rw [show ((fun v => v.category) ∘ mm_v ad) = (fun v : Value => v.category) from funext (fun v => mm_v_cat ad v)]
          exact this
        · have := k H1 locs1 ls hP1 hD1 hS1 hl
          rw [List.map_append] at this
          exact this
  · cases h
end MMU
