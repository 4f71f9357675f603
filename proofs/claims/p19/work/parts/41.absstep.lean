/-! ===== the checker: a step of abstract states ===== -/
abbrev ab_E : Type := Option (Nat × Option Int)
abbrev ab_X : Type := Nat × ab_T × ab_E
/-- a call's summary: arguments, facts on them, answer -/
abbrev ab_Q : Type := List ab_V × List (List Nat) × Option ab_V
def ab_cut (c : ClassFile.Cond) (I J : ab_I) : Int × Int × Int × Int × Option Int := match c with
  | .lt => (I.1, min I.2.1 (J.2.1 - 1), max J.1 (I.1 + 1), J.2.1, none)
  | .le => (I.1, min I.2.1 J.2.1, max J.1 I.1, J.2.1, none)
  | .gt => (max I.1 (J.1 + 1), I.2.1, J.1, min J.2.1 (I.2.1 - 1), none)
  | .ge => (max I.1 J.1, I.2.1, J.1, min J.2.1 I.2.1, none)
  | .eq => (max I.1 J.1, min I.2.1 J.2.1, max I.1 J.1, min I.2.1 J.2.1, none)
  | .ne => bif ab_isC J then (bif decide (I.1 = J.1) then I.1 + 1 else I.1, bif decide (I.2.1 = J.1) then I.2.1 - 1 else I.2.1, J.1, J.2.1, some J.1) else (I.1, I.2.1, J.1, J.2.1, none)
def ab_neg (c : ClassFile.Cond) : ClassFile.Cond := match c with
  | .lt => .ge
  | .ge => .lt
  | .gt => .le
  | .le => .gt
  | .eq => .ne
  | .ne => .eq
def ab_ofst (t : ab_T) (st : List ab_V) : ab_T := (t.1, st, t.2.2)
def ab_push (t : ab_T) (a : ab_V) : ab_T := (t.1, a :: t.2.1, t.2.2)
def ab_nop (I : ab_I) : ab_I := (I.1, I.2.1, I.2.2.1, I.2.2.2.1, [])
section ABT
variable (sh : List ab_S)
/-- one local below another -/
def ab_lt (c : ClassFile.Cond) (I J : ab_I) (t : ab_T) : ab_T := match c, I.2.2.2.2, J.2.2.2.2 with
  | .lt, [1, a], [1, b] => bif decide (0 ≤ I.1) then ab_addF t [3, a, b] else t
  | _, _, _ => t
/-- the state where x, which is I, and y, which is J, compare so -/
def ab_cmp (c : ClassFile.Cond) (I J : ab_I) (t : ab_T) : Option ab_T :=
  let q := ab_cut c I J
  bif decide (q.1 ≤ q.2.1) && decide (q.2.2.1 ≤ q.2.2.2.1) then (match ab_ref sh t I.2.2.2.2 q.1 q.2.1 q.2.2.2.2 with
    | some u => (ab_ref sh u J.2.2.2.2 q.2.2.1 q.2.2.2.1 none).map (ab_lt c I J)
    | none => none) else none
def ab_br (pc : Nat) (off : Int) (c : ClassFile.Cond) (I J : ab_I) (t : ab_T) : Option (List ab_X) := match mm_jmp pc off with
  | some q => some ((match ab_cmp sh c I J t with | some u => [(q, u, none)] | none => []) ++ (match ab_cmp sh (ab_neg c) I J t with | some u => [(pc + 3, u, none)] | none => []))
  | none => none
def ab_hull (a : Option (Int × Int)) (b : Int × Int) : Option (Int × Int) := match a with
  | some x => some (min x.1 b.1, max x.2 b.2)
  | none => some b
/-- what a row may hold at places that I names -/
def ab_rdr (I : ab_I) (a : Option (Int × Int)) (r : ab_R) : Option (Int × Int) := bif decide (I.2.1 < (r.1 : Int)) || decide ((r.2.1 : Int) < I.1) then a else
  (List.range r.2.2.2.length).foldl (fun a q => bif (Nat.beq (I.2.2.1 % r.2.2.2.length) 0 && !Nat.beq (I.2.2.2.1 % r.2.2.2.length) q) || (ab_isC I && !decide (I.1 % (r.2.2.2.length : Int) = (q : Int))) then a else (match r.2.2.2[q]? with | some s => ab_hull a s | none => a)) a
def ab_rd (I : ab_I) (rs : List ab_R) : Option (Int × Int) := rs.foldl (ab_rdr I) none
def ab_arr (k : Nat) : Option (Nat × Nat × List ab_R) := match sh[k]? with
  | some (.inl x) => some x
  | _ => none
/-- the element's own provenance, and what the facts say of it -/
def ab_pel (k : Nat) (p : List Nat) : List Nat := match p with
  | [1, j] => [3, k, 1, j, 0]
  | [2, a, j, c] => [3, k, a, j, c]
  | _ => []
def ab_fct (F : List (List Nat)) (p : List Nat) (x : Int × Int) : Int × Int := F.foldl (fun x f => match p, f with
  | [3, k, a, j, c], [1, k', a', j', c', l, h] => bif Nat.beq k k' && (Nat.beq a a' && Nat.beq j j') then (bif Nat.beq c c' then (max x.1 l, min x.2 h) else bif Nat.beq k 62 && (Nat.beq a 5 && (Nat.beq c 3 && (Nat.beq c' 2 && (Nat.beq l 3 && Nat.beq h 3)))) then (max x.1 0, min x.2 15) else x) else x
  | _, _ => x) x
def ab_in (I : ab_I) (n : Nat) : Bool := decide (0 ≤ I.1) && decide (I.2.1 < (n : Int))
def ab_ald (tag : Nat → Bool) (ro : Nat → Option (Nat × Nat × Int × Int)) (pc : Nat) (t : ab_T) : Option (List ab_X) := match t.2.1 with
  | .inl I :: .inr (some k) :: r => match ab_arr sh k with
    | some x => bif tag x.1 && ab_in I x.2.1 then (match ab_rd I x.2.2 with
      | some y => (let p := ab_pel k I.2.2.2.2; let z := ab_fct t.2.2 p y; some [(pc + 1, ab_ofst t (.inl (z.1, z.2, 1, 0, p) :: r), none)])
      | none => none) else none
    | none => match ro k with
      | some (g, n, l, h) => bif tag g && (ab_in I n && Nat.ble sh.length k) then some [(pc + 1, ab_ofst t (.inl (l, h, 1, 0, []) :: r), none)] else none
      | none => none
  | _ => none
def ab_wrok (I : ab_I) (V : Option ab_I) (r : ab_R) : Bool := (decide (I.2.1 < (r.1 : Int)) || decide ((r.2.1 : Int) < I.1)) || (!r.2.2.1 && r.2.2.2.all (fun s => match V with
  | some v => decide (s.1 ≤ v.1) && decide (v.2.1 ≤ s.2)
  | none => decide (s.1 ≤ -2147483648) && decide (2147483647 ≤ s.2)))
def ab_ast (tag : Nat → Bool) (nar : Bool) (pc : Nat) (t : ab_T) : Option (List ab_X) := match t.2.1 with
  | .inl V :: .inl I :: .inr (some k) :: r => match ab_arr sh k with
    | some x => bif tag x.1 && (ab_in I x.2.1 && x.2.2.all (ab_wrok I (bif nar then none else some V))) then some [(pc + 1, ab_for (fun _ => false) (fun q => Nat.beq q k) (ab_ofst t r), none)] else none
    | none => none
  | _ => none
def ab_roF (F : ab_F) : Bool := match F with
  | .inl x => x.1
  | .inr (some none) => false
  | .inr _ => true
/-- which fields, which arrays a call may change -/
def ab_bL (j : Nat) : Bool := Nat.ble 1000 j && (match ab_fs sh (j / 1000 - 1) (j % 1000) with
  | some F => !ab_roF F
  | none => true)
def ab_bC (k : Nat) : Bool := match ab_arr sh k with
  | some x => !x.2.2.all (fun r => r.2.2.1)
  | none => true
def ab_subst (A : List ab_V) (p : List Nat) : List Nat := match p with
  | [4, s, l, h, 1, j] => (match A[j]? with
    | some (.inl I) => (match I.2.2.2.2 with
      | [1, a] => [4, s, l, h, 1, a]
      | [3, k, a, b, c] => [4, s, l, h, 3, k, a, b, c]
      | _ => [])
    | _ => [])
  | [5, o, i] => (match A[o]?, A[i]? with
    | some (.inl I), some (.inl J) => (match I.2.2.2.2, J.2.2.2.2 with
      | [1, a], [1, b] => [5, a, b]
      | _, _ => [])
    | _, _ => [])
  | _ => []
def ab_fok (F : List (List Nat)) (A : List ab_V) (f : List Nat) : Bool := match f with
  | [2, o, i] => (match A[o]?, A[i]? with
    | some (.inl I), some (.inl J) => (match I.2.2.2.2, J.2.2.2.2 with
      | [1, a], [1, b] => F.any (fun g => g == [2, a, b])
      | _, _ => false)
    | _, _ => false)
  | _ => false
def ab_argok : List ab_V → List ab_V → Bool
  | [], [] => true
  | a :: s, b :: u => (match b with | .inl J => J.2.2.2.2.isEmpty | _ => true) && (ab_leV a b && ab_argok s u)
  | _, _ => false
def ab_sel (F : List (List Nat)) (A : List ab_V) (Qs : List ab_Q) : Option ab_Q := Qs.find? (fun q => ab_argok A q.1 && q.2.1.all (ab_fok F A))
def ab_res (A : List ab_V) (r : Option ab_V) : List ab_V := match r with
  | some (.inl I) => [.inl (I.1, I.2.1, I.2.2.1, I.2.2.2.1, ab_subst A I.2.2.2.2)]
  | some a => [a]
  | none => []
def ab_cat (a : ab_V) : Nat := match a with
  | .inr none => 2
  | _ => 1
def ab_callA (sc : List ab_S) (n : Nat) (Qs : List ab_Q) (pc : Nat) (t : ab_T) : Option (List ab_X) := bif Nat.ble n t.2.1.length && Nat.ble ((t.2.1.drop n).map ab_cat).sum 8 then
    (let A := (t.2.1.take n).reverse; match ab_sel t.2.2 A Qs with
    | some q => (let u := ab_for (ab_bL sc) (ab_bC sc) (ab_ofst t (t.2.1.drop n)); some [(pc + 3, ab_ofst u (ab_res (A.map (ab_clr (ab_bL sc) (ab_bC sc))) q.2.2 ++ u.2.1), none)])
    | none => none) else none
/-- arraycopy of whole rows -/
def ab_acp (pc : Nat) (t : ab_T) : Option (List ab_X) := match t.2.1 with
  | .inl N :: .inl D :: .inr (some k1) :: .inl P :: .inr (some k0) :: r => match ab_arr sh k0, ab_arr sh k1 with
    | some x0, some x1 => bif (Nat.beq x0.1 0 && Nat.beq x1.1 0) && ((decide (P.1 = 0) && decide (P.2.1 = 0)) && ((decide (D.1 = 0) && decide (D.2.1 = 0)) && ((decide (0 ≤ N.1) && (decide (N.2.1 ≤ (x0.2.1 : Int)) && decide (N.2.1 ≤ (x1.2.1 : Int)))) && (x1.2.2.all (ab_wrok (0, (x1.2.1 : Int), 1, 0, []) none) && Nat.ble (r.map ab_cat).sum 8)))) then some [(pc + 3, ab_for (fun _ => false) (fun q => Nat.beq q k1) (ab_ofst t r), none)] else none
    | _, _ => none
  | _ => none
def ab_i2 (f : ab_I → ab_I → Option ab_I) (pc : Nat) (t : ab_T) : Option (List ab_X) := match t.2.1 with
  | .inl J :: .inl I :: r => (match f I J with
    | some q => some [(pc + 1, ab_ofst t (.inl q :: r), none)]
    | none => none)
  | _ => none
def ab_ldv (j : Nat) (num : Bool) (pn : Nat) (t : ab_T) : Option (List ab_X) := match (bif Nat.ble (j + 1) 1000 then ab_lk t.1 j else none) with
  | some (.inl I) => bif num then some [(pn, ab_push t (.inl (I.1, I.2.1, I.2.2.1, I.2.2.2.1, [1, j])), none)] else none
  | some (.inr (some k)) => bif num then none else some [(pn, ab_push t (.inr (some k)), none)]
  | _ => none
def ab_stv (nL j : Nat) (num : Bool) (pn : Nat) (t : ab_T) : Option (List ab_X) := bif Nat.ble (j + 1) nL && Nat.ble (j + 1) 1000 then (match t.2.1 with
  | .inl I :: r => bif num then some [(pn, ab_put (ab_for (fun q => Nat.beq q j) (fun _ => false) (ab_ofst t r)) j (ab_clr (fun q => Nat.beq q j) (fun _ => false) (.inl I)), some (j, none))] else none
  | .inr (some k) :: r => bif num then none else some [(pn, ab_put (ab_for (fun q => Nat.beq q j) (fun _ => false) (ab_ofst t r)) j (.inr (some k)), some (j, none))]
  | _ => none) else none
def ab_inc (nL j : Nat) (c : Int) (pn : Nat) (t : ab_T) : Option (List ab_X) := bif Nat.ble (j + 1) nL && Nat.ble (j + 1) 1000 then (match ab_lk t.1 j with
  | some (.inl I) => (let q := ab_addc (ab_nop I) c; bif ab_rng (I.1 + c) (I.2.1 + c) then some [(pn, ab_put (ab_for (fun q => Nat.beq q j) (fun _ => false) t) j (.inl (ab_nop q)), some (j, some c))] else some [(pn, ab_put (ab_for (fun q => Nat.beq q j) (fun _ => false) t) j (.inl ab_top), some (j, none))])
  | _ => none) else none
def ab_gtf (q : Option (Nat × Nat)) (pc : Nat) (t : ab_T) : Option (List ab_X) := match q, t.2.1 with
  | some (ci, j), .inr (some k) :: r => match sh[k]? with
    | some (.inr (.inl x)) => bif Nat.beq x.1 ci && Nat.ble (j + 1) 1000 then (match x.2[j]? with
      | some (.inl F) => (match ab_lk t.1 (ab_key k j) with
        | some (.inl I) => some [(pc + 3, ab_ofst t (.inl (I.1, I.2.1, I.2.2.1, I.2.2.2.1, [1, ab_key k j]) :: r), none)]
        | _ => some [(pc + 3, ab_ofst t (.inl (F.2.1, F.2.2, 1, 0, [1, ab_key k j]) :: r), none)])
      | some (.inr (some (some p))) => some [(pc + 3, ab_ofst t (.inr (some p) :: r), none)]
      | some (.inr (some none)) => some [(pc + 3, ab_ofst t (.inr none :: r), none)]
      | _ => none) else none
    | _ => none
  | _, _ => none
def ab_eff (key : Nat) (p : List Nat) : ab_E := match p with
  | [2, 1, j, c] => bif Nat.beq j key then some (key, some (c : Int)) else some (key, none)
  | _ => some (key, none)
def ab_ptf (q : Option (Nat × Nat × FieldType)) (pc : Nat) (t : ab_T) : Option (List ab_X) := match q, t.2.1 with
  | some (ci, j, ty), .inl V :: .inr (some k) :: r => match sh[k]? with
    | some (.inr (.inl x)) => bif Nat.beq x.1 ci && (decide (ty = .int) && Nat.ble (j + 1) 1000) then (match x.2[j]? with
      | some (.inl F) => bif !F.1 && (decide (F.2.1 ≤ V.1) && decide (V.2.1 ≤ F.2.2)) then some [(pc + 3, ab_put (ab_for (fun q => Nat.beq q (ab_key k j)) (fun _ => false) (ab_ofst t r)) (ab_key k j) (ab_clr (fun q => Nat.beq q (ab_key k j)) (fun _ => false) (.inl V)), ab_eff (ab_key k j) V.2.2.2.2)] else none
      | _ => none) else none
    | _ => none
  | some (ci, j, ty), .inr none :: .inr (some k) :: r => match sh[k]? with
    | some (.inr (.inl x)) => bif Nat.beq x.1 ci && decide (ty = .long) then (match x.2[j]? with
      | some (.inr (some none)) => some [(pc + 3, ab_ofst t r, none)]
      | _ => none) else none
    | _ => none
  | _, _ => none
def ab_aal (pc : Nat) (t : ab_T) : Option (List ab_X) := match t.2.1 with
  | .inl I :: .inr (some k) :: r => match sh[k]? with
    | some (.inr (.inr ks)) => bif ab_in I ks.length then some ((List.range ks.length).flatMap (fun i : Nat => match ks[i]? with
      | some p => bif decide (I.1 ≤ (i : Int)) && decide ((i : Int) ≤ I.2.1) then [(pc + 1, ab_ofst t (.inr (some p) :: r), none)] else []
      | none => [])) else none
    | _ => none
  | _ => none
/-- switches: the cases' numbers with their ways, and the way of all others -/
def ab_swt (cs : List (Int × Int)) (d : Option Int) (pc : Nat) (I : ab_I) (t : ab_T) : Option (List ab_X) := (cs.foldr (fun q a => match a with
  | some l => bif decide (I.1 ≤ q.1) && decide (q.1 ≤ I.2.1) then (match mm_jmp pc q.2 with
    | some p => (match ab_ref sh t I.2.2.2.2 q.1 q.1 none with
      | some u => some ((p, u, none) :: l)
      | none => some l)
    | none => none) else some l
  | none => none) (match d with
    | some o => (match mm_jmp pc o with
      | some p => some [(p, t, none)]
      | none => none)
    | none => some []))
/-- what is left of a debt is never below 0 -/
def ab_sub2 (I J : ab_I) : ab_I := match I.2.2.2.2, J.2.2.2.2 with
  | [3, 61, 3, j, 2], [3, 57, 1, q, 0] => bif Nat.beq j q && decide (0 ≤ J.1) then (0, I.2.1, 1, 0, []) else ab_sub I J
  | _, _ => ab_sub I J
end ABT
