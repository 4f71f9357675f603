/-! ===== the checker: all instructions, ranks, certificates ===== -/
section ABK
variable (sh sc : List ab_S) (gf : Nat → Option (Nat × Nat)) (pf : Nat → Option (Nat × Nat × FieldType)) (qv : Nat → Option (Nat × Nat × List ab_Q)) (qs : Nat → Option (Nat × List ab_Q)) (ac : Nat → Bool) (kc gs : Nat → Option Value) (ro : Nat → Option (Nat × Nat × Int × Int)) (nL : Nat)
def ab_kst (q : Option Value) (pn : Nat) (t : ab_T) : Option (List ab_X) := match q with
  | some (.int x) => some [(pn, ab_push t (.inl (ab_c x.toInt)), none)]
  | some (.long _) => some [(pn, ab_push t (.inr none), none)]
  | some (.ref k) => some [(pn, ab_push t (.inr (some k)), none)]
  | _ => none
def ab_rcv (ci : Nat) (A : List ab_V) : Bool := match A with
  | .inr (some k) :: _ => (match sh[k]? with
    | some (.inr (.inl x)) => Nat.beq x.1 ci
    | _ => false)
  | _ => false
def ab_step (i : Instr) (pc : Nat) (t : ab_T) : Option (List ab_X) := match i with
  | .iconst n => some [(pc + 1, ab_push t (.inl (ab_c (Int32.ofInt n).toInt)), none)]
  | .bipush n => some [(pc + 2, ab_push t (.inl (ab_c (Int8.ofInt n).toInt32.toInt)), none)]
  | .sipush n => some [(pc + 3, ab_push t (.inl (ab_c (Int16.ofInt n).toInt32.toInt)), none)]
  | .lconst _ => some [(pc + 1, ab_push t (.inr none), none)]
  | .ldc n => ab_kst (kc (3 * n)) (pc + 2) t
  | .ldc_w n => ab_kst (kc (3 * n + 1)) (pc + 3) t
  | .ldc2_w n => ab_kst (kc (3 * n + 2)) (pc + 3) t
  | .getstatic n => ab_kst (gs n) (pc + 3) t
  | .iload_n n => ab_ldv n true (pc + 1) t
  | .iload n => ab_ldv n true (pc + 2) t
  | .aload_n n => ab_ldv n false (pc + 1) t
  | .aload n => ab_ldv n false (pc + 2) t
  | .istore_n n => ab_stv nL n true (pc + 1) t
  | .istore n => ab_stv nL n true (pc + 2) t
  | .astore_n n => ab_stv nL n false (pc + 1) t
  | .astore n => ab_stv nL n false (pc + 2) t
  | .iinc n k => ab_inc nL n (Int32.ofInt k).toInt (pc + 3) t
  | .dup => (match t.2.1 with
    | .inr none :: _ => none
    | a :: r => some [(pc + 1, ab_ofst t (a :: a :: r), none)]
    | _ => none)
  | .dup2 => (match t.2.1 with
    | .inr none :: _ => none
    | _ :: .inr none :: _ => none
    | a :: b :: r => some [(pc + 1, ab_ofst t (a :: b :: a :: b :: r), none)]
    | _ => none)
  | .pop => (match t.2.1 with
    | .inr none :: _ => none
    | _ :: r => some [(pc + 1, ab_ofst t r, none)]
    | _ => none)
  | .iadd => ab_i2 (fun I J => some (ab_add I J)) pc t
  | .isub => ab_i2 (fun I J => some (ab_sub2 I J)) pc t
  | .imul => ab_i2 (fun I J => some (ab_mul I J)) pc t
  | .idiv => ab_i2 ab_div pc t
  | .irem => ab_i2 ab_rem pc t
  | .iand => ab_i2 (fun I J => some (ab_and I J)) pc t
  | .ior => ab_i2 (fun I J => some (ab_or I J)) pc t
  | .ixor => ab_i2 (fun _ _ => some ab_top) pc t
  | .ishl => ab_i2 (fun I J => some (ab_shl I J)) pc t
  | .ishr => ab_i2 (fun _ _ => some ab_top) pc t
  | .iushr => ab_i2 (fun _ _ => some ab_top) pc t
  | .i2l => (match t.2.1 with
    | .inl _ :: r => some [(pc + 1, ab_ofst t (.inr none :: r), none)]
    | _ => none)
  | .l2i => (match t.2.1 with
    | .inr none :: r => some [(pc + 1, ab_ofst t (.inl ab_top :: r), none)]
    | _ => none)
  | .ladd => (match t.2.1 with
    | .inr none :: .inr none :: r => some [(pc + 1, ab_ofst t (.inr none :: r), none)]
    | _ => none)
  | .lmul => (match t.2.1 with
    | .inr none :: .inr none :: r => some [(pc + 1, ab_ofst t (.inr none :: r), none)]
    | _ => none)
  | .goto o => (match mm_jmp pc o with
    | some q => some [(q, t, none)]
    | none => none)
  | .ifCond c o => (match t.2.1 with
    | .inl I :: r => ab_br sh pc o c I (ab_c 0) (ab_ofst t r)
    | _ => none)
  | .if_icmp c o => (match t.2.1 with
    | .inl J :: .inl I :: r => ab_br sh pc o c I J (ab_ofst t r)
    | _ => none)
  | .tableswitch d lo hi offs => (match t.2.1 with
    | .inl I :: r => bif decide (hi = lo + (offs.toList.length : Int) - 1) then ab_swt sh ((List.range offs.toList.length).filterMap (fun q : Nat => (offs.toList[q]?).map (fun o => (lo + (q : Int), o)))) (bif decide (lo ≤ I.1) && decide (I.2.1 ≤ hi) then none else some d) pc I (ab_ofst t r) else none
    | _ => none)
  | .lookupswitch d ps => (match t.2.1 with
    | .inl I :: r => bif (ps.toList.zip (ps.toList.drop 1)).all (fun (a, next) => a.1 < next.1) then ab_swt sh ps.toList (some d) pc I (ab_ofst t r) else none
    | _ => none)
  | .getfield n => ab_gtf sh (gf n) pc t
  | .putfield n => ab_ptf sh (pf n) pc t
  | .iaload => ab_ald sh (fun g => Nat.beq g 0) ro pc t
  | .baload => ab_ald sh (fun g => Nat.beq g 1 || Nat.beq g 2) ro pc t
  | .aaload => ab_aal sh pc t
  | .iastore => ab_ast sh (fun g => Nat.beq g 0) false pc t
  | .bastore => ab_ast sh (fun g => Nat.beq g 1 || Nat.beq g 2) true pc t
  | .arraylength => (match t.2.1 with
    | .inr (some k) :: r => (match ab_arr sh k with
      | some x => bif Nat.ble x.1 3 then some [(pc + 1, ab_ofst t (.inl (ab_c (Int32.ofNat x.2.1).toInt) :: r), none)] else none
      | none => none)
    | _ => none)
  | .invokevirtual n => (match qv n with
    | some (m, ci, Qs) => bif ab_rcv sh ci (t.2.1.take m).reverse then ab_callA sc m Qs pc t else none
    | none => none)
  | .invokestatic n => bif ac n then ab_acp sh pc t else (match qs n with
    | some (m, Qs) => ab_callA sc m Qs pc t
    | none => none)
  | _ => none
/-- a rank: a number, and local, weight, bound, way (0: it grows up to the bound) -/
abbrev ab_K : Type := Int × List (Nat × Nat × Int × Nat)
abbrev ab_N : Type := Nat × ab_T × ab_K × List Nat
def ab_same (a b : Nat × Nat × Int × Nat) : Bool := Nat.beq a.1 b.1 && (Nat.beq a.2.1 b.2.1 && (decide (a.2.2.1 = b.2.2.1) && Nat.beq a.2.2.2 b.2.2.2))
/-- how much a part of the rank may grow -/
def ab_dlt (K : List (Nat × Nat × Int × Nat)) (e : ab_E) (L : List (Nat × ab_V)) (q : Nat × Nat × Int × Nat) : Option Int :=
  let fresh : Option Int := (match ab_lk L q.1 with
    | some (.inl I) => bif Nat.beq q.2.2.2 0 then some ((q.2.1 : Int) * (q.2.2.1 - I.1)) else some ((q.2.1 : Int) * (I.2.1 - q.2.2.1))
    | _ => none)
  bif K.any (ab_same q) then (match e with
    | none => some 0
    | some (j, k) => bif Nat.beq j q.1 then (match k with
      | some c => some (bif Nat.beq q.2.2.2 0 then -((q.2.1 : Int) * c) else (q.2.1 : Int) * c)
      | none => fresh) else some 0) else fresh
def ab_dl (K : List (Nat × Nat × Int × Nat)) (e : ab_E) (L : List (Nat × ab_V)) : List (Nat × Nat × Int × Nat) → Option Int
  | [] => some 0
  | q :: r => match ab_dlt K e L q, ab_dl K e L r with
    | some a, some b => some (a + b)
    | _, _ => none
def ab_ndp : List (Nat × Nat × Int × Nat) → Bool
  | [] => true
  | q :: r => !r.any (ab_same q) && ab_ndp r
/-- the parts of a rank are never below 0 -/
def ab_kok (L : List (Nat × ab_V)) (K : List (Nat × Nat × Int × Nat)) : Bool := ab_ndp K && K.all (fun q => !ab_bL sc q.1 && match ab_lk L q.1 with
  | some (.inl I) => bif Nat.beq q.2.2.2 0 then decide (I.2.1 ≤ q.2.2.1) else decide (q.2.2.1 ≤ I.1)
  | _ => false)
def ab_to (nd : Nat → Option ab_N) (w : Int) (n : ab_N) (x : ab_X) : Bool := n.2.2.2.any (fun e => match nd e with
  | some m => Nat.beq m.1 x.1 && (ab_le x.2.1 m.2.1 && (match ab_dl n.2.2.1.2 x.2.2 m.2.1.1 m.2.2.1.2 with
    | some d => decide (m.2.2.1.1 + d + w < n.2.2.1.1)
    | none => false))
  | none => false)
/-- an answer as the summary says -/
def ab_ans (rt : Option FieldType) (res : Option ab_V) (t : ab_T) : Bool := match rt, res, t.2.1 with
  | some ty, some (.inl R), [.inl I] => ab_leI (ab_nop I) (ab_nop R) && ((decide (ty = .int) || (decide (ty = .boolean) && (decide (0 ≤ I.1) && decide (I.2.1 ≤ 1)))) && (match R.2.2.2.2 with
    | [] => true
    | [4, s, l, h, 1, j] => (decide (I.1 = ab_sent s) && decide (I.2.1 = ab_sent s)) || ((match ab_lk t.1 j with
        | some (.inl J) => decide ((l : Int) ≤ J.1) && decide (J.2.1 ≤ (h : Int))
        | _ => false) || (match I.2.2.2.2 with
        | [4, s', l', h', 1, j'] => Nat.beq s s' && (Nat.beq j j' && (Nat.ble l l' && Nat.ble h' h))
        | _ => false))
    | [5, o, i] => (decide (I.1 = 0) && decide (I.2.1 = 0)) || (match ab_lk t.1 o with
        | some (.inl O) => (match ab_lk t.1 i with
          | some (.inl J) => (let jl : Int × Int := (match I.2.2.2.2 with
              | [4, 0, l, h, 1, i'] => bif Nat.beq i i' then (max J.1 l, min J.2.1 h) else (J.1, J.2.1)
              | _ => (J.1, J.2.1))
            (decide (O.1 = 1) && (decide (O.2.1 = 1) && (decide (0 ≤ jl.1) && decide (jl.2 ≤ 15)))) || (decide (O.1 = 0) && (decide (O.2.1 = 0) && (decide (0 ≤ jl.1) && decide (jl.2 ≤ 9)))))
          | _ => false)
        | _ => false)
    | _ => false))
  | some .long, some (.inr none), [.inr none] => true
  | none, none, [] => true
  | _, _, _ => false
/-- a part of a whole, by longs: (int) ((long) a * b / c), where 0 <= b < c -/
def ab_mac (ins : Nat → Option Instr) (pc : Nat) (t : ab_T) : Option ab_X := match ins pc, ins (pc + 2), ins (pc + 3), ins (pc + 4), ins (pc + 5), ins (pc + 6), ins (pc + 8), ins (pc + 9), ins (pc + 10) with
  | some (.iload a), some .i2l, some (.iload_n b), some .i2l, some .lmul, some (.iload c), some .i2l, some .ldiv, some .l2i => (match ab_lk t.1 a with
    | some (.inl I) => bif (Nat.ble (a + 1) 1000 && (Nat.ble (b + 1) 1000 && Nat.ble (c + 1) 1000)) && (t.2.2.any (fun g => g == [3, (b : Nat), c]) && decide (0 ≤ I.1)) then some (pc + 11, ab_push t (.inl (0, I.2.1, 1, 0, [])), none) else none
    | _ => none)
  | _, _, _, _, _, _, _, _, _ => none
def ab_retk (i : Instr) (rt : Option FieldType) : Bool := match i, rt with
  | .ireturn, some ty => !decide (ty = .long)
  | .lreturn, some .long => true
  | .return_, none => true
  | _, _ => false
/-- the arguments that the answer speaks of: they stay -/
def ab_pro (res : Option ab_V) : List Nat := match res with
  | some (.inl R) => (match R.2.2.2.2 with
    | [4, _, _, _, 1, j] => [j]
    | [5, o, i] => [o, i]
    | _ => [])
  | _ => []
def ab_prot (res : Option ab_V) (e : ab_E) : Bool := match e with
  | some (k, _) => !(ab_pro res).any (fun j => Nat.beq j k)
  | none => true
def ab_proA (A : List ab_V) (res : Option ab_V) : Bool := (ab_pro res).all (fun j => Nat.ble (j + 1) 1000 && (match A[j]? with
  | some (.inl _) => true
  | _ => false))
def ab_nodeok (rt : Option FieldType) (res : Option ab_V) (ins : Nat → Option Instr) (nd : Nat → Option ab_N) (n : ab_N) : Bool := ab_kok sc n.2.1.1 n.2.2.1.2 && ((n.2.1.1.all (fun q => match q.2 with | .inr none => false | _ => true) && decide (0 ≤ n.2.2.1.1)) && (match ins n.1 with
  | some i => bif mm_isRet i then ab_retk i rt && ab_ans rt res n.2.1 else (match ab_mac ins n.1 n.2.1 with
    | some x => ab_to nd 8 n x
    | none => (match ab_step sh sc gf pf qv qs ac kc gs ro nL i n.1 n.2.1 with
      | some l => l.all (fun x => ab_prot res x.2.2 && ab_to nd 0 n x)
      | none => false))
  | none => false))
end ABK
def ab_nd (C : List (List ab_N)) (e : Nat) : Option ab_N := match C[e / 32]? with
  | some ch => ch[e % 32]?
  | none => none
def ab_ro (k : Nat) : Option (Nat × Nat × Int × Int) := bif Nat.beq k 2000 then some (0, 7, -1, 5) else bif Nat.beq k 2001 then some (0, 7, 1, 1000000) else none
def ab_qv (L : List (Nat × Nat × Nat × List ab_Q)) (ix : Nat) : Option (Nat × Nat × List ab_Q) := (L.find? (fun q => Nat.beq q.1 ix)).map (·.2)
def ab_qs (L : List (Nat × Nat × List ab_Q)) (ix : Nat) : Option (Nat × List ab_Q) := (L.find? (fun q => Nat.beq q.1 ix)).map (·.2)
def ab_argL : Nat → List ab_V → List (Nat × ab_V)
  | _, [] => []
  | i, a :: t => (i, a) :: ab_argL (i + 1) t
/-- a certificate: its first node stands at 0 with the arguments, all its nodes are well -/
def ab_all (sh sc : List ab_S) (gf : Nat → Option (Nat × Nat)) (pf : Nat → Option (Nat × Nat × FieldType)) (qv : Nat → Option (Nat × Nat × List ab_Q)) (qs : Nat → Option (Nat × List ab_Q)) (ac : Nat → Bool) (kc gs : Nat → Option Value) (ro : Nat → Option (Nat × Nat × Int × Int)) (nL : Nat) (rt : Option FieldType) (res : Option ab_V) (ins : Nat → Option Instr) (A : List ab_V) (F : List (List Nat)) (C : List (List ab_N)) : Bool :=
  ((Nat.ble A.length nL && (Nat.ble A.length 1000 && ab_proA A res)) && (A.all (fun a => match a with | .inr none => false | .inl I => I.2.2.2.2.isEmpty | _ => true) && (match ab_nd C 0 with
    | some n => Nat.beq n.1 0 && (ab_le (ab_argL 0 A, [], F) n.2.1 && (n.2.2.1.2.isEmpty && decide (n.2.2.1.1 < 100000000000)))
    | none => false))) && C.all (fun ch => ch.all (ab_nodeok sh sc gf pf qv qs ac kc gs ro nL rt res ins (ab_nd C)))
