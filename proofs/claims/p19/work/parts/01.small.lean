/-! ===== THE SMALL MACHINE: bytecode over a world of cells in a list, references are places in it; a step, a run ===== -/
def mm_v (ad : Nat → Nat) (v : Value) : Value := match v with
  | .ref k => .ref (ad k)
  | v => v
def mm_a (ad : Nat → Nat) (x : vp_A) : vp_A := match x with
  | (n, .inr (.inr (.inr (.inr f)))) => (n, .inr (.inr (.inr (.inr (fun j => (f j).map ad)))))
  | x => x
def mm_e (ad : Nat → Nat) (cy : Nat → ClassId) (e : va_E) : va_E := match e with
  | .inl x => .inl (cy x.1, mm_a ad x.2)
  | .inr x => .inr (x.1, x.2.map (mm_v ad))
def mm_w (ad : Nat → Nat) (cy : Nat → ClassId) : Nat → List va_E → va_W
  | _, [] => []
  | k, e :: t => (ad k, mm_e ad cy e) :: mm_w ad cy (k + 1) t
/-- a method's meaning: arguments and world to answer and world -/
abbrev mm_F : Type := List Value → List va_E → Option (Option Value × List va_E)
abbrev mm_C : Type := Nat × List (Nat × Value) × List Value × List va_E
abbrev mm_R : Type := Option Value × List va_E
/-- the types of arrays by their tags -/
def mm_ty (t : Nat) : FieldType := match t with
  | 0 => .int
  | 1 => .byte
  | 2 => .boolean
  | _ => .object "SuretyRoll$Ledger"
def mm_tys (cy : Nat → ClassId) : List (ClassId × FieldType) := [(cy 0, mm_ty 0), (cy 1, mm_ty 1), (cy 2, mm_ty 2), (cy 3, mm_ty 3)]
def mm_len (i : Instr) : Nat := match i with
  | .bipush _ | .iload _ | .lload _ | .aload _ | .istore _ | .lstore _ | .astore _ | .ldc _ | .newarray _ => 2
  | .sipush _ | .ldc_w _ | .ldc2_w _ | .iinc _ _ | .goto _ | .ifCond _ _ | .if_icmp _ _ | .getfield _ | .putfield _ | .getstatic _ | .invokevirtual _ | .invokestatic _ | .invokespecial _ | .new _ | .anewarray _ => 3
  | .tableswitch _ _ _ _ | .lookupswitch _ _ => 0
  | _ => 1
def mm_get (lv : List (Nat × Value)) (i : Nat) : Option Value := (lv.find? (fun q => q.1 == i)).map (·.2)
def mm_set1 (lv : List (Nat × Value)) (i : Nat) (v : Value) : List (Nat × Value) := (i, v) :: lv.filter (fun q => !(q.1 == i) && !(q.1 + 1 == i && q.2.category == 2))
def mm_set2 (lv : List (Nat × Value)) (i : Nat) (v : Value) : List (Nat × Value) := (i, v) :: lv.filter (fun q => !(q.1 == i) && (!(q.1 == i + 1) && !(q.1 + 1 == i && q.2.category == 2)))
def mm_inB (i : Int32) (n : Nat) : Bool := !(decide (i < 0) || Nat.ble n i.toNatClampNeg)
/-- the next place, where it isn't below 0 -/
def mm_jmp (pc : Nat) (off : Int) : Option Nat := match (pc : Int) + off with
  | .ofNat n => some n
  | .negSucc _ => none
def mm_cnd (c : ClassFile.Cond) (x y : Int32) : Bool := match c with
  | .eq => decide (x = y)
  | .ne => decide (¬ x = y)
  | .lt => decide (x < y)
  | .ge => decide (y ≤ x)
  | .gt => decide (y < x)
  | .le => decide (x ≤ y)
/-- is the first of the arguments an object of the wanted sort (none: a static method) -/
def mm_rc (rc : Option Nat) (vs : List Value) (mw : List va_E) : Bool := match rc with
  | none => true
  | some ci => match vs with
    | .ref k :: _ => (match mw[k]? with
      | some (.inr x) => x.1 == ci
      | some (.inl _) => false
      | none => ci == 99 && (Nat.ble 1000 k && Nat.ble (k + 1) 1006))
    | _ => false
def mm_push (pc : Nat) (lv : List (Nat × Value)) (v : Value) (st : List Value) (mw : List va_E) : Option (mm_C ⊕ mm_R) := some (.inl (pc, lv, v :: st, mw))
def mm_i1 (f : Int32 → Value) (pc : Nat) (lv : List (Nat × Value)) (st : List Value) (mw : List va_E) : Option (mm_C ⊕ mm_R) := match st with
  | .int x :: r => some (.inl (pc, lv, f x :: r, mw))
  | _ => none
def mm_l1 (f : Int64 → Value) (pc : Nat) (lv : List (Nat × Value)) (st : List Value) (mw : List va_E) : Option (mm_C ⊕ mm_R) := match st with
  | .long x :: r => some (.inl (pc, lv, f x :: r, mw))
  | _ => none
def mm_i2 (ok : Int32 → Bool) (f : Int32 → Int32 → Int32) (pc : Nat) (lv : List (Nat × Value)) (st : List Value) (mw : List va_E) : Option (mm_C ⊕ mm_R) := match st with
  | .int y :: .int x :: r => bif ok y then some (.inl (pc, lv, .int (f x y) :: r, mw)) else none
  | _ => none
def mm_l2 (ok : Int64 → Bool) (f : Int64 → Int64 → Value) (pc : Nat) (lv : List (Nat × Value)) (st : List Value) (mw : List va_E) : Option (mm_C ⊕ mm_R) := match st with
  | .long y :: .long x :: r => bif ok y then some (.inl (pc, lv, f x y :: r, mw)) else none
  | _ => none
def mm_ls (f : Int64 → Int32 → Int64) (pc : Nat) (lv : List (Nat × Value)) (st : List Value) (mw : List va_E) : Option (mm_C ⊕ mm_R) := match st with
  | .int y :: .long x :: r => some (.inl (pc, lv, .long (f x y) :: r, mw))
  | _ => none
def mm_load (k : Nat) (i : Nat) (pc : Nat) (lv : List (Nat × Value)) (st : List Value) (mw : List va_E) : Option (mm_C ⊕ mm_R) := match k, mm_get lv i with
  | 0, some (.int x) => some (.inl (pc, lv, .int x :: st, mw))
  | 1, some (.long x) => some (.inl (pc, lv, .long x :: st, mw))
  | 2, some (.ref x) => some (.inl (pc, lv, .ref x :: st, mw))
  | _, _ => none
def mm_store (nL k : Nat) (i : Nat) (pc : Nat) (lv : List (Nat × Value)) (st : List Value) (mw : List va_E) : Option (mm_C ⊕ mm_R) := match k, st with
  | 0, .int x :: r => bif Nat.ble (i + 1) nL then some (.inl (pc, mm_set1 lv i (.int x), r, mw)) else none
  | 1, .long x :: r => bif Nat.ble (i + 2) nL then some (.inl (pc, mm_set2 lv i (.long x), r, mw)) else none
  | 2, .ref x :: r => bif Nat.ble (i + 1) nL then some (.inl (pc, mm_set1 lv i (.ref x), r, mw)) else none
  | _, _ => none
def mm_iinc (nL i : Nat) (n : Int) (pc : Nat) (lv : List (Nat × Value)) (st : List Value) (mw : List va_E) : Option (mm_C ⊕ mm_R) := match mm_get lv i with
  | some (.int x) => bif Nat.ble (i + 1) nL then some (.inl (pc, mm_set1 lv i (.int (x + Int32.ofInt n)), st, mw)) else none
  | _ => none
def mm_dup (pc : Nat) (lv : List (Nat × Value)) (st : List Value) (mw : List va_E) : Option (mm_C ⊕ mm_R) := match st with
  | v :: r => bif v.category == 1 then some (.inl (pc, lv, v :: v :: r, mw)) else none
  | _ => none
def mm_dup2 (pc : Nat) (lv : List (Nat × Value)) (st : List Value) (mw : List va_E) : Option (mm_C ⊕ mm_R) := match st with
  | v :: u :: r => bif v.category == 1 && u.category == 1 then some (.inl (pc, lv, v :: u :: v :: u :: r, mw)) else none
  | _ => none
def mm_pop (k : Nat) (pc : Nat) (lv : List (Nat × Value)) (st : List Value) (mw : List va_E) : Option (mm_C ⊕ mm_R) := match st with
  | v :: r => bif v.category == k then some (.inl (pc, lv, r, mw)) else none
  | _ => none
def mm_goto (t : Option Nat) (lv : List (Nat × Value)) (st : List Value) (mw : List va_E) : Option (mm_C ⊕ mm_R) := match t with
  | some q => some (.inl (q, lv, st, mw))
  | none => none
def mm_if (c : ClassFile.Cond) (off : Int) (pc : Nat) (lv : List (Nat × Value)) (st : List Value) (mw : List va_E) : Option (mm_C ⊕ mm_R) := match st with
  | .int x :: r => match mm_jmp pc off with
    | some q => some (.inl (bif mm_cnd c x 0 then q else pc + 3, lv, r, mw))
    | none => none
  | _ => none
def mm_icmp (c : ClassFile.Cond) (off : Int) (pc : Nat) (lv : List (Nat × Value)) (st : List Value) (mw : List va_E) : Option (mm_C ⊕ mm_R) := match st with
  | .int y :: .int x :: r => match mm_jmp pc off with
    | some q => some (.inl (bif mm_cnd c x y then q else pc + 3, lv, r, mw))
    | none => none
  | _ => none
/-- where a tableswitch goes on -/
def mm_tsw (d lo hi : Int) (offs : Array Int) (x : Int) : Option Int := bif decide (x < lo) || decide (hi < x) then some d else offs.toList[(x - lo).toNat]?
def mm_sw (off : Int32 → Option Int) (pc : Nat) (lv : List (Nat × Value)) (st : List Value) (mw : List va_E) : Option (mm_C ⊕ mm_R) := match st with
  | .int x :: r => match off x with
    | some o => mm_goto (mm_jmp pc o) lv r mw
    | none => none
  | _ => none
/-- rf: the fields of objects that stand outside the world and stay -/
def mm_getf (q : Option (Nat × Nat)) (rf : Nat → Option Value) (pc : Nat) (lv : List (Nat × Value)) (st : List Value) (mw : List va_E) : Option (mm_C ⊕ mm_R) := match st with
  | .ref a :: r => match mw[a]? with
    | some (.inr x) => match q with
      | some (ci, k) => bif x.1 == ci then (match x.2[k]? with
        | some v => some (.inl (pc, lv, v :: r, mw))
        | none => none) else none
      | none => none
    | some (.inl _) => none
    | none => match rf a with
      | some v => some (.inl (pc, lv, v :: r, mw))
      | none => none
  | _ => none
def mm_putf (q : Option (Nat × Nat × FieldType)) (pc : Nat) (lv : List (Nat × Value)) (st : List Value) (mw : List va_E) : Option (mm_C ⊕ mm_R) := match q, st with
  | some (ci, k, ty), v :: .ref a :: r => match mw[a]? with
    | some (.inr x) => bif x.1 == ci && (decide (narrow ty v = v) && (fits ty v && Nat.ble (k + 1) x.2.length)) then some (.inl (pc, lv, r, mw.set a (.inr (x.1, x.2.set k v)))) else none
    | _ => none
  | _, _ => none
def mm_const (q : Option Value) (pc : Nat) (lv : List (Nat × Value)) (st : List Value) (mw : List va_E) : Option (mm_C ⊕ mm_R) := match q with
  | some v => some (.inl (pc, lv, v :: st, mw))
  | none => none
/-- an int out of an array of the world (t: its tag), or of one that stands outside it and stays (ro) -/
def mm_iald (ro : Nat → Option (Nat × Nat × (Nat → Int32))) (pc : Nat) (lv : List (Nat × Value)) (st : List Value) (mw : List va_E) : Option (mm_C ⊕ mm_R) := match st with
  | .int i :: .ref a :: r => match mw[a]? with
    | some (.inl x) => match x.2.2 with
      | .inl f => bif x.1 == 0 && mm_inB i x.2.1 then some (.inl (pc, lv, .int (f i.toNatClampNeg) :: r, mw)) else none
      | _ => none
    | some (.inr _) => none
    | none => match ro a with
      | some (t, n, f) => bif t == 0 && mm_inB i n then some (.inl (pc, lv, .int (f i.toNatClampNeg) :: r, mw)) else none
      | none => none
  | _ => none
def mm_bald (ro : Nat → Option (Nat × Nat × (Nat → Int32))) (pc : Nat) (lv : List (Nat × Value)) (st : List Value) (mw : List va_E) : Option (mm_C ⊕ mm_R) := match st with
  | .int i :: .ref a :: r => match mw[a]? with
    | some (.inl x) => match x.2.2 with
      | .inl f => bif (x.1 == 1 || x.1 == 2) && mm_inB i x.2.1 then some (.inl (pc, lv, .int (f i.toNatClampNeg) :: r, mw)) else none
      | _ => none
    | some (.inr _) => none
    | none => match ro a with
      | some (t, n, f) => bif t == 1 && mm_inB i n then some (.inl (pc, lv, .int (f i.toNatClampNeg) :: r, mw)) else none
      | none => none
  | _ => none
def mm_aald (pc : Nat) (lv : List (Nat × Value)) (st : List Value) (mw : List va_E) : Option (mm_C ⊕ mm_R) := match st with
  | .int i :: .ref a :: r => match mw[a]? with
    | some (.inl x) => match x.2.2 with
      | .inr (.inr (.inr (.inr f))) => bif x.1 == 3 && mm_inB i x.2.1 then some (.inl (pc, lv, va_rf (f i.toNatClampNeg) :: r, mw)) else none
      | _ => none
    | _ => none
  | _ => none
def mm_iast (pc : Nat) (lv : List (Nat × Value)) (st : List Value) (mw : List va_E) : Option (mm_C ⊕ mm_R) := match st with
  | .int v :: .int i :: .ref a :: r => match mw[a]? with
    | some (.inl x) => match x.2.2 with
      | .inl f => bif x.1 == 0 && mm_inB i x.2.1 then some (.inl (pc, lv, r, mw.set a (.inl (x.1, x.2.1, .inl (upd f i.toNatClampNeg v))))) else none
      | _ => none
    | _ => none
  | _ => none
def mm_bast (pc : Nat) (lv : List (Nat × Value)) (st : List Value) (mw : List va_E) : Option (mm_C ⊕ mm_R) := match st with
  | .int v :: .int i :: .ref a :: r => match mw[a]? with
    | some (.inl x) => match x.2.2 with
      | .inl f => bif (x.1 == 1 || x.1 == 2) && mm_inB i x.2.1 then some (.inl (pc, lv, r, mw.set a (.inl (x.1, x.2.1, .inl (upd f i.toNatClampNeg (vp_nar (mm_ty x.1) v)))))) else none
      | _ => none
    | _ => none
  | _ => none
def mm_alen (ro : Nat → Option (Nat × Nat × (Nat → Int32))) (pc : Nat) (lv : List (Nat × Value)) (st : List Value) (mw : List va_E) : Option (mm_C ⊕ mm_R) := match st with
  | .ref a :: r => match mw[a]? with
    | some (.inl x) => bif Nat.ble x.1 3 then some (.inl (pc, lv, .int (Int32.ofNat x.2.1) :: r, mw)) else none
    | some (.inr _) => none
    | none => match ro a with
      | some (_, n, _) => some (.inl (pc, lv, .int (Int32.ofNat n) :: r, mw))
      | none => none
  | _ => none
def mm_call (q : Option (Nat × Option Nat × mm_F)) (pc : Nat) (lv : List (Nat × Value)) (st : List Value) (mw : List va_E) : Option (mm_C ⊕ mm_R) := match q with
  | some (n, rc, f) => bif Nat.ble n st.length && (mm_rc rc (st.take n).reverse mw && Nat.ble ((st.drop n).map fun v => v.category).sum 8) then
      (match f (st.take n).reverse mw with
      | some (r, mw') => some (.inl (pc, lv, r.toList ++ st.drop n, mw'))
      | none => none) else none
  | none => none
def mm_ret (rt : Option FieldType) (k : Nat) (st : List Value) (mw : List va_E) : Option (mm_C ⊕ mm_R) := match k, rt, st with
  | 0, some ty, [.int x] => bif decide (narrow ty (.int x) = .int x) then some (.inr (some (.int x), mw)) else none
  | 1, some .long, [.long x] => some (.inr (some (.long x), mw))
  | 2, none, [] => some (.inr (none, mw))
  | _, _, _ => none
def mm_isRet (i : Instr) : Bool := match i with
  | .ireturn | .lreturn | .return_ => true
  | _ => false
section MMX
variable (gf : Nat → Option (Nat × Nat)) (pf : Nat → Option (Nat × Nat × FieldType)) (mv ms : Nat → Option (Nat × Option Nat × mm_F)) (kc : Nat → Option Value) (gs : Nat → Option Value) (rf : Nat → Nat → Option Value) (ro : Nat → Option (Nat × Nat × (Nat → Int32))) (rt : Option FieldType) (nL : Nat)
def mm_ex (i : Instr) (pc : Nat) (lv : List (Nat × Value)) (st : List Value) (mw : List va_E) : Option (mm_C ⊕ mm_R) := match i with
  | .iconst n => mm_push (pc + 1) lv (.int (Int32.ofInt n)) st mw
  | .bipush n => mm_push (pc + 2) lv (.int (Int8.ofInt n).toInt32) st mw
  | .sipush n => mm_push (pc + 3) lv (.int (Int16.ofInt n).toInt32) st mw
  | .lconst n => mm_push (pc + 1) lv (.long (Int64.ofNat (n : Nat))) st mw
  | .ldc n => mm_const (kc (3 * n)) (pc + 2) lv st mw
  | .ldc_w n => mm_const (kc (3 * n + 1)) (pc + 3) lv st mw
  | .ldc2_w n => mm_const (kc (3 * n + 2)) (pc + 3) lv st mw
  | .iload_n n => mm_load 0 n (pc + 1) lv st mw
  | .iload n => mm_load 0 n (pc + 2) lv st mw
  | .lload_n n => mm_load 1 n (pc + 1) lv st mw
  | .lload n => mm_load 1 n (pc + 2) lv st mw
  | .aload_n n => mm_load 2 n (pc + 1) lv st mw
  | .aload n => mm_load 2 n (pc + 2) lv st mw
  | .istore_n n => mm_store nL 0 n (pc + 1) lv st mw
  | .istore n => mm_store nL 0 n (pc + 2) lv st mw
  | .lstore_n n => mm_store nL 1 n (pc + 1) lv st mw
  | .lstore n => mm_store nL 1 n (pc + 2) lv st mw
  | .astore_n n => mm_store nL 2 n (pc + 1) lv st mw
  | .astore n => mm_store nL 2 n (pc + 2) lv st mw
  | .iinc n k => mm_iinc nL n k (pc + 3) lv st mw
  | .dup => mm_dup (pc + 1) lv st mw
  | .dup2 => mm_dup2 (pc + 1) lv st mw
  | .pop => mm_pop 1 (pc + 1) lv st mw
  | .pop2 => mm_pop 2 (pc + 1) lv st mw
  | .iadd => mm_i2 (fun _ => true) (fun x y => x + y) (pc + 1) lv st mw
  | .isub => mm_i2 (fun _ => true) (fun x y => x - y) (pc + 1) lv st mw
  | .imul => mm_i2 (fun _ => true) (fun x y => x * y) (pc + 1) lv st mw
  | .idiv => mm_i2 (fun y => !decide (y = 0)) (fun x y => x / y) (pc + 1) lv st mw
  | .irem => mm_i2 (fun y => !decide (y = 0)) (fun x y => x - x / y * y) (pc + 1) lv st mw
  | .iand => mm_i2 (fun _ => true) (fun x y => x &&& y) (pc + 1) lv st mw
  | .ior => mm_i2 (fun _ => true) (fun x y => x ||| y) (pc + 1) lv st mw
  | .ixor => mm_i2 (fun _ => true) (fun x y => x ^^^ y) (pc + 1) lv st mw
  | .ishl => mm_i2 (fun _ => true) (fun x y => x <<< (y &&& 31)) (pc + 1) lv st mw
  | .ishr => mm_i2 (fun _ => true) (fun x y => x >>> (y &&& 31)) (pc + 1) lv st mw
  | .iushr => mm_i2 (fun _ => true) (fun x y => (x.toUInt32 >>> (y.toUInt32 &&& Int32.toUInt32 31)).toInt32) (pc + 1) lv st mw
  | .i2l => mm_i1 (fun x => .long x.toInt64) (pc + 1) lv st mw
  | .i2b => mm_i1 (fun x => .int x.toInt8.toInt32) (pc + 1) lv st mw
  | .i2c => mm_i1 (fun x => .int (x.toUInt32 % 65536).toInt32) (pc + 1) lv st mw
  | .l2i => mm_l1 (fun x => .int x.toInt32) (pc + 1) lv st mw
  | .ladd => mm_l2 (fun _ => true) (fun x y => .long (x + y)) (pc + 1) lv st mw
  | .lmul => mm_l2 (fun _ => true) (fun x y => .long (x * y)) (pc + 1) lv st mw
  | .ldiv => mm_l2 (fun y => !decide (y = 0)) (fun x y => .long (x / y)) (pc + 1) lv st mw
  | .land => mm_l2 (fun _ => true) (fun x y => .long (x &&& y)) (pc + 1) lv st mw
  | .lor => mm_l2 (fun _ => true) (fun x y => .long (x ||| y)) (pc + 1) lv st mw
  | .lcmp => mm_l2 (fun _ => true) (fun x y => .int (lg_cmp x y)) (pc + 1) lv st mw
  | .lshl => mm_ls (fun x y => x <<< (y.toInt64 &&& 63)) (pc + 1) lv st mw
  | .lshr => mm_ls (fun x y => x >>> (y.toInt64 &&& 63)) (pc + 1) lv st mw
  | .goto o => mm_goto (mm_jmp pc o) lv st mw
  | .ifCond c o => mm_if c o pc lv st mw
  | .if_icmp c o => mm_icmp c o pc lv st mw
  | .tableswitch d lo hi offs => mm_sw (fun x => mm_tsw d lo hi offs x.toInt) pc lv st mw
  | .lookupswitch d ps => bif (ps.toList.zip (ps.toList.drop 1)).all (fun (a, next) => a.1 < next.1) then mm_sw (fun x => some (Op.lookupswitch.offset ps.toList d x.toInt)) pc lv st mw else none
  | .getfield n => mm_getf (gf n) (fun a => rf a n) (pc + 3) lv st mw
  | .putfield n => mm_putf (pf n) (pc + 3) lv st mw
  | .getstatic n => mm_const (gs n) (pc + 3) lv st mw
  | .iaload => mm_iald ro (pc + 1) lv st mw
  | .baload => mm_bald ro (pc + 1) lv st mw
  | .aaload => mm_aald (pc + 1) lv st mw
  | .iastore => mm_iast (pc + 1) lv st mw
  | .bastore => mm_bast (pc + 1) lv st mw
  | .arraylength => mm_alen ro (pc + 1) lv st mw
  | .invokevirtual n => mm_call (mv n) (pc + 3) lv st mw
  | .invokestatic n => mm_call (ms n) (pc + 3) lv st mw
  | .ireturn => mm_ret rt 0 st mw
  | .lreturn => mm_ret rt 1 st mw
  | .return_ => mm_ret rt 2 st mw
  | _ => none
variable (ins : Nat → Option Instr)
def mm_run : Nat → mm_C → Option mm_R
  | 0, _ => none
  | n + 1, (pc, lv, st, mw) => match ins pc with
    | none => none
    | some i => match mm_ex gf pf mv ms kc gs rf ro rt nL i pc lv st mw with
      | none => none
      | some (.inl x) => mm_run n x
      | some (.inr r) => bif mm_isRet i then some r else none
end MMX
/-! the picture of the small world in the heap -/
theorem mm_v_cat (ad : Nat → Nat) (v : Value) : (mm_v ad v).category = v.category := by cases v <;> rfl
theorem mm_w_get (ad : Nat → Nat) (cy : Nat → ClassId) : ∀ (mw : List va_E) (j k : Nat), (mm_w ad cy j mw)[k]? = (mw[k]?).map (fun e => (ad (j + k), mm_e ad cy e))
  | [], j, k => by simp [mm_w]
  | e :: t, j, 0 => by simp [mm_w]
  | e :: t, j, k + 1 => by
    show (mm_w ad cy (j + 1) t)[k]? = (t[k]?).map _
    rw [mm_w_get ad cy t (j + 1) k, show j + 1 + k = j + (k + 1) by omega]
theorem mm_w_set (ad : Nat → Nat) (cy : Nat → ClassId) : ∀ (mw : List va_E) (j k : Nat) (e : va_E), (mm_w ad cy j mw).set k (ad (j + k), mm_e ad cy e) = mm_w ad cy j (mw.set k e)
  | [], j, k, e => by simp [mm_w]
  | x :: t, j, 0, e => by simp [mm_w]
  | x :: t, j, k + 1, e => by
    show (ad j, mm_e ad cy x) :: (mm_w ad cy (j + 1) t).set k (ad (j + (k + 1)), mm_e ad cy e) = (ad j, mm_e ad cy x) :: mm_w ad cy (j + 1) (t.set k e)
    rw [← mm_w_set ad cy t (j + 1) k e, show j + 1 + k = j + (k + 1) by omega]
theorem mm_w_at {ad : Nat → Nat} {cy : Nat → ClassId} {mw : List va_E} {k : Nat} {e : va_E} (h : mw[k]? = some e) : (mm_w ad cy 0 mw)[k]? = some (ad k, mm_e ad cy e) := by rw [mm_w_get, h]; simp
theorem mm_w_put {ad : Nat → Nat} {cy : Nat → ClassId} {mw : List va_E} {k : Nat} {e : va_E} : (mm_w ad cy 0 mw).set k (ad k, mm_e ad cy e) = mm_w ad cy 0 (mw.set k e) := by
  have h := mm_w_set ad cy mw 0 k e
  rwa [Nat.zero_add] at h
def mm_q (ad : Nat → Nat) (q : Nat × Value) : Nat × Value := (q.1, mm_v ad q.2)
theorem mm_get_at {lv : List (Nat × Value)} {i : Nat} {v : Value} (h : mm_get lv i = some v) : (i, v) ∈ lv := by
  unfold mm_get at h
  cases hf : lv.find? (fun q => q.1 == i) with
  | none => rw [hf] at h; cases h
  | some q =>
    rw [hf] at h
    have e1 : q.2 = v := Option.some.inj h
    have e2 := List.find?_some hf
    have e3 := List.mem_of_find?_eq_some hf
    have e4 : q.1 = i := by simpa using e2
    rw [← e1, ← e4]
    exact e3
theorem mm_get_ls {ad : Nat → Nat} {ls : Array Slot} {nL : Nat} {lv : List (Nat × Value)} {i : Nat} {v : Value} (hl : lv_has ls nL (lv.map (mm_q ad))) (h : mm_get lv i = some v) : ls[i]? = some (.val (mm_v ad v)) := hl.2.2 (i, mm_v ad v) (List.mem_map.mpr ⟨(i, v), mm_get_at h, rfl⟩)
theorem mm_set1_q (ad : Nat → Nat) (lv : List (Nat × Value)) (i : Nat) (v : Value) : (mm_set1 lv i v).map (mm_q ad) = (i, mm_v ad v) :: (lv.map (mm_q ad)).filter (fun q => !(q.1 == i) && !(q.1 + 1 == i && q.2.category == 2)) := by
  unfold mm_set1
  rw [List.map_cons, List.filter_map]
  refine congrArg (fun t => (i, mm_v ad v) :: t.map (mm_q ad)) (List.filter_congr (fun q _ => ?_))
  simp [mm_q, mm_v_cat]
theorem mm_set2_q (ad : Nat → Nat) (lv : List (Nat × Value)) (i : Nat) (v : Value) : (mm_set2 lv i v).map (mm_q ad) = (i, mm_v ad v) :: (lv.map (mm_q ad)).filter (fun q => !(q.1 == i) && (!(q.1 == i + 1) && !(q.1 + 1 == i && q.2.category == 2))) := by
  unfold mm_set2
  rw [List.map_cons, List.filter_map]
  refine congrArg (fun t => (i, mm_v ad v) :: t.map (mm_q ad)) (List.filter_congr (fun q _ => ?_))
  simp [mm_q, mm_v_cat]
theorem mm_inB_in {i : Int32} {n : Nat} (h : mm_inB i n = true) : vp_in i n := by
  unfold mm_inB at h
  intro q
  rcases q with q | q
  · simp [q] at h
  · have : Nat.ble n i.toNatClampNeg = true := Nat.ble_eq.mpr q
    simp [this] at h
theorem mm_jmp_to {pc : Nat} {off : Int} {q : Nat} (h : mm_jmp pc off = some q) : (pc : Int) + off = (q : Int) := by
  unfold mm_jmp at h
  split at h
  · rename_i n e
    cases h
    exact e
  · cases h
theorem mm_bif {b : Bool} {α : Type} {x y : α} (h : (bif b then some x else none) = some y) : b = true ∧ x = y := by
  cases b with
  | true => exact ⟨rfl, Option.some.inj h⟩
  | false => cases h
