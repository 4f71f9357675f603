/-! ===== a checker of certificates: abstract states of the small machine ===== -/
/-- least, greatest, modulus, residue, where the number comes from -/
abbrev ab_I : Type := Int × Int × Nat × Nat × List Nat
/-- a number; a place; a long -/
abbrev ab_V : Type := ab_I ⊕ Option Nat
/-- locals (and, from 1000 on, fields of whole numbers), stack, facts -/
abbrev ab_T : Type := List (Nat × ab_V) × List ab_V × List (List Nat)
/-- a row of an array: from, to, whether it stays, what stands there by residues -/
abbrev ab_R : Type := Nat × Nat × Bool × List (Int × Int)
abbrev ab_F : Type := (Bool × Int × Int) ⊕ Option (Option Nat)
abbrev ab_S : Type := (Nat × Nat × List ab_R) ⊕ (Nat × List ab_F) ⊕ List Nat
def ab_rng (lo hi : Int) : Bool := decide (-2147483648 ≤ lo) && decide (hi ≤ 2147483647)
def ab_top : ab_I := (-2147483648, 2147483647, 1, 0, [])
def ab_c (x : Int) : ab_I := (x, x, 1, 0, [])
def ab_fit (I : ab_I) : ab_I := bif ab_rng I.1 I.2.1 then I else ab_top
def ab_isC (I : ab_I) : Bool := decide (I.1 = I.2.1)
def ab_padd (p : List Nat) (c : Int) : List Nat := bif decide (0 ≤ c) then (match p with
  | [1, j] => [2, 1, j, c.toNat]
  | [2, a, j, d] => [2, a, j, d + c.toNat]
  | _ => []) else []
def ab_pmul (p : List Nat) (c : Nat) : List Nat := match p with
  | [1, j] => [2, c, j, 0]
  | [2, a, j, d] => [2, a * c, j, d * c]
  | _ => []
def ab_addc (I : ab_I) (c : Int) : ab_I := ab_fit (I.1 + c, I.2.1 + c, I.2.2.1, (((I.2.2.2.1 : Int) + c) % (I.2.2.1 : Int)).toNat, ab_padd I.2.2.2.2 c)
def ab_add (I J : ab_I) : ab_I := bif ab_isC J then ab_addc I J.1 else bif ab_isC I then ab_addc J I.1 else ab_fit (I.1 + J.1, I.2.1 + J.2.1, 1, 0, [])
def ab_sub (I J : ab_I) : ab_I := bif ab_isC J then ab_fit (I.1 - J.1, I.2.1 - J.1, I.2.2.1, (((I.2.2.2.1 : Int) - J.1) % (I.2.2.1 : Int)).toNat, []) else ab_fit (I.1 - J.2.1, I.2.1 - J.1, 1, 0, [])
def ab_mulc (I : ab_I) (c : Nat) : ab_I := ab_fit (I.1 * c, I.2.1 * c, I.2.2.1 * c, I.2.2.2.1 * c, ab_pmul I.2.2.2.2 c)
def ab_mul (I J : ab_I) : ab_I := bif ab_isC J && decide (1 ≤ J.1) then ab_mulc I J.1.toNat else bif ab_isC I && decide (1 ≤ I.1) then ab_mulc J I.1.toNat else bif decide (0 ≤ I.1) && decide (0 ≤ J.1) then ab_fit (I.1 * J.1, I.2.1 * J.2.1, 1, 0, []) else ab_top
def ab_and (I J : ab_I) : ab_I := bif decide (0 ≤ I.1) then (bif decide (0 ≤ J.1) && decide (J.2.1 ≤ I.2.1) then (0, J.2.1, 1, 0, []) else (0, I.2.1, 1, 0, [])) else bif decide (0 ≤ J.1) then (0, J.2.1, 1, 0, []) else ab_top
def ab_or (I J : ab_I) : ab_I := bif decide (0 ≤ I.1) && decide (0 ≤ J.1) then (bif decide (I.2.1 ≤ 1) && decide (J.2.1 ≤ 1) then (0, 1, 1, 0, []) else bif decide (I.2.1 ≤ 255) && decide (J.2.1 ≤ 255) then (0, 255, 1, 0, []) else bif decide (I.2.1 ≤ 65535) && decide (J.2.1 ≤ 65535) then (0, 65535, 1, 0, []) else ab_top) else ab_top
def ab_shl (I J : ab_I) : ab_I := bif ab_isC I && (decide (I.1 = 1) && (decide (0 ≤ J.1) && decide (J.2.1 ≤ 15))) then (1, 2 ^ J.2.1.toNat, 1, 0, []) else ab_top
def ab_div (I J : ab_I) : Option ab_I := bif decide (1 ≤ J.1) then (bif decide (0 ≤ I.1) then some (0, I.2.1, 1, 0, []) else some ab_top) else bif decide (J.2.1 ≤ -1) then some ab_top else none
def ab_rem (_ J : ab_I) : Option ab_I := bif decide (1 ≤ J.1) || decide (J.2.1 ≤ -1) then some ab_top else none
/-- is the one among the other -/
def ab_leI (I J : ab_I) : Bool := Nat.ble 1 J.2.2.1 && (decide (J.1 ≤ I.1) && (decide (I.2.1 ≤ J.2.1) && ((Nat.beq J.2.2.1 1 && Nat.beq J.2.2.2.1 0 || (Nat.beq (I.2.2.1 % J.2.2.1) 0 && Nat.beq (I.2.2.2.1 % J.2.2.1) J.2.2.2.1 || (ab_isC I && decide (I.1 % (J.2.2.1 : Int) = (J.2.2.2.1 : Int))))) && (J.2.2.2.2.isEmpty || I.2.2.2.2 == J.2.2.2.2))))
def ab_leV (a b : ab_V) : Bool := match a, b with
  | .inl I, .inl J => ab_leI I J
  | .inr (some k), .inr (some q) => Nat.beq k q
  | .inr none, .inr none => true
  | _, _ => false
def ab_leS : List ab_V → List ab_V → Bool
  | [], [] => true
  | a :: s, b :: t => ab_leV a b && ab_leS s t
  | _, _ => false
def ab_lk (L : List (Nat × ab_V)) (j : Nat) : Option ab_V := (L.find? (fun q => Nat.beq q.1 j)).map (·.2)
def ab_leL (L M : List (Nat × ab_V)) : Bool := M.all (fun q => match ab_lk L q.1 with
  | some a => ab_leV a q.2
  | none => false)
def ab_le (t u : ab_T) : Bool := ab_leS t.2.1 u.2.1 && (ab_leL t.1 u.1 && u.2.2.all (fun f => t.2.2.any (fun g => g == f)))
/-- does a provenance speak of a local or a cell that changes -/
def ab_men (bL bC : Nat → Bool) (p : List Nat) : Bool := match p with
  | [1, j] => bL j
  | [2, _, j, _] => bL j
  | [3, k, _, j, _] => bL j || bC k
  | [4, _, _, _, 1, j] => bL j
  | [4, _, _, _, 3, k, _, j, _] => bL j || bC k
  | [5, o, i] => bL o || bL i
  | _ => false
def ab_menF (bL bC : Nat → Bool) (f : List Nat) : Bool := match f with
  | [1, k, _, j, _, _, _] => bL j || bC k
  | [2, o, i] => bL o || bL i
  | [3, o, i] => bL o || bL i
  | _ => false
def ab_clr (bL bC : Nat → Bool) (a : ab_V) : ab_V := match a with
  | .inl I => bif ab_men bL bC I.2.2.2.2 then .inl (I.1, I.2.1, I.2.2.1, I.2.2.2.1, []) else a
  | a => a
/-- what is known behind a change of the locals bL and the cells bC -/
def ab_for (bL bC : Nat → Bool) (t : ab_T) : ab_T := ((t.1.filter (fun q => !bL q.1)).map (fun q => (q.1, ab_clr bL bC q.2)), t.2.1.map (ab_clr bL bC), t.2.2.filter (fun f => !ab_menF bL bC f))
def ab_put (t : ab_T) (j : Nat) (a : ab_V) : ab_T := ((j, a) :: t.1, t.2.1, t.2.2)
section ABS
variable (sh : List ab_S)
def ab_fs (k j : Nat) : Option ab_F := match sh[k]? with
  | some (.inr (.inl x)) => x.2[j]?
  | _ => none
def ab_key (k j : Nat) : Nat := 1000 * (k + 1) + j
/-- a local's (a field's) number lies in lo .. hi -/
def ab_meet (t : ab_T) (j : Nat) (lo hi : Int) : Option ab_T := match ab_lk t.1 j with
  | some (.inl I) => bif decide (max I.1 lo ≤ min I.2.1 hi) then some (ab_put t j (.inl (max I.1 lo, min I.2.1 hi, I.2.2.1, I.2.2.2.1, I.2.2.2.2))) else none
  | some _ => some t
  | none => bif Nat.ble 1000 j then (match ab_fs sh (j / 1000 - 1) (j % 1000) with
    | some (.inl x) => bif decide (max x.2.1 lo ≤ min x.2.2 hi) then some (ab_put t j (.inl (max x.2.1 lo, min x.2.2 hi, 1, 0, []))) else none
    | _ => some t) else some t
def ab_addF (t : ab_T) (f : List Nat) : ab_T := (t.1, t.2.1, f :: t.2.2)
def ab_sent (s : Nat) : Int := bif Nat.beq s 0 then 0 else -1
/-- a number that comes from p lies in lo .. hi, and isn't ne -/
def ab_ref0 (t : ab_T) (p : List Nat) (lo hi : Int) (ne : Option Int) : Option ab_T := match p with
  | [1, j] => ab_meet sh t j lo hi
  | [3, k, a, j, c] => bif decide (0 ≤ lo) then some (ab_addF t [1, k, a, j, c, lo.toNat, hi.toNat]) else some t
  | [4, s, l, h, 1, j] => bif decide (ab_sent s < lo) || (decide (hi < ab_sent s) || ne == some (ab_sent s)) then ab_meet sh t j l h else some t
  | [4, s, l, h, 3, k, a, j, c] => bif decide (ab_sent s < lo) || (decide (hi < ab_sent s) || ne == some (ab_sent s)) then some (ab_addF t [1, k, a, j, c, l, h]) else some t
  | [5, o, i] => bif decide (0 < lo) || (decide (hi < 0) || ne == some 0) then ab_meet sh (ab_addF t [2, o, i]) o 0 1 else some t
  | _ => some t
def ab_two (t : ab_T) (j : Nat) : Option ab_T := t.2.2.foldl (fun u f => match u, f with
  | some w, [2, o, i] => bif Nat.beq o j then (match ab_lk w.1 j with
    | some (.inl I) => bif decide (I.1 = 1) && decide (I.2.1 = 1) then ab_meet sh w i 0 15 else bif decide (I.2.1 ≤ 0) then ab_meet sh w i 0 9 else some w
    | _ => some w) else some w
  | u, _ => u) (some t)
def ab_ref (t : ab_T) (p : List Nat) (lo hi : Int) (ne : Option Int) : Option ab_T := match p with
  | [1, j] => match ab_meet sh t j lo hi with
    | some u => match ab_lk u.1 j with
      | some (.inl I) => (match ab_ref0 sh u (bif I.2.2.2.2.head? == some 1 then [] else I.2.2.2.2) I.1 I.2.1 ne with
        | some w => ab_two sh w j
        | none => none)
      | _ => some u
    | none => none
  | p => ab_ref0 sh t p lo hi ne
end ABS
