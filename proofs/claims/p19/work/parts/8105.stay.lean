theorem st0_2 : ∀ j, j < 400 → ab_stE sh0 2 j = true := fun j hj => st_all (sh := sh0) (k := 2) (b := 399) rfl (Nat.le_of_lt_succ hj)
theorem st0_6 : ∀ j, j < 10 → ab_stE sh0 6 j = true := fun j hj => st_all (sh := sh0) (k := 6) (b := 9) rfl (Nat.le_of_lt_succ hj)
theorem st0_7 : ∀ j, j < 10 → ab_stE sh0 7 j = true := fun j hj => st_all (sh := sh0) (k := 7) (b := 9) rfl (Nat.le_of_lt_succ hj)
theorem st0_8 : ∀ j, j < 10 → ab_stE sh0 8 j = true := fun j hj => st_all (sh := sh0) (k := 8) (b := 9) rfl (Nat.le_of_lt_succ hj)
theorem st0_15 : ∀ j, j < 10 → ab_stE sh0 15 j = true := fun j hj => st_all (sh := sh0) (k := 15) (b := 9) rfl (Nat.le_of_lt_succ hj)
theorem st0_16 : ∀ j, j < 10 → ab_stE sh0 16 j = true := fun j hj => st_all (sh := sh0) (k := 16) (b := 9) rfl (Nat.le_of_lt_succ hj)
theorem st0_17 : ∀ j, j < 10 → ab_stE sh0 17 j = true := fun j hj => st_all (sh := sh0) (k := 17) (b := 9) rfl (Nat.le_of_lt_succ hj)
theorem st0_24 : ∀ j, j < 10 → ab_stE sh0 24 j = true := fun j hj => st_all (sh := sh0) (k := 24) (b := 9) rfl (Nat.le_of_lt_succ hj)
theorem st0_45 : ∀ j, j < 10 → ab_stE sh0 45 j = true := fun j hj => st_all (sh := sh0) (k := 45) (b := 9) rfl (Nat.le_of_lt_succ hj)
theorem st0_51 : ∀ j, j < 10 → ab_stE sh0 51 j = true := fun j hj => st_all (sh := sh0) (k := 51) (b := 9) rfl (Nat.le_of_lt_succ hj)
theorem st0_9 : ∀ j, j < 16 → ab_stE sh0 9 j = true := fun j hj => st_all (sh := sh0) (k := 9) (b := 15) rfl (Nat.le_of_lt_succ hj)
theorem st0_10 : ∀ j, j < 16 → ab_stE sh0 10 j = true := fun j hj => st_all (sh := sh0) (k := 10) (b := 15) rfl (Nat.le_of_lt_succ hj)
theorem st0_11 : ∀ j, j < 16 → ab_stE sh0 11 j = true := fun j hj => st_all (sh := sh0) (k := 11) (b := 15) rfl (Nat.le_of_lt_succ hj)
theorem st0_12 : ∀ j, j < 16 → ab_stE sh0 12 j = true := fun j hj => st_all (sh := sh0) (k := 12) (b := 15) rfl (Nat.le_of_lt_succ hj)
theorem st0_13 : ∀ j, j < 16 → ab_stE sh0 13 j = true := fun j hj => st_all (sh := sh0) (k := 13) (b := 15) rfl (Nat.le_of_lt_succ hj)
theorem st0_18 : ∀ j, j < 16 → ab_stE sh0 18 j = true := fun j hj => st_all (sh := sh0) (k := 18) (b := 15) rfl (Nat.le_of_lt_succ hj)
theorem st0_19 : ∀ j, j < 16 → ab_stE sh0 19 j = true := fun j hj => st_all (sh := sh0) (k := 19) (b := 15) rfl (Nat.le_of_lt_succ hj)
theorem st0_20 : ∀ j, j < 16 → ab_stE sh0 20 j = true := fun j hj => st_all (sh := sh0) (k := 20) (b := 15) rfl (Nat.le_of_lt_succ hj)
theorem st0_21 : ∀ j, j < 16 → ab_stE sh0 21 j = true := fun j hj => st_all (sh := sh0) (k := 21) (b := 15) rfl (Nat.le_of_lt_succ hj)
theorem st0_22 : ∀ j, j < 16 → ab_stE sh0 22 j = true := fun j hj => st_all (sh := sh0) (k := 22) (b := 15) rfl (Nat.le_of_lt_succ hj)
theorem st0_25 : ∀ j, j < 16 → ab_stE sh0 25 j = true := fun j hj => st_all (sh := sh0) (k := 25) (b := 15) rfl (Nat.le_of_lt_succ hj)
theorem st0_26 : ∀ j, j < 16 → ab_stE sh0 26 j = true := fun j hj => st_all (sh := sh0) (k := 26) (b := 15) rfl (Nat.le_of_lt_succ hj)
theorem st0_46 : ∀ j, j < 16 → ab_stE sh0 46 j = true := fun j hj => st_all (sh := sh0) (k := 46) (b := 15) rfl (Nat.le_of_lt_succ hj)
theorem st0_47 : ∀ j, j < 16 → ab_stE sh0 47 j = true := fun j hj => st_all (sh := sh0) (k := 47) (b := 15) rfl (Nat.le_of_lt_succ hj)
theorem st0_52 : ∀ j, j < 16 → ab_stE sh0 52 j = true := fun j hj => st_all (sh := sh0) (k := 52) (b := 15) rfl (Nat.le_of_lt_succ hj)
theorem st0_53 : ∀ j, j < 16 → ab_stE sh0 53 j = true := fun j hj => st_all (sh := sh0) (k := 53) (b := 15) rfl (Nat.le_of_lt_succ hj)
theorem st0_27 : ∀ j, j < 64 → ab_stE sh0 27 j = true := fun j hj => st_all (sh := sh0) (k := 27) (b := 63) rfl (Nat.le_of_lt_succ hj)
theorem st0_48 : ∀ j, j < 64 → ab_stE sh0 48 j = true := fun j hj => st_all (sh := sh0) (k := 48) (b := 63) rfl (Nat.le_of_lt_succ hj)
theorem st0_54 : ∀ j, j < 64 → ab_stE sh0 54 j = true := fun j hj => st_all (sh := sh0) (k := 54) (b := 63) rfl (Nat.le_of_lt_succ hj)
theorem st0_28 : ∀ j, j < 8 → ab_stE sh0 28 j = true := fun j hj => st_all (sh := sh0) (k := 28) (b := 7) rfl (Nat.le_of_lt_succ hj)
theorem st0_49 : ∀ j, j < 8 → ab_stE sh0 49 j = true := fun j hj => st_all (sh := sh0) (k := 49) (b := 7) rfl (Nat.le_of_lt_succ hj)
theorem st0_55 : ∀ j, j < 8 → ab_stE sh0 55 j = true := fun j hj => st_all (sh := sh0) (k := 55) (b := 7) rfl (Nat.le_of_lt_succ hj)
theorem st0_37 : ∀ j, j < 8 → ab_stE sh0 37 j = true := fun j hj => st_all (sh := sh0) (k := 37) (b := 7) rfl (Nat.le_of_lt_succ hj)
theorem st0_57 : ∀ j, j < 131 → ab_stE sh0 57 j = true := by
  intro j hj
  have e : ab_arr sh0 57 = some (0, 131, [(0, 9, true, [(0, 999)]), (10, 121, true, [((-2147483648), 2147483647)]), (122, 129, true, [(0, 9999)]), (130, 130, true, [((-2147483648), 2147483647)])]) := rfl
  unfold ab_stE
  rw [e]
  show (true && (Nat.ble 0 j && Nat.ble j 9) || (true && (Nat.ble 10 j && Nat.ble j 121) || (true && (Nat.ble 122 j && Nat.ble j 129) || (true && (Nat.ble 130 j && Nat.ble j 130) || false)))) = true
  simp only [Bool.or_eq_true, Bool.and_eq_true, Nat.ble_eq, true_and, Bool.false_eq_true, or_false]
  omega
theorem st0_58 : ∀ j, j < 262 → ab_stE sh0 58 j = true := fun j hj => st_all (sh := sh0) (k := 58) (b := 261) rfl (Nat.le_of_lt_succ hj)
theorem st0_59 : ∀ j, j < 2 → ab_stE sh0 59 j = true := fun j hj => st_all (sh := sh0) (k := 59) (b := 1) rfl (Nat.le_of_lt_succ hj)
theorem st0_60 : ∀ j, j < 8 → ab_stE sh0 60 j = true := fun j hj => st_all (sh := sh0) (k := 60) (b := 7) rfl (Nat.le_of_lt_succ hj)
theorem st0_61 : ∀ j, j < 30 → ab_stE sh0 61 j = true := fun j hj => st_all (sh := sh0) (k := 61) (b := 29) rfl (Nat.le_of_lt_succ hj)
theorem st0_62 : ∀ j, j < 80 → ab_stE sh0 62 j = true := fun j hj => st_all (sh := sh0) (k := 62) (b := 79) rfl (Nat.le_of_lt_succ hj)
theorem st0_65 : ∀ j, j < 400 → ab_stE sh0 65 j = true := fun j hj => st_all (sh := sh0) (k := 65) (b := 399) rfl (Nat.le_of_lt_succ hj)
theorem st1_2 : ∀ j, j < 400 → ab_stE sh1 2 j = true := fun j hj => st_all (sh := sh1) (k := 2) (b := 399) rfl (Nat.le_of_lt_succ hj)
theorem st1_6 : ∀ j, j < 10 → ab_stE sh1 6 j = true := fun j hj => st_all (sh := sh1) (k := 6) (b := 9) rfl (Nat.le_of_lt_succ hj)
theorem st1_7 : ∀ j, j < 10 → ab_stE sh1 7 j = true := fun j hj => st_all (sh := sh1) (k := 7) (b := 9) rfl (Nat.le_of_lt_succ hj)
theorem st1_8 : ∀ j, j < 10 → ab_stE sh1 8 j = true := fun j hj => st_all (sh := sh1) (k := 8) (b := 9) rfl (Nat.le_of_lt_succ hj)
theorem st1_15 : ∀ j, j < 10 → ab_stE sh1 15 j = true := fun j hj => st_all (sh := sh1) (k := 15) (b := 9) rfl (Nat.le_of_lt_succ hj)
theorem st1_16 : ∀ j, j < 10 → ab_stE sh1 16 j = true := fun j hj => st_all (sh := sh1) (k := 16) (b := 9) rfl (Nat.le_of_lt_succ hj)
theorem st1_17 : ∀ j, j < 10 → ab_stE sh1 17 j = true := fun j hj => st_all (sh := sh1) (k := 17) (b := 9) rfl (Nat.le_of_lt_succ hj)
theorem st1_24 : ∀ j, j < 10 → ab_stE sh1 24 j = true := fun j hj => st_all (sh := sh1) (k := 24) (b := 9) rfl (Nat.le_of_lt_succ hj)
theorem st1_45 : ∀ j, j < 10 → ab_stE sh1 45 j = true := fun j hj => st_all (sh := sh1) (k := 45) (b := 9) rfl (Nat.le_of_lt_succ hj)
theorem st1_51 : ∀ j, j < 10 → ab_stE sh1 51 j = true := fun j hj => st_all (sh := sh1) (k := 51) (b := 9) rfl (Nat.le_of_lt_succ hj)
theorem st1_9 : ∀ j, j < 16 → ab_stE sh1 9 j = true := fun j hj => st_all (sh := sh1) (k := 9) (b := 15) rfl (Nat.le_of_lt_succ hj)
theorem st1_10 : ∀ j, j < 16 → ab_stE sh1 10 j = true := fun j hj => st_all (sh := sh1) (k := 10) (b := 15) rfl (Nat.le_of_lt_succ hj)
theorem st1_11 : ∀ j, j < 16 → ab_stE sh1 11 j = true := fun j hj => st_all (sh := sh1) (k := 11) (b := 15) rfl (Nat.le_of_lt_succ hj)
theorem st1_12 : ∀ j, j < 16 → ab_stE sh1 12 j = true := fun j hj => st_all (sh := sh1) (k := 12) (b := 15) rfl (Nat.le_of_lt_succ hj)
theorem st1_13 : ∀ j, j < 16 → ab_stE sh1 13 j = true := fun j hj => st_all (sh := sh1) (k := 13) (b := 15) rfl (Nat.le_of_lt_succ hj)
theorem st1_18 : ∀ j, j < 16 → ab_stE sh1 18 j = true := fun j hj => st_all (sh := sh1) (k := 18) (b := 15) rfl (Nat.le_of_lt_succ hj)
theorem st1_19 : ∀ j, j < 16 → ab_stE sh1 19 j = true := fun j hj => st_all (sh := sh1) (k := 19) (b := 15) rfl (Nat.le_of_lt_succ hj)
theorem st1_20 : ∀ j, j < 16 → ab_stE sh1 20 j = true := fun j hj => st_all (sh := sh1) (k := 20) (b := 15) rfl (Nat.le_of_lt_succ hj)
theorem st1_21 : ∀ j, j < 16 → ab_stE sh1 21 j = true := fun j hj => st_all (sh := sh1) (k := 21) (b := 15) rfl (Nat.le_of_lt_succ hj)
theorem st1_22 : ∀ j, j < 16 → ab_stE sh1 22 j = true := fun j hj => st_all (sh := sh1) (k := 22) (b := 15) rfl (Nat.le_of_lt_succ hj)
theorem st1_25 : ∀ j, j < 16 → ab_stE sh1 25 j = true := fun j hj => st_all (sh := sh1) (k := 25) (b := 15) rfl (Nat.le_of_lt_succ hj)
theorem st1_26 : ∀ j, j < 16 → ab_stE sh1 26 j = true := fun j hj => st_all (sh := sh1) (k := 26) (b := 15) rfl (Nat.le_of_lt_succ hj)
theorem st1_46 : ∀ j, j < 16 → ab_stE sh1 46 j = true := fun j hj => st_all (sh := sh1) (k := 46) (b := 15) rfl (Nat.le_of_lt_succ hj)
theorem st1_47 : ∀ j, j < 16 → ab_stE sh1 47 j = true := fun j hj => st_all (sh := sh1) (k := 47) (b := 15) rfl (Nat.le_of_lt_succ hj)
theorem st1_52 : ∀ j, j < 16 → ab_stE sh1 52 j = true := fun j hj => st_all (sh := sh1) (k := 52) (b := 15) rfl (Nat.le_of_lt_succ hj)
theorem st1_53 : ∀ j, j < 16 → ab_stE sh1 53 j = true := fun j hj => st_all (sh := sh1) (k := 53) (b := 15) rfl (Nat.le_of_lt_succ hj)
theorem st1_27 : ∀ j, j < 64 → ab_stE sh1 27 j = true := fun j hj => st_all (sh := sh1) (k := 27) (b := 63) rfl (Nat.le_of_lt_succ hj)
theorem st1_48 : ∀ j, j < 64 → ab_stE sh1 48 j = true := fun j hj => st_all (sh := sh1) (k := 48) (b := 63) rfl (Nat.le_of_lt_succ hj)
theorem st1_54 : ∀ j, j < 64 → ab_stE sh1 54 j = true := fun j hj => st_all (sh := sh1) (k := 54) (b := 63) rfl (Nat.le_of_lt_succ hj)
theorem st1_28 : ∀ j, j < 8 → ab_stE sh1 28 j = true := fun j hj => st_all (sh := sh1) (k := 28) (b := 7) rfl (Nat.le_of_lt_succ hj)
theorem st1_49 : ∀ j, j < 8 → ab_stE sh1 49 j = true := fun j hj => st_all (sh := sh1) (k := 49) (b := 7) rfl (Nat.le_of_lt_succ hj)
theorem st1_55 : ∀ j, j < 8 → ab_stE sh1 55 j = true := fun j hj => st_all (sh := sh1) (k := 55) (b := 7) rfl (Nat.le_of_lt_succ hj)
theorem st1_37 : ∀ j, j < 8 → ab_stE sh1 37 j = true := fun j hj => st_all (sh := sh1) (k := 37) (b := 7) rfl (Nat.le_of_lt_succ hj)
theorem st1_57 : ∀ j, j < 131 → ab_stE sh1 57 j = true := by
  intro j hj
  have e : ab_arr sh1 57 = some (0, 131, [(0, 9, true, [(0, 999)]), (10, 121, true, [((-2147483648), 2147483647)]), (122, 129, true, [(0, 9999)]), (130, 130, true, [((-2147483648), 2147483647)])]) := rfl
  unfold ab_stE
  rw [e]
  show (true && (Nat.ble 0 j && Nat.ble j 9) || (true && (Nat.ble 10 j && Nat.ble j 121) || (true && (Nat.ble 122 j && Nat.ble j 129) || (true && (Nat.ble 130 j && Nat.ble j 130) || false)))) = true
  simp only [Bool.or_eq_true, Bool.and_eq_true, Nat.ble_eq, true_and, Bool.false_eq_true, or_false]
  omega
theorem st1_58 : ∀ j, j < 262 → ab_stE sh1 58 j = true := fun j hj => st_all (sh := sh1) (k := 58) (b := 261) rfl (Nat.le_of_lt_succ hj)
theorem st1_59 : ∀ j, j < 2 → ab_stE sh1 59 j = true := fun j hj => st_all (sh := sh1) (k := 59) (b := 1) rfl (Nat.le_of_lt_succ hj)
theorem st1_60 : ∀ j, j < 8 → ab_stE sh1 60 j = true := fun j hj => st_all (sh := sh1) (k := 60) (b := 7) rfl (Nat.le_of_lt_succ hj)
theorem st1_61 : ∀ j, j < 30 → ab_stE sh1 61 j = true := fun j hj => st_all (sh := sh1) (k := 61) (b := 29) rfl (Nat.le_of_lt_succ hj)
theorem st1_62 : ∀ j, j < 80 → ab_stE sh1 62 j = true := fun j hj => st_all (sh := sh1) (k := 62) (b := 79) rfl (Nat.le_of_lt_succ hj)
theorem st1_65 : ∀ j, j < 400 → ab_stE sh1 65 j = true := fun j hj => st_all (sh := sh1) (k := 65) (b := 399) rfl (Nat.le_of_lt_succ hj)
theorem sta_2 {v : Bool} {m1 m2 : List va_E} {j : Nat} (hf : as_Fr (shf v) m1 m2) (hj : j < 400) : as_elt m2 2 j = as_elt m1 2 j := by
  cases v with
  | false => exact st_E hf (st0_2 j hj)
  | true => exact st_E hf (st1_2 j hj)
theorem sta_6 {v : Bool} {m1 m2 : List va_E} {j : Nat} (hf : as_Fr (shf v) m1 m2) (hj : j < 10) : as_elt m2 6 j = as_elt m1 6 j := by
  cases v with
  | false => exact st_E hf (st0_6 j hj)
  | true => exact st_E hf (st1_6 j hj)
theorem sta_7 {v : Bool} {m1 m2 : List va_E} {j : Nat} (hf : as_Fr (shf v) m1 m2) (hj : j < 10) : as_elt m2 7 j = as_elt m1 7 j := by
  cases v with
  | false => exact st_E hf (st0_7 j hj)
  | true => exact st_E hf (st1_7 j hj)
theorem sta_8 {v : Bool} {m1 m2 : List va_E} {j : Nat} (hf : as_Fr (shf v) m1 m2) (hj : j < 10) : as_elt m2 8 j = as_elt m1 8 j := by
  cases v with
  | false => exact st_E hf (st0_8 j hj)
  | true => exact st_E hf (st1_8 j hj)
theorem sta_15 {v : Bool} {m1 m2 : List va_E} {j : Nat} (hf : as_Fr (shf v) m1 m2) (hj : j < 10) : as_elt m2 15 j = as_elt m1 15 j := by
  cases v with
  | false => exact st_E hf (st0_15 j hj)
  | true => exact st_E hf (st1_15 j hj)
theorem sta_16 {v : Bool} {m1 m2 : List va_E} {j : Nat} (hf : as_Fr (shf v) m1 m2) (hj : j < 10) : as_elt m2 16 j = as_elt m1 16 j := by
  cases v with
  | false => exact st_E hf (st0_16 j hj)
  | true => exact st_E hf (st1_16 j hj)
theorem sta_17 {v : Bool} {m1 m2 : List va_E} {j : Nat} (hf : as_Fr (shf v) m1 m2) (hj : j < 10) : as_elt m2 17 j = as_elt m1 17 j := by
  cases v with
  | false => exact st_E hf (st0_17 j hj)
  | true => exact st_E hf (st1_17 j hj)
theorem sta_24 {v : Bool} {m1 m2 : List va_E} {j : Nat} (hf : as_Fr (shf v) m1 m2) (hj : j < 10) : as_elt m2 24 j = as_elt m1 24 j := by
  cases v with
  | false => exact st_E hf (st0_24 j hj)
  | true => exact st_E hf (st1_24 j hj)
theorem sta_45 {v : Bool} {m1 m2 : List va_E} {j : Nat} (hf : as_Fr (shf v) m1 m2) (hj : j < 10) : as_elt m2 45 j = as_elt m1 45 j := by
  cases v with
  | false => exact st_E hf (st0_45 j hj)
  | true => exact st_E hf (st1_45 j hj)
theorem sta_51 {v : Bool} {m1 m2 : List va_E} {j : Nat} (hf : as_Fr (shf v) m1 m2) (hj : j < 10) : as_elt m2 51 j = as_elt m1 51 j := by
  cases v with
  | false => exact st_E hf (st0_51 j hj)
  | true => exact st_E hf (st1_51 j hj)
theorem sta_9 {v : Bool} {m1 m2 : List va_E} {j : Nat} (hf : as_Fr (shf v) m1 m2) (hj : j < 16) : as_elt m2 9 j = as_elt m1 9 j := by
  cases v with
  | false => exact st_E hf (st0_9 j hj)
  | true => exact st_E hf (st1_9 j hj)
theorem sta_10 {v : Bool} {m1 m2 : List va_E} {j : Nat} (hf : as_Fr (shf v) m1 m2) (hj : j < 16) : as_elt m2 10 j = as_elt m1 10 j := by
  cases v with
  | false => exact st_E hf (st0_10 j hj)
  | true => exact st_E hf (st1_10 j hj)
theorem sta_11 {v : Bool} {m1 m2 : List va_E} {j : Nat} (hf : as_Fr (shf v) m1 m2) (hj : j < 16) : as_elt m2 11 j = as_elt m1 11 j := by
  cases v with
  | false => exact st_E hf (st0_11 j hj)
  | true => exact st_E hf (st1_11 j hj)
theorem sta_12 {v : Bool} {m1 m2 : List va_E} {j : Nat} (hf : as_Fr (shf v) m1 m2) (hj : j < 16) : as_elt m2 12 j = as_elt m1 12 j := by
  cases v with
  | false => exact st_E hf (st0_12 j hj)
  | true => exact st_E hf (st1_12 j hj)
theorem sta_13 {v : Bool} {m1 m2 : List va_E} {j : Nat} (hf : as_Fr (shf v) m1 m2) (hj : j < 16) : as_elt m2 13 j = as_elt m1 13 j := by
  cases v with
  | false => exact st_E hf (st0_13 j hj)
  | true => exact st_E hf (st1_13 j hj)
theorem sta_18 {v : Bool} {m1 m2 : List va_E} {j : Nat} (hf : as_Fr (shf v) m1 m2) (hj : j < 16) : as_elt m2 18 j = as_elt m1 18 j := by
  cases v with
  | false => exact st_E hf (st0_18 j hj)
  | true => exact st_E hf (st1_18 j hj)
theorem sta_19 {v : Bool} {m1 m2 : List va_E} {j : Nat} (hf : as_Fr (shf v) m1 m2) (hj : j < 16) : as_elt m2 19 j = as_elt m1 19 j := by
  cases v with
  | false => exact st_E hf (st0_19 j hj)
  | true => exact st_E hf (st1_19 j hj)
theorem sta_20 {v : Bool} {m1 m2 : List va_E} {j : Nat} (hf : as_Fr (shf v) m1 m2) (hj : j < 16) : as_elt m2 20 j = as_elt m1 20 j := by
  cases v with
  | false => exact st_E hf (st0_20 j hj)
  | true => exact st_E hf (st1_20 j hj)
theorem sta_21 {v : Bool} {m1 m2 : List va_E} {j : Nat} (hf : as_Fr (shf v) m1 m2) (hj : j < 16) : as_elt m2 21 j = as_elt m1 21 j := by
  cases v with
  | false => exact st_E hf (st0_21 j hj)
  | true => exact st_E hf (st1_21 j hj)
theorem sta_22 {v : Bool} {m1 m2 : List va_E} {j : Nat} (hf : as_Fr (shf v) m1 m2) (hj : j < 16) : as_elt m2 22 j = as_elt m1 22 j := by
  cases v with
  | false => exact st_E hf (st0_22 j hj)
  | true => exact st_E hf (st1_22 j hj)
theorem sta_25 {v : Bool} {m1 m2 : List va_E} {j : Nat} (hf : as_Fr (shf v) m1 m2) (hj : j < 16) : as_elt m2 25 j = as_elt m1 25 j := by
  cases v with
  | false => exact st_E hf (st0_25 j hj)
  | true => exact st_E hf (st1_25 j hj)
theorem sta_26 {v : Bool} {m1 m2 : List va_E} {j : Nat} (hf : as_Fr (shf v) m1 m2) (hj : j < 16) : as_elt m2 26 j = as_elt m1 26 j := by
  cases v with
  | false => exact st_E hf (st0_26 j hj)
  | true => exact st_E hf (st1_26 j hj)
theorem sta_46 {v : Bool} {m1 m2 : List va_E} {j : Nat} (hf : as_Fr (shf v) m1 m2) (hj : j < 16) : as_elt m2 46 j = as_elt m1 46 j := by
  cases v with
  | false => exact st_E hf (st0_46 j hj)
  | true => exact st_E hf (st1_46 j hj)
theorem sta_47 {v : Bool} {m1 m2 : List va_E} {j : Nat} (hf : as_Fr (shf v) m1 m2) (hj : j < 16) : as_elt m2 47 j = as_elt m1 47 j := by
  cases v with
  | false => exact st_E hf (st0_47 j hj)
  | true => exact st_E hf (st1_47 j hj)
theorem sta_52 {v : Bool} {m1 m2 : List va_E} {j : Nat} (hf : as_Fr (shf v) m1 m2) (hj : j < 16) : as_elt m2 52 j = as_elt m1 52 j := by
  cases v with
  | false => exact st_E hf (st0_52 j hj)
  | true => exact st_E hf (st1_52 j hj)
theorem sta_53 {v : Bool} {m1 m2 : List va_E} {j : Nat} (hf : as_Fr (shf v) m1 m2) (hj : j < 16) : as_elt m2 53 j = as_elt m1 53 j := by
  cases v with
  | false => exact st_E hf (st0_53 j hj)
  | true => exact st_E hf (st1_53 j hj)
theorem sta_27 {v : Bool} {m1 m2 : List va_E} {j : Nat} (hf : as_Fr (shf v) m1 m2) (hj : j < 64) : as_elt m2 27 j = as_elt m1 27 j := by
  cases v with
  | false => exact st_E hf (st0_27 j hj)
  | true => exact st_E hf (st1_27 j hj)
theorem sta_48 {v : Bool} {m1 m2 : List va_E} {j : Nat} (hf : as_Fr (shf v) m1 m2) (hj : j < 64) : as_elt m2 48 j = as_elt m1 48 j := by
  cases v with
  | false => exact st_E hf (st0_48 j hj)
  | true => exact st_E hf (st1_48 j hj)
theorem sta_54 {v : Bool} {m1 m2 : List va_E} {j : Nat} (hf : as_Fr (shf v) m1 m2) (hj : j < 64) : as_elt m2 54 j = as_elt m1 54 j := by
  cases v with
  | false => exact st_E hf (st0_54 j hj)
  | true => exact st_E hf (st1_54 j hj)
theorem sta_28 {v : Bool} {m1 m2 : List va_E} {j : Nat} (hf : as_Fr (shf v) m1 m2) (hj : j < 8) : as_elt m2 28 j = as_elt m1 28 j := by
  cases v with
  | false => exact st_E hf (st0_28 j hj)
  | true => exact st_E hf (st1_28 j hj)
theorem sta_49 {v : Bool} {m1 m2 : List va_E} {j : Nat} (hf : as_Fr (shf v) m1 m2) (hj : j < 8) : as_elt m2 49 j = as_elt m1 49 j := by
  cases v with
  | false => exact st_E hf (st0_49 j hj)
  | true => exact st_E hf (st1_49 j hj)
theorem sta_55 {v : Bool} {m1 m2 : List va_E} {j : Nat} (hf : as_Fr (shf v) m1 m2) (hj : j < 8) : as_elt m2 55 j = as_elt m1 55 j := by
  cases v with
  | false => exact st_E hf (st0_55 j hj)
  | true => exact st_E hf (st1_55 j hj)
theorem sta_37 {v : Bool} {m1 m2 : List va_E} {j : Nat} (hf : as_Fr (shf v) m1 m2) (hj : j < 8) : as_elt m2 37 j = as_elt m1 37 j := by
  cases v with
  | false => exact st_E hf (st0_37 j hj)
  | true => exact st_E hf (st1_37 j hj)
theorem sta_57 {v : Bool} {m1 m2 : List va_E} {j : Nat} (hf : as_Fr (shf v) m1 m2) (hj : j < 131) : as_elt m2 57 j = as_elt m1 57 j := by
  cases v with
  | false => exact st_E hf (st0_57 j hj)
  | true => exact st_E hf (st1_57 j hj)
theorem sta_58 {v : Bool} {m1 m2 : List va_E} {j : Nat} (hf : as_Fr (shf v) m1 m2) (hj : j < 262) : as_elt m2 58 j = as_elt m1 58 j := by
  cases v with
  | false => exact st_E hf (st0_58 j hj)
  | true => exact st_E hf (st1_58 j hj)
theorem sta_59 {v : Bool} {m1 m2 : List va_E} {j : Nat} (hf : as_Fr (shf v) m1 m2) (hj : j < 2) : as_elt m2 59 j = as_elt m1 59 j := by
  cases v with
  | false => exact st_E hf (st0_59 j hj)
  | true => exact st_E hf (st1_59 j hj)
theorem sta_60 {v : Bool} {m1 m2 : List va_E} {j : Nat} (hf : as_Fr (shf v) m1 m2) (hj : j < 8) : as_elt m2 60 j = as_elt m1 60 j := by
  cases v with
  | false => exact st_E hf (st0_60 j hj)
  | true => exact st_E hf (st1_60 j hj)
theorem sta_61 {v : Bool} {m1 m2 : List va_E} {j : Nat} (hf : as_Fr (shf v) m1 m2) (hj : j < 30) : as_elt m2 61 j = as_elt m1 61 j := by
  cases v with
  | false => exact st_E hf (st0_61 j hj)
  | true => exact st_E hf (st1_61 j hj)
theorem sta_62 {v : Bool} {m1 m2 : List va_E} {j : Nat} (hf : as_Fr (shf v) m1 m2) (hj : j < 80) : as_elt m2 62 j = as_elt m1 62 j := by
  cases v with
  | false => exact st_E hf (st0_62 j hj)
  | true => exact st_E hf (st1_62 j hj)
theorem sta_65 {v : Bool} {m1 m2 : List va_E} {j : Nat} (hf : as_Fr (shf v) m1 m2) (hj : j < 400) : as_elt m2 65 j = as_elt m1 65 j := by
  cases v with
  | false => exact st_E hf (st0_65 j hj)
  | true => exact st_E hf (st1_65 j hj)
theorem stf_0_10 {v : Bool} {m1 m2 : List va_E} (hf : as_Fr (shf v) m1 m2) : as_fld m2 0 10 = as_fld m1 0 10 := by
  cases v with
  | false => exact hf.2 0 10 _ rfl rfl
  | true => exact hf.2 0 10 _ rfl rfl
theorem stf_1_1 {v : Bool} {m1 m2 : List va_E} (hf : as_Fr (shf v) m1 m2) : as_fld m2 1 1 = as_fld m1 1 1 := by
  cases v with
  | false => exact hf.2 1 1 _ rfl rfl
  | true => exact hf.2 1 1 _ rfl rfl
theorem stf_5_1 {v : Bool} {m1 m2 : List va_E} (hf : as_Fr (shf v) m1 m2) : as_fld m2 5 1 = as_fld m1 5 1 := by
  cases v with
  | false => exact hf.2 5 1 _ rfl rfl
  | true => exact hf.2 5 1 _ rfl rfl
theorem stf_5_2 {v : Bool} {m1 m2 : List va_E} (hf : as_Fr (shf v) m1 m2) : as_fld m2 5 2 = as_fld m1 5 2 := by
  cases v with
  | false => exact hf.2 5 2 _ rfl rfl
  | true => exact hf.2 5 2 _ rfl rfl
theorem stf_14_1 {v : Bool} {m1 m2 : List va_E} (hf : as_Fr (shf v) m1 m2) : as_fld m2 14 1 = as_fld m1 14 1 := by
  cases v with
  | false => exact hf.2 14 1 _ rfl rfl
  | true => exact hf.2 14 1 _ rfl rfl
theorem stf_14_2 {v : Bool} {m1 m2 : List va_E} (hf : as_Fr (shf v) m1 m2) : as_fld m2 14 2 = as_fld m1 14 2 := by
  cases v with
  | false => exact hf.2 14 2 _ rfl rfl
  | true => exact hf.2 14 2 _ rfl rfl
theorem stf_23_5 {v : Bool} {m1 m2 : List va_E} (hf : as_Fr (shf v) m1 m2) : as_fld m2 23 5 = as_fld m1 23 5 := by
  cases v with
  | false => exact hf.2 23 5 _ rfl rfl
  | true => exact hf.2 23 5 _ rfl rfl
theorem stf_23_6 {v : Bool} {m1 m2 : List va_E} (hf : as_Fr (shf v) m1 m2) : as_fld m2 23 6 = as_fld m1 23 6 := by
  cases v with
  | false => exact hf.2 23 6 _ rfl rfl
  | true => exact hf.2 23 6 _ rfl rfl
theorem stf_44_5 {v : Bool} {m1 m2 : List va_E} (hf : as_Fr (shf v) m1 m2) : as_fld m2 44 5 = as_fld m1 44 5 := by
  cases v with
  | false => exact hf.2 44 5 _ rfl rfl
  | true => exact hf.2 44 5 _ rfl rfl
theorem stf_44_6 {v : Bool} {m1 m2 : List va_E} (hf : as_Fr (shf v) m1 m2) : as_fld m2 44 6 = as_fld m1 44 6 := by
  cases v with
  | false => exact hf.2 44 6 _ rfl rfl
  | true => exact hf.2 44 6 _ rfl rfl
theorem stf_50_5 {v : Bool} {m1 m2 : List va_E} (hf : as_Fr (shf v) m1 m2) : as_fld m2 50 5 = as_fld m1 50 5 := by
  cases v with
  | false => exact hf.2 50 5 _ rfl rfl
  | true => exact hf.2 50 5 _ rfl rfl
theorem stf_50_6 {v : Bool} {m1 m2 : List va_E} (hf : as_Fr (shf v) m1 m2) : as_fld m2 50 6 = as_fld m1 50 6 := by
  cases v with
  | false => exact hf.2 50 6 _ rfl rfl
  | true => exact hf.2 50 6 _ rfl rfl
theorem stf_56_6 {v : Bool} {m1 m2 : List va_E} (hf : as_Fr (shf v) m1 m2) : as_fld m2 56 6 = as_fld m1 56 6 := by
  cases v with
  | false => exact hf.2 56 6 _ rfl rfl
  | true => exact hf.2 56 6 _ rfl rfl
theorem stf_56_7 {v : Bool} {m1 m2 : List va_E} (hf : as_Fr (shf v) m1 m2) : as_fld m2 56 7 = as_fld m1 56 7 := by
  cases v with
  | false => exact hf.2 56 7 _ rfl rfl
  | true => exact hf.2 56 7 _ rfl rfl
theorem stf_56_15 {v : Bool} {m1 m2 : List va_E} (hf : as_Fr (shf v) m1 m2) : as_fld m2 56 15 = as_fld m1 56 15 := by
  cases v with
  | false => exact hf.2 56 15 _ rfl rfl
  | true => exact hf.2 56 15 _ rfl rfl
theorem stf_42_1 {v : Bool} {m1 m2 : List va_E} (hf : as_Fr (shf v) m1 m2) : as_fld m2 42 1 = as_fld m1 42 1 := by
  cases v with
  | false => exact hf.2 42 1 _ rfl rfl
  | true => exact hf.2 42 1 _ rfl rfl
theorem stf_56_1 {v : Bool} {m1 m2 : List va_E} (hf : as_Fr (shf v) m1 m2) : as_fld m2 56 1 = as_fld m1 56 1 := by
  cases v with
  | false => exact hf.2 56 1 _ rfl rfl
  | true => exact hf.2 56 1 _ rfl rfl
theorem iv_i {a b : Int} (h : some (iv a) = some (iv b)) : Int32.ofInt a = Int32.ofInt b := Value.int.inj (Option.some.inj h)
