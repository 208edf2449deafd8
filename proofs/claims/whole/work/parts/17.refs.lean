/-! which cell holds which: e the explorer, if it is made; a, b: the model's st and spare -/
def m_RT (e : Option Nat) (a b : Nat) : Nat → List (Option Nat) := fun k => match k with
  | 0 => [some 1, some 13, some 25, none, e, none]
  | 1 => [some 2, some 3, some 6, some 10]
  | 3 => [some 4, some 5]
  | 6 => [some 7, some 8, some 9]
  | 10 => [some 11, some 12, none, none]
  | 13 => [some 14, some 15, some 18, some 22]
  | 15 => [some 16, some 17]
  | 18 => [some 19, some 20, some 21]
  | 22 => [some 23, some 24, none, none]
  | 25 => [some 1, some 2, some 26]
  | 26 => [some 1, some 2, none, none]
  | 27 => [some a, none, none, none, none, none, some 29, some 30, some 31, some 32, some 33, some 34, some 35, some 36, some 37, some 38, some 39, none, some 40, some 41, some 42, some 43, none, none, some 44, none, some 45, none, none, none, some 46, some 47, none, some b, some 49, some 50, some 51, none, some 52, some 53, some 54, none]
  | 55 => [some 1, some 25, some 2, some 56, some 57, some 58, some 59, some 60, none, some 61, none]
  | _ => []
def m_RR (e : Option Nat) (a b : Nat) : m_R := fun k j => (m_RT e a b k).getD j none
section RVS
variable {e : Option Nat} {a b : Nat}
theorem rv_0_0 : m_rv (m_RR e a b 0 0) = .ref 1 := rfl
theorem rv_0_1 : m_rv (m_RR e a b 0 1) = .ref 13 := rfl
theorem rv_0_2 : m_rv (m_RR e a b 0 2) = .ref 25 := rfl
theorem rv_0_4 : m_rv (m_RR e a b 0 4) = m_rv e := rfl
theorem rv_1_0 : m_rv (m_RR e a b 1 0) = .ref 2 := rfl
theorem rv_1_1 : m_rv (m_RR e a b 1 1) = .ref 3 := rfl
theorem rv_1_2 : m_rv (m_RR e a b 1 2) = .ref 6 := rfl
theorem rv_1_3 : m_rv (m_RR e a b 1 3) = .ref 10 := rfl
theorem rv_3_0 : m_rv (m_RR e a b 3 0) = .ref 4 := rfl
theorem rv_3_1 : m_rv (m_RR e a b 3 1) = .ref 5 := rfl
theorem rv_6_0 : m_rv (m_RR e a b 6 0) = .ref 7 := rfl
theorem rv_6_1 : m_rv (m_RR e a b 6 1) = .ref 8 := rfl
theorem rv_6_2 : m_rv (m_RR e a b 6 2) = .ref 9 := rfl
theorem rv_10_0 : m_rv (m_RR e a b 10 0) = .ref 11 := rfl
theorem rv_10_1 : m_rv (m_RR e a b 10 1) = .ref 12 := rfl
theorem rv_13_0 : m_rv (m_RR e a b 13 0) = .ref 14 := rfl
theorem rv_13_1 : m_rv (m_RR e a b 13 1) = .ref 15 := rfl
theorem rv_13_2 : m_rv (m_RR e a b 13 2) = .ref 18 := rfl
theorem rv_13_3 : m_rv (m_RR e a b 13 3) = .ref 22 := rfl
theorem rv_15_0 : m_rv (m_RR e a b 15 0) = .ref 16 := rfl
theorem rv_15_1 : m_rv (m_RR e a b 15 1) = .ref 17 := rfl
theorem rv_18_0 : m_rv (m_RR e a b 18 0) = .ref 19 := rfl
theorem rv_18_1 : m_rv (m_RR e a b 18 1) = .ref 20 := rfl
theorem rv_18_2 : m_rv (m_RR e a b 18 2) = .ref 21 := rfl
theorem rv_22_0 : m_rv (m_RR e a b 22 0) = .ref 23 := rfl
theorem rv_22_1 : m_rv (m_RR e a b 22 1) = .ref 24 := rfl
theorem rv_25_0 : m_rv (m_RR e a b 25 0) = .ref 1 := rfl
theorem rv_25_1 : m_rv (m_RR e a b 25 1) = .ref 2 := rfl
theorem rv_25_2 : m_rv (m_RR e a b 25 2) = .ref 26 := rfl
theorem rv_26_0 : m_rv (m_RR e a b 26 0) = .ref 1 := rfl
theorem rv_26_1 : m_rv (m_RR e a b 26 1) = .ref 2 := rfl
theorem rv_27_0 : m_rv (m_RR e a b 27 0) = .ref a := rfl
theorem rv_27_6 : m_rv (m_RR e a b 27 6) = .ref 29 := rfl
theorem rv_27_7 : m_rv (m_RR e a b 27 7) = .ref 30 := rfl
theorem rv_27_8 : m_rv (m_RR e a b 27 8) = .ref 31 := rfl
theorem rv_27_9 : m_rv (m_RR e a b 27 9) = .ref 32 := rfl
theorem rv_27_10 : m_rv (m_RR e a b 27 10) = .ref 33 := rfl
theorem rv_27_11 : m_rv (m_RR e a b 27 11) = .ref 34 := rfl
theorem rv_27_12 : m_rv (m_RR e a b 27 12) = .ref 35 := rfl
theorem rv_27_13 : m_rv (m_RR e a b 27 13) = .ref 36 := rfl
theorem rv_27_14 : m_rv (m_RR e a b 27 14) = .ref 37 := rfl
theorem rv_27_15 : m_rv (m_RR e a b 27 15) = .ref 38 := rfl
theorem rv_27_16 : m_rv (m_RR e a b 27 16) = .ref 39 := rfl
theorem rv_27_18 : m_rv (m_RR e a b 27 18) = .ref 40 := rfl
theorem rv_27_19 : m_rv (m_RR e a b 27 19) = .ref 41 := rfl
theorem rv_27_20 : m_rv (m_RR e a b 27 20) = .ref 42 := rfl
theorem rv_27_21 : m_rv (m_RR e a b 27 21) = .ref 43 := rfl
theorem rv_27_24 : m_rv (m_RR e a b 27 24) = .ref 44 := rfl
theorem rv_27_26 : m_rv (m_RR e a b 27 26) = .ref 45 := rfl
theorem rv_27_30 : m_rv (m_RR e a b 27 30) = .ref 46 := rfl
theorem rv_27_31 : m_rv (m_RR e a b 27 31) = .ref 47 := rfl
theorem rv_27_33 : m_rv (m_RR e a b 27 33) = .ref b := rfl
theorem rv_27_34 : m_rv (m_RR e a b 27 34) = .ref 49 := rfl
theorem rv_27_35 : m_rv (m_RR e a b 27 35) = .ref 50 := rfl
theorem rv_27_36 : m_rv (m_RR e a b 27 36) = .ref 51 := rfl
theorem rv_27_38 : m_rv (m_RR e a b 27 38) = .ref 52 := rfl
theorem rv_27_39 : m_rv (m_RR e a b 27 39) = .ref 53 := rfl
theorem rv_27_40 : m_rv (m_RR e a b 27 40) = .ref 54 := rfl
theorem rv_55_0 : m_rv (m_RR e a b 55 0) = .ref 1 := rfl
theorem rv_55_1 : m_rv (m_RR e a b 55 1) = .ref 25 := rfl
theorem rv_55_2 : m_rv (m_RR e a b 55 2) = .ref 2 := rfl
theorem rv_55_3 : m_rv (m_RR e a b 55 3) = .ref 56 := rfl
theorem rv_55_4 : m_rv (m_RR e a b 55 4) = .ref 57 := rfl
theorem rv_55_5 : m_rv (m_RR e a b 55 5) = .ref 58 := rfl
theorem rv_55_6 : m_rv (m_RR e a b 55 6) = .ref 59 := rfl
theorem rv_55_7 : m_rv (m_RR e a b 55 7) = .ref 60 := rfl
theorem rv_55_9 : m_rv (m_RR e a b 55 9) = .ref 61 := rfl
theorem rv_n : m_rv none = .null := rfl
theorem rv_s {k : Nat} : m_rv (some k) = .ref k := rfl
end RVS
