def D1 (A : Nat → Nat → Int) (r a : Nat) : Int := A r a
def D2 (A : Nat → Nat → Int) (r a b : Nat) : Int := A r a * A (r + 1) b - A r b * A (r + 1) a
def D3 (A : Nat → Nat → Int) (r a b c : Nat) : Int := A r a * D2 A (r + 1) b c - A r b * D2 A (r + 1) a c + A r c * D2 A (r + 1) a b
def D4 (A : Nat → Nat → Int) (r a b c d : Nat) : Int := A r a * D3 A (r + 1) b c d - A r b * D3 A (r + 1) a c d + A r c * D3 A (r + 1) a b d - A r d * D3 A (r + 1) a b c
def D5 (A : Nat → Nat → Int) (r a b c d e : Nat) : Int := A r a * D4 A (r + 1) b c d e - A r b * D4 A (r + 1) a c d e + A r c * D4 A (r + 1) a b d e - A r d * D4 A (r + 1) a b c e + A r e * D4 A (r + 1) a b c d
/-- the determinant of the first w rows and columns -/
def Dn (A : Nat → Nat → Int) : Nat → Int
  | 1 => A 0 0
  | 2 => D2 A 0 0 1
  | 3 => D3 A 0 0 1 2
  | 4 => D4 A 0 0 1 2 3
  | 5 => D5 A 0 0 1 2 3 4
  | _ => 0
theorem tm1_0 (g : Int → Int) : tmR g 1 0 0 0 1 = (1 * g 0) := rfl
theorem dtR_1 (g : Int → Int) : dtR g 1 = Dn (fun r c => g (5 * (r : Int) + (c : Int))) 1 := by
  rw [show dtR g 1 = dtS g 1 1 from rfl]
  simp only [dtS, tm1_0, Dn, D2, D3, D4, D5, Nat.reduceAdd]
  simp only [Int.cast_ofNat_Int, Int.reduceMul, Int.reduceAdd]
  grind
theorem tm2_0 (g : Int → Int) : tmR g 2 0 0 0 1 = ((1 * g 0) * g 6) := rfl
theorem tm2_1 (g : Int → Int) : tmR g 2 0 1 0 1 = (((-1) * g 1) * g 5) := rfl
theorem dtR_2 (g : Int → Int) : dtR g 2 = Dn (fun r c => g (5 * (r : Int) + (c : Int))) 2 := by
  rw [show dtR g 2 = dtS g 2 2 from rfl]
  simp only [dtS, tm2_0, tm2_1, Dn, D2, D3, D4, D5, Nat.reduceAdd]
  simp only [Int.cast_ofNat_Int, Int.reduceMul, Int.reduceAdd]
  grind
theorem tm3_0 (g : Int → Int) : tmR g 3 0 0 0 1 = (((1 * g 0) * g 6) * g 12) := rfl
theorem tm3_1 (g : Int → Int) : tmR g 3 0 1 0 1 = ((((-1) * g 1) * g 5) * g 12) := rfl
theorem tm3_2 (g : Int → Int) : tmR g 3 0 2 0 1 = (((1 * g 2) * g 5) * g 11) := rfl
theorem tm3_3 (g : Int → Int) : tmR g 3 0 3 0 1 = (((-(1 * g 0)) * g 7) * g 11) := rfl
theorem tm3_4 (g : Int → Int) : tmR g 3 0 4 0 1 = (((-((-1) * g 1)) * g 7) * g 10) := rfl
theorem tm3_5 (g : Int → Int) : tmR g 3 0 5 0 1 = (((-(1 * g 2)) * g 6) * g 10) := rfl
theorem dtR_3 (g : Int → Int) : dtR g 3 = Dn (fun r c => g (5 * (r : Int) + (c : Int))) 3 := by
  rw [show dtR g 3 = dtS g 3 6 from rfl]
  simp only [dtS, tm3_0, tm3_1, tm3_2, tm3_3, tm3_4, tm3_5, Dn, D2, D3, D4, D5, Nat.reduceAdd]
  simp only [Int.cast_ofNat_Int, Int.reduceMul, Int.reduceAdd]
  grind
theorem tm4_0 (g : Int → Int) : tmR g 4 0 0 0 1 = ((((1 * g 0) * g 6) * g 12) * g 18) := rfl
theorem tm4_1 (g : Int → Int) : tmR g 4 0 1 0 1 = (((((-1) * g 1) * g 5) * g 12) * g 18) := rfl
theorem tm4_2 (g : Int → Int) : tmR g 4 0 2 0 1 = ((((1 * g 2) * g 5) * g 11) * g 18) := rfl
theorem tm4_3 (g : Int → Int) : tmR g 4 0 3 0 1 = (((((-1) * g 3) * g 5) * g 11) * g 17) := rfl
theorem tm4_4 (g : Int → Int) : tmR g 4 0 4 0 1 = ((((-(1 * g 0)) * g 7) * g 11) * g 18) := rfl
theorem tm4_5 (g : Int → Int) : tmR g 4 0 5 0 1 = ((((-((-1) * g 1)) * g 7) * g 10) * g 18) := rfl
theorem tm4_6 (g : Int → Int) : tmR g 4 0 6 0 1 = ((((-(1 * g 2)) * g 6) * g 10) * g 18) := rfl
theorem tm4_7 (g : Int → Int) : tmR g 4 0 7 0 1 = ((((-((-1) * g 3)) * g 6) * g 10) * g 17) := rfl
theorem tm4_8 (g : Int → Int) : tmR g 4 0 8 0 1 = ((((1 * g 0) * g 8) * g 11) * g 17) := rfl
theorem tm4_9 (g : Int → Int) : tmR g 4 0 9 0 1 = (((((-1) * g 1) * g 8) * g 10) * g 17) := rfl
theorem tm4_10 (g : Int → Int) : tmR g 4 0 10 0 1 = ((((1 * g 2) * g 8) * g 10) * g 16) := rfl
theorem tm4_11 (g : Int → Int) : tmR g 4 0 11 0 1 = (((((-1) * g 3) * g 7) * g 10) * g 16) := rfl
theorem tm4_12 (g : Int → Int) : tmR g 4 0 12 0 1 = (((-((1 * g 0) * g 6)) * g 13) * g 17) := rfl
theorem tm4_13 (g : Int → Int) : tmR g 4 0 13 0 1 = (((-(((-1) * g 1) * g 5)) * g 13) * g 17) := rfl
theorem tm4_14 (g : Int → Int) : tmR g 4 0 14 0 1 = (((-((1 * g 2) * g 5)) * g 13) * g 16) := rfl
theorem tm4_15 (g : Int → Int) : tmR g 4 0 15 0 1 = (((-(((-1) * g 3) * g 5)) * g 12) * g 16) := rfl
theorem tm4_16 (g : Int → Int) : tmR g 4 0 16 0 1 = (((-((-(1 * g 0)) * g 7)) * g 13) * g 16) := rfl
theorem tm4_17 (g : Int → Int) : tmR g 4 0 17 0 1 = (((-((-((-1) * g 1)) * g 7)) * g 13) * g 15) := rfl
theorem tm4_18 (g : Int → Int) : tmR g 4 0 18 0 1 = (((-((-(1 * g 2)) * g 6)) * g 13) * g 15) := rfl
theorem tm4_19 (g : Int → Int) : tmR g 4 0 19 0 1 = (((-((-((-1) * g 3)) * g 6)) * g 12) * g 15) := rfl
theorem tm4_20 (g : Int → Int) : tmR g 4 0 20 0 1 = (((-((1 * g 0) * g 8)) * g 12) * g 16) := rfl
theorem tm4_21 (g : Int → Int) : tmR g 4 0 21 0 1 = (((-(((-1) * g 1) * g 8)) * g 12) * g 15) := rfl
theorem tm4_22 (g : Int → Int) : tmR g 4 0 22 0 1 = (((-((1 * g 2) * g 8)) * g 11) * g 15) := rfl
theorem tm4_23 (g : Int → Int) : tmR g 4 0 23 0 1 = (((-(((-1) * g 3) * g 7)) * g 11) * g 15) := rfl
theorem dtR_4 (g : Int → Int) : dtR g 4 = Dn (fun r c => g (5 * (r : Int) + (c : Int))) 4 := by
  rw [show dtR g 4 = dtS g 4 24 from rfl]
  simp only [dtS, tm4_0, tm4_1, tm4_2, tm4_3, tm4_4, tm4_5, tm4_6, tm4_7, tm4_8, tm4_9, tm4_10, tm4_11, tm4_12, tm4_13, tm4_14, tm4_15, tm4_16, tm4_17, tm4_18, tm4_19, tm4_20, tm4_21, tm4_22, tm4_23, Dn, D2, D3, D4, D5, Nat.reduceAdd]
  simp only [Int.cast_ofNat_Int, Int.reduceMul, Int.reduceAdd]
  grind
theorem tm5_0 (g : Int → Int) : tmR g 5 0 0 0 1 = (((((1 * g 0) * g 6) * g 12) * g 18) * g 24) := rfl
theorem tm5_1 (g : Int → Int) : tmR g 5 0 1 0 1 = ((((((-1) * g 1) * g 5) * g 12) * g 18) * g 24) := rfl
theorem tm5_2 (g : Int → Int) : tmR g 5 0 2 0 1 = (((((1 * g 2) * g 5) * g 11) * g 18) * g 24) := rfl
theorem tm5_3 (g : Int → Int) : tmR g 5 0 3 0 1 = ((((((-1) * g 3) * g 5) * g 11) * g 17) * g 24) := rfl
theorem tm5_4 (g : Int → Int) : tmR g 5 0 4 0 1 = (((((1 * g 4) * g 5) * g 11) * g 17) * g 23) := rfl
theorem tm5_5 (g : Int → Int) : tmR g 5 0 5 0 1 = (((((-(1 * g 0)) * g 7) * g 11) * g 18) * g 24) := rfl
theorem tm5_6 (g : Int → Int) : tmR g 5 0 6 0 1 = (((((-((-1) * g 1)) * g 7) * g 10) * g 18) * g 24) := rfl
theorem tm5_7 (g : Int → Int) : tmR g 5 0 7 0 1 = (((((-(1 * g 2)) * g 6) * g 10) * g 18) * g 24) := rfl
theorem tm5_8 (g : Int → Int) : tmR g 5 0 8 0 1 = (((((-((-1) * g 3)) * g 6) * g 10) * g 17) * g 24) := rfl
theorem tm5_9 (g : Int → Int) : tmR g 5 0 9 0 1 = (((((-(1 * g 4)) * g 6) * g 10) * g 17) * g 23) := rfl
theorem tm5_10 (g : Int → Int) : tmR g 5 0 10 0 1 = (((((1 * g 0) * g 8) * g 11) * g 17) * g 24) := rfl
theorem tm5_11 (g : Int → Int) : tmR g 5 0 11 0 1 = ((((((-1) * g 1) * g 8) * g 10) * g 17) * g 24) := rfl
theorem tm5_12 (g : Int → Int) : tmR g 5 0 12 0 1 = (((((1 * g 2) * g 8) * g 10) * g 16) * g 24) := rfl
theorem tm5_13 (g : Int → Int) : tmR g 5 0 13 0 1 = ((((((-1) * g 3) * g 7) * g 10) * g 16) * g 24) := rfl
theorem tm5_14 (g : Int → Int) : tmR g 5 0 14 0 1 = (((((1 * g 4) * g 7) * g 10) * g 16) * g 23) := rfl
theorem tm5_15 (g : Int → Int) : tmR g 5 0 15 0 1 = (((((-(1 * g 0)) * g 9) * g 11) * g 17) * g 23) := rfl
theorem tm5_16 (g : Int → Int) : tmR g 5 0 16 0 1 = (((((-((-1) * g 1)) * g 9) * g 10) * g 17) * g 23) := rfl
theorem tm5_17 (g : Int → Int) : tmR g 5 0 17 0 1 = (((((-(1 * g 2)) * g 9) * g 10) * g 16) * g 23) := rfl
theorem tm5_18 (g : Int → Int) : tmR g 5 0 18 0 1 = (((((-((-1) * g 3)) * g 9) * g 10) * g 16) * g 22) := rfl
theorem tm5_19 (g : Int → Int) : tmR g 5 0 19 0 1 = (((((-(1 * g 4)) * g 8) * g 10) * g 16) * g 22) := rfl
theorem tm5_20 (g : Int → Int) : tmR g 5 0 20 0 1 = ((((-((1 * g 0) * g 6)) * g 13) * g 17) * g 24) := rfl
theorem tm5_21 (g : Int → Int) : tmR g 5 0 21 0 1 = ((((-(((-1) * g 1) * g 5)) * g 13) * g 17) * g 24) := rfl
theorem tm5_22 (g : Int → Int) : tmR g 5 0 22 0 1 = ((((-((1 * g 2) * g 5)) * g 13) * g 16) * g 24) := rfl
theorem tm5_23 (g : Int → Int) : tmR g 5 0 23 0 1 = ((((-(((-1) * g 3) * g 5)) * g 12) * g 16) * g 24) := rfl
theorem tm5_24 (g : Int → Int) : tmR g 5 0 24 0 1 = ((((-((1 * g 4) * g 5)) * g 12) * g 16) * g 23) := rfl
theorem tm5_25 (g : Int → Int) : tmR g 5 0 25 0 1 = ((((-((-(1 * g 0)) * g 7)) * g 13) * g 16) * g 24) := rfl
theorem tm5_26 (g : Int → Int) : tmR g 5 0 26 0 1 = ((((-((-((-1) * g 1)) * g 7)) * g 13) * g 15) * g 24) := rfl
theorem tm5_27 (g : Int → Int) : tmR g 5 0 27 0 1 = ((((-((-(1 * g 2)) * g 6)) * g 13) * g 15) * g 24) := rfl
theorem tm5_28 (g : Int → Int) : tmR g 5 0 28 0 1 = ((((-((-((-1) * g 3)) * g 6)) * g 12) * g 15) * g 24) := rfl
theorem tm5_29 (g : Int → Int) : tmR g 5 0 29 0 1 = ((((-((-(1 * g 4)) * g 6)) * g 12) * g 15) * g 23) := rfl
theorem tm5_30 (g : Int → Int) : tmR g 5 0 30 0 1 = ((((-((1 * g 0) * g 8)) * g 12) * g 16) * g 24) := rfl
theorem tm5_31 (g : Int → Int) : tmR g 5 0 31 0 1 = ((((-(((-1) * g 1) * g 8)) * g 12) * g 15) * g 24) := rfl
theorem tm5_32 (g : Int → Int) : tmR g 5 0 32 0 1 = ((((-((1 * g 2) * g 8)) * g 11) * g 15) * g 24) := rfl
theorem tm5_33 (g : Int → Int) : tmR g 5 0 33 0 1 = ((((-(((-1) * g 3) * g 7)) * g 11) * g 15) * g 24) := rfl
theorem tm5_34 (g : Int → Int) : tmR g 5 0 34 0 1 = ((((-((1 * g 4) * g 7)) * g 11) * g 15) * g 23) := rfl
theorem tm5_35 (g : Int → Int) : tmR g 5 0 35 0 1 = ((((-((-(1 * g 0)) * g 9)) * g 12) * g 16) * g 23) := rfl
theorem tm5_36 (g : Int → Int) : tmR g 5 0 36 0 1 = ((((-((-((-1) * g 1)) * g 9)) * g 12) * g 15) * g 23) := rfl
theorem tm5_37 (g : Int → Int) : tmR g 5 0 37 0 1 = ((((-((-(1 * g 2)) * g 9)) * g 11) * g 15) * g 23) := rfl
theorem tm5_38 (g : Int → Int) : tmR g 5 0 38 0 1 = ((((-((-((-1) * g 3)) * g 9)) * g 11) * g 15) * g 22) := rfl
theorem tm5_39 (g : Int → Int) : tmR g 5 0 39 0 1 = ((((-((-(1 * g 4)) * g 8)) * g 11) * g 15) * g 22) := rfl
theorem tm5_40 (g : Int → Int) : tmR g 5 0 40 0 1 = (((((1 * g 0) * g 6) * g 14) * g 17) * g 23) := rfl
theorem tm5_41 (g : Int → Int) : tmR g 5 0 41 0 1 = ((((((-1) * g 1) * g 5) * g 14) * g 17) * g 23) := rfl
theorem tm5_42 (g : Int → Int) : tmR g 5 0 42 0 1 = (((((1 * g 2) * g 5) * g 14) * g 16) * g 23) := rfl
theorem tm5_43 (g : Int → Int) : tmR g 5 0 43 0 1 = ((((((-1) * g 3) * g 5) * g 14) * g 16) * g 22) := rfl
theorem tm5_44 (g : Int → Int) : tmR g 5 0 44 0 1 = (((((1 * g 4) * g 5) * g 13) * g 16) * g 22) := rfl
theorem tm5_45 (g : Int → Int) : tmR g 5 0 45 0 1 = (((((-(1 * g 0)) * g 7) * g 14) * g 16) * g 23) := rfl
theorem tm5_46 (g : Int → Int) : tmR g 5 0 46 0 1 = (((((-((-1) * g 1)) * g 7) * g 14) * g 15) * g 23) := rfl
theorem tm5_47 (g : Int → Int) : tmR g 5 0 47 0 1 = (((((-(1 * g 2)) * g 6) * g 14) * g 15) * g 23) := rfl
theorem tm5_48 (g : Int → Int) : tmR g 5 0 48 0 1 = (((((-((-1) * g 3)) * g 6) * g 14) * g 15) * g 22) := rfl
theorem tm5_49 (g : Int → Int) : tmR g 5 0 49 0 1 = (((((-(1 * g 4)) * g 6) * g 13) * g 15) * g 22) := rfl
theorem tm5_50 (g : Int → Int) : tmR g 5 0 50 0 1 = (((((1 * g 0) * g 8) * g 14) * g 16) * g 22) := rfl
theorem tm5_51 (g : Int → Int) : tmR g 5 0 51 0 1 = ((((((-1) * g 1) * g 8) * g 14) * g 15) * g 22) := rfl
theorem tm5_52 (g : Int → Int) : tmR g 5 0 52 0 1 = (((((1 * g 2) * g 8) * g 14) * g 15) * g 21) := rfl
theorem tm5_53 (g : Int → Int) : tmR g 5 0 53 0 1 = ((((((-1) * g 3) * g 7) * g 14) * g 15) * g 21) := rfl
theorem tm5_54 (g : Int → Int) : tmR g 5 0 54 0 1 = (((((1 * g 4) * g 7) * g 13) * g 15) * g 21) := rfl
theorem tm5_55 (g : Int → Int) : tmR g 5 0 55 0 1 = (((((-(1 * g 0)) * g 9) * g 13) * g 16) * g 22) := rfl
theorem tm5_56 (g : Int → Int) : tmR g 5 0 56 0 1 = (((((-((-1) * g 1)) * g 9) * g 13) * g 15) * g 22) := rfl
theorem tm5_57 (g : Int → Int) : tmR g 5 0 57 0 1 = (((((-(1 * g 2)) * g 9) * g 13) * g 15) * g 21) := rfl
theorem tm5_58 (g : Int → Int) : tmR g 5 0 58 0 1 = (((((-((-1) * g 3)) * g 9) * g 12) * g 15) * g 21) := rfl
theorem tm5_59 (g : Int → Int) : tmR g 5 0 59 0 1 = (((((-(1 * g 4)) * g 8) * g 12) * g 15) * g 21) := rfl
theorem tm5_60 (g : Int → Int) : tmR g 5 0 60 0 1 = (((-(((1 * g 0) * g 6) * g 12)) * g 19) * g 23) := rfl
theorem tm5_61 (g : Int → Int) : tmR g 5 0 61 0 1 = (((-((((-1) * g 1) * g 5) * g 12)) * g 19) * g 23) := rfl
theorem tm5_62 (g : Int → Int) : tmR g 5 0 62 0 1 = (((-(((1 * g 2) * g 5) * g 11)) * g 19) * g 23) := rfl
theorem tm5_63 (g : Int → Int) : tmR g 5 0 63 0 1 = (((-((((-1) * g 3) * g 5) * g 11)) * g 19) * g 22) := rfl
theorem tm5_64 (g : Int → Int) : tmR g 5 0 64 0 1 = (((-(((1 * g 4) * g 5) * g 11)) * g 18) * g 22) := rfl
theorem tm5_65 (g : Int → Int) : tmR g 5 0 65 0 1 = (((-(((-(1 * g 0)) * g 7) * g 11)) * g 19) * g 23) := rfl
theorem tm5_66 (g : Int → Int) : tmR g 5 0 66 0 1 = (((-(((-((-1) * g 1)) * g 7) * g 10)) * g 19) * g 23) := rfl
theorem tm5_67 (g : Int → Int) : tmR g 5 0 67 0 1 = (((-(((-(1 * g 2)) * g 6) * g 10)) * g 19) * g 23) := rfl
theorem tm5_68 (g : Int → Int) : tmR g 5 0 68 0 1 = (((-(((-((-1) * g 3)) * g 6) * g 10)) * g 19) * g 22) := rfl
theorem tm5_69 (g : Int → Int) : tmR g 5 0 69 0 1 = (((-(((-(1 * g 4)) * g 6) * g 10)) * g 18) * g 22) := rfl
theorem tm5_70 (g : Int → Int) : tmR g 5 0 70 0 1 = (((-(((1 * g 0) * g 8) * g 11)) * g 19) * g 22) := rfl
theorem tm5_71 (g : Int → Int) : tmR g 5 0 71 0 1 = (((-((((-1) * g 1) * g 8) * g 10)) * g 19) * g 22) := rfl
theorem tm5_72 (g : Int → Int) : tmR g 5 0 72 0 1 = (((-(((1 * g 2) * g 8) * g 10)) * g 19) * g 21) := rfl
theorem tm5_73 (g : Int → Int) : tmR g 5 0 73 0 1 = (((-((((-1) * g 3) * g 7) * g 10)) * g 19) * g 21) := rfl
theorem tm5_74 (g : Int → Int) : tmR g 5 0 74 0 1 = (((-(((1 * g 4) * g 7) * g 10)) * g 18) * g 21) := rfl
theorem tm5_75 (g : Int → Int) : tmR g 5 0 75 0 1 = (((-(((-(1 * g 0)) * g 9) * g 11)) * g 18) * g 22) := rfl
theorem tm5_76 (g : Int → Int) : tmR g 5 0 76 0 1 = (((-(((-((-1) * g 1)) * g 9) * g 10)) * g 18) * g 22) := rfl
theorem tm5_77 (g : Int → Int) : tmR g 5 0 77 0 1 = (((-(((-(1 * g 2)) * g 9) * g 10)) * g 18) * g 21) := rfl
theorem tm5_78 (g : Int → Int) : tmR g 5 0 78 0 1 = (((-(((-((-1) * g 3)) * g 9) * g 10)) * g 17) * g 21) := rfl
theorem tm5_79 (g : Int → Int) : tmR g 5 0 79 0 1 = (((-(((-(1 * g 4)) * g 8) * g 10)) * g 17) * g 21) := rfl
theorem tm5_80 (g : Int → Int) : tmR g 5 0 80 0 1 = (((-((-((1 * g 0) * g 6)) * g 13)) * g 19) * g 22) := rfl
theorem tm5_81 (g : Int → Int) : tmR g 5 0 81 0 1 = (((-((-(((-1) * g 1) * g 5)) * g 13)) * g 19) * g 22) := rfl
theorem tm5_82 (g : Int → Int) : tmR g 5 0 82 0 1 = (((-((-((1 * g 2) * g 5)) * g 13)) * g 19) * g 21) := rfl
theorem tm5_83 (g : Int → Int) : tmR g 5 0 83 0 1 = (((-((-(((-1) * g 3) * g 5)) * g 12)) * g 19) * g 21) := rfl
theorem tm5_84 (g : Int → Int) : tmR g 5 0 84 0 1 = (((-((-((1 * g 4) * g 5)) * g 12)) * g 18) * g 21) := rfl
theorem tm5_85 (g : Int → Int) : tmR g 5 0 85 0 1 = (((-((-((-(1 * g 0)) * g 7)) * g 13)) * g 19) * g 21) := rfl
theorem tm5_86 (g : Int → Int) : tmR g 5 0 86 0 1 = (((-((-((-((-1) * g 1)) * g 7)) * g 13)) * g 19) * g 20) := rfl
theorem tm5_87 (g : Int → Int) : tmR g 5 0 87 0 1 = (((-((-((-(1 * g 2)) * g 6)) * g 13)) * g 19) * g 20) := rfl
theorem tm5_88 (g : Int → Int) : tmR g 5 0 88 0 1 = (((-((-((-((-1) * g 3)) * g 6)) * g 12)) * g 19) * g 20) := rfl
theorem tm5_89 (g : Int → Int) : tmR g 5 0 89 0 1 = (((-((-((-(1 * g 4)) * g 6)) * g 12)) * g 18) * g 20) := rfl
theorem tm5_90 (g : Int → Int) : tmR g 5 0 90 0 1 = (((-((-((1 * g 0) * g 8)) * g 12)) * g 19) * g 21) := rfl
theorem tm5_91 (g : Int → Int) : tmR g 5 0 91 0 1 = (((-((-(((-1) * g 1) * g 8)) * g 12)) * g 19) * g 20) := rfl
theorem tm5_92 (g : Int → Int) : tmR g 5 0 92 0 1 = (((-((-((1 * g 2) * g 8)) * g 11)) * g 19) * g 20) := rfl
theorem tm5_93 (g : Int → Int) : tmR g 5 0 93 0 1 = (((-((-(((-1) * g 3) * g 7)) * g 11)) * g 19) * g 20) := rfl
theorem tm5_94 (g : Int → Int) : tmR g 5 0 94 0 1 = (((-((-((1 * g 4) * g 7)) * g 11)) * g 18) * g 20) := rfl
theorem tm5_95 (g : Int → Int) : tmR g 5 0 95 0 1 = (((-((-((-(1 * g 0)) * g 9)) * g 12)) * g 18) * g 21) := rfl
theorem tm5_96 (g : Int → Int) : tmR g 5 0 96 0 1 = (((-((-((-((-1) * g 1)) * g 9)) * g 12)) * g 18) * g 20) := rfl
theorem tm5_97 (g : Int → Int) : tmR g 5 0 97 0 1 = (((-((-((-(1 * g 2)) * g 9)) * g 11)) * g 18) * g 20) := rfl
theorem tm5_98 (g : Int → Int) : tmR g 5 0 98 0 1 = (((-((-((-((-1) * g 3)) * g 9)) * g 11)) * g 17) * g 20) := rfl
theorem tm5_99 (g : Int → Int) : tmR g 5 0 99 0 1 = (((-((-((-(1 * g 4)) * g 8)) * g 11)) * g 17) * g 20) := rfl
theorem tm5_100 (g : Int → Int) : tmR g 5 0 100 0 1 = (((-(((1 * g 0) * g 6) * g 14)) * g 18) * g 22) := rfl
theorem tm5_101 (g : Int → Int) : tmR g 5 0 101 0 1 = (((-((((-1) * g 1) * g 5) * g 14)) * g 18) * g 22) := rfl
theorem tm5_102 (g : Int → Int) : tmR g 5 0 102 0 1 = (((-(((1 * g 2) * g 5) * g 14)) * g 18) * g 21) := rfl
theorem tm5_103 (g : Int → Int) : tmR g 5 0 103 0 1 = (((-((((-1) * g 3) * g 5) * g 14)) * g 17) * g 21) := rfl
theorem tm5_104 (g : Int → Int) : tmR g 5 0 104 0 1 = (((-(((1 * g 4) * g 5) * g 13)) * g 17) * g 21) := rfl
theorem tm5_105 (g : Int → Int) : tmR g 5 0 105 0 1 = (((-(((-(1 * g 0)) * g 7) * g 14)) * g 18) * g 21) := rfl
theorem tm5_106 (g : Int → Int) : tmR g 5 0 106 0 1 = (((-(((-((-1) * g 1)) * g 7) * g 14)) * g 18) * g 20) := rfl
theorem tm5_107 (g : Int → Int) : tmR g 5 0 107 0 1 = (((-(((-(1 * g 2)) * g 6) * g 14)) * g 18) * g 20) := rfl
theorem tm5_108 (g : Int → Int) : tmR g 5 0 108 0 1 = (((-(((-((-1) * g 3)) * g 6) * g 14)) * g 17) * g 20) := rfl
theorem tm5_109 (g : Int → Int) : tmR g 5 0 109 0 1 = (((-(((-(1 * g 4)) * g 6) * g 13)) * g 17) * g 20) := rfl
theorem tm5_110 (g : Int → Int) : tmR g 5 0 110 0 1 = (((-(((1 * g 0) * g 8) * g 14)) * g 17) * g 21) := rfl
theorem tm5_111 (g : Int → Int) : tmR g 5 0 111 0 1 = (((-((((-1) * g 1) * g 8) * g 14)) * g 17) * g 20) := rfl
theorem tm5_112 (g : Int → Int) : tmR g 5 0 112 0 1 = (((-(((1 * g 2) * g 8) * g 14)) * g 16) * g 20) := rfl
theorem tm5_113 (g : Int → Int) : tmR g 5 0 113 0 1 = (((-((((-1) * g 3) * g 7) * g 14)) * g 16) * g 20) := rfl
theorem tm5_114 (g : Int → Int) : tmR g 5 0 114 0 1 = (((-(((1 * g 4) * g 7) * g 13)) * g 16) * g 20) := rfl
theorem tm5_115 (g : Int → Int) : tmR g 5 0 115 0 1 = (((-(((-(1 * g 0)) * g 9) * g 13)) * g 17) * g 21) := rfl
theorem tm5_116 (g : Int → Int) : tmR g 5 0 116 0 1 = (((-(((-((-1) * g 1)) * g 9) * g 13)) * g 17) * g 20) := rfl
theorem tm5_117 (g : Int → Int) : tmR g 5 0 117 0 1 = (((-(((-(1 * g 2)) * g 9) * g 13)) * g 16) * g 20) := rfl
theorem tm5_118 (g : Int → Int) : tmR g 5 0 118 0 1 = (((-(((-((-1) * g 3)) * g 9) * g 12)) * g 16) * g 20) := rfl
theorem tm5_119 (g : Int → Int) : tmR g 5 0 119 0 1 = (((-(((-(1 * g 4)) * g 8) * g 12)) * g 16) * g 20) := rfl
theorem dtR_5 (g : Int → Int) : dtR g 5 = Dn (fun r c => g (5 * (r : Int) + (c : Int))) 5 := by
  rw [show dtR g 5 = dtS g 5 120 from rfl]
  simp only [dtS, tm5_0, tm5_1, tm5_2, tm5_3, tm5_4, tm5_5, tm5_6, tm5_7, tm5_8, tm5_9, tm5_10, tm5_11, tm5_12, tm5_13, tm5_14, tm5_15, tm5_16, tm5_17, tm5_18, tm5_19, tm5_20, tm5_21, tm5_22, tm5_23, tm5_24, tm5_25, tm5_26, tm5_27, tm5_28, tm5_29, tm5_30, tm5_31, tm5_32, tm5_33, tm5_34, tm5_35, tm5_36, tm5_37, tm5_38, tm5_39, tm5_40, tm5_41, tm5_42, tm5_43, tm5_44, tm5_45, tm5_46, tm5_47, tm5_48, tm5_49, tm5_50, tm5_51, tm5_52, tm5_53, tm5_54, tm5_55, tm5_56, tm5_57, tm5_58, tm5_59, tm5_60, tm5_61, tm5_62, tm5_63, tm5_64, tm5_65, tm5_66, tm5_67, tm5_68, tm5_69, tm5_70, tm5_71, tm5_72, tm5_73, tm5_74, tm5_75, tm5_76, tm5_77, tm5_78, tm5_79, tm5_80, tm5_81, tm5_82, tm5_83, tm5_84, tm5_85, tm5_86, tm5_87, tm5_88, tm5_89, tm5_90, tm5_91, tm5_92, tm5_93, tm5_94, tm5_95, tm5_96, tm5_97, tm5_98, tm5_99, tm5_100, tm5_101, tm5_102, tm5_103, tm5_104, tm5_105, tm5_106, tm5_107, tm5_108, tm5_109, tm5_110, tm5_111, tm5_112, tm5_113, tm5_114, tm5_115, tm5_116, tm5_117, tm5_118, tm5_119, Dn, D2, D3, D4, D5, Nat.reduceAdd]
  simp only [Int.cast_ofNat_Int, Int.reduceMul, Int.reduceAdd]
  grind
