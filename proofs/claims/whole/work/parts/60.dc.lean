theorem dc1_0 (A : Nat → Nat → Int) : dtC A 1 1 0 = Dn (fun r c => A c r) 1 := by
  rw [show dtC A 1 1 0 = (0 + (1 : Int) * A 0 0 * dtC A 1 0 1) from rfl]
  rw [show dtC A 1 0 1 = 1 from rfl]
  simp only [Dn, D1, Nat.reduceAdd]
  grind
theorem dc2_2 (A : Nat → Nat → Int) : dtC A 2 1 2 = D1 (fun r c => A c r) 1 0 := by
  rw [show dtC A 2 1 2 = (0 + (1 : Int) * A 0 1 * dtC A 2 0 3) from rfl]
  rw [show dtC A 2 0 3 = 1 from rfl]
  simp only [D1, Nat.reduceAdd]
  grind
theorem dc2_1 (A : Nat → Nat → Int) : dtC A 2 1 1 = D1 (fun r c => A c r) 1 1 := by
  rw [show dtC A 2 1 1 = (0 + (1 : Int) * A 1 1 * dtC A 2 0 3) from rfl]
  rw [show dtC A 2 0 3 = 1 from rfl]
  simp only [D1, Nat.reduceAdd]
  grind
theorem dc2_0 (A : Nat → Nat → Int) : dtC A 2 2 0 = Dn (fun r c => A c r) 2 := by
  rw [show dtC A 2 2 0 = ((0 + (1 : Int) * A 0 0 * dtC A 2 1 1) + (-(1 : Int)) * A 1 0 * dtC A 2 1 2) from rfl, dc2_1, dc2_2]
  simp only [Dn, D2, D1, Nat.reduceAdd]
  grind
theorem dc3_6 (A : Nat → Nat → Int) : dtC A 3 1 6 = D1 (fun r c => A c r) 2 0 := by
  rw [show dtC A 3 1 6 = (0 + (1 : Int) * A 0 2 * dtC A 3 0 7) from rfl]
  rw [show dtC A 3 0 7 = 1 from rfl]
  simp only [D1, Nat.reduceAdd]
  grind
theorem dc3_5 (A : Nat → Nat → Int) : dtC A 3 1 5 = D1 (fun r c => A c r) 2 1 := by
  rw [show dtC A 3 1 5 = (0 + (1 : Int) * A 1 2 * dtC A 3 0 7) from rfl]
  rw [show dtC A 3 0 7 = 1 from rfl]
  simp only [D1, Nat.reduceAdd]
  grind
theorem dc3_3 (A : Nat → Nat → Int) : dtC A 3 1 3 = D1 (fun r c => A c r) 2 2 := by
  rw [show dtC A 3 1 3 = (0 + (1 : Int) * A 2 2 * dtC A 3 0 7) from rfl]
  rw [show dtC A 3 0 7 = 1 from rfl]
  simp only [D1, Nat.reduceAdd]
  grind
theorem dc3_4 (A : Nat → Nat → Int) : dtC A 3 2 4 = D2 (fun r c => A c r) 1 0 1 := by
  rw [show dtC A 3 2 4 = ((0 + (1 : Int) * A 0 1 * dtC A 3 1 5) + (-(1 : Int)) * A 1 1 * dtC A 3 1 6) from rfl, dc3_5, dc3_6]
  simp only [D2, D1, Nat.reduceAdd]
  grind
theorem dc3_2 (A : Nat → Nat → Int) : dtC A 3 2 2 = D2 (fun r c => A c r) 1 0 2 := by
  rw [show dtC A 3 2 2 = ((0 + (1 : Int) * A 0 1 * dtC A 3 1 3) + (-(1 : Int)) * A 2 1 * dtC A 3 1 6) from rfl, dc3_3, dc3_6]
  simp only [D2, D1, Nat.reduceAdd]
  grind
theorem dc3_1 (A : Nat → Nat → Int) : dtC A 3 2 1 = D2 (fun r c => A c r) 1 1 2 := by
  rw [show dtC A 3 2 1 = ((0 + (1 : Int) * A 1 1 * dtC A 3 1 3) + (-(1 : Int)) * A 2 1 * dtC A 3 1 5) from rfl, dc3_3, dc3_5]
  simp only [D2, D1, Nat.reduceAdd]
  grind
theorem dc3_0 (A : Nat → Nat → Int) : dtC A 3 3 0 = Dn (fun r c => A c r) 3 := by
  rw [show dtC A 3 3 0 = (((0 + (1 : Int) * A 0 0 * dtC A 3 2 1) + (-(1 : Int)) * A 1 0 * dtC A 3 2 2) + (-(-(1 : Int))) * A 2 0 * dtC A 3 2 4) from rfl, dc3_1, dc3_2, dc3_4]
  simp only [Dn, D3, Nat.reduceAdd]
  grind
theorem dc4_14 (A : Nat → Nat → Int) : dtC A 4 1 14 = D1 (fun r c => A c r) 3 0 := by
  rw [show dtC A 4 1 14 = (0 + (1 : Int) * A 0 3 * dtC A 4 0 15) from rfl]
  rw [show dtC A 4 0 15 = 1 from rfl]
  simp only [D1, Nat.reduceAdd]
  grind
theorem dc4_13 (A : Nat → Nat → Int) : dtC A 4 1 13 = D1 (fun r c => A c r) 3 1 := by
  rw [show dtC A 4 1 13 = (0 + (1 : Int) * A 1 3 * dtC A 4 0 15) from rfl]
  rw [show dtC A 4 0 15 = 1 from rfl]
  simp only [D1, Nat.reduceAdd]
  grind
theorem dc4_11 (A : Nat → Nat → Int) : dtC A 4 1 11 = D1 (fun r c => A c r) 3 2 := by
  rw [show dtC A 4 1 11 = (0 + (1 : Int) * A 2 3 * dtC A 4 0 15) from rfl]
  rw [show dtC A 4 0 15 = 1 from rfl]
  simp only [D1, Nat.reduceAdd]
  grind
theorem dc4_7 (A : Nat → Nat → Int) : dtC A 4 1 7 = D1 (fun r c => A c r) 3 3 := by
  rw [show dtC A 4 1 7 = (0 + (1 : Int) * A 3 3 * dtC A 4 0 15) from rfl]
  rw [show dtC A 4 0 15 = 1 from rfl]
  simp only [D1, Nat.reduceAdd]
  grind
theorem dc4_12 (A : Nat → Nat → Int) : dtC A 4 2 12 = D2 (fun r c => A c r) 2 0 1 := by
  rw [show dtC A 4 2 12 = ((0 + (1 : Int) * A 0 2 * dtC A 4 1 13) + (-(1 : Int)) * A 1 2 * dtC A 4 1 14) from rfl, dc4_13, dc4_14]
  simp only [D2, D1, Nat.reduceAdd]
  grind
theorem dc4_10 (A : Nat → Nat → Int) : dtC A 4 2 10 = D2 (fun r c => A c r) 2 0 2 := by
  rw [show dtC A 4 2 10 = ((0 + (1 : Int) * A 0 2 * dtC A 4 1 11) + (-(1 : Int)) * A 2 2 * dtC A 4 1 14) from rfl, dc4_11, dc4_14]
  simp only [D2, D1, Nat.reduceAdd]
  grind
theorem dc4_6 (A : Nat → Nat → Int) : dtC A 4 2 6 = D2 (fun r c => A c r) 2 0 3 := by
  rw [show dtC A 4 2 6 = ((0 + (1 : Int) * A 0 2 * dtC A 4 1 7) + (-(1 : Int)) * A 3 2 * dtC A 4 1 14) from rfl, dc4_7, dc4_14]
  simp only [D2, D1, Nat.reduceAdd]
  grind
theorem dc4_9 (A : Nat → Nat → Int) : dtC A 4 2 9 = D2 (fun r c => A c r) 2 1 2 := by
  rw [show dtC A 4 2 9 = ((0 + (1 : Int) * A 1 2 * dtC A 4 1 11) + (-(1 : Int)) * A 2 2 * dtC A 4 1 13) from rfl, dc4_11, dc4_13]
  simp only [D2, D1, Nat.reduceAdd]
  grind
theorem dc4_5 (A : Nat → Nat → Int) : dtC A 4 2 5 = D2 (fun r c => A c r) 2 1 3 := by
  rw [show dtC A 4 2 5 = ((0 + (1 : Int) * A 1 2 * dtC A 4 1 7) + (-(1 : Int)) * A 3 2 * dtC A 4 1 13) from rfl, dc4_7, dc4_13]
  simp only [D2, D1, Nat.reduceAdd]
  grind
theorem dc4_3 (A : Nat → Nat → Int) : dtC A 4 2 3 = D2 (fun r c => A c r) 2 2 3 := by
  rw [show dtC A 4 2 3 = ((0 + (1 : Int) * A 2 2 * dtC A 4 1 7) + (-(1 : Int)) * A 3 2 * dtC A 4 1 11) from rfl, dc4_7, dc4_11]
  simp only [D2, D1, Nat.reduceAdd]
  grind
theorem dc4_8 (A : Nat → Nat → Int) : dtC A 4 3 8 = D3 (fun r c => A c r) 1 0 1 2 := by
  rw [show dtC A 4 3 8 = (((0 + (1 : Int) * A 0 1 * dtC A 4 2 9) + (-(1 : Int)) * A 1 1 * dtC A 4 2 10) + (-(-(1 : Int))) * A 2 1 * dtC A 4 2 12) from rfl, dc4_9, dc4_10, dc4_12]
  simp only [D3, Nat.reduceAdd]
  grind
theorem dc4_4 (A : Nat → Nat → Int) : dtC A 4 3 4 = D3 (fun r c => A c r) 1 0 1 3 := by
  rw [show dtC A 4 3 4 = (((0 + (1 : Int) * A 0 1 * dtC A 4 2 5) + (-(1 : Int)) * A 1 1 * dtC A 4 2 6) + (-(-(1 : Int))) * A 3 1 * dtC A 4 2 12) from rfl, dc4_5, dc4_6, dc4_12]
  simp only [D3, Nat.reduceAdd]
  grind
theorem dc4_2 (A : Nat → Nat → Int) : dtC A 4 3 2 = D3 (fun r c => A c r) 1 0 2 3 := by
  rw [show dtC A 4 3 2 = (((0 + (1 : Int) * A 0 1 * dtC A 4 2 3) + (-(1 : Int)) * A 2 1 * dtC A 4 2 6) + (-(-(1 : Int))) * A 3 1 * dtC A 4 2 10) from rfl, dc4_3, dc4_6, dc4_10]
  simp only [D3, Nat.reduceAdd]
  grind
theorem dc4_1 (A : Nat → Nat → Int) : dtC A 4 3 1 = D3 (fun r c => A c r) 1 1 2 3 := by
  rw [show dtC A 4 3 1 = (((0 + (1 : Int) * A 1 1 * dtC A 4 2 3) + (-(1 : Int)) * A 2 1 * dtC A 4 2 5) + (-(-(1 : Int))) * A 3 1 * dtC A 4 2 9) from rfl, dc4_3, dc4_5, dc4_9]
  simp only [D3, Nat.reduceAdd]
  grind
theorem dc4_0 (A : Nat → Nat → Int) : dtC A 4 4 0 = Dn (fun r c => A c r) 4 := by
  rw [show dtC A 4 4 0 = ((((0 + (1 : Int) * A 0 0 * dtC A 4 3 1) + (-(1 : Int)) * A 1 0 * dtC A 4 3 2) + (-(-(1 : Int))) * A 2 0 * dtC A 4 3 4) + (-(-(-(1 : Int)))) * A 3 0 * dtC A 4 3 8) from rfl, dc4_1, dc4_2, dc4_4, dc4_8]
  simp only [Dn, D4, Nat.reduceAdd]
  grind
theorem dc5_30 (A : Nat → Nat → Int) : dtC A 5 1 30 = D1 (fun r c => A c r) 4 0 := by
  rw [show dtC A 5 1 30 = (0 + (1 : Int) * A 0 4 * dtC A 5 0 31) from rfl]
  rw [show dtC A 5 0 31 = 1 from rfl]
  simp only [D1, Nat.reduceAdd]
  grind
theorem dc5_29 (A : Nat → Nat → Int) : dtC A 5 1 29 = D1 (fun r c => A c r) 4 1 := by
  rw [show dtC A 5 1 29 = (0 + (1 : Int) * A 1 4 * dtC A 5 0 31) from rfl]
  rw [show dtC A 5 0 31 = 1 from rfl]
  simp only [D1, Nat.reduceAdd]
  grind
theorem dc5_27 (A : Nat → Nat → Int) : dtC A 5 1 27 = D1 (fun r c => A c r) 4 2 := by
  rw [show dtC A 5 1 27 = (0 + (1 : Int) * A 2 4 * dtC A 5 0 31) from rfl]
  rw [show dtC A 5 0 31 = 1 from rfl]
  simp only [D1, Nat.reduceAdd]
  grind
theorem dc5_23 (A : Nat → Nat → Int) : dtC A 5 1 23 = D1 (fun r c => A c r) 4 3 := by
  rw [show dtC A 5 1 23 = (0 + (1 : Int) * A 3 4 * dtC A 5 0 31) from rfl]
  rw [show dtC A 5 0 31 = 1 from rfl]
  simp only [D1, Nat.reduceAdd]
  grind
theorem dc5_15 (A : Nat → Nat → Int) : dtC A 5 1 15 = D1 (fun r c => A c r) 4 4 := by
  rw [show dtC A 5 1 15 = (0 + (1 : Int) * A 4 4 * dtC A 5 0 31) from rfl]
  rw [show dtC A 5 0 31 = 1 from rfl]
  simp only [D1, Nat.reduceAdd]
  grind
theorem dc5_28 (A : Nat → Nat → Int) : dtC A 5 2 28 = D2 (fun r c => A c r) 3 0 1 := by
  rw [show dtC A 5 2 28 = ((0 + (1 : Int) * A 0 3 * dtC A 5 1 29) + (-(1 : Int)) * A 1 3 * dtC A 5 1 30) from rfl, dc5_29, dc5_30]
  simp only [D2, D1, Nat.reduceAdd]
  grind
theorem dc5_26 (A : Nat → Nat → Int) : dtC A 5 2 26 = D2 (fun r c => A c r) 3 0 2 := by
  rw [show dtC A 5 2 26 = ((0 + (1 : Int) * A 0 3 * dtC A 5 1 27) + (-(1 : Int)) * A 2 3 * dtC A 5 1 30) from rfl, dc5_27, dc5_30]
  simp only [D2, D1, Nat.reduceAdd]
  grind
theorem dc5_22 (A : Nat → Nat → Int) : dtC A 5 2 22 = D2 (fun r c => A c r) 3 0 3 := by
  rw [show dtC A 5 2 22 = ((0 + (1 : Int) * A 0 3 * dtC A 5 1 23) + (-(1 : Int)) * A 3 3 * dtC A 5 1 30) from rfl, dc5_23, dc5_30]
  simp only [D2, D1, Nat.reduceAdd]
  grind
theorem dc5_14 (A : Nat → Nat → Int) : dtC A 5 2 14 = D2 (fun r c => A c r) 3 0 4 := by
  rw [show dtC A 5 2 14 = ((0 + (1 : Int) * A 0 3 * dtC A 5 1 15) + (-(1 : Int)) * A 4 3 * dtC A 5 1 30) from rfl, dc5_15, dc5_30]
  simp only [D2, D1, Nat.reduceAdd]
  grind
theorem dc5_25 (A : Nat → Nat → Int) : dtC A 5 2 25 = D2 (fun r c => A c r) 3 1 2 := by
  rw [show dtC A 5 2 25 = ((0 + (1 : Int) * A 1 3 * dtC A 5 1 27) + (-(1 : Int)) * A 2 3 * dtC A 5 1 29) from rfl, dc5_27, dc5_29]
  simp only [D2, D1, Nat.reduceAdd]
  grind
theorem dc5_21 (A : Nat → Nat → Int) : dtC A 5 2 21 = D2 (fun r c => A c r) 3 1 3 := by
  rw [show dtC A 5 2 21 = ((0 + (1 : Int) * A 1 3 * dtC A 5 1 23) + (-(1 : Int)) * A 3 3 * dtC A 5 1 29) from rfl, dc5_23, dc5_29]
  simp only [D2, D1, Nat.reduceAdd]
  grind
theorem dc5_13 (A : Nat → Nat → Int) : dtC A 5 2 13 = D2 (fun r c => A c r) 3 1 4 := by
  rw [show dtC A 5 2 13 = ((0 + (1 : Int) * A 1 3 * dtC A 5 1 15) + (-(1 : Int)) * A 4 3 * dtC A 5 1 29) from rfl, dc5_15, dc5_29]
  simp only [D2, D1, Nat.reduceAdd]
  grind
theorem dc5_19 (A : Nat → Nat → Int) : dtC A 5 2 19 = D2 (fun r c => A c r) 3 2 3 := by
  rw [show dtC A 5 2 19 = ((0 + (1 : Int) * A 2 3 * dtC A 5 1 23) + (-(1 : Int)) * A 3 3 * dtC A 5 1 27) from rfl, dc5_23, dc5_27]
  simp only [D2, D1, Nat.reduceAdd]
  grind
theorem dc5_11 (A : Nat → Nat → Int) : dtC A 5 2 11 = D2 (fun r c => A c r) 3 2 4 := by
  rw [show dtC A 5 2 11 = ((0 + (1 : Int) * A 2 3 * dtC A 5 1 15) + (-(1 : Int)) * A 4 3 * dtC A 5 1 27) from rfl, dc5_15, dc5_27]
  simp only [D2, D1, Nat.reduceAdd]
  grind
theorem dc5_7 (A : Nat → Nat → Int) : dtC A 5 2 7 = D2 (fun r c => A c r) 3 3 4 := by
  rw [show dtC A 5 2 7 = ((0 + (1 : Int) * A 3 3 * dtC A 5 1 15) + (-(1 : Int)) * A 4 3 * dtC A 5 1 23) from rfl, dc5_15, dc5_23]
  simp only [D2, D1, Nat.reduceAdd]
  grind
theorem dc5_24 (A : Nat → Nat → Int) : dtC A 5 3 24 = D3 (fun r c => A c r) 2 0 1 2 := by
  rw [show dtC A 5 3 24 = (((0 + (1 : Int) * A 0 2 * dtC A 5 2 25) + (-(1 : Int)) * A 1 2 * dtC A 5 2 26) + (-(-(1 : Int))) * A 2 2 * dtC A 5 2 28) from rfl, dc5_25, dc5_26, dc5_28]
  simp only [D3, Nat.reduceAdd]
  grind
theorem dc5_20 (A : Nat → Nat → Int) : dtC A 5 3 20 = D3 (fun r c => A c r) 2 0 1 3 := by
  rw [show dtC A 5 3 20 = (((0 + (1 : Int) * A 0 2 * dtC A 5 2 21) + (-(1 : Int)) * A 1 2 * dtC A 5 2 22) + (-(-(1 : Int))) * A 3 2 * dtC A 5 2 28) from rfl, dc5_21, dc5_22, dc5_28]
  simp only [D3, Nat.reduceAdd]
  grind
theorem dc5_12 (A : Nat → Nat → Int) : dtC A 5 3 12 = D3 (fun r c => A c r) 2 0 1 4 := by
  rw [show dtC A 5 3 12 = (((0 + (1 : Int) * A 0 2 * dtC A 5 2 13) + (-(1 : Int)) * A 1 2 * dtC A 5 2 14) + (-(-(1 : Int))) * A 4 2 * dtC A 5 2 28) from rfl, dc5_13, dc5_14, dc5_28]
  simp only [D3, Nat.reduceAdd]
  grind
theorem dc5_18 (A : Nat → Nat → Int) : dtC A 5 3 18 = D3 (fun r c => A c r) 2 0 2 3 := by
  rw [show dtC A 5 3 18 = (((0 + (1 : Int) * A 0 2 * dtC A 5 2 19) + (-(1 : Int)) * A 2 2 * dtC A 5 2 22) + (-(-(1 : Int))) * A 3 2 * dtC A 5 2 26) from rfl, dc5_19, dc5_22, dc5_26]
  simp only [D3, Nat.reduceAdd]
  grind
theorem dc5_10 (A : Nat → Nat → Int) : dtC A 5 3 10 = D3 (fun r c => A c r) 2 0 2 4 := by
  rw [show dtC A 5 3 10 = (((0 + (1 : Int) * A 0 2 * dtC A 5 2 11) + (-(1 : Int)) * A 2 2 * dtC A 5 2 14) + (-(-(1 : Int))) * A 4 2 * dtC A 5 2 26) from rfl, dc5_11, dc5_14, dc5_26]
  simp only [D3, Nat.reduceAdd]
  grind
theorem dc5_6 (A : Nat → Nat → Int) : dtC A 5 3 6 = D3 (fun r c => A c r) 2 0 3 4 := by
  rw [show dtC A 5 3 6 = (((0 + (1 : Int) * A 0 2 * dtC A 5 2 7) + (-(1 : Int)) * A 3 2 * dtC A 5 2 14) + (-(-(1 : Int))) * A 4 2 * dtC A 5 2 22) from rfl, dc5_7, dc5_14, dc5_22]
  simp only [D3, Nat.reduceAdd]
  grind
theorem dc5_17 (A : Nat → Nat → Int) : dtC A 5 3 17 = D3 (fun r c => A c r) 2 1 2 3 := by
  rw [show dtC A 5 3 17 = (((0 + (1 : Int) * A 1 2 * dtC A 5 2 19) + (-(1 : Int)) * A 2 2 * dtC A 5 2 21) + (-(-(1 : Int))) * A 3 2 * dtC A 5 2 25) from rfl, dc5_19, dc5_21, dc5_25]
  simp only [D3, Nat.reduceAdd]
  grind
theorem dc5_9 (A : Nat → Nat → Int) : dtC A 5 3 9 = D3 (fun r c => A c r) 2 1 2 4 := by
  rw [show dtC A 5 3 9 = (((0 + (1 : Int) * A 1 2 * dtC A 5 2 11) + (-(1 : Int)) * A 2 2 * dtC A 5 2 13) + (-(-(1 : Int))) * A 4 2 * dtC A 5 2 25) from rfl, dc5_11, dc5_13, dc5_25]
  simp only [D3, Nat.reduceAdd]
  grind
theorem dc5_5 (A : Nat → Nat → Int) : dtC A 5 3 5 = D3 (fun r c => A c r) 2 1 3 4 := by
  rw [show dtC A 5 3 5 = (((0 + (1 : Int) * A 1 2 * dtC A 5 2 7) + (-(1 : Int)) * A 3 2 * dtC A 5 2 13) + (-(-(1 : Int))) * A 4 2 * dtC A 5 2 21) from rfl, dc5_7, dc5_13, dc5_21]
  simp only [D3, Nat.reduceAdd]
  grind
theorem dc5_3 (A : Nat → Nat → Int) : dtC A 5 3 3 = D3 (fun r c => A c r) 2 2 3 4 := by
  rw [show dtC A 5 3 3 = (((0 + (1 : Int) * A 2 2 * dtC A 5 2 7) + (-(1 : Int)) * A 3 2 * dtC A 5 2 11) + (-(-(1 : Int))) * A 4 2 * dtC A 5 2 19) from rfl, dc5_7, dc5_11, dc5_19]
  simp only [D3, Nat.reduceAdd]
  grind
theorem dc5_16 (A : Nat → Nat → Int) : dtC A 5 4 16 = D4 (fun r c => A c r) 1 0 1 2 3 := by
  rw [show dtC A 5 4 16 = ((((0 + (1 : Int) * A 0 1 * dtC A 5 3 17) + (-(1 : Int)) * A 1 1 * dtC A 5 3 18) + (-(-(1 : Int))) * A 2 1 * dtC A 5 3 20) + (-(-(-(1 : Int)))) * A 3 1 * dtC A 5 3 24) from rfl, dc5_17, dc5_18, dc5_20, dc5_24]
  simp only [D4, Nat.reduceAdd]
  grind
theorem dc5_8 (A : Nat → Nat → Int) : dtC A 5 4 8 = D4 (fun r c => A c r) 1 0 1 2 4 := by
  rw [show dtC A 5 4 8 = ((((0 + (1 : Int) * A 0 1 * dtC A 5 3 9) + (-(1 : Int)) * A 1 1 * dtC A 5 3 10) + (-(-(1 : Int))) * A 2 1 * dtC A 5 3 12) + (-(-(-(1 : Int)))) * A 4 1 * dtC A 5 3 24) from rfl, dc5_9, dc5_10, dc5_12, dc5_24]
  simp only [D4, Nat.reduceAdd]
  grind
theorem dc5_4 (A : Nat → Nat → Int) : dtC A 5 4 4 = D4 (fun r c => A c r) 1 0 1 3 4 := by
  rw [show dtC A 5 4 4 = ((((0 + (1 : Int) * A 0 1 * dtC A 5 3 5) + (-(1 : Int)) * A 1 1 * dtC A 5 3 6) + (-(-(1 : Int))) * A 3 1 * dtC A 5 3 12) + (-(-(-(1 : Int)))) * A 4 1 * dtC A 5 3 20) from rfl, dc5_5, dc5_6, dc5_12, dc5_20]
  simp only [D4, Nat.reduceAdd]
  grind
theorem dc5_2 (A : Nat → Nat → Int) : dtC A 5 4 2 = D4 (fun r c => A c r) 1 0 2 3 4 := by
  rw [show dtC A 5 4 2 = ((((0 + (1 : Int) * A 0 1 * dtC A 5 3 3) + (-(1 : Int)) * A 2 1 * dtC A 5 3 6) + (-(-(1 : Int))) * A 3 1 * dtC A 5 3 10) + (-(-(-(1 : Int)))) * A 4 1 * dtC A 5 3 18) from rfl, dc5_3, dc5_6, dc5_10, dc5_18]
  simp only [D4, Nat.reduceAdd]
  grind
theorem dc5_1 (A : Nat → Nat → Int) : dtC A 5 4 1 = D4 (fun r c => A c r) 1 1 2 3 4 := by
  rw [show dtC A 5 4 1 = ((((0 + (1 : Int) * A 1 1 * dtC A 5 3 3) + (-(1 : Int)) * A 2 1 * dtC A 5 3 5) + (-(-(1 : Int))) * A 3 1 * dtC A 5 3 9) + (-(-(-(1 : Int)))) * A 4 1 * dtC A 5 3 17) from rfl, dc5_3, dc5_5, dc5_9, dc5_17]
  simp only [D4, Nat.reduceAdd]
  grind
theorem dc5_0 (A : Nat → Nat → Int) : dtC A 5 5 0 = Dn (fun r c => A c r) 5 := by
  rw [show dtC A 5 5 0 = (((((0 + (1 : Int) * A 0 0 * dtC A 5 4 1) + (-(1 : Int)) * A 1 0 * dtC A 5 4 2) + (-(-(1 : Int))) * A 2 0 * dtC A 5 4 4) + (-(-(-(1 : Int)))) * A 3 0 * dtC A 5 4 8) + (-(-(-(-(1 : Int))))) * A 4 0 * dtC A 5 4 16) from rfl, dc5_1, dc5_2, dc5_4, dc5_8, dc5_16]
  simp only [Dn, D5, Nat.reduceAdd]
  grind
