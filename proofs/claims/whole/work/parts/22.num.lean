theorem td_bd {x y A : Int} (hy : 1 ≤ y) (h1 : -A ≤ x) (h2 : x ≤ A) : -A ≤ x.tdiv y ∧ x.tdiv y ≤ A := by
  rcases Int.le_total 0 x with h | h
  · rw [Int.tdiv_eq_ediv_of_nonneg h]
    have a := Int.ediv_nonneg h (show (0 : Int) ≤ y by omega)
    have b := Int.ediv_le_self y h
    omega
  · have e : x.tdiv y = -((-x).tdiv y) := by rw [Int.neg_tdiv, Int.neg_neg]
    rw [e, Int.tdiv_eq_ediv_of_nonneg (show (0 : Int) ≤ -x by omega)]
    have a := Int.ediv_nonneg (show (0 : Int) ≤ -x by omega) (show (0 : Int) ≤ y by omega)
    have b := Int.ediv_le_self y (show (0 : Int) ≤ -x by omega)
    omega
theorem td_le {x y Y K : Int} (hY : 1 ≤ Y) (hy : Y ≤ y) (h1 : -(K * Y) ≤ x) (h2 : x ≤ K * Y) : -K ≤ x.tdiv y ∧ x.tdiv y ≤ K := by
  have key : ∀ u : Int, 0 ≤ u → u ≤ K * Y → 0 ≤ u / y ∧ u / y ≤ K := by
    intro u hu hk
    refine ⟨Int.ediv_nonneg hu (by omega), ?_⟩
    have hK : 0 ≤ K := by
      rcases Int.lt_or_le K 0 with q | q
      · have := Int.mul_neg_of_neg_of_pos q (show (0 : Int) < Y by omega)
        omega
      · exact q
    have hm : K * Y ≤ K * y := Int.mul_le_mul_of_nonneg_left hy hK
    exact Int.ediv_le_of_le_mul (by omega) (by omega)
  rcases Int.le_total 0 x with h | h
  · rw [Int.tdiv_eq_ediv_of_nonneg h]
    have := key x h h2
    omega
  · have e : x.tdiv y = -((-x).tdiv y) := by rw [Int.neg_tdiv, Int.neg_neg]
    rw [e, Int.tdiv_eq_ediv_of_nonneg (show (0 : Int) ≤ -x by omega)]
    have := key (-x) (by omega) (by omega)
    omega
theorem mul_bd {x y A B : Int} (h1 : -A ≤ x) (h2 : x ≤ A) (h3 : -B ≤ y) (h4 : y ≤ B) : -(A * B) ≤ x * y ∧ x * y ≤ A * B := by
  have hA : x.natAbs ≤ A.natAbs := by omega
  have hB : y.natAbs ≤ B.natAbs := by omega
  have hm := Nat.mul_le_mul hA hB
  rw [← Int.natAbs_mul, ← Int.natAbs_mul] at hm
  have h0 : 0 ≤ A * B := Int.mul_nonneg (by omega) (by omega)
  omega
theorem mul_nn {x y A B : Int} (h1 : 0 ≤ x) (h2 : x ≤ A) (h3 : 0 ≤ y) (h4 : y ≤ B) : 0 ≤ x * y ∧ x * y ≤ A * B :=
  ⟨Int.mul_nonneg h1 h3, Int.mul_le_mul h2 h4 h3 (by omega)⟩
theorem mul_p {x y A B : Int} (h1 : 1 ≤ x) (h2 : x ≤ A) (h3 : 1 ≤ y) (h4 : y ≤ B) : 1 ≤ x * y ∧ x * y ≤ A * B := by
  refine ⟨?_, (mul_nn (by omega) h2 (by omega) h4).2⟩
  have := Int.mul_pos (show (0 : Int) < x by omega) (show (0 : Int) < y by omega)
  omega
theorem drop_bd (a : Int) : 0 ≤ dropZ a ∧ dropZ a ≤ 40 := by
  unfold dropZ
  repeat' split
  all_goals omega
def rgtD (n0 n1 n2 n3 n4 r w : Int) : Int := ((r + n0 + (r + n0 - n2).tdiv n1 + dropZ n3) * (100000 + n4 * w)).tdiv (100000 + 18 * w)
def rgt (n0 n1 n2 n3 n4 n5 u l r w : Int) : Int := if n5 - rgtD n0 n1 n2 n3 n4 r w ≤ 0 then rgtD n0 n1 n2 n3 n4 r w else (rgtD n0 n1 n2 n3 n4 r w * (l * (n5 - rgtD n0 n1 n2 n3 n4 r w)) + u).tdiv (l * (n5 - rgtD n0 n1 n2 n3 n4 r w))
/-- the six numbers of a glass are as told -/
abbrev numOk (n0 n1 n2 n3 n4 n5 : Int) : Prop := -50 ≤ n0 ∧ n0 ≤ 50 ∧ 10 ≤ n1 ∧ n1 ≤ 1000 ∧ 6000 ≤ n2 ∧ n2 ≤ 8000 ∧ 1 ≤ n3 ∧ n3 ≤ 10 ∧ 0 ≤ n4 ∧ n4 ≤ 30 ∧ 8000 ≤ n5 ∧ n5 ≤ 12000
theorem rgtD_bd {n0 n1 n2 n3 n4 n5 r w : Int} (hn : numOk n0 n1 n2 n3 n4 n5) (hr : 0 ≤ r) (hr' : r ≤ 12000) (hw : -30 ≤ w) (hw' : w ≤ 50) : -14000 ≤ rgtD n0 n1 n2 n3 n4 r w ∧ rgtD n0 n1 n2 n3 n4 r w ≤ 14000 := by
  unfold rgtD
  have a1 := td_le (x := r + n0 - n2) (y := n1) (Y := 10) (K := 810) (by omega) (by omega) (by omega) (by omega)
  have a2 := drop_bd n3
  have a3 := mul_bd (x := n4) (y := w) (A := 30) (B := 50) (by omega) (by omega) (by omega) (by omega)
  have a4 := mul_bd (x := r + n0 + (r + n0 - n2).tdiv n1 + dropZ n3) (y := 100000 + n4 * w) (A := 13000) (B := 101500) (by omega) (by omega) (by omega) (by omega)
  exact td_le (Y := 99460) (by omega) (by omega) (by omega) (by omega)
