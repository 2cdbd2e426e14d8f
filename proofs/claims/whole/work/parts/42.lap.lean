theorem Dn_tr (A : Nat → Nat → Int) {w : Nat} (h : w ≤ 5) : Dn A w = Dn (fun r c => A c r) w := by
  rcases (show w = 0 ∨ w = 1 ∨ w = 2 ∨ w = 3 ∨ w = 4 ∨ w = 5 by omega) with rfl | rfl | rfl | rfl | rfl | rfl
  · rfl
  · rfl
  all_goals simp only [Dn, D2, D3, D4, D5, Nat.reduceAdd]; grind
theorem Dn_congr {A B : Nat → Nat → Int} {w : Nat} (hw : w ≤ 5) (h : ∀ r c : Nat, r < w → c < w → A r c = B r c) : Dn A w = Dn B w := by
  rcases (show w = 0 ∨ w = 1 ∨ w = 2 ∨ w = 3 ∨ w = 4 ∨ w = 5 by omega) with rfl | rfl | rfl | rfl | rfl | rfl
  · rfl
  · simp only [Dn, D2, D3, D4, D5, Nat.reduceAdd, h 0 0 (by omega) (by omega)]
  · simp only [Dn, D2, D3, D4, D5, Nat.reduceAdd, h 0 0 (by omega) (by omega), h 0 1 (by omega) (by omega), h 1 0 (by omega) (by omega), h 1 1 (by omega) (by omega)]
  · simp only [Dn, D2, D3, D4, D5, Nat.reduceAdd, h 0 0 (by omega) (by omega), h 0 1 (by omega) (by omega), h 0 2 (by omega) (by omega), h 1 0 (by omega) (by omega), h 1 1 (by omega) (by omega), h 1 2 (by omega) (by omega), h 2 0 (by omega) (by omega), h 2 1 (by omega) (by omega), h 2 2 (by omega) (by omega)]
  · simp only [Dn, D2, D3, D4, D5, Nat.reduceAdd, h 0 0 (by omega) (by omega), h 0 1 (by omega) (by omega), h 0 2 (by omega) (by omega), h 0 3 (by omega) (by omega), h 1 0 (by omega) (by omega), h 1 1 (by omega) (by omega), h 1 2 (by omega) (by omega), h 1 3 (by omega) (by omega), h 2 0 (by omega) (by omega), h 2 1 (by omega) (by omega), h 2 2 (by omega) (by omega), h 2 3 (by omega) (by omega), h 3 0 (by omega) (by omega), h 3 1 (by omega) (by omega), h 3 2 (by omega) (by omega), h 3 3 (by omega) (by omega)]
  · simp only [Dn, D2, D3, D4, D5, Nat.reduceAdd, h 0 0 (by omega) (by omega), h 0 1 (by omega) (by omega), h 0 2 (by omega) (by omega), h 0 3 (by omega) (by omega), h 0 4 (by omega) (by omega), h 1 0 (by omega) (by omega), h 1 1 (by omega) (by omega), h 1 2 (by omega) (by omega), h 1 3 (by omega) (by omega), h 1 4 (by omega) (by omega), h 2 0 (by omega) (by omega), h 2 1 (by omega) (by omega), h 2 2 (by omega) (by omega), h 2 3 (by omega) (by omega), h 2 4 (by omega) (by omega), h 3 0 (by omega) (by omega), h 3 1 (by omega) (by omega), h 3 2 (by omega) (by omega), h 3 3 (by omega) (by omega), h 3 4 (by omega) (by omega), h 4 0 (by omega) (by omega), h 4 1 (by omega) (by omega), h 4 2 (by omega) (by omega), h 4 3 (by omega) (by omega), h 4 4 (by omega) (by omega)]
theorem nb_mul {x y : Int} {X Y : Nat} (h1 : x.natAbs ≤ X) (h2 : y.natAbs ≤ Y) : (x * y).natAbs ≤ X * Y := by
  rw [Int.natAbs_mul]
  exact Nat.mul_le_mul h1 h2
theorem D2_bd {A : Nat → Nat → Int} {M : Nat → Nat} {w r a b : Nat} (h : ∀ r c : Nat, r < w → c < w → (A r c).natAbs ≤ M c) (hr : r + 1 < w) (ha : a < w) (hb : b < w) : (D2 A r a b).natAbs ≤ 2 * (M a * M b) := by
  have h1 := nb_mul (h r a (by omega) ha) (h (r + 1) b hr hb)
  have h2 := nb_mul (h r b (by omega) hb) (h (r + 1) a hr ha)
  rw [Nat.mul_comm (M b)] at h2
  unfold D2
  omega
theorem D3_bd {A : Nat → Nat → Int} {M : Nat → Nat} {w r a b c : Nat} (h : ∀ r c : Nat, r < w → c < w → (A r c).natAbs ≤ M c) (hr : r + 2 < w) (ha : a < w) (hb : b < w) (hc : c < w) : (D3 A r a b c).natAbs ≤ 6 * (M a * M b * M c) := by
  have h1 := nb_mul (h r a (by omega) ha) (D2_bd h (r := r + 1) (by omega) hb hc)
  have h2 := nb_mul (h r b (by omega) hb) (D2_bd h (r := r + 1) (by omega) ha hc)
  have h3 := nb_mul (h r c (by omega) hc) (D2_bd h (r := r + 1) (by omega) ha hb)
  have e1 : M a * (2 * (M b * M c)) = 2 * (M a * M b * M c) := by grind
  have e2 : M b * (2 * (M a * M c)) = 2 * (M a * M b * M c) := by grind
  have e3 : M c * (2 * (M a * M b)) = 2 * (M a * M b * M c) := by grind
  unfold D3
  omega
theorem D4_bd {A : Nat → Nat → Int} {M : Nat → Nat} {w r a b c d : Nat} (h : ∀ r c : Nat, r < w → c < w → (A r c).natAbs ≤ M c) (hr : r + 3 < w) (ha : a < w) (hb : b < w) (hc : c < w) (hd : d < w) : (D4 A r a b c d).natAbs ≤ 24 * (M a * M b * M c * M d) := by
  have h1 := nb_mul (h r a (by omega) ha) (D3_bd h (r := r + 1) (by omega) hb hc hd)
  have h2 := nb_mul (h r b (by omega) hb) (D3_bd h (r := r + 1) (by omega) ha hc hd)
  have h3 := nb_mul (h r c (by omega) hc) (D3_bd h (r := r + 1) (by omega) ha hb hd)
  have h4 := nb_mul (h r d (by omega) hd) (D3_bd h (r := r + 1) (by omega) ha hb hc)
  have e1 : M a * (6 * (M b * M c * M d)) = 6 * (M a * M b * M c * M d) := by grind
  have e2 : M b * (6 * (M a * M c * M d)) = 6 * (M a * M b * M c * M d) := by grind
  have e3 : M c * (6 * (M a * M b * M d)) = 6 * (M a * M b * M c * M d) := by grind
  have e4 : M d * (6 * (M a * M b * M c)) = 6 * (M a * M b * M c * M d) := by grind
  unfold D4
  omega
theorem D5_bd {A : Nat → Nat → Int} {M : Nat → Nat} {a b c d e : Nat} (h : ∀ r c : Nat, r < 5 → c < 5 → (A r c).natAbs ≤ M c) (ha : a < 5) (hb : b < 5) (hc : c < 5) (hd : d < 5) (he : e < 5) : (D5 A 0 a b c d e).natAbs ≤ 120 * (M a * M b * M c * M d * M e) := by
  have h1 := nb_mul (h 0 a (by omega) ha) (D4_bd h (r := 0 + 1) (by omega) hb hc hd he)
  have h2 := nb_mul (h 0 b (by omega) hb) (D4_bd h (r := 0 + 1) (by omega) ha hc hd he)
  have h3 := nb_mul (h 0 c (by omega) hc) (D4_bd h (r := 0 + 1) (by omega) ha hb hd he)
  have h4 := nb_mul (h 0 d (by omega) hd) (D4_bd h (r := 0 + 1) (by omega) ha hb hc he)
  have h5 := nb_mul (h 0 e (by omega) he) (D4_bd h (r := 0 + 1) (by omega) ha hb hc hd)
  have e1 : M a * (24 * (M b * M c * M d * M e)) = 24 * (M a * M b * M c * M d * M e) := by grind
  have e2 : M b * (24 * (M a * M c * M d * M e)) = 24 * (M a * M b * M c * M d * M e) := by grind
  have e3 : M c * (24 * (M a * M b * M d * M e)) = 24 * (M a * M b * M c * M d * M e) := by grind
  have e4 : M d * (24 * (M a * M b * M c * M e)) = 24 * (M a * M b * M c * M d * M e) := by grind
  have e5 : M e * (24 * (M a * M b * M c * M d)) = 24 * (M a * M b * M c * M d * M e) := by grind
  unfold D5
  omega
/-- no entry above 108, but in one column 108000000 -/
theorem Dn_bd {A : Nat → Nat → Int} {w col : Nat} (hw : w ≤ 5) (h : ∀ r c : Nat, r < w → c < w → (A r c).natAbs ≤ if c = col then 108000000 else 108) : (Dn A w).natAbs ≤ 1763193692160000000 := by
  rcases (show w = 0 ∨ w = 1 ∨ w = 2 ∨ w = 3 ∨ w = 4 ∨ w = 5 by omega) with rfl | rfl | rfl | rfl | rfl | rfl
  · simp [Dn]
  · have := h 0 0 (by omega) (by omega)
    simp only [Dn]
    split at this <;> omega
  · have := D2_bd (r := 0) (a := 0) (b := 1) h (by omega) (by omega) (by omega)
    simp only [Dn]
    repeat' (split at this)
    all_goals omega
  · have := D3_bd (r := 0) (a := 0) (b := 1) (c := 2) h (by omega) (by omega) (by omega) (by omega)
    simp only [Dn]
    repeat' (split at this)
    all_goals omega
  · have := D4_bd (r := 0) (a := 0) (b := 1) (c := 2) (d := 3) h (by omega) (by omega) (by omega) (by omega) (by omega)
    simp only [Dn]
    repeat' (split at this)
    all_goals omega
  · have := D5_bd (a := 0) (b := 1) (c := 2) (d := 3) (e := 4) h (by omega) (by omega) (by omega) (by omega) (by omega)
    simp only [Dn]
    repeat' (split at this)
    all_goals omega
theorem Dn_bd1 {A : Nat → Nat → Int} {w : Nat} (hw : w ≤ 5) (h : ∀ r c : Nat, r < w → c < w → (A r c).natAbs ≤ 108) : (Dn A w).natAbs ≤ 1763193692160 := by
  rcases (show w = 0 ∨ w = 1 ∨ w = 2 ∨ w = 3 ∨ w = 4 ∨ w = 5 by omega) with rfl | rfl | rfl | rfl | rfl | rfl
  · simp [Dn]
  · have := h 0 0 (by omega) (by omega)
    simp only [Dn]
    omega
  · have := D2_bd (M := fun _ => 108) (r := 0) (a := 0) (b := 1) h (by omega) (by omega) (by omega)
    simp only [Dn]
    omega
  · have := D3_bd (M := fun _ => 108) (r := 0) (a := 0) (b := 1) (c := 2) h (by omega) (by omega) (by omega) (by omega)
    simp only [Dn]
    omega
  · have := D4_bd (M := fun _ => 108) (r := 0) (a := 0) (b := 1) (c := 2) (d := 3) h (by omega) (by omega) (by omega) (by omega) (by omega)
    simp only [Dn]
    omega
  · have := D5_bd (M := fun _ => 108) (a := 0) (b := 1) (c := 2) (d := 3) (e := 4) h (by omega) (by omega) (by omega) (by omega) (by omega)
    simp only [Dn]
    omega
/-! the square of weights -/
def rs (W : Nat → Nat → Int) (i : Nat) : Nat → Int
  | 0 => 0
  | k + 1 => rs W i k + (if k = i then 0 else W i k)
def lam (m : Nat) (W : Nat → Nat → Int) (r c : Nat) : Int := if r = c then rs W (r + 1) (m + 1) else -W (r + 1) (c + 1)
/-- the last bench taken out -/
def el (p : Nat) (W : Nat → Nat → Int) (i j : Nat) : Int := rs W p (p + 1) * W i j + W i p * W p j
def Conn (m : Nat) (W : Nat → Nat → Int) : Prop := ∀ S : Nat → Bool, S 0 = false → (∃ i : Nat, i ≤ m ∧ S i = true) → ∃ i j : Nat, i ≤ m ∧ j ≤ m ∧ S i = true ∧ S j = false ∧ 0 < W i j
theorem ch2 (A : Nat → Nat → Int) : Dn A 2 = A 1 1 * A 0 0 - A 0 1 * A 1 0 := by
  simp only [Dn, D2, Nat.reduceAdd]; grind
theorem ch3 (A : Nat → Nat → Int) : Dn A 3 * A 2 2 = Dn (fun i j => A 2 2 * A i j - A i 2 * A 2 j) 2 := by
  simp only [Dn, D2, D3, Nat.reduceAdd]; grind
theorem ch4 (A : Nat → Nat → Int) : Dn A 4 * (A 3 3 * A 3 3) = Dn (fun i j => A 3 3 * A i j - A i 3 * A 3 j) 3 := by
  simp only [Dn, D2, D3, D4, Nat.reduceAdd]; grind
theorem ch5 (A : Nat → Nat → Int) : Dn A 5 * (A 4 4 * A 4 4 * A 4 4) = Dn (fun i j => A 4 4 * A i j - A i 4 * A 4 j) 4 := by
  simp only [Dn, D2, D3, D4, D5, Nat.reduceAdd]; grind
/-- all of a bench's weights but those to it and to the one taken out -/
theorem rs_split (W : Nat → Nat → Int) (p i : Nat) (d : Int) (hi : i < p) : ∀ n : Nat, n ≤ p → rs (fun i j => d * W i j + W i p * W p j) i n = d * rs W i n + W i p * (rs W p n - (if i < n then W p i else 0))
  | 0, _ => by simp [rs]
  | n + 1, h => by
    rw [rs, rs_split W p i d hi n (by omega), rs, rs]
    rw [if_neg (show ¬ n = p by omega)]
    by_cases e : n = i
    · subst e
      rw [if_pos rfl, if_pos rfl, if_neg (by omega), if_pos (by omega)]
      grind
    · rw [if_neg e, if_neg e]
      by_cases q : i < n
      · rw [if_pos q, if_pos (by omega)]
        grind
      · rw [if_neg q, if_neg (by omega)]
        grind
theorem rs_nn {W : Nat → Nat → Int} (h : ∀ i j : Nat, 0 ≤ W i j) (i : Nat) : ∀ n : Nat, 0 ≤ rs W i n
  | 0 => Int.le_refl 0
  | n + 1 => by
    have := rs_nn h i n
    have := h i n
    unfold rs
    split <;> omega
theorem rs_0 {W : Nat → Nat → Int} (h : ∀ i j : Nat, 0 ≤ W i j) (i : Nat) : ∀ n : Nat, rs W i n = 0 → ∀ j : Nat, j < n → j ≠ i → W i j = 0
  | 0, _, j, hj, _ => absurd hj (by omega)
  | n + 1, h0, j, hj, hi => by
    have a := rs_nn h i n
    have b := h i n
    unfold rs at h0
    by_cases e : n = i
    · rw [if_pos e] at h0
      exact rs_0 h i n (by omega) j (by omega) hi
    · rw [if_neg e] at h0
      by_cases q : j = n
      · subst q; omega
      · exact rs_0 h i n (by omega) j (by omega) hi
theorem rs_p {W : Nat → Nat → Int} (h : ∀ i j : Nat, 0 ≤ W i j) (i : Nat) : ∀ n : Nat, 0 < rs W i n → ∃ j : Nat, j < n ∧ j ≠ i ∧ 0 < W i j
  | 0, h0 => absurd h0 (by simp [rs])
  | n + 1, h0 => by
    unfold rs at h0
    by_cases q : 0 < rs W i n
    · obtain ⟨j, a, b, c⟩ := rs_p h i n q
      exact ⟨j, by omega, b, c⟩
    · by_cases e : n = i
      · rw [if_pos e] at h0; omega
      · rw [if_neg e] at h0
        exact ⟨n, by omega, e, by omega⟩
theorem lam_el {W : Nat → Nat → Int} (hs : ∀ i j : Nat, W i j = W j i) (m i j : Nat) (hi : i < m) (hj : j < m) : lam (m + 1) W m m * lam (m + 1) W i j - lam (m + 1) W i m * lam (m + 1) W m j = lam m (el (m + 1) W) i j := by
  unfold lam
  rw [if_pos rfl, if_neg (show ¬ i = m by omega), if_neg (show ¬ m = j by omega)]
  by_cases e : i = j
  · subst e
    rw [if_pos rfl, if_pos rfl]
    have := rs_split W (m + 1) (i + 1) (rs W (m + 1) (m + 1 + 1)) (by omega) (m + 1) (Nat.le_refl _)
    rw [show el (m + 1) W = fun i j => rs W (m + 1) (m + 1 + 1) * W i j + W i (m + 1) * W (m + 1) j from rfl, this, if_pos (by omega)]
    have e1 : rs W (i + 1) (m + 1 + 1) = rs W (i + 1) (m + 1) + W (i + 1) (m + 1) := by rw [rs, if_neg (by omega)]
    have e2 : rs W (m + 1) (m + 1 + 1) = rs W (m + 1) (m + 1) := by rw [rs, if_pos rfl, Int.add_zero]
    rw [e1, e2, hs (m + 1) (i + 1)]
    grind
  · rw [if_neg e, if_neg e]
    unfold el
    grind
theorem el_nn {W : Nat → Nat → Int} (h : ∀ i j : Nat, 0 ≤ W i j) (p : Nat) : ∀ i j : Nat, 0 ≤ el p W i j := fun i j =>
  Int.add_nonneg (Int.mul_nonneg (rs_nn h _ _) (h _ _)) (Int.mul_nonneg (h _ _) (h _ _))
theorem el_sym {W : Nat → Nat → Int} (hs : ∀ i j : Nat, W i j = W j i) (p : Nat) : ∀ i j : Nat, el p W i j = el p W j i := fun i j => by
  unfold el
  rw [hs i j, hs i p, hs p j]
  grind
theorem conn_el {W : Nat → Nat → Int} (h : ∀ i j : Nat, 0 ≤ W i j) (hs : ∀ i j : Nat, W i j = W j i) {m : Nat} (hd : 0 < rs W (m + 1) (m + 1 + 1)) : Conn m (el (m + 1) W) ↔ Conn (m + 1) W := by
  constructor
  · intro hc S h0 ⟨i, hi, hSi⟩
    by_cases hT : ∃ i : Nat, i ≤ m ∧ S i = true
    · obtain ⟨a, b, ha, hb, hSa, hSb, hw⟩ := hc S h0 hT
      unfold el at hw
      by_cases q : 0 < W a b
      · exact ⟨a, b, by omega, by omega, hSa, hSb, q⟩
      · have q0 : W a b = 0 := by have := h a b; omega
        rw [q0, Int.mul_zero, Int.zero_add] at hw
        have w1 : 0 < W a (m + 1) := by
          rcases Int.lt_or_eq_of_le (h a (m + 1)) with q | q
          · exact q
          · rw [← q, Int.zero_mul] at hw; omega
        have w2 : 0 < W (m + 1) b := by
          rcases Int.lt_or_eq_of_le (h (m + 1) b) with q | q
          · exact q
          · rw [← q, Int.mul_zero] at hw; omega
        cases hp : S (m + 1) with
        | true => exact ⟨m + 1, b, by omega, by omega, hp, hSb, w2⟩
        | false => exact ⟨a, m + 1, by omega, by omega, hSa, hp, w1⟩
    · have hp : S (m + 1) = true := by
        by_cases q : i = m + 1
        · rw [← q]; exact hSi
        · exact absurd ⟨i, by omega, hSi⟩ hT
      obtain ⟨j, hj, hjn, hw⟩ := rs_p h (m + 1) (m + 1 + 1) hd
      refine ⟨m + 1, j, by omega, by omega, hp, ?_, hw⟩
      cases q : S j with
      | false => rfl
      | true => exact absurd ⟨j, by omega, q⟩ hT
  · intro hc S h0 ⟨i, hi, hSi⟩
    have key : ∀ a b : Nat, 0 < W a b → 0 < el (m + 1) W a b := fun a b q => by
      have := Int.mul_pos hd q
      have := Int.mul_nonneg (h a (m + 1)) (h (m + 1) b)
      unfold el
      omega
    have key2 : ∀ a b : Nat, 0 < W a (m + 1) → 0 < W (m + 1) b → 0 < el (m + 1) W a b := fun a b q1 q2 => by
      have := Int.mul_nonneg (Int.le_of_lt hd) (h a b)
      have := Int.mul_pos q1 q2
      unfold el
      omega
    obtain ⟨a, b, ha, hb, hSa, hSb, hw⟩ := hc (fun k => if k ≤ m then S k else false) (by rw [if_pos (by omega)]; exact h0) ⟨i, by omega, by rw [if_pos hi]; exact hSi⟩
    have ha' : a ≤ m := by
      by_cases q : a ≤ m
      · exact q
      · rw [if_neg q] at hSa; cases hSa
    rw [if_pos ha'] at hSa
    by_cases hb' : b ≤ m
    · rw [if_pos hb'] at hSb
      exact ⟨a, b, ha', hb', hSa, hSb, key a b hw⟩
    · have hbe : b = m + 1 := by omega
      subst hbe
      obtain ⟨c, d, hc1, hd1, hSc, hSd, hw2⟩ := hc (fun k => if k ≤ m then S k else true) (by rw [if_pos (by omega)]; exact h0) ⟨i, by omega, by rw [if_pos hi]; exact hSi⟩
      have hd' : d ≤ m := by
        by_cases q : d ≤ m
        · exact q
        · rw [if_neg q] at hSd; cases hSd
      rw [if_pos hd'] at hSd
      by_cases hc' : c ≤ m
      · rw [if_pos hc'] at hSc
        exact ⟨c, d, hc', hd', hSc, hSd, key c d hw2⟩
      · have hce : c = m + 1 := by omega
        subst hce
        exact ⟨a, d, ha', hd', hSa, hSd, key2 a d hw hw2⟩
theorem conn_no {W : Nat → Nat → Int} (h : ∀ i j : Nat, 0 ≤ W i j) {m : Nat} (hd : rs W (m + 1) (m + 1 + 1) = 0) : ¬ Conn (m + 1) W := by
  intro hc
  obtain ⟨a, b, ha, hb, hSa, hSb, hw⟩ := hc (fun k => decide (k = m + 1)) (by simp) ⟨m + 1, Nat.le_refl _, by simp⟩
  have ha' : a = m + 1 := of_decide_eq_true hSa
  have hb' : ¬ b = m + 1 := of_decide_eq_false hSb
  subst ha'
  have := rs_0 h (m + 1) (m + 1 + 1) hd b (by omega) hb'
  omega
theorem pos_mul {a b c : Int} (h : a * b = c) (hb : 0 < b) : (0 ≤ a ↔ 0 ≤ c) ∧ (0 < a ↔ 0 < c) := by
  subst h
  refine ⟨⟨fun q => Int.mul_nonneg q (Int.le_of_lt hb), fun q => ?_⟩, ⟨fun q => Int.mul_pos q hb, fun q => ?_⟩⟩
  · rcases Int.lt_or_le a 0 with r | r
    · have := Int.mul_neg_of_neg_of_pos r hb; omega
    · exact r
  · rcases Int.lt_or_le 0 a with r | r
    · exact r
    · have := Int.mul_nonneg (show 0 ≤ -a by omega) (Int.le_of_lt hb)
      rw [Int.neg_mul] at this
      omega
theorem lap1 {W : Nat → Nat → Int} (h : ∀ i j : Nat, 0 ≤ W i j) : 0 ≤ Dn (lam 1 W) 1 ∧ (0 < Dn (lam 1 W) 1 ↔ Conn 1 W) := by
  have e : Dn (lam 1 W) 1 = W 1 0 := by simp [Dn, lam, rs]
  rw [e]
  refine ⟨h 1 0, fun q S h0 ⟨i, hi, hS⟩ => ?_, fun hc => ?_⟩
  · have : i = 1 := by
      rcases (show i = 0 ∨ i = 1 by omega) with r | r
      · subst r; rw [h0] at hS; cases hS
      · exact r
    subst this
    exact ⟨1, 0, by omega, by omega, hS, h0, q⟩
  · obtain ⟨a, b, ha, hb, hSa, hSb, hw⟩ := hc (fun k => decide (k = 1)) (by simp) ⟨1, Nat.le_refl _, by simp⟩
    have ha' : a = 1 := of_decide_eq_true hSa
    have hb' : ¬ b = 1 := of_decide_eq_false hSb
    subst ha'
    rw [show b = 0 by omega] at hw
    exact hw
theorem lap2 {W : Nat → Nat → Int} (h : ∀ i j : Nat, 0 ≤ W i j) (hs : ∀ i j : Nat, W i j = W j i) : 0 ≤ Dn (lam 2 W) 2 ∧ (0 < Dn (lam 2 W) 2 ↔ Conn 2 W) := by
  have hd : lam 2 W 1 1 = rs W 2 3 := by unfold lam; rw [if_pos rfl]
  rcases Int.lt_or_eq_of_le (rs_nn h 2 3) with q | q
  · have ih := lap1 (el_nn h 2)
    rw [conn_el h hs (m := 1) q] at ih
    have c := Dn_congr (A := fun i j => lam 2 W 1 1 * lam 2 W i j - lam 2 W i 1 * lam 2 W 1 j) (B := lam 1 (el 2 W)) (w := 1) (by omega) (fun r c hr hc => lam_el hs 1 r c hr hc)
    have k := ch2 (lam 2 W)
    rw [show Dn (lam 1 (el 2 W)) 1 = lam 2 W 1 1 * lam 2 W 0 0 - lam 2 W 0 1 * lam 2 W 1 0 from c.symm, ← k] at ih
    exact ih
  · have z := rs_0 h 2 3 q.symm
    have z0 : lam 2 W 1 0 = 0 := by simp [lam, z 1 (by omega) (by omega)]
    have zd : lam 2 W 1 1 = 0 := by rw [hd]; exact q.symm
    have e : Dn (lam 2 W) 2 = 0 := by
      simp only [Dn, D2, D3, D4, D5, Nat.reduceAdd, z0, zd]
      simp
    rw [e]
    exact ⟨Int.le_refl _, fun r => absurd r (by omega), fun r => absurd r (conn_no h q.symm)⟩
theorem lap3 {W : Nat → Nat → Int} (h : ∀ i j : Nat, 0 ≤ W i j) (hs : ∀ i j : Nat, W i j = W j i) : 0 ≤ Dn (lam 3 W) 3 ∧ (0 < Dn (lam 3 W) 3 ↔ Conn 3 W) := by
  have hd : lam 3 W 2 2 = rs W 3 4 := by unfold lam; rw [if_pos rfl]
  rcases Int.lt_or_eq_of_le (rs_nn h 3 4) with q | q
  · have ih := lap2 (el_nn h 3) (el_sym hs 3)
    rw [conn_el h hs (m := 2) q] at ih
    have c := Dn_congr (A := fun i j => lam 3 W 2 2 * lam 3 W i j - lam 3 W i 2 * lam 3 W 2 j) (B := lam 2 (el 3 W)) (w := 2) (by omega) (fun r c hr hc => lam_el hs 2 r c hr hc)
    have k := (ch3 (lam 3 W)).trans c
    have hp : 0 < lam 3 W 2 2 := by
      rw [hd]
      exact q
    obtain ⟨k1, k2⟩ := pos_mul k hp
    rw [k1, k2]
    exact ih
  · have z := rs_0 h 3 4 q.symm
    have z0 : lam 3 W 2 0 = 0 := by simp [lam, z 1 (by omega) (by omega)]
    have z1 : lam 3 W 2 1 = 0 := by simp [lam, z 2 (by omega) (by omega)]
    have zd : lam 3 W 2 2 = 0 := by rw [hd]; exact q.symm
    have e : Dn (lam 3 W) 3 = 0 := by
      simp only [Dn, D2, D3, D4, D5, Nat.reduceAdd, z0, z1, zd]
      simp
    rw [e]
    exact ⟨Int.le_refl _, fun r => absurd r (by omega), fun r => absurd r (conn_no h q.symm)⟩
theorem lap4 {W : Nat → Nat → Int} (h : ∀ i j : Nat, 0 ≤ W i j) (hs : ∀ i j : Nat, W i j = W j i) : 0 ≤ Dn (lam 4 W) 4 ∧ (0 < Dn (lam 4 W) 4 ↔ Conn 4 W) := by
  have hd : lam 4 W 3 3 = rs W 4 5 := by unfold lam; rw [if_pos rfl]
  rcases Int.lt_or_eq_of_le (rs_nn h 4 5) with q | q
  · have ih := lap3 (el_nn h 4) (el_sym hs 4)
    rw [conn_el h hs (m := 3) q] at ih
    have c := Dn_congr (A := fun i j => lam 4 W 3 3 * lam 4 W i j - lam 4 W i 3 * lam 4 W 3 j) (B := lam 3 (el 4 W)) (w := 3) (by omega) (fun r c hr hc => lam_el hs 3 r c hr hc)
    have k := (ch4 (lam 4 W)).trans c
    have hp : 0 < lam 4 W 3 3 * lam 4 W 3 3 := by
      rw [hd]
      exact Int.mul_pos q q
    obtain ⟨k1, k2⟩ := pos_mul k hp
    rw [k1, k2]
    exact ih
  · have z := rs_0 h 4 5 q.symm
    have z0 : lam 4 W 3 0 = 0 := by simp [lam, z 1 (by omega) (by omega)]
    have z1 : lam 4 W 3 1 = 0 := by simp [lam, z 2 (by omega) (by omega)]
    have z2 : lam 4 W 3 2 = 0 := by simp [lam, z 3 (by omega) (by omega)]
    have zd : lam 4 W 3 3 = 0 := by rw [hd]; exact q.symm
    have e : Dn (lam 4 W) 4 = 0 := by
      simp only [Dn, D2, D3, D4, D5, Nat.reduceAdd, z0, z1, z2, zd]
      simp
    rw [e]
    exact ⟨Int.le_refl _, fun r => absurd r (by omega), fun r => absurd r (conn_no h q.symm)⟩
theorem lap5 {W : Nat → Nat → Int} (h : ∀ i j : Nat, 0 ≤ W i j) (hs : ∀ i j : Nat, W i j = W j i) : 0 ≤ Dn (lam 5 W) 5 ∧ (0 < Dn (lam 5 W) 5 ↔ Conn 5 W) := by
  have hd : lam 5 W 4 4 = rs W 5 6 := by unfold lam; rw [if_pos rfl]
  rcases Int.lt_or_eq_of_le (rs_nn h 5 6) with q | q
  · have ih := lap4 (el_nn h 5) (el_sym hs 5)
    rw [conn_el h hs (m := 4) q] at ih
    have c := Dn_congr (A := fun i j => lam 5 W 4 4 * lam 5 W i j - lam 5 W i 4 * lam 5 W 4 j) (B := lam 4 (el 5 W)) (w := 4) (by omega) (fun r c hr hc => lam_el hs 4 r c hr hc)
    have k := (ch5 (lam 5 W)).trans c
    have hp : 0 < lam 5 W 4 4 * lam 5 W 4 4 * lam 5 W 4 4 := by
      rw [hd]
      exact Int.mul_pos (Int.mul_pos q q) q
    obtain ⟨k1, k2⟩ := pos_mul k hp
    rw [k1, k2]
    exact ih
  · have z := rs_0 h 5 6 q.symm
    have z0 : lam 5 W 4 0 = 0 := by simp [lam, z 1 (by omega) (by omega)]
    have z1 : lam 5 W 4 1 = 0 := by simp [lam, z 2 (by omega) (by omega)]
    have z2 : lam 5 W 4 2 = 0 := by simp [lam, z 3 (by omega) (by omega)]
    have z3 : lam 5 W 4 3 = 0 := by simp [lam, z 4 (by omega) (by omega)]
    have zd : lam 5 W 4 4 = 0 := by rw [hd]; exact q.symm
    have e : Dn (lam 5 W) 5 = 0 := by
      simp only [Dn, D2, D3, D4, D5, Nat.reduceAdd, z0, z1, z2, z3, zd]
      simp
    rw [e]
    exact ⟨Int.le_refl _, fun r => absurd r (by omega), fun r => absurd r (conn_no h q.symm)⟩
theorem lapN {W : Nat → Nat → Int} (h : ∀ i j : Nat, 0 ≤ W i j) (hs : ∀ i j : Nat, W i j = W j i) {w : Nat} (h1 : 1 ≤ w) (h2 : w ≤ 5) : 0 ≤ Dn (lam w W) w ∧ (0 < Dn (lam w W) w ↔ Conn w W) := by
  rcases (show w = 1 ∨ w = 2 ∨ w = 3 ∨ w = 4 ∨ w = 5 by omega) with rfl | rfl | rfl | rfl | rfl
  · exact lap1 h
  · exact lap2 h hs
  · exact lap3 h hs
  · exact lap4 h hs
  · exact lap5 h hs
