def eS (F T G : Int → Int) (r c : Int) : Nat → Int
  | 0 => 0
  | k + 1 => eS F T G r c k + ((if F k - 1 = r ∧ F k - 1 = c then G k else 0) + (if T k - 1 = r ∧ T k - 1 = c then G k else 0) - (if F k - 1 = r ∧ T k - 1 = c then G k else 0) - (if T k - 1 = r ∧ F k - 1 = c then G k else 0))
def rbS (F T U G : Int → Int) (r : Int) : Nat → Int
  | 0 => 0
  | k + 1 => rbS F T U G r k - (if F k - 1 = r then G k * U k else 0) + (if T k - 1 = r then G k * U k else 0)
theorem adZ_at {g : Int → Int} {r' c' v col r c : Int} (h1 : -1 ≤ r') (h2 : r' ≤ 4) (h3 : -1 ≤ c') (h4 : c' ≤ 4) (h5 : 0 ≤ r) (h6 : r ≤ 4) (h7 : 0 ≤ c) (h8 : c ≤ 4) : adZ g r' c' v col (5 * r + c) = g (5 * r + c) + (if r' = r ∧ c' = c ∧ c ≠ col then v else 0) := by
  unfold adZ
  by_cases q : r' = r ∧ c' = c ∧ c ≠ col
  · obtain ⟨rfl, rfl, q⟩ := q
    rw [if_pos ⟨h5, h7, q⟩, ax_u_s, if_pos ⟨rfl, rfl, q⟩]
  · rw [if_neg q, Int.add_zero]
    split
    · exact ax_u_n (by omega)
    · rfl
theorem sq_ent {V : Nat → Int → Int} {col r c : Int} {g : Int → Int} (hl : -1 ≤ col) (hl' : col ≤ 4) (h5 : 0 ≤ r) (h6 : r ≤ 4) (h7 : 0 ≤ c) (h8 : c ≤ 4) (hg : g (5 * r + c) = 0) :
    ∀ n : Nat, (∀ j : Int, 0 ≤ j → j < n → 0 ≤ V 14 j ∧ V 14 j ≤ 5 ∧ 0 ≤ V 15 j ∧ V 15 j ≤ 5) → lsq V col g n (5 * r + c) = if c = col then rbS (V 14) (V 15) (V 16) (V 17) r n else eS (V 14) (V 15) (V 17) r c n
  | 0, _ => by
    unfold lsq rbS eS
    rw [hg]
    split <;> rfl
  | n + 1, hj => by
    have ih := sq_ent hl hl' h5 h6 h7 h8 hg n (fun j a b => hj j a (by omega))
    have jj := hj n (by omega) (by omega)
    unfold lsq lsF
    have eA : lsA V col (lsq V col g n) n (5 * r + c) = lsq V col g n (5 * r + c) + (if c = col then 0 else ((if V 14 n - 1 = r ∧ V 14 n - 1 = c then V 17 n else 0) + (if V 15 n - 1 = r ∧ V 15 n - 1 = c then V 17 n else 0) - (if V 14 n - 1 = r ∧ V 15 n - 1 = c then V 17 n else 0) - (if V 15 n - 1 = r ∧ V 14 n - 1 = c then V 17 n else 0))) := by
      unfold lsA
      rw [adZ_at (by omega) (by omega) (by omega) (by omega) h5 h6 h7 h8, adZ_at (by omega) (by omega) (by omega) (by omega) h5 h6 h7 h8, adZ_at (by omega) (by omega) (by omega) (by omega) h5 h6 h7 h8, adZ_at (by omega) (by omega) (by omega) (by omega) h5 h6 h7 h8]
      by_cases q : c = col
      · simp only [q, ne_eq, not_true_eq_false, and_false, if_false, if_true]
        omega
      · simp only [q, ne_eq, not_false_eq_true, and_true, if_false]
        repeat' split
        all_goals omega
    by_cases hc : col < 0
    · rw [if_pos hc, eA, ih, if_neg (show ¬ c = col by omega), if_neg (show ¬ c = col by omega), if_neg (show ¬ c = col by omega), eS]
    · rw [if_neg hc]
      have eB : lsB V col (lsA V col (lsq V col g n) n) n (5 * r + c) = lsA V col (lsq V col g n) n (5 * r + c) - (if c = col ∧ V 14 n - 1 = r then V 17 n * V 16 n else 0) := by
        unfold lsB
        by_cases q : c = col ∧ V 14 n - 1 = r
        · obtain ⟨rfl, rfl⟩ := q
          rw [if_pos h5, ax_u_s, if_pos ⟨rfl, rfl⟩]
        · rw [if_neg q, Int.sub_zero]
          split
          · exact ax_u_n (by omega)
          · rfl
      have eC : lsC V col (lsB V col (lsA V col (lsq V col g n) n) n) n (5 * r + c) = lsB V col (lsA V col (lsq V col g n) n) n (5 * r + c) + (if c = col ∧ V 15 n - 1 = r then V 17 n * V 16 n else 0) := by
        generalize lsB V col (lsA V col (lsq V col g n) n) n = G
        unfold lsC
        by_cases q : c = col ∧ V 15 n - 1 = r
        · obtain ⟨rfl, rfl⟩ := q
          rw [if_pos h5, ax_u_s, if_pos ⟨rfl, rfl⟩]
        · rw [if_neg q, Int.add_zero]
          split
          · exact ax_u_n (by omega)
          · rfl
      rw [eC, eB, eA, ih]
      by_cases q : c = col
      · simp only [q, true_and, if_true, rbS, Int.add_zero]
      · simp only [q, false_and, if_false, eS, Int.add_zero, Int.sub_zero]
/-- the weights between two benches -/
def wS (F T G : Int → Int) : Nat → Nat → Nat → Int
  | 0, _, _ => 0
  | k + 1, i, j => wS F T G k i j + (if (F k = i ∧ T k = j) ∨ (F k = j ∧ T k = i) then G k else 0)
theorem rs_add (A B : Nat → Nat → Int) (i : Nat) : ∀ n : Nat, rs (fun i j => A i j + B i j) i n = rs A i n + rs B i n
  | 0 => rfl
  | n + 1 => by
    unfold rs
    rw [rs_add A B i n]
    split <;> omega
theorem rs_d {f t g : Int} (hft : f ≠ t) (i : Nat) : ∀ n : Nat, rs (fun i j : Nat => if (f = i ∧ t = j) ∨ (f = j ∧ t = i) then g else 0) i n = (if f = i ∧ 0 ≤ t ∧ t < n then g else 0) + (if t = i ∧ 0 ≤ f ∧ f < n then g else 0)
  | 0 => by
    unfold rs
    rw [if_neg (by omega), if_neg (by omega)]
    rfl
  | n + 1 => by
    unfold rs
    rw [rs_d hft i n]
    repeat' split
    all_goals omega
abbrev ftOk (F T G : Int → Int) (b : Int) (n : Nat) : Prop := ∀ j : Int, 0 ≤ j → j < n → 0 ≤ F j ∧ F j < b ∧ 0 ≤ T j ∧ T j < b ∧ F j ≠ T j ∧ 1 ≤ G j ∧ G j ≤ 9
theorem eS_lam {F T G : Int → Int} {m : Nat} (r c : Nat) : ∀ n : Nat, ftOk F T G ((m : Int) + 1) n → eS F T G r c n = lam m (wS F T G n) r c
  | 0, _ => by
    unfold eS lam
    have : ∀ k : Nat, rs (wS F T G 0) (r + 1) k = 0 := by
      intro k
      induction k with
      | zero => rfl
      | succ k ih => unfold rs; rw [ih]; split <;> rfl
    rw [this]
    split <;> rfl
  | n + 1, h => by
    have ih := eS_lam r c n (fun j a b => h j a (by omega))
    have hj := h n (by omega) (by omega)
    unfold lam at ih ⊢
    rw [eS, ih]
    by_cases e : r = c
    · subst e
      rw [if_pos rfl, if_pos rfl, show wS F T G (n + 1) = fun i j => wS F T G n i j + (if (F n = i ∧ T n = j) ∨ (F n = j ∧ T n = i) then G n else 0) from rfl, rs_add, rs_d hj.2.2.2.2.1]
      repeat' split
      all_goals omega
    · rw [if_neg e, if_neg e, wS]
      repeat' split
      all_goals omega
theorem eS_bd {F T G : Int → Int} {b : Int} (r c : Int) : ∀ n : Nat, ftOk F T G b n → (eS F T G r c n).natAbs ≤ 9 * n
  | 0, _ => by simp [eS]
  | n + 1, h => by
    have ih := eS_bd r c n (fun j a b => h j a (by omega))
    have hj := h n (by omega) (by omega)
    unfold eS
    repeat' split
    all_goals omega
theorem rbS_bd {F T U G : Int → Int} {b : Int} (r : Int) : ∀ n : Nat, ftOk F T G b n → (∀ j : Int, 0 ≤ j → j < n → -1000000 ≤ U j ∧ U j ≤ 1000000) → (rbS F T U G r n).natAbs ≤ 9000000 * n
  | 0, _, _ => by simp [rbS]
  | n + 1, h, h2 => by
    have ih := rbS_bd r n (fun j a b => h j a (by omega)) (fun j a b => h2 j a (by omega))
    have hj := h n (by omega) (by omega)
    have hu := h2 n (by omega) (by omega)
    have := mul_bd (x := G n) (y := U n) (A := 9) (B := 1000000) (by omega) (by omega) (by omega) (by omega)
    unfold rbS
    repeat' split
    all_goals omega
theorem wS_nn {F T G : Int → Int} {b : Int} (i j : Nat) : ∀ n : Nat, ftOk F T G b n → 0 ≤ wS F T G n i j
  | 0, _ => Int.le_refl 0
  | n + 1, h => by
    have ih := wS_nn i j n (fun j a b => h j a (by omega))
    have hj := h n (by omega) (by omega)
    unfold wS
    split <;> omega
theorem wS_sym {F T G : Int → Int} (i j : Nat) : ∀ n : Nat, wS F T G n i j = wS F T G n j i
  | 0 => rfl
  | n + 1 => by
    unfold wS
    rw [wS_sym i j n]
    congr 1
    by_cases q : (F n = i ∧ T n = j) ∨ (F n = j ∧ T n = i)
    · rw [if_pos q, if_pos (by omega)]
    · rw [if_neg q, if_neg (by omega)]
theorem wS_pos {F T G : Int → Int} {b : Int} (i j : Nat) : ∀ n : Nat, ftOk F T G b n → (0 < wS F T G n i j ↔ ∃ k : Nat, k < n ∧ ((F k = i ∧ T k = j) ∨ (F k = j ∧ T k = i)))
  | 0, _ => by
    constructor
    · intro h; exact absurd h (by simp [wS])
    · rintro ⟨k, hk, _⟩; omega
  | n + 1, h => by
    have ih := wS_pos i j n (fun j a b => h j a (by omega))
    have nn := wS_nn i j n (fun j a b => h j a (by omega))
    have hj := h n (by omega) (by omega)
    unfold wS
    by_cases q : (F n = i ∧ T n = j) ∨ (F n = j ∧ T n = i)
    · rw [if_pos q]
      exact ⟨fun _ => ⟨n, by omega, q⟩, fun _ => by omega⟩
    · rw [if_neg q, Int.add_zero, ih]
      constructor
      · rintro ⟨k, hk, hh⟩; exact ⟨k, by omega, hh⟩
      · rintro ⟨k, hk, hh⟩
        refine ⟨k, ?_, hh⟩
        by_cases e : k = n
        · subst e; exact absurd hh q
        · omega
/-! joined -/
def cnB (s : Nat) : Nat → Nat
  | 0 => 0
  | b + 1 => cnB s b + (if s.testBit b then 1 else 0)
def sub (s t : Nat) : Prop := ∀ i : Nat, s.testBit i = true → t.testBit i = true
theorem sub.rfl {s : Nat} : sub s s := fun _ h => h
theorem sub.trans {s t u : Nat} (h : sub s t) (h2 : sub t u) : sub s u := fun i q => h2 i (h i q)
theorem cnB_le (s : Nat) : ∀ b : Nat, cnB s b ≤ b
  | 0 => Nat.le_refl _
  | b + 1 => by
    have := cnB_le s b
    unfold cnB
    split <;> omega
theorem cnB_mono {s t : Nat} (h : sub s t) : ∀ b : Nat, cnB s b ≤ cnB t b ∧ (cnB s b = cnB t b → ∀ i : Nat, i < b → s.testBit i = t.testBit i)
  | 0 => ⟨Nat.le_refl _, fun _ i hi => absurd hi (by omega)⟩
  | b + 1 => by
    have ih := cnB_mono h b
    have hb := h b
    unfold cnB
    cases hs : s.testBit b <;> cases ht : t.testBit b
    · simp only [Bool.false_eq_true, if_false]
      refine ⟨ih.1, fun e i hi => ?_⟩
      by_cases q : i = b
      · subst q; rw [hs, ht]
      · exact ih.2 (by omega) i (by omega)
    · simp only [Bool.false_eq_true, if_false, if_true]
      exact ⟨by omega, fun e => absurd e (by omega)⟩
    · exact absurd (hb hs) (by rw [ht]; decide)
    · simp only [if_true]
      refine ⟨by omega, fun e i hi => ?_⟩
      by_cases q : i = b
      · subst q; rw [hs, ht]
      · exact ih.2 (by omega) i (by omega)
theorem sub_eq {s t b : Nat} (h : sub s t) (hs : s < 2 ^ b) (ht : t < 2 ^ b) (hc : cnB s b = cnB t b) : s = t := by
  refine Nat.eq_of_testBit_eq (fun i => ?_)
  by_cases q : i < b
  · exact (cnB_mono h b).2 hc i q
  · rw [Nat.testBit_lt_two_pow (Nat.lt_of_lt_of_le hs (Nat.pow_le_pow_right (by omega) (by omega))), Nat.testBit_lt_two_pow (Nat.lt_of_lt_of_le ht (Nat.pow_le_pow_right (by omega) (by omega)))]
theorem jn1_sub (F T : Int → Int) (s k : Nat) : sub s (jn1 F T s k) := by
  intro i hi
  unfold jn1
  split
  · rw [Nat.testBit_or, hi]; rfl
  · exact hi
theorem jnR_sub (F T : Int → Int) (s : Nat) : ∀ n : Nat, sub s (jnR F T s n)
  | 0 => sub.rfl
  | n + 1 => (jnR_sub F T s n).trans (jn1_sub F T _ n)
theorem jn1_lt {F T G : Int → Int} {b n : Nat} (h : ftOk F T G b n) {s k : Nat} (hs : s < 2 ^ b) (hk : k < n) : jn1 F T s k < 2 ^ b := by
  have hj := h k (by omega) (by omega)
  unfold jn1
  split
  · exact Nat.or_lt_two_pow hs (Nat.or_lt_two_pow (Nat.pow_lt_pow_right (by omega) (by omega)) (Nat.pow_lt_pow_right (by omega) (by omega)))
  · exact hs
theorem jnR_lt {F T G : Int → Int} {b n : Nat} (h : ftOk F T G b n) {s : Nat} (hs : s < 2 ^ b) : ∀ k : Nat, k ≤ n → jnR F T s k < 2 ^ b
  | 0, _ => hs
  | k + 1, hk => jn1_lt h (jnR_lt h hs k (by omega)) (by omega)
theorem jnA_lt {F T G : Int → Int} {b n : Nat} (h : ftOk F T G b n) (hb : 1 ≤ b) : ∀ r : Nat, jnA F T n r < 2 ^ b
  | 0 => Nat.one_lt_two_pow (by omega)
  | r + 1 => jnR_lt h (jnA_lt h hb r) n (Nat.le_refl _)
theorem jnR_st {F T : Int → Int} {s n : Nat} (h : jnR F T s n = s) : ∀ k : Nat, k ≤ n → jnR F T s k = s := by
  have up : ∀ d k : Nat, k + d = n → sub (jnR F T s k) (jnR F T s n) := by
    intro d
    induction d with
    | zero => intro k hk; rw [show k = n by omega]; exact sub.rfl
    | succ d ih => intro k hk; exact (jn1_sub F T _ k).trans (ih (k + 1) (by omega))
  intro k hk
  refine Nat.eq_of_testBit_eq (fun i => ?_)
  have a := up (n - k) k (by omega) i
  have b := jnR_sub F T s k i
  rw [h] at a
  cases h1 : (jnR F T s k).testBit i <;> cases h2 : s.testBit i
  · rfl
  · rw [h2] at b; rw [h1] at b; exact absurd (b rfl) (by decide)
  · rw [h1, h2] at a; exact absurd (a rfl) (by decide)
  · rfl
theorem jn_cl {F T G : Int → Int} {b n s : Nat} (hf : ftOk F T G b n) (h : jnR F T s n = s) {k : Nat} (hk : k < n) : s.testBit (F k).toNat = s.testBit (T k).toNat := by
  have h1 := jnR_st h (k + 1) (by omega)
  rw [jnR, jnR_st h k (by omega)] at h1
  unfold jn1 at h1
  split at h1
  · have a : (s ||| (2 ^ (F k).toNat ||| 2 ^ (T k).toNat)).testBit (F k).toNat = true := by
      rw [Nat.testBit_or, Nat.testBit_or, Nat.testBit_two_pow_self]; simp
    have b : (s ||| (2 ^ (F k).toNat ||| 2 ^ (T k).toNat)).testBit (T k).toNat = true := by
      rw [Nat.testBit_or, Nat.testBit_or, Nat.testBit_two_pow_self]; simp
    rw [h1] at a b
    rw [a, b]
  · rename_i q
    cases h2 : s.testBit (F k).toNat <;> cases h3 : s.testBit (T k).toNat
    · rfl
    · exact absurd (Or.inr h3) q
    · exact absurd (Or.inl h2) q
    · rfl
theorem jnA_cl {F T G : Int → Int} {b n : Nat} (hf : ftOk F T G b n) (hb : 1 ≤ b) : ∀ r : Nat, jnR F T (jnA F T n r) n = jnA F T n r ∨ r + 1 ≤ cnB (jnA F T n r) b
  | 0 => by
    right
    obtain ⟨c, rfl⟩ : ∃ c, b = c + 1 := ⟨b - 1, by omega⟩
    have : ∀ c : Nat, 1 ≤ cnB 1 (c + 1) := by
      intro c
      induction c with
      | zero => simp [cnB]
      | succ c ih => rw [cnB]; omega
    exact this c
  | r + 1 => by
    rcases jnA_cl hf hb r with h | h
    · left
      rw [jnA, h, h]
    · by_cases q : jnR F T (jnA F T n r) n = jnA F T n r
      · left
        rw [jnA, q, q]
      · right
        have m := cnB_mono (jnR_sub F T (jnA F T n r) n) b
        have l := jnA_lt hf hb r
        rw [jnA]
        by_cases e : cnB (jnA F T n r) b = cnB (jnR F T (jnA F T n r) n) b
        · exact absurd (sub_eq (jnR_sub F T _ n) l (jnR_lt hf l n (Nat.le_refl _)) e).symm q
        · omega
theorem jn_in {F T G : Int → Int} {b n : Nat} (hf : ftOk F T G b n) {U : Nat → Bool} (hU : ∀ k : Nat, k < n → U (F k).toNat = U (T k).toNat) {s : Nat} (hs : ∀ i : Nat, s.testBit i = true → U i = false) : ∀ k : Nat, k ≤ n → ∀ i : Nat, (jnR F T s k).testBit i = true → U i = false
  | 0, _, i, h => hs i h
  | k + 1, hk, i, h => by
    have ih := jn_in hf hU hs k (by omega)
    unfold jnR jn1 at h
    split at h
    · rename_i q
      have hq : U (F k).toNat = false ∧ U (T k).toNat = false := by
        rcases q with q | q
        · have := ih _ q; exact ⟨this, by rw [← hU k (by omega)]; exact this⟩
        · have := ih _ q; exact ⟨by rw [hU k (by omega)]; exact this, this⟩
      rw [Nat.testBit_or, Nat.testBit_or, Nat.testBit_two_pow, Nat.testBit_two_pow] at h
      simp only [Bool.or_eq_true, decide_eq_true_eq] at h
      rcases h with h | h | h
      · exact ih i h
      · rw [← h]; exact hq.1
      · rw [← h]; exact hq.2
    · exact ih i h
theorem jnA_in {F T G : Int → Int} {b n : Nat} (hf : ftOk F T G b n) {U : Nat → Bool} (hU : ∀ k : Nat, k < n → U (F k).toNat = U (T k).toNat) (h0 : U 0 = false) : ∀ r i : Nat, (jnA F T n r).testBit i = true → U i = false
  | 0, i, h => by
    unfold jnA at h
    rw [show (1 : Nat) = 2 ^ 0 from rfl, Nat.testBit_two_pow] at h
    rw [← of_decide_eq_true h]
    exact h0
  | r + 1, i, h => jn_in hf hU (fun i q => jnA_in hf hU h0 r i q) n (Nat.le_refl _) i h
theorem joined_conn {F T G : Int → Int} {m n : Nat} (hf : ftOk F T G ((m + 1 : Nat) : Int) n) : jnA F T n (m + 1) = 2 ^ (m + 1) - 1 ↔ Conn m (wS F T G n) := by
  constructor
  · intro he S h0 ⟨i, hi, hS⟩
    by_cases q : ∃ k : Nat, k < n ∧ S (F k).toNat ≠ S (T k).toNat
    · obtain ⟨k, hk, hne⟩ := q
      have hj := hf k (by omega) (by omega)
      have cF : ((F k).toNat : Int) = F k := Int.toNat_of_nonneg hj.1
      have cT : ((T k).toNat : Int) = T k := Int.toNat_of_nonneg hj.2.2.1
      cases h1 : S (F k).toNat <;> cases h2 : S (T k).toNat
      · exact absurd (h1.trans h2.symm) hne
      · exact ⟨(T k).toNat, (F k).toNat, by omega, by omega, h2, h1, (wS_pos _ _ n hf).mpr ⟨k, hk, Or.inr ⟨cF.symm, cT.symm⟩⟩⟩
      · exact ⟨(F k).toNat, (T k).toNat, by omega, by omega, h1, h2, (wS_pos _ _ n hf).mpr ⟨k, hk, Or.inl ⟨cF.symm, cT.symm⟩⟩⟩
      · exact absurd (h1.trans h2.symm) hne
    · have hU : ∀ k : Nat, k < n → S (F k).toNat = S (T k).toNat := fun k hk => Decidable.byContradiction fun r => q ⟨k, hk, r⟩
      have := jnA_in hf hU h0 (m + 1) i (by rw [he, Nat.testBit_two_pow_sub_one]; exact decide_eq_true (by omega))
      rw [hS] at this
      cases this
  · intro hc
    have hcl : jnR F T (jnA F T n (m + 1)) n = jnA F T n (m + 1) := by
      rcases jnA_cl hf (by omega) (m + 1) with h | h
      · exact h
      · have := cnB_le (jnA F T n (m + 1)) (m + 1)
        omega
    have hlt := jnA_lt hf (by omega) (m + 1)
    have h0 : (jnA F T n (m + 1)).testBit 0 = true := by
      have : ∀ r : Nat, (jnA F T n r).testBit 0 = true := by
        intro r
        induction r with
        | zero => show Nat.testBit 1 0 = true; decide
        | succ r ih => exact jnR_sub F T _ n 0 ih
      exact this _
    generalize jnA F T n (m + 1) = s at hcl hlt h0 ⊢
    refine Nat.eq_of_testBit_eq (fun i => ?_)
    rw [Nat.testBit_two_pow_sub_one]
    by_cases hi : i < m + 1
    · rw [decide_eq_true hi]
      cases hb : s.testBit i with
      | true => rfl
      | false =>
        obtain ⟨a, b, ha, hb', hSa, hSb, hw⟩ := hc (fun i => !(s.testBit i)) (by simp [h0]) ⟨i, by omega, by simp [hb]⟩
        obtain ⟨k, hk, hh⟩ := (wS_pos a b n hf).mp hw
        have := jn_cl hf hcl hk
        have ha0 : s.testBit a = false := by simpa using hSa
        have hb0 : s.testBit b = true := by simpa using hSb
        rcases hh with ⟨e1, e2⟩ | ⟨e1, e2⟩
        · rw [e1, e2, Int.toNat_natCast, Int.toNat_natCast, ha0, hb0] at this
          cases this
        · rw [e1, e2, Int.toNat_natCast, Int.toNat_natCast, ha0, hb0] at this
          cases this
    · rw [decide_eq_false hi]
      exact Nat.testBit_lt_two_pow (Nat.lt_of_lt_of_le hlt (Nat.pow_le_pow_right (by omega) (by omega)))
/-- the determinant of the tables: column col holds what each row must come to -/
def enZ (V : Nat → Int → Int) (col : Int) (r c : Nat) : Int := if (c : Int) = col then rbS (V 14) (V 15) (V 16) (V 17) r (V 0 19).toNat else eS (V 14) (V 15) (V 17) r c (V 0 19).toNat
def dZ (V : Nat → Int → Int) (col : Int) : Int := Dn (enZ V col) (V 0 14 - 1).toNat
def loZ (V : Nat → Int → Int) : Int := dZ V (-1)
def hiZ (V : Nat → Int → Int) (b : Int) : Int := if b = 0 then 0 else dZ V (b - 1)
theorem mInv_ft {V : Nat → Int → Int} (hI : mInv V) : ftOk (V 14) (V 15) (V 17) (V 0 14) (V 0 19).toNat := fun j h1 h2 => by
  have := hI.2.2.2.2.2.2.2.2 j h1 (by omega)
  omega
theorem dtR_Dn (g : Int → Int) {w : Nat} (h1 : 1 ≤ w) (h2 : w ≤ 5) : dtR g w = Dn (fun r c => g (5 * (r : Int) + (c : Int))) w := by
  rcases (show w = 1 ∨ w = 2 ∨ w = 3 ∨ w = 4 ∨ w = 5 by omega) with rfl | rfl | rfl | rfl | rfl
  · exact dtR_1 g
  · exact dtR_2 g
  · exact dtR_3 g
  · exact dtR_4 g
  · exact dtR_5 g
theorem dtR_sq {V : Nat → Int → Int} (hI : mInv V) {col : Int} (hl : -1 ≤ col) (hl' : col ≤ 4) : dtR (sqrZ V col) (V 0 14 - 1).toNat = dZ V col := by
  have i2 := hI.2.2.2.2.2.2.1
  rw [dtR_Dn _ (by omega) (by omega)]
  refine Dn_congr (by omega) (fun r c hr hc => ?_)
  refine sq_ent hl hl' (by omega) (by omega) (by omega) (by omega) ?_ _ (fun j h1 h2 => ?_)
  · unfold zrR
    rw [if_pos (by omega)]
  · have := mInv_ft hI j h1 h2
    omega
theorem enZ_core {V V' : Nat → Int → Int} (c : core V V') (col : Int) : enZ V' col = enZ V col := by
  funext r q
  unfold enZ
  rw [c.1 14 (by omega) (by omega), c.1 15 (by omega) (by omega), c.1 16 (by omega) (by omega), c.1 17 (by omega) (by omega), c.2.2.2]
theorem dZ_core {V V' : Nat → Int → Int} (c : core V V') (col : Int) : dZ V' col = dZ V col := by
  unfold dZ
  rw [enZ_core c, c.2.2.1]
theorem loZ_core {V V' : Nat → Int → Int} (c : core V V') : loZ V' = loZ V := dZ_core c _
theorem hiZ_core {V V' : Nat → Int → Int} (c : core V V') (b : Int) : hiZ V' b = hiZ V b := by
  unfold hiZ
  rw [dZ_core c]
theorem jnd_core {V V' : Nat → Int → Int} (c : core V V') : jndZ V' ↔ jndZ V := by
  unfold jndZ
  rw [c.1 14 (by omega) (by omega), c.1 15 (by omega) (by omega), c.2.2.1, c.2.2.2]
theorem loZ_bd {V : Nat → Int → Int} (hI : mInv V) : 0 ≤ loZ V ∧ loZ V ≤ 1763193692160 ∧ (0 < loZ V ↔ jndZ V) := by
  have i2 := hI.2.2.2.2.2.2.1
  have i1 := hI.2.2.2.2.2.2.2.1
  have ft := mInv_ft hI
  obtain ⟨m, hm⟩ : ∃ m : Nat, V 0 14 = ((m + 1 : Nat) : Int) := ⟨(V 0 14 - 1).toNat, by omega⟩
  have hb : (loZ V).natAbs ≤ 1763193692160 := by
    refine Dn_bd1 (by omega) (fun r c _ _ => ?_)
    unfold enZ
    rw [if_neg (by omega)]
    have := eS_bd (r : Int) (c : Int) _ ft
    omega
  have hl : loZ V = Dn (lam m (wS (V 14) (V 15) (V 17) (V 0 19).toNat)) m := by
    unfold loZ dZ
    rw [show (V 0 14 - 1).toNat = m by omega]
    refine Dn_congr (by omega) (fun r c _ _ => ?_)
    unfold enZ
    rw [if_neg (by omega)]
    refine eS_lam r c _ ?_
    rw [hm] at ft
    exact ft
  rw [hm] at ft
  have := lapN (W := wS (V 14) (V 15) (V 17) (V 0 19).toNat) (fun i j => wS_nn i j _ ft) (fun i j => wS_sym i j _) (w := m) (by omega) (by omega)
  rw [← hl] at this
  refine ⟨this.1, by omega, this.2.trans ?_⟩
  unfold jndZ
  rw [show (V 0 14).toNat = m + 1 by omega]
  exact (joined_conn ft).symm
theorem hiZ_bd {V : Nat → Int → Int} (hI : mInv V) {b : Int} (h0 : 0 ≤ b) (hb : b < V 0 14) : (hiZ V b).natAbs ≤ 1763193692160000000 := by
  have i2 := hI.2.2.2.2.2.2.1
  have i1 := hI.2.2.2.2.2.2.2.1
  have ft := mInv_ft hI
  unfold hiZ
  split
  · simp
  · refine Dn_bd (col := (b - 1).toNat) (by omega) (fun r c _ _ => ?_)
    unfold enZ
    by_cases q : (c : Int) = b - 1
    · rw [if_pos q, if_pos (by omega)]
      have := rbS_bd (U := V 16) (r : Int) _ ft (fun j h1 h2 => by have := hI.2.2.2.2.2.2.2.2 j h1 (by omega); omega)
      omega
    · rw [if_neg q, if_neg (by omega)]
      have := eS_bd (r : Int) (c : Int) _ ft
      omega
