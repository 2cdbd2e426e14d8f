section INV
variable {V V' : Nat → Int → Int}
theorem mZr_core (c : core V V') (h : mZr V) : mZr V' := by
  intro s h1 h2
  rw [c.2.1] at h1
  rw [c.1 13 (by omega) (by omega), c.1 9 (by omega) (by omega), c.1 10 (by omega) (by omega), c.1 11 (by omega) (by omega), c.1 12 (by omega) (by omega)]
  exact h s h1 h2
theorem inv_set {g k v : Int} (hI : mInv V) (hg : 0 ≤ g) (hg' : g ≤ 5) (hk : 0 ≤ k) (hk' : k ≤ 5) (hm : mayP k v) : mInv (mset V 2 (ax_u (V 2) (6 * g + k) v)) := by
  refine ⟨hI.1, fun i h1 h2 => ?_, hI.2.2⟩
  have n := hI.2.1 i h1 h2
  refine ⟨?_, n.2⟩
  have n1 := n.1
  show numOk (ax_u (V 2) (6 * g + k) v (6 * i)) (ax_u (V 2) (6 * g + k) v (6 * i + 1)) (ax_u (V 2) (6 * g + k) v (6 * i + 2)) (ax_u (V 2) (6 * g + k) v (6 * i + 3)) (ax_u (V 2) (6 * g + k) v (6 * i + 4)) (ax_u (V 2) (6 * g + k) v (6 * i + 5))
  by_cases e : i = g
  · subst e
    rcases (show k = 0 ∨ k = 1 ∨ k = 2 ∨ k = 3 ∨ k = 4 ∨ k = 5 by omega) with rfl | rfl | rfl | rfl | rfl | rfl
    · rw [show 6 * i + 0 = 6 * i by omega, ax_u_s, ax_u_n (by omega), ax_u_n (by omega), ax_u_n (by omega), ax_u_n (by omega), ax_u_n (by omega)]
      unfold mayP at hm
      omega
    · rw [ax_u_n (by omega), ax_u_s, ax_u_n (by omega), ax_u_n (by omega), ax_u_n (by omega), ax_u_n (by omega)]
      unfold mayP at hm
      omega
    · rw [ax_u_n (by omega), ax_u_n (by omega), ax_u_s, ax_u_n (by omega), ax_u_n (by omega), ax_u_n (by omega)]
      unfold mayP at hm
      omega
    · rw [ax_u_n (by omega), ax_u_n (by omega), ax_u_n (by omega), ax_u_s, ax_u_n (by omega), ax_u_n (by omega)]
      unfold mayP at hm
      omega
    · rw [ax_u_n (by omega), ax_u_n (by omega), ax_u_n (by omega), ax_u_n (by omega), ax_u_s, ax_u_n (by omega)]
      unfold mayP at hm
      omega
    · rw [ax_u_n (by omega), ax_u_n (by omega), ax_u_n (by omega), ax_u_n (by omega), ax_u_n (by omega), ax_u_s]
      unfold mayP at hm
      omega
  · rw [ax_u_n (by omega), ax_u_n (by omega), ax_u_n (by omega), ax_u_n (by omega), ax_u_n (by omega), ax_u_n (by omega)]
    exact n1
theorem lowZ_bd {u l : Int} (hu : 0 ≤ u) (hl : 1 ≤ l) : (0 ≤ lowZ u l 0 ∧ lowZ u l 0 ≤ u) ∧ 1 ≤ lowZ u l 1 ∧ lowZ u l 1 ≤ l := by
  have hg : Int.gcd u l ≠ 0 := fun q => by
    have := (Int.gcd_eq_zero_iff.mp q).2
    omega
  have g0 : (0 : Int) < ((Int.gcd u l : Nat) : Int) := Int.natCast_pos.mpr (Nat.pos_of_ne_zero hg)
  unfold lowZ
  rw [if_pos rfl, if_neg (by omega), Int.tdiv_eq_ediv_of_nonneg hu, Int.tdiv_eq_ediv_of_nonneg (by omega)]
  refine ⟨⟨Int.ediv_nonneg hu (Int.le_of_lt g0), Int.ediv_le_self _ hu⟩, ?_, Int.ediv_le_self _ (by omega)⟩
  have d := Int.gcd_dvd_right u l
  obtain ⟨q, hq⟩ := d
  have hqe : l / ((Int.gcd u l : Nat) : Int) = q := by
    conv => lhs; lhs; rw [hq]
    exact Int.mul_ediv_cancel_left q (by omega)
  rw [hqe]
  rcases Int.lt_or_le 0 q with c | c
  · omega
  · have := Int.mul_nonpos_of_nonneg_of_nonpos (show (0 : Int) ≤ ((Int.gcd u l : Nat) : Int) by omega) c
    omega
theorem inv_seal {g a s b t : Int} (hI : mInv V) (hg : 0 ≤ g) (hg' : g ≤ 5) (hok : sealOk a s b t) (hu : ¬ sealU a s b t < 0) : mInv (mset (mset V 3 (ax_u (V 3) g (lowZ (sealU a s b t) (sealL s t) 0))) 4 (ax_u (V 4) g (lowZ (sealU a s b t) (sealL s t) 1))) := by
  have m1 := mul_bd (x := a - b) (y := s) (A := 12000) (B := 4000) (by omega) (by omega) (by omega) (by omega)
  have m2 := mul_bd (x := (a - b) * s) (y := t) (A := 48000000) (B := 4000) (by omega) (by omega) (by omega) (by omega)
  have ub : -200000000000 ≤ sealU a s b t ∧ sealU a s b t ≤ 200000000000 := by unfold sealU; split <;> omega
  have lb : 1 ≤ sealL s t ∧ sealL s t ≤ 4000 := by unfold sealL; split <;> omega
  have q := lowZ_bd (u := sealU a s b t) (l := sealL s t) (by omega) lb.1
  refine ⟨hI.1, fun i h1 h2 => ?_, hI.2.2⟩
  have n := hI.2.1 i h1 h2
  refine ⟨n.1, ?_⟩
  show 0 ≤ ax_u (V 3) g (lowZ (sealU a s b t) (sealL s t) 0) i ∧ ax_u (V 3) g (lowZ (sealU a s b t) (sealL s t) 0) i ≤ 200000000000 ∧ 1 ≤ ax_u (V 4) g (lowZ (sealU a s b t) (sealL s t) 1) i ∧ ax_u (V 4) g (lowZ (sealU a s b t) (sealL s t) 1) i ≤ 4000
  unfold ax_u
  by_cases e : i = g
  · rw [if_pos e, if_pos e]
    omega
  · rw [if_neg e, if_neg e]
    exact n.2
theorem inv_st {x y H g : Int} (hI : mInv V) (h8 : V 0 8 ≠ 8) (hx : 0 ≤ x ∧ x ≤ 7 ∧ 0 ≤ y ∧ y ≤ 7) (hH : -400 ≤ H ∧ H ≤ 4000) (hg : 0 ≤ g ∧ g ≤ 5) : mInv (stPut V x y H g) := by
  have i0 := hI.2.2.1
  refine ⟨hI.1, hI.2.1, ?_, fun s h1 h2 => ?_, hI.2.2.2.2⟩
  · show 0 ≤ V 0 8 + 1 ∧ V 0 8 + 1 ≤ 8
    omega
  · have n := hI.2.2.2.1 s h1 h2
    show 0 ≤ ax_u (V 5) (V 0 8) x s ∧ ax_u (V 5) (V 0 8) x s ≤ 7 ∧ 0 ≤ ax_u (V 6) (V 0 8) y s ∧ ax_u (V 6) (V 0 8) y s ≤ 7 ∧ -400 ≤ ax_u (V 7) (V 0 8) H s ∧ ax_u (V 7) (V 0 8) H s ≤ 4000 ∧ 0 ≤ ax_u (V 8) (V 0 8) g s ∧ ax_u (V 8) (V 0 8) g s ≤ 5 ∧ 0 ≤ V 13 s ∧ V 13 s ≤ 3
    unfold ax_u
    by_cases e : s = V 0 8
    · rw [if_pos e, if_pos e, if_pos e, if_pos e]
      omega
    · rw [if_neg e, if_neg e, if_neg e, if_neg e]
      exact n
theorem zr_st {x y H g : Int} (hZ : mZr V) : mZr (stPut V x y H g) := by
  intro s h1 h2
  have h1' : V 0 8 + 1 ≤ s := h1
  exact hZ s (by omega) h2
theorem inv_tell {s h a w : Int} (hI : mInv V) (ha : 0 ≤ a) (ha' : a ≤ 12000) (hw : -30 ≤ w) (hw' : w ≤ 50) : mInv (mset (mset V 9 (ax_u (V 9) (48 * s + h) a)) 10 (ax_u (V 10) (48 * s + h) w)) := by
  refine ⟨hI.1, hI.2.1, hI.2.2.1, hI.2.2.2.1, fun j h1 h2 => ?_, hI.2.2.2.2.2⟩
  have n := hI.2.2.2.2.1 j h1 h2
  show 0 ≤ ax_u (V 9) (48 * s + h) a j ∧ ax_u (V 9) (48 * s + h) a j ≤ 12000 ∧ -30 ≤ ax_u (V 10) (48 * s + h) w j ∧ ax_u (V 10) (48 * s + h) w j ≤ 50
  unfold ax_u
  by_cases e : j = 48 * s + h
  · rw [if_pos e, if_pos e]; omega
  · rw [if_neg e, if_neg e]; exact n
theorem zr_tell {s h a w : Int} (hZ : mZr V) (hs : s < V 0 8) (hh : 0 ≤ h) (hh' : h < 48) : mZr (mset (mset V 9 (ax_u (V 9) (48 * s + h) a)) 10 (ax_u (V 10) (48 * s + h) w)) := by
  intro q h1 h2
  have h1' : V 0 8 ≤ q := h1
  have z := hZ q h1' h2
  refine ⟨z.1, fun j a b => ?_, z.2.2⟩
  show ax_u (V 9) (48 * s + h) _ (48 * q + j) = 0 ∧ ax_u (V 10) (48 * s + h) w (48 * q + j) = 0
  rw [ax_u_n (by omega), ax_u_n (by omega)]
  exact z.2.1 j a b
theorem inv_gap {s h : Int} (hI : mInv V) : mInv (mset V 9 (ax_u (V 9) (48 * s + h) 0)) := by
  refine ⟨hI.1, hI.2.1, hI.2.2.1, hI.2.2.2.1, fun j h1 h2 => ?_, hI.2.2.2.2.2⟩
  have n := hI.2.2.2.2.1 j h1 h2
  show 0 ≤ ax_u (V 9) (48 * s + h) 0 j ∧ ax_u (V 9) (48 * s + h) 0 j ≤ 12000 ∧ -30 ≤ V 10 j ∧ V 10 j ≤ 50
  unfold ax_u
  by_cases e : j = 48 * s + h
  · rw [if_pos e]; omega
  · rw [if_neg e]; exact n
theorem zr_gap {s h : Int} (hZ : mZr V) (hs : s < V 0 8) (hh : 0 ≤ h) (hh' : h < 48) : mZr (mset V 9 (ax_u (V 9) (48 * s + h) 0)) := by
  intro q h1 h2
  have h1' : V 0 8 ≤ q := h1
  have z := hZ q h1' h2
  refine ⟨z.1, fun j a b => ?_, z.2.2⟩
  show ax_u (V 9) (48 * s + h) 0 (48 * q + j) = 0 ∧ V 10 (48 * q + j) = 0
  rw [ax_u_n (by omega)]
  exact z.2.1 j a b
theorem inv_benches {n : Int} (hI : mInv V) (hn : 2 ≤ n ∧ n ≤ 6) : mInv (mset V 0 (ax_u (ax_u (V 0) 14 n) 19 0)) :=
  ⟨hI.1, hI.2.1, hI.2.2.1, hI.2.2.2.1, hI.2.2.2.2.1, hI.2.2.2.2.2.1, hn, ⟨Int.le_refl _, by show (0 : Int) ≤ 12; omega⟩, fun j h1 h2 => by have h2' : j < 0 := h2; omega⟩
theorem inv_drop (hI : mInv V) (h0 : V 0 19 ≠ 0) : mInv (mset V 0 (ax_u (V 0) 19 (V 0 19 - 1))) := by
  have i1 := hI.2.2.2.2.2.2.2.1
  refine ⟨hI.1, hI.2.1, hI.2.2.1, hI.2.2.2.1, hI.2.2.2.2.1, hI.2.2.2.2.2.1, hI.2.2.2.2.2.2.1, ?_, fun j h1 h2 => ?_⟩
  · show 0 ≤ V 0 19 - 1 ∧ V 0 19 - 1 ≤ 12
    omega
  · have h2' : j < V 0 19 - 1 := h2
    exact hI.2.2.2.2.2.2.2.2 j h1 (by omega)
theorem inv_diff {a b d w : Int} (hI : mInv V) (h1 : (0 ≤ a ∧ a < V 0 14) ∧ (0 ≤ b ∧ b < V 0 14) ∧ a ≠ b) (h2 : (-1000000 ≤ d ∧ d ≤ 1000000) ∧ 1 ≤ w ∧ w ≤ 9) (h3 : V 0 19 ≠ 12) : mInv (mset (mset (mset (mset (mset V 14 (ax_u (V 14) (V 0 19) a)) 15 (ax_u (V 15) (V 0 19) b)) 16 (ax_u (V 16) (V 0 19) d)) 17 (ax_u (V 17) (V 0 19) w)) 0 (ax_u (V 0) 19 (V 0 19 + 1))) := by
  have i1 := hI.2.2.2.2.2.2.2.1
  refine ⟨hI.1, hI.2.1, hI.2.2.1, hI.2.2.2.1, hI.2.2.2.2.1, hI.2.2.2.2.2.1, hI.2.2.2.2.2.2.1, ?_, fun j j1 j2 => ?_⟩
  · show 0 ≤ V 0 19 + 1 ∧ V 0 19 + 1 ≤ 12
    omega
  · have j2' : j < V 0 19 + 1 := j2
    show 0 ≤ ax_u (V 14) (V 0 19) a j ∧ ax_u (V 14) (V 0 19) a j < V 0 14 ∧ 0 ≤ ax_u (V 15) (V 0 19) b j ∧ ax_u (V 15) (V 0 19) b j < V 0 14 ∧ ax_u (V 14) (V 0 19) a j ≠ ax_u (V 15) (V 0 19) b j ∧ -1000000 ≤ ax_u (V 16) (V 0 19) d j ∧ ax_u (V 16) (V 0 19) d j ≤ 1000000 ∧ 1 ≤ ax_u (V 17) (V 0 19) w j ∧ ax_u (V 17) (V 0 19) w j ≤ 9
    unfold ax_u
    by_cases e : j = V 0 19
    · rw [if_pos e, if_pos e, if_pos e, if_pos e]
      exact ⟨h1.1.1, h1.1.2, h1.2.1.1, h1.2.1.2, h1.2.2, h2.1.1, h2.1.2, h2.2.1, h2.2.2⟩
    · rw [if_neg e, if_neg e, if_neg e, if_neg e]
      exact hI.2.2.2.2.2.2.2.2 j j1 (by omega)
/-! a mending's size -/
theorem abs2 {M P : Int → Int} {h : Int} (hr : rowOk M P) : ∀ k : Nat, k ≤ 48 → (-(20000 * aN P h k) ≤ aS M P h k ∧ aS M P h k ≤ 20000 * aN P h k) ∧ -(20000 * bN P h k) ≤ bS M P h k ∧ bS M P h k ≤ 20000 * bN P h k
  | 0, _ => by simp [aS, aN, bS, bN]
  | k + 1, hk => by
    have ih := abs2 (h := h) hr k (by omega)
    have r := hr k (by omega) (by omega)
    unfold aS aN bS bN
    by_cases q : P k = 1
    · have m := r.2 q
      by_cases c : (k : Int) < h
      · rw [if_pos ⟨q, c⟩, if_pos ⟨q, c⟩, if_neg (fun d => d.2 c), if_neg (fun d => d.2 c)]
        omega
      · rw [if_neg (fun d => c d.2), if_neg (fun d => c d.2), if_pos ⟨q, c⟩, if_pos ⟨q, c⟩]
        omega
    · rw [if_neg (fun d => q d.1), if_neg (fun d => q d.1), if_neg (fun d => q d.1), if_neg (fun d => q d.1)]
      omega
abbrev trB (t : Tr) : Prop := -(40000 * t.2.2) ≤ t.2.1 ∧ t.2.1 ≤ 40000 * t.2.2
theorem tryZ_B {M P : Int → Int} {h : Int} {t : Tr} (hr : rowOk M P) (ht : trB t) : trB (tryZ M P h t) := by
  have a := abs2 (h := h) hr 48 (by omega)
  have r := abs_rng (h := h) hr 48 (by omega)
  unfold tryZ
  split
  · exact ht
  · split
    · show -(40000 * (aN P h 48 * bN P h 48)) ≤ bS M P h 48 * aN P h 48 - aS M P h 48 * bN P h 48 ∧ bS M P h 48 * aN P h 48 - aS M P h 48 * bN P h 48 ≤ 40000 * (aN P h 48 * bN P h 48)
      generalize aN P h 48 = p at *
      generalize bN P h 48 = q at *
      generalize aS M P h 48 = x at *
      generalize bS M P h 48 = y at *
      have e1 : y * p ≤ 20000 * q * p := Int.mul_le_mul_of_nonneg_right (by omega) (by omega)
      have e2 : -(20000 * q) * p ≤ y * p := Int.mul_le_mul_of_nonneg_right (by omega) (by omega)
      have e3 : x * q ≤ 20000 * p * q := Int.mul_le_mul_of_nonneg_right (by omega) (by omega)
      have e4 : -(20000 * p) * q ≤ x * q := Int.mul_le_mul_of_nonneg_right (by omega) (by omega)
      have f1 : 20000 * q * p = 20000 * (p * q) := by rw [Int.mul_assoc, Int.mul_comm q p]
      have f2 : -(20000 * q) * p = -(20000 * (p * q)) := by rw [Int.neg_mul, f1]
      have f3 : 20000 * p * q = 20000 * (p * q) := Int.mul_assoc _ _ _
      have f4 : -(20000 * p) * q = -(20000 * (p * q)) := by rw [Int.neg_mul, f3]
      rw [f1] at e1
      rw [f2] at e2
      rw [f3] at e3
      rw [f4] at e4
      omega
    · exact ht
theorem mDr_B {s : Int} (hI : mInv V) (hs : 0 ≤ s) (hs' : s < V 0 8) : trB (mDr V s) := by
  have i0 := hI.2.2.1
  have ro := rowOk_Z (s := s) hI hs (by omega)
  have ind : ∀ k : Nat, trB (drZ (MZ V s) (PZ V s) k) := by
    intro k
    induction k with
    | zero => show -(40000 * (1 : Int)) ≤ 0 ∧ (0 : Int) ≤ 40000 * 1; omega
    | succ k ih =>
      rw [drZ]
      split
      · exact tryZ_B ro ih
      · exact ih
  exact ind 48
theorem inv_mend {s : Int} (hI : mInv V) (hs : 0 ≤ s) (hs' : s < V 0 8) (hn : V 13 s ≠ 3) (h0 : 0 ≤ (mDr V s).1) : mInv (mdPut V s) := by
  have i0 := hI.2.2.1
  have is := hI.2.2.2.1 s hs (by omega)
  have tk := mDr_ok hI hs hs'
  have tb := mDr_B hI hs hs'
  have bd : -40000 ≤ (mDr V s).2.1.tdiv (mDr V s).2.2 ∧ (mDr V s).2.1.tdiv (mDr V s).2.2 ≤ 40000 := by
    have t3 : 1 ≤ (mDr V s).2.2 := by have := tk.2.2; omega
    have t4 : -(40000 * (mDr V s).2.2) ≤ (mDr V s).2.1 ∧ (mDr V s).2.1 ≤ 40000 * (mDr V s).2.2 := tb
    clear tk tb
    revert t3 t4
    generalize (mDr V s).2.1 = u
    generalize (mDr V s).2.2 = l
    intro t3 t4
    have e := Int.mul_tdiv_add_tmod u l
    have l1 := Int.tmod_lt_of_pos u (show 0 < l by omega)
    have l2 := Int.lt_tmod_of_pos u (show 0 < l by omega)
    generalize u.tdiv l = q at *
    generalize u.tmod l = m at *
    refine ⟨?_, ?_⟩
    · rcases Int.lt_or_le q (-40000) with c | c
      · have := Int.mul_le_mul_of_nonneg_left (show q ≤ -40001 by omega) (show 0 ≤ l by omega)
        omega
      · exact c
    · rcases Int.lt_or_le 40000 q with c | c
      · have := Int.mul_le_mul_of_nonneg_left (show 40001 ≤ q by omega) (show 0 ≤ l by omega)
        omega
      · exact c
  refine ⟨hI.1, hI.2.1, hI.2.2.1, fun q h1 h2 => ?_, hI.2.2.2.2.1, fun j h1 h2 => ?_, hI.2.2.2.2.2.2⟩
  · have n := hI.2.2.2.1 q h1 h2
    show 0 ≤ V 5 q ∧ V 5 q ≤ 7 ∧ 0 ≤ V 6 q ∧ V 6 q ≤ 7 ∧ -400 ≤ V 7 q ∧ V 7 q ≤ 4000 ∧ 0 ≤ V 8 q ∧ V 8 q ≤ 5 ∧ 0 ≤ ax_u (V 13) s (V 13 s + 1) q ∧ ax_u (V 13) s (V 13 s + 1) q ≤ 3
    unfold ax_u
    by_cases e : q = s
    · rw [if_pos e]; omega
    · rw [if_neg e]; exact n
  · have n := hI.2.2.2.2.2.1 j h1 h2
    show 0 ≤ ax_u (V 11) (3 * s + V 13 s) (mDr V s).1 j ∧ ax_u (V 11) (3 * s + V 13 s) (mDr V s).1 j ≤ 47 ∧ -100000 ≤ ax_u (V 12) (3 * s + V 13 s) ((mDr V s).2.1.tdiv (mDr V s).2.2) j ∧ ax_u (V 12) (3 * s + V 13 s) ((mDr V s).2.1.tdiv (mDr V s).2.2) j ≤ 100000
    have t1 := tk.1
    unfold ax_u
    by_cases e : j = 3 * s + V 13 s
    · rw [if_pos e, if_pos e]; omega
    · rw [if_neg e, if_neg e]; exact n
theorem zr_mend {s : Int} (hI : mInv V) (hZ : mZr V) (hs : 0 ≤ s) (hs' : s < V 0 8) (hn : V 13 s ≠ 3) : mZr (mdPut V s) := by
  have i0 := hI.2.2.1
  have is := hI.2.2.2.1 s hs (by omega)
  intro q h1 h2
  have h1' : V 0 8 ≤ q := h1
  have z := hZ q h1' h2
  refine ⟨?_, z.2.1, fun j a b => ?_⟩
  · show ax_u (V 13) s (V 13 s + 1) q = 0
    rw [ax_u_n (by omega)]; exact z.1
  · show ax_u (V 11) (3 * s + V 13 s) _ (3 * q + j) = 0 ∧ ax_u (V 12) (3 * s + V 13 s) _ (3 * q + j) = 0
    rw [ax_u_n (by omega), ax_u_n (by omega)]
    exact z.2.2 j a b
end INV
