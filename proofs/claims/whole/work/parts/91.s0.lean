/-! both sides as they are made: alike -/
theorem V0_z {k : Nat} {j : Int} (h0 : k ≠ 0) (h1 : k ≠ 1) (h2 : k ≠ 2) (h4 : k ≠ 4) : V0 k j = 0 := by
  show Vb 20001 6 k j = 0
  unfold Vb mset Va
  rw [if_neg h4, if_neg h2, if_neg h1, if_neg h0]
theorem V0_2 {g k : Int} (hg : 0 ≤ g) (hg' : g < 6) (hk : 0 ≤ k) (hk' : k < 6) : V0 2 (6 * g + k) = firZ k := by
  show nuF 6 (6 * g + k) = firZ k
  unfold nuF
  rw [if_pos (by omega), show (6 * g + k) % 6 = k by omega]
theorem V0_4 {g : Int} (hg : 0 ≤ g) (hg' : g < 6) : V0 4 g = 1 := by
  show loF 6 g = 1
  unfold loF
  rw [if_pos (by omega)]
theorem inv0 : mInv V0 := by
  refine ⟨fun j h1 h2 => ?_, fun g h1 h2 => ?_, ⟨?_, ?_⟩, fun s h1 h2 => ?_, fun j h1 h2 => ?_, fun j h1 h2 => ?_, ⟨?_, ?_⟩, ⟨?_, ?_⟩, fun j h1 h2 => ?_⟩
  · show stF 20001 j = _
    unfold stF
    rw [if_pos (by omega)]
  · have e0 : V0 2 (6 * g) = 0 := by
      have := V0_2 (k := 0) h1 h2 (by omega) (by omega)
      rw [Int.add_zero] at this
      exact this
    have e1 : V0 2 (6 * g + 1) = 100 := V0_2 h1 h2 (by omega) (by omega)
    have e2 : V0 2 (6 * g + 2) = 7600 := V0_2 h1 h2 (by omega) (by omega)
    have e3 : V0 2 (6 * g + 3) = 5 := V0_2 h1 h2 (by omega) (by omega)
    have e4 : V0 2 (6 * g + 4) = 2 := V0_2 h1 h2 (by omega) (by omega)
    have e5 : V0 2 (6 * g + 5) = 8500 := V0_2 h1 h2 (by omega) (by omega)
    have e6 : V0 3 g = 0 := V0_z (by omega) (by omega) (by omega) (by omega)
    rw [e0, e1, e2, e3, e4, e5, e6, V0_4 h1 h2]
    unfold numOk
    omega
  · exact Int.le_refl 0
  · show (0 : Int) ≤ 8
    omega
  · rw [V0_z (k := 5) (by omega) (by omega) (by omega) (by omega), V0_z (k := 6) (by omega) (by omega) (by omega) (by omega), V0_z (k := 7) (by omega) (by omega) (by omega) (by omega), V0_z (k := 8) (by omega) (by omega) (by omega) (by omega), V0_z (k := 13) (by omega) (by omega) (by omega) (by omega)]
    omega
  · rw [V0_z (k := 9) (by omega) (by omega) (by omega) (by omega), V0_z (k := 10) (by omega) (by omega) (by omega) (by omega)]
    omega
  · rw [V0_z (k := 11) (by omega) (by omega) (by omega) (by omega), V0_z (k := 12) (by omega) (by omega) (by omega) (by omega)]
    omega
  · show (2 : Int) ≤ 3
    omega
  · show (3 : Int) ≤ 6
    omega
  · exact Int.le_refl 0
  · show (0 : Int) ≤ 12
    omega
  · have h2' : j < 0 := h2
    omega
theorem zr0 : mZr V0 := by
  intro s h1 h2
  refine ⟨V0_z (by omega) (by omega) (by omega) (by omega), fun h a b => ⟨V0_z (by omega) (by omega) (by omega) (by omega), V0_z (by omega) (by omega) (by omega) (by omega)⟩, fun j a b => ⟨V0_z (by omega) (by omega) (by omega) (by omega), V0_z (by omega) (by omega) (by omega) (by omega)⟩⟩
theorem sim0 : Sim V0 T0 := by
  refine ⟨fun i hi => ?_, ⟨rfl, fun k hk => ?_⟩, rfl, rfl, fun j h1 h2 => ?_, Or.inl rfl⟩
  · have a1 : T0 (29 + 2 * i) 1 = 0 := by rw [T0_g hi]; rfl
    have a2 : T0 (29 + 2 * i) 2 = 1 := by rw [T0_g hi]; rfl
    rw [a1, a2, V0_4 (g := (i : Int)) (by omega) (by omega), V0_z (k := 3) (by omega) (by omega) (by omega) (by omega)]
    refine ⟨fun j h1 h2 => ?_, by omega, by omega, by omega, by omega, ?_, ?_⟩
    · rw [T0_n hi, V0_2 (g := (i : Int)) (by omega) (by omega) h1 h2]
    · decide
    · decide
  · have hk' : (k : Int) < 0 := hk
    omega
  · rw [V0_z (k := 14) (by omega) (by omega) (by omega) (by omega), V0_z (k := 15) (by omega) (by omega) (by omega) (by omega), V0_z (k := 16) (by omega) (by omega) (by omega) (by omega), V0_z (k := 17) (by omega) (by omega) (by omega) (by omega)]
    exact ⟨rfl, rfl, rfl, rfl⟩
