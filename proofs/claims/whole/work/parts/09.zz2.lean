theorem i3_toInt {a : Int} (h : -2147483648 ≤ a) (h2 : a < 2147483648) : (i3 a).toInt = a := by
  unfold i3
  rw [Int32.toInt_ofInt]
  exact fb_bmod h h2
theorem i6_toInt {a : Int} (h : -9223372036854775808 ≤ a) (h2 : a < 9223372036854775808) : (i6 a).toInt = a := by
  unfold i6
  rw [Int64.toInt_ofInt]
  exact fb_bmodL h h2
theorem i3_of (x : Int32) : x = i3 x.toInt := (Int32.ofInt_toInt x).symm
theorem i6_of (x : Int64) : x = i6 x.toInt := (Int64.ofInt_toInt x).symm
theorem i3_add (a b : Int) : i3 a + i3 b = i3 (a + b) := (Int32.ofInt_add a b).symm
theorem i3_sub (a b : Int) : i3 a - i3 b = i3 (a - b) := (Int32.ofInt_sub a b).symm
theorem i3_mul (a b : Int) : i3 a * i3 b = i3 (a * b) := (Int32.ofInt_mul a b).symm
theorem i3_neg (a : Int) : -i3 a = i3 (-a) := (Int32.ofInt_neg a).symm
theorem i6_add (a b : Int) : i6 a + i6 b = i6 (a + b) := (Int64.ofInt_add a b).symm
theorem i6_sub (a b : Int) : i6 a - i6 b = i6 (a - b) := (Int64.ofInt_sub a b).symm
theorem i6_mul (a b : Int) : i6 a * i6 b = i6 (a * b) := (Int64.ofInt_mul a b).symm
theorem i6_neg (a : Int) : -i6 a = i6 (-a) := (Int64.ofInt_neg a).symm
theorem i3_0 : (0 : Int32) = i3 0 := rfl
theorem i3_1 : (1 : Int32) = i3 1 := rfl
theorem i6_0 : (0 : Int64) = i6 0 := rfl
theorem i3_lt {a b : Int} (h1 : -2147483648 ≤ a) (h2 : a < 2147483648) (h3 : -2147483648 ≤ b) (h4 : b < 2147483648) : i3 a < i3 b ↔ a < b := by
  rw [Int32.lt_iff_toInt_lt, i3_toInt h1 h2, i3_toInt h3 h4]
theorem i3_le {a b : Int} (h1 : -2147483648 ≤ a) (h2 : a < 2147483648) (h3 : -2147483648 ≤ b) (h4 : b < 2147483648) : i3 a ≤ i3 b ↔ a ≤ b := by
  rw [Int32.le_iff_toInt_le, i3_toInt h1 h2, i3_toInt h3 h4]
theorem i3_eq {a b : Int} (h1 : -2147483648 ≤ a) (h2 : a < 2147483648) (h3 : -2147483648 ≤ b) (h4 : b < 2147483648) : i3 a = i3 b ↔ a = b := by
  rw [← Int32.toInt_inj, i3_toInt h1 h2, i3_toInt h3 h4]
theorem i6_lt {a b : Int} (h1 : -9223372036854775808 ≤ a) (h2 : a < 9223372036854775808) (h3 : -9223372036854775808 ≤ b) (h4 : b < 9223372036854775808) : i6 a < i6 b ↔ a < b := by
  rw [Int64.lt_iff_toInt_lt, i6_toInt h1 h2, i6_toInt h3 h4]
theorem i6_le {a b : Int} (h1 : -9223372036854775808 ≤ a) (h2 : a < 9223372036854775808) (h3 : -9223372036854775808 ≤ b) (h4 : b < 9223372036854775808) : i6 a ≤ i6 b ↔ a ≤ b := by
  rw [Int64.le_iff_toInt_le, i6_toInt h1 h2, i6_toInt h3 h4]
theorem i6_eq {a b : Int} (h1 : -9223372036854775808 ≤ a) (h2 : a < 9223372036854775808) (h3 : -9223372036854775808 ≤ b) (h4 : b < 9223372036854775808) : i6 a = i6 b ↔ a = b := by
  rw [← Int64.toInt_inj, i6_toInt h1 h2, i6_toInt h3 h4]
theorem i3_div {a b : Int} (h1 : -2147483648 ≤ a) (h2 : a < 2147483648) (h3 : -2147483648 ≤ b) (h4 : b < 2147483648) : i3 a / i3 b = i3 (a.tdiv b) := by
  unfold i3
  rw [Int32.ofInt_tdiv]
  · exact h1
  · exact Int.le_of_lt_add_one h2
  · exact h3
  · exact Int.le_of_lt_add_one h4
theorem i6_div {a b : Int} (h1 : -9223372036854775808 ≤ a) (h2 : a < 9223372036854775808) (h3 : -9223372036854775808 ≤ b) (h4 : b < 9223372036854775808) : i6 a / i6 b = i6 (a.tdiv b) := by
  unfold i6
  rw [Int64.ofInt_tdiv]
  · exact h1
  · exact Int.le_of_lt_add_one h2
  · exact h3
  · exact Int.le_of_lt_add_one h4
theorem i3_rem {a b : Int} (h1 : -2147483648 ≤ a) (h2 : a < 2147483648) (h3 : -2147483648 ≤ b) (h4 : b < 2147483648) : i3 a - i3 a / i3 b * i3 b = i3 (a.tmod b) := by
  rw [i3_div h1 h2 h3 h4, i3_mul, i3_sub]
  congr 1
  have := Int.mul_tdiv_add_tmod a b
  rw [Int.mul_comm] at this
  omega
theorem i6_rem {a b : Int} (h1 : -9223372036854775808 ≤ a) (h2 : a < 9223372036854775808) (h3 : -9223372036854775808 ≤ b) (h4 : b < 9223372036854775808) : i6 a - i6 a / i6 b * i6 b = i6 (a.tmod b) := by
  rw [i6_div h1 h2 h3 h4, i6_mul, i6_sub]
  congr 1
  have := Int.mul_tdiv_add_tmod a b
  rw [Int.mul_comm] at this
  omega
theorem i3_L {a : Int} (h1 : -2147483648 ≤ a) (h2 : a < 2147483648) : (i3 a).toInt64 = i6 a := by
  unfold i3 i6
  rw [Int32.toInt64_ofInt]
  · exact h1
  · exact Int.le_of_lt_add_one h2
theorem i6_I (a : Int) : (i6 a).toInt32 = i3 a := Int64.toInt32_ofInt
theorem i3_nat {a : Int} (h1 : 0 ≤ a) (h2 : a < 2147483648) : (((i3 a).toNatClampNeg : Nat) : Int) = a := by
  show (((i3 a).toInt.toNat : Nat) : Int) = a
  rw [i3_toInt (by omega) h2]
  exact Int.toNat_of_nonneg h1
theorem i3_tn {a : Int} (h1 : 0 ≤ a) (h2 : a < 2147483648) : (i3 a).toNatClampNeg = a.toNat := by
  show (i3 a).toInt.toNat = a.toNat
  rw [i3_toInt (by omega) h2]
theorem i3_in {a : Int} {n : Nat} (h1 : 0 ≤ a) (h2 : a < n) (h3 : n < 2147483648) : vp_in (i3 a) n := by
  rw [vp_in_iff, i3_toInt (by omega) (by omega)]
  exact ⟨h1, h2⟩
theorem i3_inI {a : Int} {n : Nat} (h1 : -2147483648 ≤ a) (h2 : a < 2147483648) : vp_in (i3 a) n ↔ 0 ≤ a ∧ a < n := by
  rw [vp_in_iff, i3_toInt h1 h2]
/-- a table of numbers, changed at one place -/
def ax_u (g : Int → Int) (a v : Int) : Int → Int := fun j => if j = a then v else g j
theorem ax_u_s (g : Int → Int) (a v : Int) : ax_u g a v a = v := if_pos rfl
theorem ax_u_n {g : Int → Int} {a v j : Int} (h : j ≠ a) : ax_u g a v j = g j := if_neg h
theorem ax_up3 {g : Int → Int} {a v : Int} (h1 : 0 ≤ a) (h2 : a < 2147483648) : va_up (fun j : Nat => i3 (g (j : Int))) (i3 a).toNatClampNeg (i3 v) = fun j : Nat => i3 (ax_u g a v (j : Int)) := by
  funext j
  unfold va_up ax_u
  by_cases hj : j = (i3 a).toNatClampNeg
  · rw [if_pos hj, if_pos (by rw [hj]; exact i3_nat h1 h2)]
  · rw [if_neg hj, if_neg (fun q => hj (by rw [i3_tn h1 h2, ← q]; rfl))]
theorem ax_up6 {g : Int → Int} {a v : Int} (h1 : 0 ≤ a) (h2 : a < 2147483648) : va_up (fun j : Nat => i6 (g (j : Int))) (i3 a).toNatClampNeg (i6 v) = fun j : Nat => i6 (ax_u g a v (j : Int)) := by
  funext j
  unfold va_up ax_u
  by_cases hj : j = (i3 a).toNatClampNeg
  · rw [if_pos hj, if_pos (by rw [hj]; exact i3_nat h1 h2)]
  · rw [if_neg hj, if_neg (fun q => hj (by rw [i3_tn h1 h2, ← q]; rfl))]
/-- a yes or no, as the machine has it -/
def ax_b (P : Prop) [Decidable P] : Int := if P then 1 else 0
theorem ax_b0 (P : Prop) [Decidable P] : i3 (ax_b P) = i3 0 ↔ ¬ P := by
  unfold ax_b
  split <;> rename_i h <;> simp [h]
  decide
theorem ax_b01 (P : Prop) [Decidable P] : i3 (ax_b P) = i3 0 ∨ i3 (ax_b P) = i3 1 := by
  unfold ax_b
  split
  · exact Or.inr rfl
  · exact Or.inl rfl
theorem ax_bt {P : Prop} [Decidable P] (h : P) : i3 1 = i3 (ax_b P) := by rw [ax_b, if_pos h]
theorem ax_bf {P : Prop} [Decidable P] (h : ¬ P) : i3 0 = i3 (ax_b P) := by rw [ax_b, if_neg h]
theorem ax_R0 {mc ms c n z : Nat} {Q : Option Value → Nat → ax_F → Prop} {v : Option Value} {f : ax_F} (h1 : c ≤ mc) (h2 : n ≤ ms) (h : Q v z f) : ax_Rt mc ms Q v c n z f := ⟨h1, h2, h⟩
theorem ax_met2 {X : ax_X} {mi : ax_MI} {mc ms : Nat} {as : List Value} {z : Nat} {f : ax_F} {Q : Option Value → Nat → ax_F → Prop} (ls : List (Option Value)) (hy : plainName mi.1.cls = true) (hl : (lg_sl as).length ≤ mi.2.2.1) (he : ax_ent as mi.2.2.1 = ls)
    (h : ax_G X mi mc ms Q 0 ls [] 0 0 z f) : ax_M X mi mc ms as z f Q := ax_met hy hl (he ▸ h)
def ax_pv (w : Value) (z : Nat) (f : ax_F) : Option Value → Nat → ax_F → Prop := fun v z' f' => v = some w ∧ z' = z ∧ f' = f
theorem ax_pv0 {w w' : Value} {z : Nat} {f : ax_F} (h : w = w') : ax_Rt 0 0 (ax_pv w' z f) (some w) 0 0 z f := ⟨Nat.le_refl _, Nat.le_refl _, by rw [h], rfl, rfl⟩
/-- a call that answers and changes nothing -/
theorem ax_fn {X : ax_X} {mi' : ax_MI} {mc ms : Nat} {k : ax_P} {ls : List (Option Value)} {as r : List Value} {c n z : Nat} {f : ax_F} {w : Value} (h1 : (r.map fun v => v.category).sum ≤ 8) (hc : c ≤ mc) (hn : n ≤ ms) (hM : ax_M X mi' 0 0 as z f (ax_pv w z f)) (hk : k ls (w :: r) c n z f) : ax_cont X mi' mc ms k ls as r c n z f :=
  ⟨h1, 0, 0, _, hM, hc, hn, fun v z' f' h => by obtain ⟨rfl, rfl, rfl⟩ := h; exact hk⟩
def zb (P : Prop) [Decidable P] : Int32 := if P then 1 else 0
theorem zb_0 (P : Prop) [Decidable P] : zb P = 0 ↔ ¬ P := by
  unfold zb
  split <;> rename_i h <;> simp [h]
theorem zb_1 (P : Prop) [Decidable P] : zb P = 1 ↔ P := by
  unfold zb
  split <;> rename_i h <;> simp [h]
theorem zb_01 (P : Prop) [Decidable P] : (zb P = 0 ∨ zb P = 1) = True := by
  unfold zb
  split <;> simp
theorem zb_t {P : Prop} [Decidable P] (h : P) : i3 1 = zb P := by rw [zb, if_pos h]; rfl
theorem zb_f {P : Prop} [Decidable P] (h : ¬ P) : i3 0 = zb P := by rw [zb, if_neg h]; rfl
theorem zb_c {P R : Prop} [Decidable P] [Decidable R] (h : P ↔ R) : zb P = zb R := by
  unfold zb
  by_cases hp : P
  · rw [if_pos hp, if_pos (h.mp hp)]
  · rw [if_neg hp, if_neg (fun r => hp (h.mpr r))]
theorem i3_eq0 {a : Int} (h1 : -2147483648 ≤ a) (h2 : a < 2147483648) : i3 a = 0 ↔ a = 0 := i3_eq (b := 0) h1 h2 (by omega) (by omega)
theorem i3_eq1 {a : Int} (h1 : -2147483648 ≤ a) (h2 : a < 2147483648) : i3 a = 1 ↔ a = 1 := i3_eq (b := 1) h1 h2 (by omega) (by omega)
theorem i3_lt0 {a : Int} (h1 : -2147483648 ≤ a) (h2 : a < 2147483648) : i3 a < 0 ↔ a < 0 := i3_lt (b := 0) h1 h2 (by omega) (by omega)
theorem i3_le0 {a : Int} (h1 : -2147483648 ≤ a) (h2 : a < 2147483648) : i3 a ≤ 0 ↔ a ≤ 0 := i3_le (b := 0) h1 h2 (by omega) (by omega)
theorem i3_gt0 {a : Int} (h1 : -2147483648 ≤ a) (h2 : a < 2147483648) : 0 < i3 a ↔ 0 < a := i3_lt (a := 0) (by omega) (by omega) h1 h2
theorem i3_ge0 {a : Int} (h1 : -2147483648 ≤ a) (h2 : a < 2147483648) : 0 ≤ i3 a ↔ 0 ≤ a := i3_le (a := 0) (by omega) (by omega) h1 h2
theorem i6_eq0 {a : Int} (h1 : -9223372036854775808 ≤ a) (h2 : a < 9223372036854775808) : i6 a = 0 ↔ a = 0 := i6_eq (b := 0) h1 h2 (by omega) (by omega)
/-- a method that only answers, as one instruction -/
def ax_pf (mc ms na : Nat) (val : List Value → Option Value) (k : ax_P) : ax_P := fun ls st c n z f => match ax_popn na [] st with
  | some (as, r) => (match val as with
    | some w => (r.map fun v => v.category).sum ≤ 8 ∧ c ≤ mc ∧ n ≤ ms ∧ k ls (w :: r) c n z f
    | none => False)
  | none => False
theorem sn_pf {X : ax_X} {mi mi' : ax_MI} {mc ms na pc : Nat} {Q : Option Value → Nat → ax_F → Prop} {k : ax_P} {val : List Value → Option Value} (hv : ∀ (as : List Value) (w : Value), val as = some w → ∀ (z : Nat) (f : ax_F), ax_M X mi' 0 0 as z f (ax_pv w z f)) (h : ax_S X mi mc ms Q pc (ax_call X mi' na mc ms k)) : ax_S X mi mc ms Q pc (ax_pf mc ms na val k) := by
  intro ls st c n z f hk
  apply h
  unfold ax_pf at hk
  unfold ax_call
  split at hk
  · rename_i as r hp
    rw [hp]
    split at hk
    · rename_i w hw
      exact ax_fn hk.1 hk.2.1 hk.2.2.1 (hv as w hw z f) hk.2.2.2
    · exact hk.elim
  · exact hk.elim
