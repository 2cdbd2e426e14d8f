/-! the class's heap: object or row j at r + j, its numbers T j -/
def cI (X : ax_X) (n : Nat) (g : Int → Int) : va_E := .inl (X.2.2.1 0, n, .inl (fun j : Nat => i3 (g (j : Int))))
def cZ (X : ax_X) (n : Nat) (g : Int → Int) : va_E := .inl (X.2.2.1 2, n, .inl (fun j : Nat => i3 (g (j : Int))))
def cL (X : ax_X) (n : Nat) (g : Int → Int) : va_E := .inl (X.2.2.1 1, n, .inr (.inl (fun j : Nat => i6 (g (j : Int)))))
def cQ (X : ax_X) (t n : Nat) (q : Nat → Option Nat) : va_E := .inl (X.2.2.1 t, n, .inr (.inr (.inr (.inr q))))
def cGl (b : Nat) (g : Int → Int) : va_E := .inr (3, [.ref b, .long (i6 (g 1)), .long (i6 (g 2))])
def cSt (r a : Nat) (g : Int → Int) : va_E := .inr (4, [.int (i3 (g 0)), .int (i3 (g 1)), .int (i3 (g 2)), .ref (r + 29 + 2 * (g 3).toNat), .ref (a + 1), .ref (a + 2), .ref (a + 3), .ref (a + 4), .int (i3 (g 8))])
def qGl (r : Nat) : Nat → Option Nat := fun i => if i < 6 then some (r + 29 + 2 * i) else none
def qSt (r n : Nat) : Nat → Option Nat := fun i => if i < n then some (r + 67 + 5 * i) else none
def qRw (r : Nat) : Nat → Option Nat := fun i => if i < 5 then some (r + 20 + i) else none
/-- a cell of the class, by its place; n stations there are -/
def rce (X : ax_X) (r n j : Nat) (g : Int → Int) : va_E :=
  if j < 29 then match j with
  | 0 => .inr (6, [.ref (r + 1), .ref (r + 2), .ref (r + 7), .ref (r + 14), .ref (r + 26)])
  | 1 => cQ X 3 6 (qGl r)
  | 2 => .inr (0, [.ref (r + 3), .int (i3 (g 1)), .ref (r + 4), .ref (r + 5), .ref (r + 6), .int (i3 (g 5))])
  | 3 => cQ X 4 8 (qSt r n)
  | 4 => cI X 8 g
  | 5 => cI X 64 g
  | 6 => cI X 64 g
  | 7 => .inr (1, [.ref (r + 8), .ref (r + 9), .ref (r + 10), .ref (r + 11), .ref (r + 12), .ref (r + 13), .int (i3 (g 6)), .int (i3 (g 7)), .int (i3 (g 8)), .int (i3 (g 9))])
  | 8 => cZ X 64 g
  | 9 => cI X 128 g
  | 10 => cI X 128 g
  | 11 => cI X 128 g
  | 12 => cZ X 128 g
  | 13 => cI X 128 g
  | 14 => .inr (5, [.int (i3 (g 0)), .int (i3 (g 1)), .ref (r + 15), .ref (r + 16), .ref (r + 17), .ref (r + 18), .ref (r + 19), .ref (r + 25), .long (i6 (g 8)), .int (i3 (g 9))])
  | 15 => cI X 12 g
  | 16 => cI X 12 g
  | 17 => cI X 12 g
  | 18 => cI X 12 g
  | 19 => cQ X 5 5 (qRw r)
  | 20 => cL X 6 g
  | 21 => cL X 6 g
  | 22 => cL X 6 g
  | 23 => cL X 6 g
  | 24 => cL X 6 g
  | 25 => cL X 6 g
  | 26 => .inr (2, [.ref (r + 27), .ref (r + 28), .int (i3 (g 2)), .int (i3 (g 3)), .long (i6 (g 4)), .long (i6 (g 5))])
  | 27 => cI X 48 g
  | _ => cI X 48 g
  else if j < 41 then (if (j - 29) % 2 = 0 then cGl (r + j + 1) g else cI X 6 g)
  else match (j - 67) % 5 with
  | 0 => cSt r (r + j) g
  | 1 => cI X 48 g
  | 2 => cI X 48 g
  | 3 => cI X 3 g
  | _ => cL X 3 g
def RH (X : ax_X) (r : Nat) (T : Nat → Int → Int) (f : ax_F) : Prop := ∀ j : Nat, (j < 41 ∨ (67 ≤ j ∧ j < 67 + 5 * (T 2 1).toNat)) → f (r + j) = some (rce X r (T 2 1).toNat j (T j))
theorem RH.set {X : ax_X} {r k : Nat} {T : Nat → Int → Int} {f : ax_F} {g : Int → Int} {e : va_E} (h : RH X r T f) (h2 : k ≠ 2 ∨ g 1 = T 2 1) (he : e = rce X r (T 2 1).toNat k g) : RH X r (mset T k g) (va_up f (r + k) (some e)) := by
  have e2 : mset T k g 2 1 = T 2 1 := by
    unfold mset
    split
    · rename_i q
      rcases h2 with h2 | h2
      · omega
      · exact h2
    · rfl
  intro j hj
  rw [e2] at hj ⊢
  unfold va_up
  by_cases hk : j = k
  · subst hk
    rw [if_pos rfl, mset_s, he]
  · rw [if_neg (by omega), mset_n hk]
    exact h j hj
/-- nothing but the class's own cells has changed -/
def RF (r : Nat) (f f' : ax_F) : Prop := ∀ a : Nat, (a < r ∨ (r + 41 ≤ a ∧ a < r + 67)) → f' a = f a
theorem RF.rfl {r : Nat} {f : ax_F} : RF r f f := fun _ _ => Eq.refl _
theorem RF.trans {r : Nat} {f g h : ax_F} (a : RF r f g) (b : RF r g h) : RF r f h := fun q hq => (b q hq).trans (a q hq)
theorem RF.up {r k : Nat} {f g : ax_F} {e : Option va_E} (a : RF r f g) (hk : k < 41 ∨ 67 ≤ k) : RF r f (va_up g (r + k) e) := fun q hq => by
  unfold va_up
  rw [if_neg (by omega)]
  exact a q hq
def rq (X : ax_X) (r : Nat) (f : ax_F) (z : Nat) (w : Option Value) (T : Nat → Int → Int) : Option Value → Nat → ax_F → Prop := fun v z' f' => v = w ∧ z' = z ∧ RH X r T f' ∧ RF r f f'
theorem rq0 {X : ax_X} {r z : Nat} {f f' : ax_F} {w w' : Option Value} {T T' : Nat → Int → Int} (h : w = w') (hM : RH X r T' f') (hV : T' = T) (hF : RF r f f') : ax_Rt 0 0 (rq X r f z w' T) w 0 0 z f' := ⟨Nat.le_refl _, Nat.le_refl _, h, rfl, hV ▸ hM, hF⟩
/-- a call that changes the class's tables alone -/
theorem ax_fr {X : ax_X} {mi' : ax_MI} {mc ms : Nat} {k : ax_P} {ls : List (Option Value)} {as r : List Value} {c n z o : Nat} {f f0 : ax_F} {w : Option Value} {T : Nat → Int → Int} (h1 : (r.map fun v => v.category).sum ≤ 8) (hc : c ≤ mc) (hn : n ≤ ms) (hF : RF o f0 f) (hM : ax_M X mi' 0 0 as z f (rq X o f z w T)) (hk : ∀ f' : ax_F, RH X o T f' → RF o f0 f' → k ls (w.toList ++ r) c n z f') : ax_cont X mi' mc ms k ls as r c n z f :=
  ⟨h1, 0, 0, _, hM, hc, hn, fun v z' f' h => by obtain ⟨rfl, rfl, h3, h4⟩ := h; exact hk f' h3 (hF.trans h4)⟩
section RHA
variable {X : ax_X} {r : Nat} {T : Nat → Int → Int} {f : ax_F}
theorem RH.gl (h : RH X r T f) {i : Nat} (hi : i < 6) : f (r + 29 + 2 * i) = some (.inr (3, [.ref (r + 30 + 2 * i), .long (i6 (T (29 + 2 * i) 1)), .long (i6 (T (29 + 2 * i) 2))])) := by
  have q := h (29 + 2 * i) (by omega)
  rw [show r + 29 + 2 * i = r + (29 + 2 * i) by omega, q]
  unfold rce
  rw [if_neg (by omega), if_pos (by omega), if_pos (by omega)]
  unfold cGl
  rw [show r + (29 + 2 * i) + 1 = r + 30 + 2 * i by omega]
theorem RH.gn (h : RH X r T f) {i : Nat} (hi : i < 6) : f (r + 30 + 2 * i) = some (.inl (X.2.2.1 0, 6, .inl (fun j : Nat => i3 (T (30 + 2 * i) (j : Int))))) := by
  have q := h (30 + 2 * i) (by omega)
  rw [show r + 30 + 2 * i = r + (30 + 2 * i) by omega, q]
  unfold rce
  rw [if_neg (by omega), if_pos (by omega), if_neg (by omega)]
  rfl
theorem RH.st (h : RH X r T f) {k : Nat} (hk : (k : Int) < T 2 1) : f (r + 67 + 5 * k) = some (.inr (4, [.int (i3 (T (67 + 5 * k) 0)), .int (i3 (T (67 + 5 * k) 1)), .int (i3 (T (67 + 5 * k) 2)), .ref (r + 29 + 2 * (T (67 + 5 * k) 3).toNat), .ref (r + 68 + 5 * k), .ref (r + 69 + 5 * k), .ref (r + 70 + 5 * k), .ref (r + 71 + 5 * k), .int (i3 (T (67 + 5 * k) 8))])) := by
  have q := h (67 + 5 * k) (by omega)
  rw [show r + 67 + 5 * k = r + (67 + 5 * k) by omega, q]
  unfold rce
  rw [if_neg (by omega), if_neg (by omega), show (67 + 5 * k - 67) % 5 = 0 by omega]
  simp only [cSt]
  rw [show r + (67 + 5 * k) + 1 = r + 68 + 5 * k by omega, show r + (67 + 5 * k) + 2 = r + 69 + 5 * k by omega, show r + (67 + 5 * k) + 3 = r + 70 + 5 * k by omega, show r + (67 + 5 * k) + 4 = r + 71 + 5 * k by omega]
theorem RH.s1 (h : RH X r T f) {k : Nat} (hk : (k : Int) < T 2 1) : f (r + 68 + 5 * k) = some (.inl (X.2.2.1 0, 48, .inl (fun j : Nat => i3 (T (68 + 5 * k) (j : Int))))) := by
  have q := h (68 + 5 * k) (by omega)
  rw [show r + 68 + 5 * k = r + (68 + 5 * k) by omega, q]
  unfold rce
  rw [if_neg (by omega), if_neg (by omega), show (68 + 5 * k - 67) % 5 = 1 by omega]
  rfl
theorem RH.s2 (h : RH X r T f) {k : Nat} (hk : (k : Int) < T 2 1) : f (r + 69 + 5 * k) = some (.inl (X.2.2.1 0, 48, .inl (fun j : Nat => i3 (T (69 + 5 * k) (j : Int))))) := by
  have q := h (69 + 5 * k) (by omega)
  rw [show r + 69 + 5 * k = r + (69 + 5 * k) by omega, q]
  unfold rce
  rw [if_neg (by omega), if_neg (by omega), show (69 + 5 * k - 67) % 5 = 2 by omega]
  rfl
theorem RH.s3 (h : RH X r T f) {k : Nat} (hk : (k : Int) < T 2 1) : f (r + 70 + 5 * k) = some (.inl (X.2.2.1 0, 3, .inl (fun j : Nat => i3 (T (70 + 5 * k) (j : Int))))) := by
  have q := h (70 + 5 * k) (by omega)
  rw [show r + 70 + 5 * k = r + (70 + 5 * k) by omega, q]
  unfold rce
  rw [if_neg (by omega), if_neg (by omega), show (70 + 5 * k - 67) % 5 = 3 by omega]
  rfl
theorem RH.s4 (h : RH X r T f) {k : Nat} (hk : (k : Int) < T 2 1) : f (r + 71 + 5 * k) = some (.inl (X.2.2.1 1, 3, .inr (.inl (fun j : Nat => i6 (T (71 + 5 * k) (j : Int)))))) := by
  have q := h (71 + 5 * k) (by omega)
  rw [show r + 71 + 5 * k = r + (71 + 5 * k) by omega, q]
  unfold rce
  rw [if_neg (by omega), if_neg (by omega), show (71 + 5 * k - 67) % 5 = 4 by omega]
  rfl
end RHA
