/-- the reference: its cell and its rows behind it, as tables of numbers -/
def mce (X : ax_X) (o : Nat) (k : Nat) (g : Int → Int) : va_E := match k with
  | 0 => .inr (7, [.ref (o + 1), .ref (o + 2), .ref (o + 3), .ref (o + 4), .ref (o + 5), .ref (o + 6), .ref (o + 7), .ref (o + 8), .int (i3 (g 8)), .ref (o + 9), .ref (o + 10), .ref (o + 11), .ref (o + 12), .ref (o + 13), .int (i3 (g 14)), .ref (o + 14), .ref (o + 15), .ref (o + 16), .ref (o + 17), .int (i3 (g 19)), .ref (o + 18), .int (i3 (g 21)), .ref (o + 19), .long (i6 (g 23)), .ref (o + 20), .ref (o + 21), .ref (o + 22), .ref (o + 23), .int (i3 (g 28)), .long (i6 (g 29)), .long (i6 (g 30)), .ref (o + 24), .ref (o + 25)])
  | 1 => .inl (X.2.2.1 0, 20001, .inl (fun j : Nat => i3 (g (j : Int))))
  | 2 => .inl (X.2.2.1 0, 36, .inl (fun j : Nat => i3 (g (j : Int))))
  | 3 => .inl (X.2.2.1 1, 6, .inr (.inl (fun j : Nat => i6 (g (j : Int)))))
  | 4 => .inl (X.2.2.1 1, 6, .inr (.inl (fun j : Nat => i6 (g (j : Int)))))
  | 5 => .inl (X.2.2.1 0, 8, .inl (fun j : Nat => i3 (g (j : Int))))
  | 6 => .inl (X.2.2.1 0, 8, .inl (fun j : Nat => i3 (g (j : Int))))
  | 7 => .inl (X.2.2.1 0, 8, .inl (fun j : Nat => i3 (g (j : Int))))
  | 8 => .inl (X.2.2.1 0, 8, .inl (fun j : Nat => i3 (g (j : Int))))
  | 9 => .inl (X.2.2.1 0, 384, .inl (fun j : Nat => i3 (g (j : Int))))
  | 10 => .inl (X.2.2.1 0, 384, .inl (fun j : Nat => i3 (g (j : Int))))
  | 11 => .inl (X.2.2.1 0, 24, .inl (fun j : Nat => i3 (g (j : Int))))
  | 12 => .inl (X.2.2.1 1, 24, .inr (.inl (fun j : Nat => i6 (g (j : Int)))))
  | 13 => .inl (X.2.2.1 0, 8, .inl (fun j : Nat => i3 (g (j : Int))))
  | 14 => .inl (X.2.2.1 0, 12, .inl (fun j : Nat => i3 (g (j : Int))))
  | 15 => .inl (X.2.2.1 0, 12, .inl (fun j : Nat => i3 (g (j : Int))))
  | 16 => .inl (X.2.2.1 0, 12, .inl (fun j : Nat => i3 (g (j : Int))))
  | 17 => .inl (X.2.2.1 0, 12, .inl (fun j : Nat => i3 (g (j : Int))))
  | 18 => .inl (X.2.2.1 1, 25, .inr (.inl (fun j : Nat => i6 (g (j : Int)))))
  | 19 => .inl (X.2.2.1 1, 6, .inr (.inl (fun j : Nat => i6 (g (j : Int)))))
  | 20 => .inl (X.2.2.1 0, 8, .inl (fun j : Nat => i3 (g (j : Int))))
  | 21 => .inl (X.2.2.1 1, 64, .inr (.inl (fun j : Nat => i6 (g (j : Int)))))
  | 22 => .inl (X.2.2.1 0, 128, .inl (fun j : Nat => i3 (g (j : Int))))
  | 23 => .inl (X.2.2.1 0, 128, .inl (fun j : Nat => i3 (g (j : Int))))
  | 24 => .inl (X.2.2.1 1, 48, .inr (.inl (fun j : Nat => i6 (g (j : Int)))))
  | 25 => .inl (X.2.2.1 2, 48, .inl (fun j : Nat => i3 (g (j : Int))))
  | _ => .inr (7, [])
def MH (X : ax_X) (o : Nat) (V : Nat → Int → Int) (f : ax_F) : Prop := ∀ k : Nat, k < 26 → f (o + k) = some (mce X o k (V k))
def mset (V : Nat → Int → Int) (k : Nat) (g : Int → Int) : Nat → Int → Int := fun j => if j = k then g else V j
theorem mset_s (V : Nat → Int → Int) (k : Nat) (g : Int → Int) : mset V k g k = g := if_pos rfl
theorem mset_n {V : Nat → Int → Int} {k j : Nat} {g : Int → Int} (h : j ≠ k) : mset V k g j = V j := if_neg h
theorem MH.set {X : ax_X} {o k : Nat} {V : Nat → Int → Int} {f : ax_F} {g : Int → Int} {e : va_E} (h : MH X o V f) (he : e = mce X o k g) : MH X o (mset V k g) (va_up f (o + k) (some e)) := by
  intro j hj
  unfold va_up
  by_cases hk : j = k
  · subst hk
    rw [if_pos rfl, mset_s, he]
  · rw [if_neg (by omega), mset_n hk]
    exact h j hj
/-- nothing but the reference's own cells has changed -/
def MF (o : Nat) (f f' : ax_F) : Prop := ∀ a : Nat, (a < o ∨ o + 26 ≤ a) → f' a = f a
theorem MF.rfl {o : Nat} {f : ax_F} : MF o f f := fun _ _ => Eq.refl _
theorem MF.trans {o : Nat} {f g h : ax_F} (a : MF o f g) (b : MF o g h) : MF o f h := fun q hq => (b q hq).trans (a q hq)
theorem MF.up {o k : Nat} {f g : ax_F} {e : Option va_E} (a : MF o f g) (hk : k < 26) : MF o f (va_up g (o + k) e) := fun q hq => by
  unfold va_up
  rw [if_neg (by omega)]
  exact a q hq
def mq (X : ax_X) (o : Nat) (f : ax_F) (z : Nat) (w : Option Value) (V : Nat → Int → Int) : Option Value → Nat → ax_F → Prop := fun v z' f' => v = w ∧ z' = z ∧ MH X o V f' ∧ MF o f f'
theorem mq0 {X : ax_X} {o z : Nat} {f f' : ax_F} {w w' : Option Value} {V V' : Nat → Int → Int} (h : w = w') (hM : MH X o V' f') (hV : V' = V) (hF : MF o f f') : ax_Rt 0 0 (mq X o f z w' V) w 0 0 z f' := ⟨Nat.le_refl _, Nat.le_refl _, h, rfl, hV ▸ hM, hF⟩
/-- a call that changes the reference's tables alone -/
theorem ax_fm {X : ax_X} {mi' : ax_MI} {mc ms : Nat} {k : ax_P} {ls : List (Option Value)} {as r : List Value} {c n z o : Nat} {f f0 : ax_F} {w : Option Value} {V : Nat → Int → Int} (h1 : (r.map fun v => v.category).sum ≤ 8) (hc : c ≤ mc) (hn : n ≤ ms) (hF : MF o f0 f) (hM : ax_M X mi' 0 0 as z f (mq X o f z w V)) (hk : ∀ f' : ax_F, MH X o V f' → MF o f0 f' → k ls (w.toList ++ r) c n z f') : ax_cont X mi' mc ms k ls as r c n z f :=
  ⟨h1, 0, 0, _, hM, hc, hn, fun v z' f' h => by obtain ⟨rfl, rfl, h3, h4⟩ := h; exact hk f' h3 (hF.trans h4)⟩
theorem tm_eq (a b : Int) : a - a.tdiv b * b = a.tmod b := by
  have := Int.mul_tdiv_add_tmod a b
  rw [Int.mul_comm] at this
  omega
