/-! union and find: each side leads to a lesser one of its line -/
def UF (W G : Int → Int) : Prop := ∀ s : Int, 0 ≤ s → s < 128 → (G s = -1 ∧ W s = -6) ∨ (0 ≤ G s ∧ G s ≤ s ∧ G (G s) = G s ∧ 0 ≤ W s ∧ W s ≤ s ∧ G (W s) = G s ∧ (W s = s ↔ G s = s))
theorem UF_join {W G : Int → Int} {a b : Int} (h : UF W G) (ha : 0 ≤ a) (ha' : a < 128) (hb : 0 ≤ b) (hb' : b < 128) (ga : 0 ≤ G a) (gb : 0 ≤ G b) : UF (ax_u W (hiG G a b) (loG G a b)) (rlG G (hiG G a b) (loG G a b) 128) := by
  have xa := h a ha ha'
  have xb := h b hb hb'
  have hh : (0 ≤ hiG G a b ∧ hiG G a b < 128) ∧ G (hiG G a b) = hiG G a b := by
    unfold hiG
    split
    · rcases xb with q | q
      · omega
      · exact ⟨by omega, q.2.2.1⟩
    · rcases xa with q | q
      · omega
      · exact ⟨by omega, q.2.2.1⟩
  have hl : (0 ≤ loG G a b ∧ loG G a b ≤ hiG G a b) ∧ G (loG G a b) = loG G a b := by
    unfold hiG loG
    split
    · rcases xa with q | q
      · omega
      · exact ⟨by omega, q.2.2.1⟩
    · rcases xb with q | q
      · omega
      · exact ⟨by omega, q.2.2.1⟩
  generalize hiG G a b = hi at *
  generalize loG G a b = lo at *
  intro s h1 h2
  have xs := h s h1 h2
  have e1 : ∀ t : Int, 0 ≤ t → t < 128 → G t = hi → rlG G hi lo 128 t = lo := fun t a b c => by unfold rlG; rw [if_pos ⟨⟨a, b⟩, c⟩]
  have e2 : ∀ t : Int, G t ≠ hi → rlG G hi lo 128 t = G t := fun t c => by unfold rlG; rw [if_neg (fun d => c d.2)]
  have gl : rlG G hi lo 128 lo = lo := by
    by_cases c : lo = hi
    · exact e1 lo (by omega) (by omega) (by omega)
    · rw [e2 lo (by omega), hl.2]
  by_cases c : G s = hi
  · right
    rw [e1 s h1 h2 c]
    rcases xs with q | q
    · omega
    · refine ⟨by omega, by omega, gl, ?_⟩
      unfold ax_u
      by_cases d : s = hi
      · rw [if_pos d]
        exact ⟨by omega, by omega, gl, by omega⟩
      · rw [if_neg d]
        refine ⟨q.2.2.2.1, q.2.2.2.2.1, e1 (W s) (by omega) (by omega) (by rw [q.2.2.2.2.2.1, c]), ?_⟩
        have := q.2.2.2.2.2.2
        constructor
        · intro e
          have := this.mp e
          omega
        · intro e
          rw [← e, hl.2] at c
          omega
  · rw [e2 s c]
    have ns : s ≠ hi := fun e => c (by rw [e]; exact hh.2)
    rcases xs with q | q
    · left
      unfold ax_u
      rw [if_neg ns]
      exact q
    · right
      unfold ax_u
      rw [if_neg ns]
      refine ⟨q.1, q.2.1, ?_, q.2.2.2.1, q.2.2.2.2.1, ?_, q.2.2.2.2.2.2⟩
      · rw [e2 (G s) (by rw [q.2.2.1]; exact c), q.2.2.1]
      · rw [e2 (W s) (by rw [q.2.2.2.2.2.1]; exact c), q.2.2.2.2.2.1]
theorem UF.cut {W G : Int → Int} {s : Int} (h : UF W G) (h1 : 0 ≤ s) (h2 : s < 128) : W s ≠ -6 ↔ 0 ≤ G s := by
  rcases h s h1 h2 with q | q <;> omega
theorem UF.rng {W G : Int → Int} {s : Int} (h : UF W G) (h1 : 0 ≤ s) (h2 : s < 128) : -6 ≤ W s ∧ W s < 128 := by
  rcases h s h1 h2 with q | q <;> omega
/-- a join, as the class does it: nothing, if one isn't cut -/
def jnG (G : Int → Int) (a b : Int) : Int → Int := if 0 ≤ G a ∧ 0 ≤ G b then rlG G (hiG G a b) (loG G a b) 128 else G
theorem jnG_lnk {p : GL} {a b : Int} (ha : 0 ≤ p.1 a) (hb : 0 ≤ p.1 b) : jnG p.1 a b = (lnk p a b).1 := by
  unfold jnG lnk
  rw [if_pos ⟨ha, hb⟩]
theorem jnG_no {G : Int → Int} {a b : Int} (h : G a < 0 ∨ G b < 0) : jnG G a b = G := by
  unfold jnG
  rw [if_neg (by omega)]
theorem hiG_sym (G : Int → Int) (a b : Int) : hiG G a b = hiG G b a := by unfold hiG; split <;> split <;> omega
theorem loG_sym (G : Int → Int) (a b : Int) : loG G a b = loG G b a := by unfold loG; split <;> split <;> omega
theorem jnG_sym (G : Int → Int) (a b : Int) : jnG G a b = jnG G b a := by
  unfold jnG
  rw [hiG_sym, loG_sym]
  by_cases c : 0 ≤ G a ∧ 0 ≤ G b
  · rw [if_pos c, if_pos ⟨c.2, c.1⟩]
  · rw [if_neg c, if_neg (fun d => c ⟨d.2, d.1⟩)]
theorem rlG_cut {G : Int → Int} {a b s : Int} (ha : 0 ≤ G a) (hb : 0 ≤ G b) : 0 ≤ rlG G (hiG G a b) (loG G a b) 128 s ↔ 0 ≤ G s := by
  have h1 : 0 ≤ hiG G a b := by unfold hiG; split <;> omega
  have h2 : 0 ≤ loG G a b := by unfold loG; split <;> omega
  unfold rlG
  split <;> omega
theorem jnG_cut {G : Int → Int} {a b s : Int} : 0 ≤ jnG G a b s ↔ 0 ≤ G s := by
  unfold jnG
  split
  · rename_i c; exact rlG_cut c.1 c.2
  · exact Iff.rfl
theorem lnk_cut {p : GL} {a b s : Int} (ha : 0 ≤ p.1 a) (hb : 0 ≤ p.1 b) : 0 ≤ (lnk p a b).1 s ↔ 0 ≤ p.1 s := rlG_cut ha hb
theorem UF_jn {W G : Int → Int} {a b : Int} (h : UF W G) (ha : 0 ≤ a) (ha' : a < 128) (hb : 0 ≤ b) (hb' : b < 128) : UF (if 0 ≤ G a ∧ 0 ≤ G b then ax_u W (hiG G a b) (loG G a b) else W) (jnG G a b) := by
  unfold jnG
  split
  · rename_i c; exact UF_join h ha ha' hb hb' c.1 c.2
  · exact h
/-- what the class's square does with its sides, when not all are cut -/
def sixG (G : Int → Int) (b : Int) : Int → Int := jnG (jnG (jnG (jnG (jnG (jnG G b (b + 1)) b (b + 3)) b (b + 16)) (b + 1) (b + 3)) (b + 1) (b + 16)) (b + 3) (b + 16)
theorem sixG_eq {p : GL} {b : Int} (hm : manyZ p.1 b = 0 ∨ manyZ p.1 b = 2) : sixG p.1 b = (if manyZ p.1 b = 2 then (lnk p (oneZ p.1 b) (othZ p.1 b)).1 else p.1) := by
  have no : ∀ (G : Int → Int) (x y : Int), (∀ s : Int, 0 ≤ G s ↔ 0 ≤ p.1 s) → (¬ 0 ≤ p.1 x ∨ ¬ 0 ≤ p.1 y) → jnG G x y = G := fun G x y hG c => jnG_no (by have a := hG x; have b := hG y; omega)
  have cj : ∀ (x y s : Int), 0 ≤ jnG p.1 x y s ↔ 0 ≤ p.1 s := fun x y s => jnG_cut
  have c0 : ∀ s : Int, 0 ≤ p.1 s ↔ 0 ≤ p.1 s := fun _ => Iff.rfl
  unfold sixG
  unfold manyZ cuZ at hm ⊢
  by_cases h1 : 0 ≤ p.1 b <;> by_cases h2 : 0 ≤ p.1 (b + 16) <;> by_cases h3 : 0 ≤ p.1 (b + 1) <;> by_cases h4 : 0 ≤ p.1 (b + 3) <;> simp only [h1, h2, h3, h4, if_true, if_false] at hm ⊢ <;> (try omega)
  · -- bottom, top
    rw [no p.1 b (b + 1) c0 (Or.inr h3), no p.1 b (b + 3) c0 (Or.inr h4), no _ (b + 1) (b + 3) (cj _ _) (Or.inl h3), no _ (b + 1) (b + 16) (cj _ _) (Or.inl h3), no _ (b + 3) (b + 16) (cj _ _) (Or.inl h4), jnG_lnk h1 h2]
    unfold oneZ othZ
    simp only [h1, h2, h3, h4, if_true, if_false]
    rfl
  · -- bottom, left
    rw [no _ b (b + 3) (cj _ _) (Or.inr h4), no _ b (b + 16) (cj _ _) (Or.inr h2), no _ (b + 1) (b + 3) (cj _ _) (Or.inr h4), no _ (b + 1) (b + 16) (cj _ _) (Or.inr h2), no _ (b + 3) (b + 16) (cj _ _) (Or.inl h4), jnG_lnk h1 h3]
    unfold oneZ othZ
    simp only [h1, h2, h3, h4, if_true, if_false]
    rfl
  · -- bottom, right
    rw [no p.1 b (b + 1) c0 (Or.inr h3), no _ b (b + 16) (cj _ _) (Or.inr h2), no _ (b + 1) (b + 3) (cj _ _) (Or.inl h3), no _ (b + 1) (b + 16) (cj _ _) (Or.inl h3), no _ (b + 3) (b + 16) (cj _ _) (Or.inr h2), jnG_lnk h1 h4]
    unfold oneZ othZ
    simp only [h1, h2, h3, h4, if_true, if_false]
    rfl
  · -- top, left
    rw [no p.1 b (b + 1) c0 (Or.inl h1), no p.1 b (b + 3) c0 (Or.inl h1), no p.1 b (b + 16) c0 (Or.inl h1), no p.1 (b + 1) (b + 3) c0 (Or.inr h4), no _ (b + 3) (b + 16) (cj _ _) (Or.inl h4), jnG_lnk h3 h2]
    unfold oneZ othZ
    simp only [h1, h2, h3, h4, if_true, if_false]
    rfl
  · -- top, right
    rw [no p.1 b (b + 1) c0 (Or.inl h1), no p.1 b (b + 3) c0 (Or.inl h1), no p.1 b (b + 16) c0 (Or.inl h1), no p.1 (b + 1) (b + 3) c0 (Or.inl h3), no p.1 (b + 1) (b + 16) c0 (Or.inl h3), jnG_sym, jnG_lnk h2 h4]
    unfold oneZ othZ
    simp only [h1, h2, h3, h4, if_true, if_false]
    rfl
  · -- left, right
    rw [no p.1 b (b + 1) c0 (Or.inl h1), no p.1 b (b + 3) c0 (Or.inl h1), no p.1 b (b + 16) c0 (Or.inl h1), no _ (b + 1) (b + 16) (cj _ _) (Or.inr h2), no _ (b + 3) (b + 16) (cj _ _) (Or.inr h2), jnG_lnk h3 h4]
    unfold oneZ othZ
    simp only [h1, h2, h3, h4, if_true, if_false]
    rfl
  · rw [no p.1 b (b + 1) c0 (Or.inl h1), no p.1 b (b + 3) c0 (Or.inl h1), no p.1 b (b + 16) c0 (Or.inl h1), no p.1 (b + 1) (b + 3) c0 (Or.inl h3), no p.1 (b + 1) (b + 16) c0 (Or.inl h3), no p.1 (b + 3) (b + 16) c0 (Or.inl h4)]
    rfl
