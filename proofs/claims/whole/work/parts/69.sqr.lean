theorem cut_h {S : Int → Int} {v x y : Int} (hx : 0 ≤ x) (hx' : x ≤ 7) (hy : 0 ≤ y) (hy' : y ≤ 7) : cutP S v (16 * y + 2 * x) ↔ (x ≤ 6 ∧ ¬ (v ≤ S (8 * y + x) ↔ v ≤ S (8 * y + x + 1))) := by
  have e1 : (16 * y + 2 * x).tmod 16 = 2 * x := by rw [Int.tmod_eq_emod_of_nonneg (by omega)]; omega
  have e2 : (2 * x).tdiv 2 = x := by rw [Int.tdiv_eq_ediv_of_nonneg (by omega)]; omega
  have e3 : (16 * y + 2 * x).tdiv 16 = y := by rw [Int.tdiv_eq_ediv_of_nonneg (by omega)]; omega
  have e4 : (16 * y + 2 * x).tmod 2 = 0 := by rw [Int.tmod_eq_emod_of_nonneg (by omega)]; omega
  unfold cutP x2Z y2Z
  rw [e1, e2, e3, e4, if_pos rfl, if_pos rfl, show 8 * y + (x + 1) = 8 * y + x + 1 by omega]
  exact ⟨fun h => ⟨by omega, h.2⟩, fun h => ⟨by omega, h.2⟩⟩
theorem cut_v {S : Int → Int} {v x y : Int} (hx : 0 ≤ x) (hx' : x ≤ 7) (hy : 0 ≤ y) (hy' : y ≤ 7) : cutP S v (16 * y + 2 * x + 1) ↔ (y ≤ 6 ∧ ¬ (v ≤ S (8 * y + x) ↔ v ≤ S (8 * y + x + 8))) := by
  have e1 : (16 * y + 2 * x + 1).tmod 16 = 2 * x + 1 := by rw [Int.tmod_eq_emod_of_nonneg (by omega)]; omega
  have e2 : (2 * x + 1).tdiv 2 = x := by rw [Int.tdiv_eq_ediv_of_nonneg (by omega)]; omega
  have e3 : (16 * y + 2 * x + 1).tdiv 16 = y := by rw [Int.tdiv_eq_ediv_of_nonneg (by omega)]; omega
  have e4 : (16 * y + 2 * x + 1).tmod 2 = 1 := by rw [Int.tmod_eq_emod_of_nonneg (by omega)]; omega
  unfold cutP x2Z y2Z
  rw [e1, e2, e3, e4, if_neg (by omega), if_neg (by omega), show 8 * (y + 1) + x = 8 * y + x + 8 by omega]
  exact ⟨fun h => ⟨by omega, h.2⟩, fun h => ⟨by omega, h.2⟩⟩
theorem many_4 {G : Int → Int} {b : Int} (h : manyZ G b = 4) : 0 ≤ G b ∧ 0 ≤ G (b + 1) ∧ 0 ≤ G (b + 3) ∧ 0 ≤ G (b + 16) := by
  unfold manyZ cuZ at h
  by_cases h1 : 0 ≤ G b <;> by_cases h2 : 0 ≤ G (b + 16) <;> by_cases h3 : 0 ≤ G (b + 1) <;> by_cases h4 : 0 ≤ G (b + 3) <;> simp only [h1, h2, h3, h4, if_true, if_false] at h <;> first | exact ⟨h1, h3, h4, h2⟩ | omega
theorem many_2 {G : Int → Int} {b : Int} (h : manyZ G b = 2) : 0 ≤ G (oneZ G b) ∧ 0 ≤ G (othZ G b) ∧ oneZ G b ≠ othZ G b ∧ ∀ s : Int, (s = oneZ G b ∨ s = othZ G b) ↔ ((s = b ∨ s = b + 1 ∨ s = b + 3 ∨ s = b + 16) ∧ 0 ≤ G s) := by
  unfold manyZ cuZ at h
  unfold oneZ othZ
  by_cases h1 : 0 ≤ G b <;> by_cases h2 : 0 ≤ G (b + 16) <;> by_cases h3 : 0 ≤ G (b + 1) <;> by_cases h4 : 0 ≤ G (b + 3) <;> simp only [h1, h2, h3, h4, if_true, if_false] at h ⊢ <;> first | omega | (refine ⟨trivial, trivial, by omega, fun s => ⟨fun q => ?_, fun q => ?_⟩⟩ <;> first | (rcases q with q | q <;> rw [q] <;> exact ⟨by omega, by assumption⟩) | (rcases q with ⟨q | q | q | q, g⟩ <;> rw [q] at g ⊢ <;> first | omega | exact absurd g (by assumption)))
theorem goS_cut {S : Int → Int} {v x y s : Int} {p : GL} : 0 ≤ (goS S v x y p).1 s ↔ 0 ≤ p.1 s := by
  unfold goS
  split
  · rename_i h
    obtain ⟨a, b, c, d⟩ := many_4 h
    split
    · rw [lnk_cut ((lnk_cut a b).mpr d) ((lnk_cut a b).mpr c), lnk_cut a b]
    · rw [lnk_cut ((lnk_cut a c).mpr d) ((lnk_cut a c).mpr b), lnk_cut a c]
  · split
    · rename_i h
      have q := many_2 h
      exact lnk_cut q.1 q.2.1
    · exact Iff.rfl
theorem lkL_at {L : Int → Int} {a b s : Int} (h : a ≠ b) : lkL L a b s = L s + (if s = a then 1 else 0) + (if s = b then 1 else 0) := by
  unfold lkL ax_u
  by_cases h1 : s = a <;> by_cases h2 : s = b
  · omega
  · subst h1
    rw [if_neg h2, if_pos rfl, if_pos rfl, if_neg h2, Int.add_zero]
  · subst h2
    rw [if_pos rfl, if_neg h1, if_neg h1, if_pos rfl, Int.add_zero]
  · rw [if_neg h2, if_neg h1, if_neg h1, if_neg h2, Int.add_zero, Int.add_zero]
theorem goS_L {S : Int → Int} {v x y s : Int} {p : GL} (he : manyZ p.1 (16 * y + 2 * x) = 0 ∨ manyZ p.1 (16 * y + 2 * x) = 2 ∨ manyZ p.1 (16 * y + 2 * x) = 4) : (goS S v x y p).2 s = p.2 s + (if (s = 16 * y + 2 * x ∨ s = 16 * y + 2 * x + 1 ∨ s = 16 * y + 2 * x + 3 ∨ s = 16 * y + 2 * x + 16) ∧ 0 ≤ p.1 s then 1 else 0) := by
  unfold goS
  generalize 16 * y + 2 * x = b at *
  by_cases h4 : manyZ p.1 b = 4
  · obtain ⟨c1, c2, c3, c4⟩ := many_4 h4
    rw [if_pos h4]
    have fin : (if (s = b ∨ s = b + 1 ∨ s = b + 3 ∨ s = b + 16) ∧ 0 ≤ p.1 s then (1 : Int) else 0) = (if s = b then 1 else 0) + (if s = b + 1 then 1 else 0) + (if s = b + 3 then 1 else 0) + (if s = b + 16 then 1 else 0) := by
      by_cases q : s = b ∨ s = b + 1 ∨ s = b + 3 ∨ s = b + 16
      · have g : 0 ≤ p.1 s := by rcases q with q | q | q | q <;> rw [q] <;> assumption
        rw [if_pos ⟨q, g⟩]
        repeat' split
        all_goals omega
      · rw [if_neg (fun d => q d.1)]
        repeat' split
        all_goals omega
    split
    · show lkL (lkL p.2 b (b + 1)) (b + 16) (b + 3) s = _
      rw [lkL_at (by omega), lkL_at (by omega), fin]
      omega
    · show lkL (lkL p.2 b (b + 3)) (b + 16) (b + 1) s = _
      rw [lkL_at (by omega), lkL_at (by omega), fin]
      omega
  · rw [if_neg h4]
    by_cases h2 : manyZ p.1 b = 2
    · rw [if_pos h2]
      obtain ⟨c1, c2, c3, c4⟩ := many_2 h2
      show lkL p.2 _ _ s = _
      rw [lkL_at c3]
      by_cases q : s = oneZ p.1 b ∨ s = othZ p.1 b
      · rw [if_pos ((c4 s).mp q)]
        repeat' split
        all_goals omega
      · rw [if_neg (fun d => q ((c4 s).mpr d))]
        repeat' split
        all_goals omega
    · rw [if_neg h2]
      have h0 : manyZ p.1 b = 0 := by omega
      have no : ¬ ((s = b ∨ s = b + 1 ∨ s = b + 3 ∨ s = b + 16) ∧ 0 ≤ p.1 s) := fun d => by
        unfold manyZ cuZ at h0
        rcases d with ⟨q, g⟩
        rcases q with q | q | q | q <;> rw [q] at g <;> rw [if_pos g] at h0 <;> (repeat' split at h0) <;> omega
      rw [if_neg no, Int.add_zero]
/-- the squares beside a side that have been gone through -/
def adN (s : Int) (n : Nat) : Int := (if (s % 16 / 2 ≤ 6 ∧ s / 16 ≤ 6) ∧ 7 * (s / 16) + s % 16 / 2 < n then 1 else 0) + (if (s % 2 = 0 ∧ 1 ≤ s / 16 ∧ 7 * (s / 16 - 1) + s % 16 / 2 < n) ∨ (s % 2 = 1 ∧ 1 ≤ s % 16 / 2 ∧ 7 * (s / 16) + s % 16 / 2 - 1 < n) then 1 else 0)
theorem even4 {A B C D : Prop} [Decidable A] [Decidable B] [Decidable C] [Decidable D] {a b c d : Int} (ha : 0 ≤ a ↔ ¬ (A ↔ B)) (hb : 0 ≤ b ↔ ¬ (C ↔ D)) (hc : 0 ≤ c ↔ ¬ (A ↔ C)) (hd : 0 ≤ d ↔ ¬ (B ↔ D)) : (if 0 ≤ a then (1 : Int) else 0) + (if 0 ≤ b then 1 else 0) + (if 0 ≤ c then 1 else 0) + (if 0 ≤ d then 1 else 0) = 0 ∨ (if 0 ≤ a then (1 : Int) else 0) + (if 0 ≤ b then 1 else 0) + (if 0 ≤ c then 1 else 0) + (if 0 ≤ d then 1 else 0) = 2 ∨ (if 0 ≤ a then (1 : Int) else 0) + (if 0 ≤ b then 1 else 0) + (if 0 ≤ c then 1 else 0) + (if 0 ≤ d then 1 else 0) = 4 := by
  by_cases qa : A <;> by_cases qb : B <;> by_cases qc : C <;> by_cases qd : D <;> simp only [qa, qb, qc, qd, iff_true, iff_false, true_iff, false_iff, not_true_eq_false, not_false_eq_true] at ha hb hc hd <;> simp only [ha, hb, hc, hd, if_true, if_false] <;> omega
theorem goA_even {S : Int → Int} {v x y : Int} {p : GL} (i1 : ∀ s : Int, 0 ≤ s → s < 128 → (0 ≤ p.1 s ↔ cutP S v s)) (hx : 0 ≤ x) (hx' : x ≤ 6) (hy : 0 ≤ y) (hy' : y ≤ 6) : manyZ p.1 (16 * y + 2 * x) = 0 ∨ manyZ p.1 (16 * y + 2 * x) = 2 ∨ manyZ p.1 (16 * y + 2 * x) = 4 := by
  have a := (i1 (16 * y + 2 * x) (by omega) (by omega)).trans (cut_h hx (by omega) hy (by omega))
  have b := (i1 (16 * (y + 1) + 2 * x) (by omega) (by omega)).trans (cut_h hx (by omega) (by omega) (by omega))
  have c := (i1 (16 * y + 2 * x + 1) (by omega) (by omega)).trans (cut_v hx (by omega) hy (by omega))
  have d := (i1 (16 * y + 2 * (x + 1) + 1) (by omega) (by omega)).trans (cut_v (by omega) (by omega) hy (by omega))
  rw [show 16 * (y + 1) + 2 * x = 16 * y + 2 * x + 16 by omega, show 8 * (y + 1) + x = 8 * y + x + 8 by omega] at b
  rw [show 16 * y + 2 * (x + 1) + 1 = 16 * y + 2 * x + 3 by omega, show 8 * y + (x + 1) + 8 = 8 * y + x + 8 + 1 by omega, show 8 * y + (x + 1) = 8 * y + x + 1 by omega] at d
  unfold manyZ cuZ
  exact even4 (A := v ≤ S (8 * y + x)) (B := v ≤ S (8 * y + x + 1)) (C := v ≤ S (8 * y + x + 8)) (D := v ≤ S (8 * y + x + 8 + 1)) (a.trans ⟨fun h => h.2, fun h => ⟨hx', h⟩⟩) (b.trans ⟨fun h => h.2, fun h => ⟨hx', h⟩⟩) (c.trans ⟨fun h => h.2, fun h => ⟨hy', h⟩⟩) (d.trans ⟨fun h => h.2, fun h => ⟨hy', h⟩⟩)
theorem adN_step {s x y g : Int} (h1 : 0 ≤ s) (h2 : s < 128) (hx : 0 ≤ x) (hx' : x ≤ 6) (hy : 0 ≤ y) (hy' : y ≤ 6) (ce : (s % 2 = 0 → s % 16 / 2 ≤ 6) ∧ (s % 2 = 1 → s / 16 ≤ 6)) (gs : 0 ≤ g) :
    ((if (s % 16 / 2 ≤ 6 ∧ s / 16 ≤ 6) ∧ 7 * (s / 16) + s % 16 / 2 < 7 * y + x then (1 : Int) else 0) + (if (s % 2 = 0 ∧ 1 ≤ s / 16 ∧ 7 * (s / 16 - 1) + s % 16 / 2 < 7 * y + x) ∨ (s % 2 = 1 ∧ 1 ≤ s % 16 / 2 ∧ 7 * (s / 16) + s % 16 / 2 - 1 < 7 * y + x) then 1 else 0)) + (if (s = 16 * y + 2 * x ∨ s = 16 * y + 2 * x + 1 ∨ s = 16 * y + 2 * x + 3 ∨ s = 16 * y + 2 * x + 16) ∧ 0 ≤ g then 1 else 0)
    = (if (s % 16 / 2 ≤ 6 ∧ s / 16 ≤ 6) ∧ 7 * (s / 16) + s % 16 / 2 < 7 * y + x + 1 then 1 else 0) + (if (s % 2 = 0 ∧ 1 ≤ s / 16 ∧ 7 * (s / 16 - 1) + s % 16 / 2 < 7 * y + x + 1) ∨ (s % 2 = 1 ∧ 1 ≤ s % 16 / 2 ∧ 7 * (s / 16) + s % 16 / 2 - 1 < 7 * y + x + 1) then 1 else 0) := by
  obtain ⟨q, hq⟩ : ∃ q : Int, q = s / 16 := ⟨_, rfl⟩
  obtain ⟨w, hw⟩ : ∃ w : Int, w = s % 16 / 2 := ⟨_, rfl⟩
  obtain ⟨e, he⟩ : ∃ e : Int, e = s % 2 := ⟨_, rfl⟩
  have hs : s = 16 * q + 2 * w + e := by omega
  have r1 : 0 ≤ q ∧ q ≤ 7 ∧ 0 ≤ w ∧ w ≤ 7 ∧ 0 ≤ e ∧ e ≤ 1 := by omega
  rw [← hq, ← hw, ← he]
  rw [← hw, ← hq, ← he] at ce
  clear hq hw he
  rcases (show e = 0 ∨ e = 1 by omega) with e0 | e0
  · have a : ((s = 16 * y + 2 * x ∨ s = 16 * y + 2 * x + 1 ∨ s = 16 * y + 2 * x + 3 ∨ s = 16 * y + 2 * x + 16) ∧ 0 ≤ g) ↔ ((q = y ∧ w = x) ∨ (q = y + 1 ∧ w = x)) := by omega
    have b : ((e = 0 ∧ 1 ≤ q ∧ 7 * (q - 1) + w < 7 * y + x) ∨ (e = 1 ∧ 1 ≤ w ∧ 7 * q + w - 1 < 7 * y + x)) ↔ (1 ≤ q ∧ 7 * (q - 1) + w < 7 * y + x) := by omega
    have c : ((e = 0 ∧ 1 ≤ q ∧ 7 * (q - 1) + w < 7 * y + x + 1) ∨ (e = 1 ∧ 1 ≤ w ∧ 7 * q + w - 1 < 7 * y + x + 1)) ↔ (1 ≤ q ∧ 7 * (q - 1) + w < 7 * y + x + 1) := by omega
    simp only [a, b, c]
    have w6 := ce.1 e0
    clear a b c ce hs gs
    repeat' split
    all_goals omega
  · have a : ((s = 16 * y + 2 * x ∨ s = 16 * y + 2 * x + 1 ∨ s = 16 * y + 2 * x + 3 ∨ s = 16 * y + 2 * x + 16) ∧ 0 ≤ g) ↔ ((q = y ∧ w = x) ∨ (q = y ∧ w = x + 1)) := by omega
    have b : ((e = 0 ∧ 1 ≤ q ∧ 7 * (q - 1) + w < 7 * y + x) ∨ (e = 1 ∧ 1 ≤ w ∧ 7 * q + w - 1 < 7 * y + x)) ↔ (1 ≤ w ∧ 7 * q + w - 1 < 7 * y + x) := by omega
    have c : ((e = 0 ∧ 1 ≤ q ∧ 7 * (q - 1) + w < 7 * y + x + 1) ∨ (e = 1 ∧ 1 ≤ w ∧ 7 * q + w - 1 < 7 * y + x + 1)) ↔ (1 ≤ w ∧ 7 * q + w - 1 < 7 * y + x + 1) := by omega
    simp only [a, b, c]
    have w6 := ce.2 e0
    clear a b c ce hs gs
    repeat' split
    all_goals omega
theorem goA_inv (S : Int → Int) (v : Int) : ∀ n : Nat, n ≤ 49 → (∀ s : Int, 0 ≤ s → s < 128 → (0 ≤ (goA S v n).1 s ↔ cutP S v s)) ∧ (∀ s : Int, 0 ≤ s → s < 128 → cutP S v s → (goA S v n).2 s = adN s n)
  | 0, _ => by
    refine ⟨fun s h1 h2 => ?_, fun s h1 h2 c => ?_⟩
    · show 0 ≤ g0Z S v s ↔ _
      unfold g0Z
      split
      · rename_i c; exact ⟨fun _ => c, fun _ => h1⟩
      · rename_i c; exact ⟨fun d => by omega, fun d => absurd d c⟩
    · show (0 : Int) = adN s 0
      unfold adN
      rw [if_neg (by omega), if_neg (by omega)]
      rfl
  | n + 1, hn => by
    obtain ⟨i1, i2⟩ := goA_inv S v n (by omega)
    refine ⟨fun s h1 h2 => ?_, fun s h1 h2 c => ?_⟩
    · show 0 ≤ (goS S v _ _ (goA S v n)).1 s ↔ _
      rw [goS_cut]
      exact i1 s h1 h2
    · show (goS S v _ _ (goA S v n)).2 s = _
      have hx : 0 ≤ ((n % 7 : Nat) : Int) ∧ ((n % 7 : Nat) : Int) ≤ 6 := by omega
      have hy : 0 ≤ ((n / 7 : Nat) : Int) ∧ ((n / 7 : Nat) : Int) ≤ 6 := by omega
      have hn7 : (n : Int) = 7 * ((n / 7 : Nat) : Int) + ((n % 7 : Nat) : Int) := by omega
      generalize ((n % 7 : Nat) : Int) = x at *
      generalize ((n / 7 : Nat) : Int) = y at *
      rw [goS_L (goA_even i1 hx.1 hx.2 hy.1 hy.2), i2 s h1 h2 c]
      have gs := (i1 s h1 h2).mpr c
      -- the side's own place
      have ce : (s % 2 = 0 → s % 16 / 2 ≤ 6) ∧ (s % 2 = 1 → s / 16 ≤ 6) := by
        refine ⟨fun e => ?_, fun e => ?_⟩
        · have q := (cut_h (S := S) (v := v) (x := s % 16 / 2) (y := s / 16) (by omega) (by omega) (by omega) (by omega)).mp (by rw [show 16 * (s / 16) + 2 * (s % 16 / 2) = s by omega]; exact c)
          exact q.1
        · have q := (cut_v (S := S) (v := v) (x := s % 16 / 2) (y := s / 16) (by omega) (by omega) (by omega) (by omega)).mp (by rw [show 16 * (s / 16) + 2 * (s % 16 / 2) + 1 = s by omega]; exact c)
          exact q.1
      unfold adN
      rw [show ((n + 1 : Nat) : Int) = (n : Int) + 1 by omega, hn7]
      exact adN_step h1 h2 hx.1 hx.2 hy.1 hy.2 ce gs
abbrev brdZ (s : Int) : Prop := (s % 2 = 0 ∧ (s / 16 = 0 ∨ s / 16 = 7)) ∨ (s % 2 = 1 ∧ (s % 16 / 2 = 0 ∨ s % 16 / 2 = 7))
/-- a side that is cut has two links just where it isn't at the border -/
theorem goA_2 (S : Int → Int) (v : Int) {s : Int} (h1 : 0 ≤ s) (h2 : s < 128) (hc : 0 ≤ (goA S v 49).1 s) : (goA S v 49).2 s = 2 ↔ ¬ brdZ s := by
  obtain ⟨i1, i2⟩ := goA_inv S v 49 (by omega)
  have c := (i1 s h1 h2).mp hc
  rw [i2 s h1 h2 c]
  have ce : (s % 2 = 0 → s % 16 / 2 ≤ 6) ∧ (s % 2 = 1 → s / 16 ≤ 6) := by
    refine ⟨fun e => ?_, fun e => ?_⟩
    · have q := (cut_h (S := S) (v := v) (x := s % 16 / 2) (y := s / 16) (by omega) (by omega) (by omega) (by omega)).mp (by rw [show 16 * (s / 16) + 2 * (s % 16 / 2) = s by omega]; exact c)
      exact q.1
    · have q := (cut_v (S := S) (v := v) (x := s % 16 / 2) (y := s / 16) (by omega) (by omega) (by omega) (by omega)).mp (by rw [show 16 * (s / 16) + 2 * (s % 16 / 2) + 1 = s by omega]; exact c)
      exact q.1
  unfold adN
  rcases (show s % 2 = 0 ∨ s % 2 = 1 by omega) with e | e
  · have w6 := ce.1 e
    split <;> split <;> omega
  · have w6 := ce.2 e
    split <;> split <;> omega
