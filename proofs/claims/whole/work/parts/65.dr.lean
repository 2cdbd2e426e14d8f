section DRF
variable {X : ax_X} {r z : Nat} {V T : Nat → Int → Int} {f f0 : ax_F} {s : Int}
abbrev cP (P : Int → Int) (n : Nat) : Int := cntB (fun h => decide (P h = 1)) n
def sP (M P : Int → Int) : Nat → Int
  | 0 => 0
  | k + 1 => sP M P k + (if P k = 1 then M k else 0)
theorem cP_1 {P : Int → Int} {n : Nat} (h : P n = 1) : cP P (n + 1) = cP P n + 1 := by
  unfold cP
  rw [cntB, if_pos (by simpa using h)]
theorem cP_0 {P : Int → Int} {n : Nat} (h : P n ≠ 1) : cP P (n + 1) = cP P n := by
  unfold cP
  rw [cntB, if_neg (by simpa using h), Int.add_zero]
theorem aS_P {M P : Int → Int} {h : Nat} : ∀ n : Nat, (n ≤ h → aS M P h n = sP M P n ∧ aN P h n = cP P n ∧ bS M P h n = 0 ∧ bN P h n = 0) ∧ (h ≤ n → aS M P h n = sP M P h ∧ aN P h n = cP P h ∧ bS M P h n = sP M P n - sP M P h ∧ bN P h n = cP P n - cP P h)
  | 0 => by
    refine ⟨fun _ => ⟨rfl, rfl, rfl, rfl⟩, fun e => ?_⟩
    have : h = 0 := by omega
    subst this
    exact ⟨rfl, rfl, rfl, rfl⟩
  | n + 1 => by
    obtain ⟨i1, i2⟩ := aS_P (M := M) (P := P) (h := h) n
    have e1 : aS M P h (n + 1) = aS M P h n + (if P n = 1 ∧ (n : Int) < h then M n else 0) := rfl
    have e2 : aN P h (n + 1) = aN P h n + (if P n = 1 ∧ (n : Int) < h then 1 else 0) := rfl
    have e3 : bS M P h (n + 1) = bS M P h n + (if P n = 1 ∧ ¬ (n : Int) < h then M n else 0) := rfl
    have e4 : bN P h (n + 1) = bN P h n + (if P n = 1 ∧ ¬ (n : Int) < h then 1 else 0) := rfl
    have e5 : sP M P (n + 1) = sP M P n + (if P n = 1 then M n else 0) := rfl
    have e6 : cP P (n + 1) = cP P n + (if P n = 1 then 1 else 0) := by
      by_cases q : P n = 1
      · rw [cP_1 q, if_pos q]
      · rw [cP_0 q, if_neg q, Int.add_zero]
    refine ⟨fun c => ?_, fun c => ?_⟩
    · obtain ⟨a1, a2, a3, a4⟩ := i1 (by omega)
      have lt : ((n : Int) < (h : Int)) = True := eq_true (by omega)
      rw [e1, e2, e3, e4, e5, e6, a1, a2, a3, a4]
      by_cases q : P n = 1 <;> simp only [q, lt, eq_self, true_and, false_and, and_true, and_false, not_true_eq_false, if_true, if_false] <;> omega
    · by_cases hh : h = n + 1
      · obtain ⟨a1, a2, a3, a4⟩ := i1 (by omega)
        have lt : ((n : Int) < (h : Int)) = True := eq_true (by omega)
        rw [e1, e2, e3, e4, a1, a2, a3, a4, hh, e5, e6]
        rw [hh] at lt
        by_cases q : P n = 1 <;> simp only [q, lt, eq_self, true_and, false_and, and_true, and_false, not_true_eq_false, if_true, if_false] <;> omega
      · obtain ⟨a1, a2, a3, a4⟩ := i2 (by omega)
        have lt : ((n : Int) < (h : Int)) = False := eq_false (by omega)
        rw [e1, e2, e3, e4, e5, e6, a1, a2, a3, a4]
        by_cases q : P n = 1 <;> simp only [q, lt, eq_self, true_and, false_and, and_true, and_false, not_false_eq_true, if_true, if_false] <;> omega
theorem sP_rng {M P : Int → Int} (hr : rowOk M P) : ∀ n : Nat, n ≤ 48 → -(20000 * (n : Int)) ≤ sP M P n ∧ sP M P n ≤ 20000 * n
  | 0, _ => by simp [sP]
  | n + 1, h => by
    have ih := sP_rng hr n (by omega)
    have r := hr n (by omega) (by omega)
    unfold sP
    split
    · rename_i q; have := r.2 q; omega
    · omega
abbrev cmPost (X : ax_X) (r z : Nat) (V T : Nat → Int → Int) (s : Int) (f0 : ax_F) : Option Value → Nat → ax_F → Prop := fun v z' f' => v = none ∧ z' = z ∧ RF r f0 f' ∧ ∃ T' : Nat → Int → Int, RH X r T' f' ∧ tcore T T' ∧ T' 26 2 = cP (PZ V s) 48 ∧ ∀ h : Nat, h < 48 → PZ V s h = 1 → T' 27 (cP (PZ V s) h) = h ∧ T' 28 (cP (PZ V s) h) = MZ V s h
theorem m3_cm_7 (hX : stOk X) (hI : mInv V) (hS : Sim V T) (hs : 0 ≤ s) (hs' : s < V 0 8) :
    ∀ (n k : Nat) (T' : Nat → Int → Int) (f : ax_F) (q : Option Value), k + n = 48 → tcore T T' → T' 26 2 = cP (PZ V s) k → (∀ h : Nat, h < k → PZ V s h = 1 → T' 27 (cP (PZ V s) h) = h ∧ T' 28 (cP (PZ V s) h) = MZ V s h) → RH X r T' f → RF r f0 f → ax_G X mX3_compare 0 0 (cmPost X r z V T s f0) 7 [some (.ref (r + 26)), some (.ref (r + 2)), some (.int (i3 s)), some (.int (i3 (k : Int))), q] [] 0 0 z f := by
  have i0 := hI.2.2.1
  intro n
  induction n with
  | zero =>
    intro k T' f q hk c h2 hh hR hF
    have hk' : k = 48 := by omega
    subst hk'
    refine sbX3_compare_7 X 0 0 _ _ _ _ _ _ _ ?_
    simp (disch := omega) only [bkX3_compare_7, ax_ic, ax_lc, ax_nul, ax_il, ax_ll, ax_al, ax_is, ax_ls, ax_as, ax_inc, ax_iadd, ax_isub, ax_imul, ax_iand, ax_ior, ax_idiv, ax_irem, ax_ishl, ax_ishr, ax_ladd, ax_lsub, ax_lmul, ax_ldiv, ax_lrem, ax_ineg, ax_lneg, ax_i2l, ax_l2i, ax_lcmp, ax_dup, ax_pop1, ax_dupx1, ax_dup2, ax_ifeq, ax_ifne, ax_iflt, ax_ifge, ax_ifgt, ax_ifle, ax_iceq, ax_icne, ax_iclt, ax_icge, ax_icgt, ax_icle, ax_ifnull, ax_ifnn, ax_sw, ax_iret, ax_zret, ax_lret, ax_vret, ax_aret, ax_gf, ax_pfi, ax_pfz, ax_pfl, ax_pfr, ax_iald, ax_zald, ax_lald, ax_aald, ax_iast, ax_zast, ax_last, ax_aast, ax_alen, ax_ialdR, ax_alenR, ax_gst, ax_new, ax_nwi, ax_nwl, ax_nwq, ax_obj, ax_call, ax_calv, ax_nth, ax_p1, ax_p2, ax_k2, ax_nh, Value.category, lg_cmp_ge, lg_cmp_lt, lg_cmp_gt, lg_cmp_le, lg_cmp_eq, List.getElem?_cons_zero, List.getElem?_cons_succ, true_and, and_true, if_true, if_false, reduceIte, Nat.reduceEqDiff, Nat.add_eq_zero_iff, reduceCtorEq, Nat.reduceAdd, not_true_eq_false, not_false_eq_true, ax_pf, ax_popn, fv_in, fv_size, fv_drop, fv_within, fv_part, fv_cut, fv_sq, fv_absI, fv_absJ, fv_maxI, fv_minI, fv_maxJ, fv_minJ, List.map_cons, List.map_nil, List.sum_cons, List.sum_nil, Nat.reduceLeDiff, Nat.zero_le, Nat.le_refl, zb_0, zb_1, zb_em, true_or, or_true, Int32.toInt_toInt64, Nat.add_zero, fv_isGlass, fv_mayBe, fv_isReading8, fv_isHour8, fv_isPoint, fv_isReading7, fv_isRoom, fv_isWarmth, fv_isHour7, fv_isOnMap, fv_holds, fv_held, tm_eq, i3_add, i3_sub, i3_mul, i3_neg, i6_add, i6_sub, i6_mul, i6_neg, i6_I, i3_toInt, i6_toInt, i3_lt, i3_le, i3_eq, i6_lt, i6_le, i6_eq, i3_eq0, i3_eq1, i3_lt0, i3_le0, i3_gt0, i3_ge0, i6_eq0, i3_div, i6_div, i3_rem, i6_rem, i3_L, i3_nat, i3_inI, ax_up3, ax_up6]
    exact ⟨fun _ => ⟨Nat.le_refl _, Nat.le_refl _, rfl, rfl, hF, T', hR, c, h2, hh⟩, fun q => absurd (by omega) q⟩
  | succ n ih =>
    intro k T' f q hk c h2 hh hR hF
    have cr : 0 ≤ cP (PZ V s) k ∧ cP (PZ V s) k ≤ k := cntB_rng (fun h => decide (PZ V s h = 1)) k
    have mr := msZ_rng (h := (k : Int)) hI hs (by omega)
    have c2 : f (r + 2) = some (.inr (0, [.ref (r + 3), .int (i3 (T' 2 1)), .ref (r + 4), .ref (r + 5), .ref (r + 6), .int (i3 (T' 2 5))])) := hR 2 (Or.inl (by decide))
    refine sbX3_compare_7 X 0 0 _ _ _ _ _ _ _ ?_
    simp (disch := omega) only [bkX3_compare_7, ax_ic, ax_lc, ax_nul, ax_il, ax_ll, ax_al, ax_is, ax_ls, ax_as, ax_inc, ax_iadd, ax_isub, ax_imul, ax_iand, ax_ior, ax_idiv, ax_irem, ax_ishl, ax_ishr, ax_ladd, ax_lsub, ax_lmul, ax_ldiv, ax_lrem, ax_ineg, ax_lneg, ax_i2l, ax_l2i, ax_lcmp, ax_dup, ax_pop1, ax_dupx1, ax_dup2, ax_ifeq, ax_ifne, ax_iflt, ax_ifge, ax_ifgt, ax_ifle, ax_iceq, ax_icne, ax_iclt, ax_icge, ax_icgt, ax_icle, ax_ifnull, ax_ifnn, ax_sw, ax_iret, ax_zret, ax_lret, ax_vret, ax_aret, ax_gf, ax_pfi, ax_pfz, ax_pfl, ax_pfr, ax_iald, ax_zald, ax_lald, ax_aald, ax_iast, ax_zast, ax_last, ax_aast, ax_alen, ax_ialdR, ax_alenR, ax_gst, ax_new, ax_nwi, ax_nwl, ax_nwq, ax_obj, ax_call, ax_calv, ax_nth, ax_p1, ax_p2, ax_k2, ax_nh, Value.category, lg_cmp_ge, lg_cmp_lt, lg_cmp_gt, lg_cmp_le, lg_cmp_eq, List.getElem?_cons_zero, List.getElem?_cons_succ, true_and, and_true, if_true, if_false, reduceIte, Nat.reduceEqDiff, Nat.add_eq_zero_iff, reduceCtorEq, Nat.reduceAdd, not_true_eq_false, not_false_eq_true, ax_pf, ax_popn, fv_in, fv_size, fv_drop, fv_within, fv_part, fv_cut, fv_sq, fv_absI, fv_absJ, fv_maxI, fv_minI, fv_maxJ, fv_minJ, List.map_cons, List.map_nil, List.sum_cons, List.sum_nil, Nat.reduceLeDiff, Nat.zero_le, Nat.le_refl, zb_0, zb_1, zb_em, true_or, or_true, Int32.toInt_toInt64, Nat.add_zero, fv_isGlass, fv_mayBe, fv_isReading8, fv_isHour8, fv_isPoint, fv_isReading7, fv_isRoom, fv_isWarmth, fv_isHour7, fv_isOnMap, fv_holds, fv_held, tm_eq, i3_add, i3_sub, i3_mul, i3_neg, i6_add, i6_sub, i6_mul, i6_neg, i6_I, i3_toInt, i6_toInt, i3_lt, i3_le, i3_eq, i6_lt, i6_le, i6_eq, i3_eq0, i3_eq1, i3_lt0, i3_le0, i3_gt0, i3_ge0, i6_eq0, i3_div, i6_div, i3_rem, i6_rem, i3_L, i3_nat, i3_inI, ax_up3, ax_up6]
    refine ⟨fun q => absurd q (by omega), fun _ => ⟨⟨_, c2⟩, Nat.le_of_ble_eq_true rfl, 0, 0, _, m0_readLevels hX hR hI (hS.core c) (by omega) (by omega), Nat.zero_le _, Nat.zero_le _, fun v z' f1 hq => ?_⟩⟩
    obtain ⟨rfl, rfl, hF1, g, hR1, hL⟩ := hq
    have cc := c.trans (tcore.row (T := T') (k := 4) (g := g) (by omega) (Or.inl (by omega)))
    have d2 : f1 (r + 2) = some (.inr (0, [.ref (r + 3), .int (i3 ((mset T' 4 g) 2 1)), .ref (r + 4), .ref (r + 5), .ref (r + 6), .int (i3 ((mset T' 4 g) 2 5))])) := hR1 2 (Or.inl (by decide))
    have d26 : f1 (r + 26) = some (.inr (2, [.ref (r + 27), .ref (r + 28), .int (i3 ((mset T' 4 g) 26 2)), .int (i3 ((mset T' 4 g) 26 3)), .long (i6 ((mset T' 4 g) 26 4)), .long (i6 ((mset T' 4 g) 26 5))])) := hR1 26 (Or.inl (by decide))
    have d27 : f1 (r + 27) = some (.inl (X.2.2.1 0, 48, .inl (fun j : Nat => i3 ((mset T' 4 g) 27 (j : Int))))) := hR1 27 (Or.inl (by decide))
    have d28 : f1 (r + 28) = some (.inl (X.2.2.1 0, 48, .inl (fun j : Nat => i3 ((mset T' 4 g) 28 (j : Int))))) := hR1 28 (Or.inl (by decide))
    simp (disch := omega) only [ax_ic, ax_lc, ax_nul, ax_il, ax_ll, ax_al, ax_is, ax_ls, ax_as, ax_inc, ax_iadd, ax_isub, ax_imul, ax_iand, ax_ior, ax_idiv, ax_irem, ax_ishl, ax_ishr, ax_ladd, ax_lsub, ax_lmul, ax_ldiv, ax_lrem, ax_ineg, ax_lneg, ax_i2l, ax_l2i, ax_lcmp, ax_dup, ax_pop1, ax_dupx1, ax_dup2, ax_ifeq, ax_ifne, ax_iflt, ax_ifge, ax_ifgt, ax_ifle, ax_iceq, ax_icne, ax_iclt, ax_icge, ax_icgt, ax_icle, ax_ifnull, ax_ifnn, ax_sw, ax_iret, ax_zret, ax_lret, ax_vret, ax_aret, ax_gf, ax_pfi, ax_pfz, ax_pfl, ax_pfr, ax_iald, ax_zald, ax_lald, ax_aald, ax_iast, ax_zast, ax_last, ax_aast, ax_alen, ax_ialdR, ax_alenR, ax_gst, ax_new, ax_nwi, ax_nwl, ax_nwq, ax_obj, ax_call, ax_calv, ax_nth, ax_p1, ax_p2, ax_k2, ax_nh, Value.category, lg_cmp_ge, lg_cmp_lt, lg_cmp_gt, lg_cmp_le, lg_cmp_eq, List.getElem?_cons_zero, List.getElem?_cons_succ, true_and, and_true, if_true, if_false, reduceIte, Nat.reduceEqDiff, Nat.add_eq_zero_iff, reduceCtorEq, Nat.reduceAdd, not_true_eq_false, not_false_eq_true, ax_pf, ax_popn, fv_in, fv_size, fv_drop, fv_within, fv_part, fv_cut, fv_sq, fv_absI, fv_absJ, fv_maxI, fv_minI, fv_maxJ, fv_minJ, List.map_cons, List.map_nil, List.sum_cons, List.sum_nil, Nat.reduceLeDiff, Nat.zero_le, Nat.le_refl, zb_0, zb_1, zb_em, true_or, or_true, Int32.toInt_toInt64, Nat.add_zero, fv_isGlass, fv_mayBe, fv_isReading8, fv_isHour8, fv_isPoint, fv_isReading7, fv_isRoom, fv_isWarmth, fv_isHour7, fv_isOnMap, fv_holds, fv_held, tm_eq, i3_add, i3_sub, i3_mul, i3_neg, i6_add, i6_sub, i6_mul, i6_neg, i6_I, i3_toInt, i6_toInt, i3_lt, i3_le, i3_eq, i6_lt, i6_le, i6_eq, i3_eq0, i3_eq1, i3_lt0, i3_le0, i3_gt0, i3_ge0, i6_eq0, i3_div, i6_div, i3_rem, i6_rem, i3_L, i3_nat, i3_inI, ax_up3, ax_up6, Option.toList, List.cons_append, List.nil_append]
    refine ⟨⟨_, d2⟩, ax_fn (Nat.le_of_ble_eq_true rfl) (Nat.zero_le _) (Nat.zero_le _) (m0_excess hR1 hI (hS.core cc) (fun k h1 h2 => hL k h1 h2) (by omega) (by omega) hs hs') ?_⟩
    rw [show mset T' 4 g 26 2 = cP (PZ V s) k from h2] at d26
    have ex : exZ V s k = -1000000 ∧ PZ V s k ≠ 1 ∨ exZ V s k = MZ V s k ∧ PZ V s k = 1 ∧ -20000 ≤ exZ V s k ∧ exZ V s k ≤ 20000 := by
      unfold exZ PZ MZ
      by_cases q : hmZ V s k
      · rw [if_pos q, if_pos q, if_pos q]
        exact Or.inr ⟨rfl, rfl, mr.1, mr.2⟩
      · rw [if_neg q, if_neg q]
        exact Or.inl ⟨rfl, by omega⟩
    simp (disch := omega) only [List.set, ax_ic, ax_lc, ax_nul, ax_il, ax_ll, ax_al, ax_is, ax_ls, ax_as, ax_inc, ax_iadd, ax_isub, ax_imul, ax_iand, ax_ior, ax_idiv, ax_irem, ax_ishl, ax_ishr, ax_ladd, ax_lsub, ax_lmul, ax_ldiv, ax_lrem, ax_ineg, ax_lneg, ax_i2l, ax_l2i, ax_lcmp, ax_dup, ax_pop1, ax_dupx1, ax_dup2, ax_ifeq, ax_ifne, ax_iflt, ax_ifge, ax_ifgt, ax_ifle, ax_iceq, ax_icne, ax_iclt, ax_icge, ax_icgt, ax_icle, ax_ifnull, ax_ifnn, ax_sw, ax_iret, ax_zret, ax_lret, ax_vret, ax_aret, ax_gf, ax_pfi, ax_pfz, ax_pfl, ax_pfr, ax_iald, ax_zald, ax_lald, ax_aald, ax_iast, ax_zast, ax_last, ax_aast, ax_alen, ax_ialdR, ax_alenR, ax_gst, ax_new, ax_nwi, ax_nwl, ax_nwq, ax_obj, ax_call, ax_calv, ax_nth, ax_p1, ax_p2, ax_k2, ax_nh, Value.category, lg_cmp_ge, lg_cmp_lt, lg_cmp_gt, lg_cmp_le, lg_cmp_eq, List.getElem?_cons_zero, List.getElem?_cons_succ, true_and, and_true, if_true, if_false, reduceIte, Nat.reduceEqDiff, Nat.add_eq_zero_iff, reduceCtorEq, Nat.reduceAdd, not_true_eq_false, not_false_eq_true, ax_pf, ax_popn, fv_in, fv_size, fv_drop, fv_within, fv_part, fv_cut, fv_sq, fv_absI, fv_absJ, fv_maxI, fv_minI, fv_maxJ, fv_minJ, List.map_cons, List.map_nil, List.sum_cons, List.sum_nil, Nat.reduceLeDiff, Nat.zero_le, Nat.le_refl, zb_0, zb_1, zb_em, true_or, or_true, Int32.toInt_toInt64, Nat.add_zero, fv_isGlass, fv_mayBe, fv_isReading8, fv_isHour8, fv_isPoint, fv_isReading7, fv_isRoom, fv_isWarmth, fv_isHour7, fv_isOnMap, fv_holds, fv_held, tm_eq, i3_add, i3_sub, i3_mul, i3_neg, i6_add, i6_sub, i6_mul, i6_neg, i6_I, i3_toInt, i6_toInt, i3_lt, i3_le, i3_eq, i6_lt, i6_le, i6_eq, i3_eq0, i3_eq1, i3_lt0, i3_le0, i3_gt0, i3_ge0, i6_eq0, i3_div, i6_div, i3_rem, i6_rem, i3_L, i3_nat, i3_inI, ax_up3, ax_up6, up_ne, up_0, up_s, up_00, up_0n, d26, d27, d28]
    refine ⟨fun a => ?_, fun a => ⟨by omega, by omega, Nat.le_of_ble_eq_true rfl, ?_⟩⟩
    · have p1 : PZ V s k ≠ 1 := by omega
      exact ih (k + 1) _ f1 _ (by omega) cc (by rw [cP_0 p1]; exact h2) (fun h h1 e => by
        by_cases q : h = k
        · rw [q] at e; exact absurd e p1
        · exact hh h (by omega) e) hR1 (hF.trans hF1)
    · have p1 : PZ V s k = 1 := by omega
      have eM : exZ V s k = MZ V s k := by omega
      refine ih (k + 1) (mset (mset (mset (mset T' 4 g) 27 (ax_u (T' 27) (cP (PZ V s) k) k)) 28 (ax_u (T' 28) (cP (PZ V s) k) (exZ V s k))) 26 (ax_u (T' 26) 2 (cP (PZ V s) k + 1))) _ _ (by omega) (cc.trans (((tcore.row (k := 27) (g := ax_u (T' 27) (cP (PZ V s) k) k) (by omega) (Or.inl (by omega))).trans (tcore.row (k := 28) (g := ax_u (T' 28) (cP (PZ V s) k) (exZ V s k)) (by omega) (Or.inl (by omega)))).trans (tcore.row (k := 26) (by omega) (Or.inl (by omega))))) (by rw [cP_1 p1]; rfl) (fun h h1 e => ?_) (((hR1.set (k := 27) (g := ax_u (T' 27) (cP (PZ V s) k) k) (Or.inl (by omega)) rfl).set (k := 28) (g := ax_u (T' 28) (cP (PZ V s) k) (exZ V s k)) (Or.inl (by omega)) rfl).set (k := 26) (g := ax_u (T' 26) 2 (cP (PZ V s) k + 1)) (Or.inl (by omega)) rfl) ((((hF.trans hF1).up (k := 27) (by omega)).up (k := 28) (by omega)).up (k := 26) (by omega))
      show ax_u (T' 27) (cP (PZ V s) k) k (cP (PZ V s) h) = h ∧ ax_u (T' 28) (cP (PZ V s) k) (exZ V s k) (cP (PZ V s) h) = MZ V s h
      unfold ax_u
      by_cases q : h = k
      · subst q
        rw [if_pos rfl, if_pos rfl]
        exact ⟨rfl, eM⟩
      · have le := cntB_le (P := fun h => decide (PZ V s h = 1)) (a := h + 1) (k - (h + 1))
        rw [show h + 1 + (k - (h + 1)) = k by omega] at le
        have := cP_1 e
        have lt : cP (PZ V s) h < cP (PZ V s) k := by
          show cntB _ h < cntB _ k
          have e1 : cntB (fun h => decide (PZ V s h = 1)) (h + 1) = cntB (fun h => decide (PZ V s h = 1)) h + 1 := this
          omega
        rw [if_neg (by omega), if_neg (by omega)]
        exact hh h (by omega) e
end DRF
