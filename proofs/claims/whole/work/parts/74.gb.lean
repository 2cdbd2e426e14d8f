section GBA
variable {X : ax_X} {r z : Nat} {V T : Nat → Int → Int} {f f0 : ax_F} {S G L : Int → Int} {v s hc : Int}
abbrev gaP (G L : Int → Int) (T' : Nat → Int → Int) (k : Nat) : Prop := T' 7 6 = cntB (fsP G) k ∧ T' 7 8 = cntB (fun s => decide (0 ≤ G s)) k ∧ ∀ s : Nat, s < k → G s = s → T' 13 (cntB (fsP G) s) = s ∧ T' 10 s = cntB (fun t => decide (G t = s)) k ∧ T' 11 s = moZ G s k ∧ T' 12 s = rnZ G L s k
abbrev gaR (G L : Int → Int) (T' : Nat → Int → Int) : Prop := T' 7 6 = cntB (fsP G) 128 ∧ T' 7 8 = cntB (fun s => decide (0 ≤ G s)) 128 ∧ T' 7 7 = cntB (fun s => decide (G s = s ∧ rnZ G L s 128 = 1)) 128 ∧ ∀ s : Nat, s < 128 → G s = s → T' 13 (cntB (fsP G) s) = s ∧ T' 10 s = cntB (fun t => decide (G t = s)) 128 ∧ T' 11 s = moZ G s 128 ∧ T' 12 s = rnZ G L s 128
abbrev gaPost (X : ax_X) (r z : Nat) (G L : Int → Int) (hc : Int) (T : Nat → Int → Int) (f0 : ax_F) : Option Value → Nat → ax_F → Prop := fun w z' f' => w = none ∧ z' = z ∧ RF r f0 f' ∧ ∃ T' : Nat → Int → Int, RH X r T' f' ∧ tcore T T' ∧ T' 7 9 = hc ∧ gaR G L T'
theorem cntB_lt {P : Int → Bool} {a b : Nat} (h : a < b) (ha : P a = true) : cntB P a < cntB P b := by
  have := cntB_le (P := P) (a := a + 1) (b - (a + 1))
  rw [show a + 1 + (b - (a + 1)) = b by omega, cntB, if_pos ha] at this
  omega
theorem none_yet {W : Int → Int} (hU : UF W G) {k : Nat} : ∀ n : Nat, n ≤ k → k < 128 → cntB (fun t => decide (G t = (k : Int))) n = 0 ∧ moZ G k n = k ∧ rnZ G L k n = 1
  | 0, _, _ => ⟨rfl, rfl, rfl⟩
  | n + 1, h, hk => by
    obtain ⟨a, b, c⟩ := none_yet hU (k := k) n (by omega) hk
    have g : ¬ G n = (k : Int) := fun e => by
      rcases hU n (by omega) (by omega) with q | q <;> omega
    unfold cntB moZ rnZ
    rw [if_neg (by simpa using g), if_neg g, if_neg g, a, b, c]
    exact ⟨rfl, rfl, rfl⟩
theorem cnt1 {s : Int} {k : Nat} : cntB (fun t => decide (G t = s)) (k + 1) = cntB (fun t => decide (G t = s)) k + (if G k = s then 1 else 0) := by
  rw [cntB]
  by_cases q : G k = s
  · rw [if_pos q, if_pos (by simpa using q)]
  · rw [if_neg q, if_neg (by simpa using q)]
theorem mo1 {s : Int} {k : Nat} : moZ G s (k + 1) = if G k = s then (k : Int) else moZ G s k := rfl
theorem rn1 {s : Int} {k : Nat} : rnZ G L s (k + 1) = if G k = s then (if rnZ G L s k = 0 then 0 else if L k = 2 then 1 else 0) else rnZ G L s k := rfl
theorem m2_gl_60 (hU9 : ∀ s : Int, 0 ≤ s → s < 128 → rnZ G L s 128 = 0 ∨ rnZ G L s 128 = 1) :
    ∀ (n k : Nat) (T' : Nat → Int → Int) (f : ax_F), k + n = 128 → tcore T T' → T' 7 9 = hc → gaP G L T' 128 → T' 7 7 = cntB (fun s => decide (G s = s ∧ rnZ G L s 128 = 1)) k → RH X r T' f → RF r f0 f → ax_G X mX2_gatherLines 0 0 (gaPost X r z G L hc T f0) 60 [some (.ref (r + 7)), some (.int (i3 (cntB (fsP G) k)))] [] 0 0 z f := by
  have cN := cntB_rng (fsP G) 128
  intro n
  induction n with
  | zero =>
    intro k T' f hk c h9 hP h7 hR hF
    have hk' : k = 128 := by omega
    subst hk'
    have c7 : f (r + 7) = some (.inr (1, [.ref (r + 8), .ref (r + 9), .ref (r + 10), .ref (r + 11), .ref (r + 12), .ref (r + 13), .int (i3 (T' 7 6)), .int (i3 (T' 7 7)), .int (i3 (T' 7 8)), .int (i3 (T' 7 9))])) := hR 7 (Or.inl (by decide))
    rw [hP.1] at c7
    refine sbX2_gatherLines_60 X 0 0 _ _ _ _ _ _ _ ?_
    simp (disch := omega) only [bkX2_gatherLines_60, ax_ic, ax_lc, ax_nul, ax_il, ax_ll, ax_al, ax_is, ax_ls, ax_as, ax_inc, ax_iadd, ax_isub, ax_imul, ax_iand, ax_ior, ax_idiv, ax_irem, ax_ishl, ax_ishr, ax_ladd, ax_lsub, ax_lmul, ax_ldiv, ax_lrem, ax_ineg, ax_lneg, ax_i2l, ax_l2i, ax_lcmp, ax_dup, ax_pop1, ax_dupx1, ax_dup2, ax_ifeq, ax_ifne, ax_iflt, ax_ifge, ax_ifgt, ax_ifle, ax_iceq, ax_icne, ax_iclt, ax_icge, ax_icgt, ax_icle, ax_ifnull, ax_ifnn, ax_sw, ax_iret, ax_zret, ax_lret, ax_vret, ax_aret, ax_gf, ax_pfi, ax_pfz, ax_pfl, ax_pfr, ax_iald, ax_zald, ax_lald, ax_aald, ax_iast, ax_zast, ax_last, ax_aast, ax_alen, ax_ialdR, ax_alenR, ax_gst, ax_new, ax_nwi, ax_nwl, ax_nwq, ax_obj, ax_call, ax_calv, ax_nth, ax_p1, ax_p2, ax_k2, ax_nh, Value.category, lg_cmp_ge, lg_cmp_lt, lg_cmp_gt, lg_cmp_le, lg_cmp_eq, List.getElem?_cons_zero, List.getElem?_cons_succ, true_and, and_true, if_true, if_false, reduceIte, Nat.reduceEqDiff, Nat.add_eq_zero_iff, reduceCtorEq, Nat.reduceAdd, not_true_eq_false, not_false_eq_true, ax_pf, ax_popn, fv_in, fv_size, fv_drop, fv_within, fv_part, fv_cut, fv_sq, fv_absI, fv_absJ, fv_maxI, fv_minI, fv_maxJ, fv_minJ, List.map_cons, List.map_nil, List.sum_cons, List.sum_nil, Nat.reduceLeDiff, Nat.zero_le, Nat.le_refl, zb_0, zb_1, zb_em, true_or, or_true, Int32.toInt_toInt64, Nat.add_zero, fv_isGlass, fv_mayBe, fv_isReading8, fv_isHour8, fv_isPoint, fv_isReading7, fv_isRoom, fv_isWarmth, fv_isHour7, fv_isOnMap, fv_holds, fv_held, tm_eq, i3_add, i3_sub, i3_mul, i3_neg, i6_add, i6_sub, i6_mul, i6_neg, i6_I, i3_toInt, i6_toInt, i3_lt, i3_le, i3_eq, i6_lt, i6_le, i6_eq, i3_eq0, i3_eq1, i3_lt0, i3_le0, i3_gt0, i3_ge0, i6_eq0, i3_div, i6_div, i3_rem, i6_rem, i3_L, i3_nat, i3_inI, ax_up3, ax_up6, c7]
    exact ⟨fun _ => ⟨Nat.le_refl _, Nat.le_refl _, rfl, rfl, hF, T', hR, c, h9, hP.1, hP.2.1, h7, hP.2.2⟩, fun q => absurd (Int.le_refl _) q⟩
  | succ n ih =>
    intro k T' f hk c h9 hP h7 hR hF
    by_cases g : G k = k
    · have cr := cntB_rng (fsP G) k
      have lt := cntB_lt (P := fsP G) (a := k) (b := 128) (by omega) (by simpa using g)
      have c1 : cntB (fsP G) (k + 1) = cntB (fsP G) k + 1 := by rw [cntB, if_pos (by simpa using g)]
      obtain ⟨p1, p2, p3, p4⟩ := hP.2.2 k (by omega) g
      have r01 := hU9 k (by omega) (by omega)
      have c7 : f (r + 7) = some (.inr (1, [.ref (r + 8), .ref (r + 9), .ref (r + 10), .ref (r + 11), .ref (r + 12), .ref (r + 13), .int (i3 (T' 7 6)), .int (i3 (T' 7 7)), .int (i3 (T' 7 8)), .int (i3 (T' 7 9))])) := hR 7 (Or.inl (by decide))
      have c12 : f (r + 12) = some (.inl (X.2.2.1 2, 128, .inl (fun j : Nat => i3 (T' 12 (j : Int))))) := hR 12 (Or.inl (by decide))
      have c13 : f (r + 13) = some (.inl (X.2.2.1 0, 128, .inl (fun j : Nat => i3 (T' 13 (j : Int))))) := hR 13 (Or.inl (by decide))
      rw [hP.1] at c7
      refine sbX2_gatherLines_60 X 0 0 _ _ _ _ _ _ _ ?_
      simp (disch := omega) only [List.set, bkX2_gatherLines_60, ax_ic, ax_lc, ax_nul, ax_il, ax_ll, ax_al, ax_is, ax_ls, ax_as, ax_inc, ax_iadd, ax_isub, ax_imul, ax_iand, ax_ior, ax_idiv, ax_irem, ax_ishl, ax_ishr, ax_ladd, ax_lsub, ax_lmul, ax_ldiv, ax_lrem, ax_ineg, ax_lneg, ax_i2l, ax_l2i, ax_lcmp, ax_dup, ax_pop1, ax_dupx1, ax_dup2, ax_ifeq, ax_ifne, ax_iflt, ax_ifge, ax_ifgt, ax_ifle, ax_iceq, ax_icne, ax_iclt, ax_icge, ax_icgt, ax_icle, ax_ifnull, ax_ifnn, ax_sw, ax_iret, ax_zret, ax_lret, ax_vret, ax_aret, ax_gf, ax_pfi, ax_pfz, ax_pfl, ax_pfr, ax_iald, ax_zald, ax_lald, ax_aald, ax_iast, ax_zast, ax_last, ax_aast, ax_alen, ax_ialdR, ax_alenR, ax_gst, ax_new, ax_nwi, ax_nwl, ax_nwq, ax_obj, ax_call, ax_calv, ax_nth, ax_p1, ax_p2, ax_k2, ax_nh, Value.category, lg_cmp_ge, lg_cmp_lt, lg_cmp_gt, lg_cmp_le, lg_cmp_eq, List.getElem?_cons_zero, List.getElem?_cons_succ, true_and, and_true, if_true, if_false, reduceIte, Nat.reduceEqDiff, Nat.add_eq_zero_iff, reduceCtorEq, Nat.reduceAdd, not_true_eq_false, not_false_eq_true, ax_pf, ax_popn, fv_in, fv_size, fv_drop, fv_within, fv_part, fv_cut, fv_sq, fv_absI, fv_absJ, fv_maxI, fv_minI, fv_maxJ, fv_minJ, List.map_cons, List.map_nil, List.sum_cons, List.sum_nil, Nat.reduceLeDiff, Nat.zero_le, Nat.le_refl, zb_0, zb_1, zb_em, true_or, or_true, Int32.toInt_toInt64, Nat.add_zero, fv_isGlass, fv_mayBe, fv_isReading8, fv_isHour8, fv_isPoint, fv_isReading7, fv_isRoom, fv_isWarmth, fv_isHour7, fv_isOnMap, fv_holds, fv_held, tm_eq, i3_add, i3_sub, i3_mul, i3_neg, i6_add, i6_sub, i6_mul, i6_neg, i6_I, i3_toInt, i6_toInt, i3_lt, i3_le, i3_eq, i6_lt, i6_le, i6_eq, i3_eq0, i3_eq1, i3_lt0, i3_le0, i3_gt0, i3_ge0, i6_eq0, i3_div, i6_div, i3_rem, i6_rem, i3_L, i3_nat, i3_inI, ax_up3, ax_up6, c7, c12, c13, p1, p4]
      refine ⟨fun q => absurd q (by omega), fun _ => ⟨by omega, by omega, fun a => ?_, fun a => ⟨Nat.le_of_ble_eq_true rfl, ?_⟩⟩⟩
      · have e := ih (k + 1) T' f (by omega) c h9 hP (by rw [cntB, if_neg (by simp; omega), Int.add_zero]; exact h7) hR hF
        rw [c1] at e
        exact e
      · have e := ih (k + 1) (mset T' 7 (ax_u (T' 7) 7 (T' 7 7 + 1))) (va_up f (r + 7) (some (rce X r (T' 2 1).toNat 7 (ax_u (T' 7) 7 (T' 7 7 + 1))))) (by omega) (c.trans (tcore.row (k := 7) (by omega) (Or.inl (by omega)))) h9 hP (by rw [cntB, if_pos (by simp; omega), ← h7]; rfl) (hR.set (k := 7) (Or.inl (by omega)) rfl) (hF.up (by omega))
        rw [c1] at e
        have c76 : i3 (T' 7 6) = i3 (cntB (fsP G) 128) := by rw [hP.1]
        rw [show rce X r (T' 2 1).toNat 7 (ax_u (T' 7) 7 (T' 7 7 + 1)) = .inr (1, [.ref (r + 8), .ref (r + 9), .ref (r + 10), .ref (r + 11), .ref (r + 12), .ref (r + 13), .int (i3 (T' 7 6)), .int (i3 (T' 7 7 + 1)), .int (i3 (T' 7 8)), .int (i3 (T' 7 9))]) from rfl, c76] at e
        exact e
    · have c1 : cntB (fsP G) (k + 1) = cntB (fsP G) k := by rw [cntB, if_neg (by simpa using g), Int.add_zero]
      have e := ih (k + 1) T' f (by omega) c h9 hP (by rw [cntB, if_neg (by simp; intro q; exact absurd q g), Int.add_zero]; exact h7) hR hF
      rw [c1] at e
      exact e
theorem m2_gl_17 (hU : UF (T 9) G) (hL : ∀ t : Int, 0 ≤ t → t < 128 → 0 ≤ G t → (L t = 2 ↔ ¬ brdZ t)) :
    ∀ (n k : Nat) (T' : Nat → Int → Int) (f : ax_F), k + n = 128 → tcore T T' → T' 9 = T 9 → T' 7 9 = hc → T' 7 7 = 0 → gaP G L T' k → RH X r T' f → RF r f0 f → ax_G X mX2_gatherLines 0 0 (gaPost X r z G L hc T f0) 17 [some (.ref (r + 7)), some (.int (i3 (k : Int)))] [] 0 0 z f := by
  intro n
  induction n with
  | zero =>
    intro k T' f hk c hW h9 h77 hP hR hF
    have hk' : k = 128 := by omega
    subst hk'
    refine sbX2_gatherLines_17 X 0 0 _ _ _ _ _ _ _ ?_
    simp (disch := omega) only [bkX2_gatherLines_17, ax_ic, ax_lc, ax_nul, ax_il, ax_ll, ax_al, ax_is, ax_ls, ax_as, ax_inc, ax_iadd, ax_isub, ax_imul, ax_iand, ax_ior, ax_idiv, ax_irem, ax_ishl, ax_ishr, ax_ladd, ax_lsub, ax_lmul, ax_ldiv, ax_lrem, ax_ineg, ax_lneg, ax_i2l, ax_l2i, ax_lcmp, ax_dup, ax_pop1, ax_dupx1, ax_dup2, ax_ifeq, ax_ifne, ax_iflt, ax_ifge, ax_ifgt, ax_ifle, ax_iceq, ax_icne, ax_iclt, ax_icge, ax_icgt, ax_icle, ax_ifnull, ax_ifnn, ax_sw, ax_iret, ax_zret, ax_lret, ax_vret, ax_aret, ax_gf, ax_pfi, ax_pfz, ax_pfl, ax_pfr, ax_iald, ax_zald, ax_lald, ax_aald, ax_iast, ax_zast, ax_last, ax_aast, ax_alen, ax_ialdR, ax_alenR, ax_gst, ax_new, ax_nwi, ax_nwl, ax_nwq, ax_obj, ax_call, ax_calv, ax_nth, ax_p1, ax_p2, ax_k2, ax_nh, Value.category, lg_cmp_ge, lg_cmp_lt, lg_cmp_gt, lg_cmp_le, lg_cmp_eq, List.getElem?_cons_zero, List.getElem?_cons_succ, true_and, and_true, if_true, if_false, reduceIte, Nat.reduceEqDiff, Nat.add_eq_zero_iff, reduceCtorEq, Nat.reduceAdd, not_true_eq_false, not_false_eq_true, ax_pf, ax_popn, fv_in, fv_size, fv_drop, fv_within, fv_part, fv_cut, fv_sq, fv_absI, fv_absJ, fv_maxI, fv_minI, fv_maxJ, fv_minJ, List.map_cons, List.map_nil, List.sum_cons, List.sum_nil, Nat.reduceLeDiff, Nat.zero_le, Nat.le_refl, zb_0, zb_1, zb_em, true_or, or_true, Int32.toInt_toInt64, Nat.add_zero, fv_isGlass, fv_mayBe, fv_isReading8, fv_isHour8, fv_isPoint, fv_isReading7, fv_isRoom, fv_isWarmth, fv_isHour7, fv_isOnMap, fv_holds, fv_held, tm_eq, i3_add, i3_sub, i3_mul, i3_neg, i6_add, i6_sub, i6_mul, i6_neg, i6_I, i3_toInt, i6_toInt, i3_lt, i3_le, i3_eq, i6_lt, i6_le, i6_eq, i3_eq0, i3_eq1, i3_lt0, i3_le0, i3_gt0, i3_ge0, i6_eq0, i3_div, i6_div, i3_rem, i6_rem, i3_L, i3_nat, i3_inI, ax_up3, ax_up6]
    exact ⟨fun _ => m2_gl_60 (fun s _ _ => rnZ_01 G L s 128) 128 0 T' f (by omega) c h9 hP h77 hR hF, fun q => absurd (by omega) q⟩
  | succ n ih =>
    intro k T' f hk c hW h9 h77 hP hR hF
    have hU' : UF (T' 9) G := by rw [hW]; exact hU
    have cr := cntB_rng (fsP G) k
    have uk := hU k (by omega) (by omega)
    have c7 : f (r + 7) = some (.inr (1, [.ref (r + 8), .ref (r + 9), .ref (r + 10), .ref (r + 11), .ref (r + 12), .ref (r + 13), .int (i3 (T' 7 6)), .int (i3 (T' 7 7)), .int (i3 (T' 7 8)), .int (i3 (T' 7 9))])) := hR 7 (Or.inl (by decide))
    refine sbX2_gatherLines_17 X 0 0 _ _ _ _ _ _ _ ?_
    simp (disch := omega) only [bkX2_gatherLines_17, ax_ic, ax_lc, ax_nul, ax_il, ax_ll, ax_al, ax_is, ax_ls, ax_as, ax_inc, ax_iadd, ax_isub, ax_imul, ax_iand, ax_ior, ax_idiv, ax_irem, ax_ishl, ax_ishr, ax_ladd, ax_lsub, ax_lmul, ax_ldiv, ax_lrem, ax_ineg, ax_lneg, ax_i2l, ax_l2i, ax_lcmp, ax_dup, ax_pop1, ax_dupx1, ax_dup2, ax_ifeq, ax_ifne, ax_iflt, ax_ifge, ax_ifgt, ax_ifle, ax_iceq, ax_icne, ax_iclt, ax_icge, ax_icgt, ax_icle, ax_ifnull, ax_ifnn, ax_sw, ax_iret, ax_zret, ax_lret, ax_vret, ax_aret, ax_gf, ax_pfi, ax_pfz, ax_pfl, ax_pfr, ax_iald, ax_zald, ax_lald, ax_aald, ax_iast, ax_zast, ax_last, ax_aast, ax_alen, ax_ialdR, ax_alenR, ax_gst, ax_new, ax_nwi, ax_nwl, ax_nwq, ax_obj, ax_call, ax_calv, ax_nth, ax_p1, ax_p2, ax_k2, ax_nh, Value.category, lg_cmp_ge, lg_cmp_lt, lg_cmp_gt, lg_cmp_le, lg_cmp_eq, List.getElem?_cons_zero, List.getElem?_cons_succ, true_and, and_true, if_true, if_false, reduceIte, Nat.reduceEqDiff, Nat.add_eq_zero_iff, reduceCtorEq, Nat.reduceAdd, not_true_eq_false, not_false_eq_true, ax_pf, ax_popn, fv_in, fv_size, fv_drop, fv_within, fv_part, fv_cut, fv_sq, fv_absI, fv_absJ, fv_maxI, fv_minI, fv_maxJ, fv_minJ, List.map_cons, List.map_nil, List.sum_cons, List.sum_nil, Nat.reduceLeDiff, Nat.zero_le, Nat.le_refl, zb_0, zb_1, zb_em, true_or, or_true, Int32.toInt_toInt64, Nat.add_zero, fv_isGlass, fv_mayBe, fv_isReading8, fv_isHour8, fv_isPoint, fv_isReading7, fv_isRoom, fv_isWarmth, fv_isHour7, fv_isOnMap, fv_holds, fv_held, tm_eq, i3_add, i3_sub, i3_mul, i3_neg, i6_add, i6_sub, i6_mul, i6_neg, i6_I, i3_toInt, i6_toInt, i3_lt, i3_le, i3_eq, i6_lt, i6_le, i6_eq, i3_eq0, i3_eq1, i3_lt0, i3_le0, i3_gt0, i3_ge0, i6_eq0, i3_div, i6_div, i3_rem, i6_rem, i3_L, i3_nat, i3_inI, ax_up3, ax_up6]
    refine ⟨fun q => absurd q (by omega), fun _ => ⟨⟨_, c7⟩, ax_fn (Nat.le_of_ble_eq_true rfl) (Nat.zero_le _) (Nat.zero_le _) (m2_isCut hR hU' (by omega) (by omega)) ?_⟩⟩
    simp (disch := omega) only [ax_ic, ax_lc, ax_nul, ax_il, ax_ll, ax_al, ax_is, ax_ls, ax_as, ax_inc, ax_iadd, ax_isub, ax_imul, ax_iand, ax_ior, ax_idiv, ax_irem, ax_ishl, ax_ishr, ax_ladd, ax_lsub, ax_lmul, ax_ldiv, ax_lrem, ax_ineg, ax_lneg, ax_i2l, ax_l2i, ax_lcmp, ax_dup, ax_pop1, ax_dupx1, ax_dup2, ax_ifeq, ax_ifne, ax_iflt, ax_ifge, ax_ifgt, ax_ifle, ax_iceq, ax_icne, ax_iclt, ax_icge, ax_icgt, ax_icle, ax_ifnull, ax_ifnn, ax_sw, ax_iret, ax_zret, ax_lret, ax_vret, ax_aret, ax_gf, ax_pfi, ax_pfz, ax_pfl, ax_pfr, ax_iald, ax_zald, ax_lald, ax_aald, ax_iast, ax_zast, ax_last, ax_aast, ax_alen, ax_ialdR, ax_alenR, ax_gst, ax_new, ax_nwi, ax_nwl, ax_nwq, ax_obj, ax_call, ax_calv, ax_nth, ax_p1, ax_p2, ax_k2, ax_nh, Value.category, lg_cmp_ge, lg_cmp_lt, lg_cmp_gt, lg_cmp_le, lg_cmp_eq, List.getElem?_cons_zero, List.getElem?_cons_succ, true_and, and_true, if_true, if_false, reduceIte, Nat.reduceEqDiff, Nat.add_eq_zero_iff, reduceCtorEq, Nat.reduceAdd, not_true_eq_false, not_false_eq_true, ax_pf, ax_popn, fv_in, fv_size, fv_drop, fv_within, fv_part, fv_cut, fv_sq, fv_absI, fv_absJ, fv_maxI, fv_minI, fv_maxJ, fv_minJ, List.map_cons, List.map_nil, List.sum_cons, List.sum_nil, Nat.reduceLeDiff, Nat.zero_le, Nat.le_refl, zb_0, zb_1, zb_em, true_or, or_true, Int32.toInt_toInt64, Nat.add_zero, fv_isGlass, fv_mayBe, fv_isReading8, fv_isHour8, fv_isPoint, fv_isReading7, fv_isRoom, fv_isWarmth, fv_isHour7, fv_isOnMap, fv_holds, fv_held, tm_eq, i3_add, i3_sub, i3_mul, i3_neg, i6_add, i6_sub, i6_mul, i6_neg, i6_I, i3_toInt, i6_toInt, i3_lt, i3_le, i3_eq, i6_lt, i6_le, i6_eq, i3_eq0, i3_eq1, i3_lt0, i3_le0, i3_gt0, i3_ge0, i6_eq0, i3_div, i6_div, i3_rem, i6_rem, i3_L, i3_nat, i3_inI, ax_up3, ax_up6]
    refine ⟨fun a => ?_, fun a => ?_⟩
    · refine ih (k + 1) T' f (by omega) c hW h9 h77 ⟨?_, ?_, fun s h1 h2 => ?_⟩ hR hF
      · rw [hP.1, cntB, if_neg (by simp; omega), Int.add_zero]
      · rw [hP.2.1, cntB, if_neg (by simpa using a), Int.add_zero]
      · by_cases e : s = k
        · subst e; omega
        · have ne : ¬ G k = (s : Int) := by omega
          have q := hP.2.2 s (by omega) h2
          rw [cnt1, mo1, rn1, if_neg ne, if_neg ne, if_neg ne, Int.add_zero]
          exact q
    · have a' : 0 ≤ G k := by omega
      have uk' : 0 ≤ G k ∧ G k ≤ k ∧ G (G k) = G k := by rcases uk with q | q <;> omega
      refine ⟨⟨_, c7⟩, ax_fn (Nat.le_of_ble_eq_true rfl) (Nat.zero_le _) (Nat.zero_le _) (m2_leastOf hR hU' (by omega) (by omega) a') ?_⟩
      simp (disch := omega) only [ax_ic, ax_lc, ax_nul, ax_il, ax_ll, ax_al, ax_is, ax_ls, ax_as, ax_inc, ax_iadd, ax_isub, ax_imul, ax_iand, ax_ior, ax_idiv, ax_irem, ax_ishl, ax_ishr, ax_ladd, ax_lsub, ax_lmul, ax_ldiv, ax_lrem, ax_ineg, ax_lneg, ax_i2l, ax_l2i, ax_lcmp, ax_dup, ax_pop1, ax_dupx1, ax_dup2, ax_ifeq, ax_ifne, ax_iflt, ax_ifge, ax_ifgt, ax_ifle, ax_iceq, ax_icne, ax_iclt, ax_icge, ax_icgt, ax_icle, ax_ifnull, ax_ifnn, ax_sw, ax_iret, ax_zret, ax_lret, ax_vret, ax_aret, ax_gf, ax_pfi, ax_pfz, ax_pfl, ax_pfr, ax_iald, ax_zald, ax_lald, ax_aald, ax_iast, ax_zast, ax_last, ax_aast, ax_alen, ax_ialdR, ax_alenR, ax_gst, ax_new, ax_nwi, ax_nwl, ax_nwq, ax_obj, ax_call, ax_calv, ax_nth, ax_p1, ax_p2, ax_k2, ax_nh, Value.category, lg_cmp_ge, lg_cmp_lt, lg_cmp_gt, lg_cmp_le, lg_cmp_eq, List.getElem?_cons_zero, List.getElem?_cons_succ, true_and, and_true, if_true, if_false, reduceIte, Nat.reduceEqDiff, Nat.add_eq_zero_iff, reduceCtorEq, Nat.reduceAdd, not_true_eq_false, not_false_eq_true, ax_pf, ax_popn, fv_in, fv_size, fv_drop, fv_within, fv_part, fv_cut, fv_sq, fv_absI, fv_absJ, fv_maxI, fv_minI, fv_maxJ, fv_minJ, List.map_cons, List.map_nil, List.sum_cons, List.sum_nil, Nat.reduceLeDiff, Nat.zero_le, Nat.le_refl, zb_0, zb_1, zb_em, true_or, or_true, Int32.toInt_toInt64, Nat.add_zero, fv_isGlass, fv_mayBe, fv_isReading8, fv_isHour8, fv_isPoint, fv_isReading7, fv_isRoom, fv_isWarmth, fv_isHour7, fv_isOnMap, fv_holds, fv_held, tm_eq, i3_add, i3_sub, i3_mul, i3_neg, i6_add, i6_sub, i6_mul, i6_neg, i6_I, i3_toInt, i6_toInt, i3_lt, i3_le, i3_eq, i6_lt, i6_le, i6_eq, i3_eq0, i3_eq1, i3_lt0, i3_le0, i3_gt0, i3_ge0, i6_eq0, i3_div, i6_div, i3_rem, i6_rem, i3_L, i3_nat, i3_inI, ax_up3, ax_up6]
      refine ⟨⟨_, c7⟩, Nat.le_of_ble_eq_true rfl, 0, 0, _, m2_addToLine hR hF (by omega) (by omega) (by omega) (by omega) (by rw [hP.1]; omega) (by rw [hP.1]; omega), Nat.zero_le _, Nat.zero_le _, fun w z' f1 hq => ?_⟩
      obtain ⟨rfl, rfl, hF1, T1, hR1, a1, a2, a3, a4, a5, a6, a7, a8⟩ := hq
      have d7 : f1 (r + 7) = some (.inr (1, [.ref (r + 8), .ref (r + 9), .ref (r + 10), .ref (r + 11), .ref (r + 12), .ref (r + 13), .int (i3 (T1 7 6)), .int (i3 (T1 7 7)), .int (i3 (T1 7 8)), .int (i3 (T1 7 9))])) := hR1 7 (Or.inl (by decide))
      simp (disch := omega) only [List.set, ax_ic, ax_lc, ax_nul, ax_il, ax_ll, ax_al, ax_is, ax_ls, ax_as, ax_inc, ax_iadd, ax_isub, ax_imul, ax_iand, ax_ior, ax_idiv, ax_irem, ax_ishl, ax_ishr, ax_ladd, ax_lsub, ax_lmul, ax_ldiv, ax_lrem, ax_ineg, ax_lneg, ax_i2l, ax_l2i, ax_lcmp, ax_dup, ax_pop1, ax_dupx1, ax_dup2, ax_ifeq, ax_ifne, ax_iflt, ax_ifge, ax_ifgt, ax_ifle, ax_iceq, ax_icne, ax_iclt, ax_icge, ax_icgt, ax_icle, ax_ifnull, ax_ifnn, ax_sw, ax_iret, ax_zret, ax_lret, ax_vret, ax_aret, ax_gf, ax_pfi, ax_pfz, ax_pfl, ax_pfr, ax_iald, ax_zald, ax_lald, ax_aald, ax_iast, ax_zast, ax_last, ax_aast, ax_alen, ax_ialdR, ax_alenR, ax_gst, ax_new, ax_nwi, ax_nwl, ax_nwq, ax_obj, ax_call, ax_calv, ax_nth, ax_p1, ax_p2, ax_k2, ax_nh, Value.category, lg_cmp_ge, lg_cmp_lt, lg_cmp_gt, lg_cmp_le, lg_cmp_eq, List.getElem?_cons_zero, List.getElem?_cons_succ, true_and, and_true, if_true, if_false, reduceIte, Nat.reduceEqDiff, Nat.add_eq_zero_iff, reduceCtorEq, Nat.reduceAdd, not_true_eq_false, not_false_eq_true, ax_pf, ax_popn, fv_in, fv_size, fv_drop, fv_within, fv_part, fv_cut, fv_sq, fv_absI, fv_absJ, fv_maxI, fv_minI, fv_maxJ, fv_minJ, List.map_cons, List.map_nil, List.sum_cons, List.sum_nil, Nat.reduceLeDiff, Nat.zero_le, Nat.le_refl, zb_0, zb_1, zb_em, true_or, or_true, Int32.toInt_toInt64, Nat.add_zero, fv_isGlass, fv_mayBe, fv_isReading8, fv_isHour8, fv_isPoint, fv_isReading7, fv_isRoom, fv_isWarmth, fv_isHour7, fv_isOnMap, fv_holds, fv_held, tm_eq, i3_add, i3_sub, i3_mul, i3_neg, i6_add, i6_sub, i6_mul, i6_neg, i6_I, i3_toInt, i6_toInt, i3_lt, i3_le, i3_eq, i6_lt, i6_le, i6_eq, i3_eq0, i3_eq1, i3_lt0, i3_le0, i3_gt0, i3_ge0, i6_eq0, i3_div, i6_div, i3_rem, i6_rem, i3_L, i3_nat, i3_inI, ax_up3, ax_up6, Option.toList, List.nil_append, d7]
      refine ⟨Nat.le_of_ble_eq_true rfl, ?_⟩
      have h78 : T1 7 8 = cntB (fun s => decide (0 ≤ G s)) k := by rw [a3 8 (by omega), hP.2.1]
      refine ih (k + 1) (mset T1 7 (ax_u (T1 7) 8 (T1 7 8 + 1))) _ (by omega) ((c.trans a1).trans (tcore.row (k := 7) (by omega) (Or.inl (by omega)))) (a2.trans hW) ?_ ?_ ⟨?_, ?_, fun s h1 h2 => ?_⟩ (hR1.set (k := 7) (g := ax_u (T1 7) 8 (T1 7 8 + 1)) (Or.inl (by omega)) rfl) (hF1.up (by omega))
      · show T1 7 9 = hc
        rw [a3 9 (by omega), h9]
      · show T1 7 7 = 0
        rw [a3 7 (by omega), h77]
      · show T1 7 6 = _
        rw [a4, hP.1, cntB]
        by_cases e : G k = k
        · rw [if_pos e.symm, if_pos (by simpa using e)]
        · rw [if_neg (fun d => e d.symm), if_neg (by simpa using e)]
      · show T1 7 8 + 1 = _
        rw [h78, cntB, if_pos (by simpa using a')]
      · show T1 13 _ = _ ∧ T1 10 _ = _ ∧ T1 11 _ = _ ∧ T1 12 _ = _
        rw [a5, a6, a7, a8, hP.1]
        by_cases e : s = k
        · subst e
          obtain ⟨n1, n2, n3⟩ := none_yet (L := L) hU (k := s) s (Nat.le_refl _) (by omega)
          have := hL s (by omega) (by omega) a'
          rw [cnt1, mo1, rn1, n1, n3]
          simp only [h2, eq_self, and_self, true_and, if_true]
          rw [if_neg (show ¬ (1 : Int) = 0 by omega)]
          by_cases q : brdZ s
          · rw [if_pos q, if_neg (fun d => (this.mp d) q)]
          · rw [if_neg q, if_pos (this.mpr q)]
        · obtain ⟨q1, q2, q3, q4⟩ := hP.2.2 s (by omega) h2
          have lt := cntB_lt (P := fsP G) (a := s) (b := k) (by omega) (by simpa using h2)
          rw [if_neg (fun d => by have := d.2; omega)]
          rw [cnt1, mo1, rn1]
          by_cases g : G k = s
          · have nk : ¬ (k : Int) = G k := by omega
            rw [if_pos g.symm, if_pos g.symm, if_pos g.symm, if_neg nk, if_neg nk, if_pos g, if_pos g, if_pos g, g, q2, q4]
            refine ⟨q1, rfl, rfl, ?_⟩
            have := hL k (by omega) (by omega) a'
            have r01 := rnZ_01 G L s k
            by_cases q : brdZ k
            · rw [if_pos q]
              split
              · rfl
              · rw [if_neg (fun d => (this.mp d) q)]
            · rw [if_neg q]
              split
              · rename_i z0; exact z0
              · rw [if_pos (this.mpr q)]; omega
          · have g' : ¬ (s : Int) = G k := fun d => g d.symm
            simp only [g, g', if_false, Int.add_zero]
            exact ⟨q1, q2, q3, q4⟩
theorem m2_gatherLines (hR : RH X r T f) (hF : RF r f0 f) (hU : UF (T 9) G) (hL : ∀ t : Int, 0 ≤ t → t < 128 → 0 ≤ G t → (L t = 2 ↔ ¬ brdZ t)) (h9 : T 7 9 = hc) : ax_M X mX2_gatherLines 0 0 [.ref (r + 7)] z f (gaPost X r z G L hc T f0) := by
  have c7 : f (r + 7) = some (.inr (1, [.ref (r + 8), .ref (r + 9), .ref (r + 10), .ref (r + 11), .ref (r + 12), .ref (r + 13), .int (i3 (T 7 6)), .int (i3 (T 7 7)), .int (i3 (T 7 8)), .int (i3 (T 7 9))])) := hR 7 (Or.inl (by decide))
  have hR3 := ((hR.set (k := 7) (g := ax_u (T 7) 6 0) (Or.inl (by omega)) rfl).set (k := 7) (g := ax_u (ax_u (T 7) 6 0) 8 0) (Or.inl (by omega)) rfl).set (k := 7) (g := ax_u (ax_u (ax_u (T 7) 6 0) 8 0) 7 0) (Or.inl (by omega)) rfl
  rw [mset_mset, mset_mset] at hR3
  refine ax_met2 [some (.ref (r + 7)), none] (by decide) (Nat.le_of_ble_eq_true rfl) rfl ?_
  refine sbX2_gatherLines_0 X 0 0 _ _ _ _ _ _ _ ?_
  simp (disch := omega) only [List.set, bkX2_gatherLines_0, ax_ic, ax_lc, ax_nul, ax_il, ax_ll, ax_al, ax_is, ax_ls, ax_as, ax_inc, ax_iadd, ax_isub, ax_imul, ax_iand, ax_ior, ax_idiv, ax_irem, ax_ishl, ax_ishr, ax_ladd, ax_lsub, ax_lmul, ax_ldiv, ax_lrem, ax_ineg, ax_lneg, ax_i2l, ax_l2i, ax_lcmp, ax_dup, ax_pop1, ax_dupx1, ax_dup2, ax_ifeq, ax_ifne, ax_iflt, ax_ifge, ax_ifgt, ax_ifle, ax_iceq, ax_icne, ax_iclt, ax_icge, ax_icgt, ax_icle, ax_ifnull, ax_ifnn, ax_sw, ax_iret, ax_zret, ax_lret, ax_vret, ax_aret, ax_gf, ax_pfi, ax_pfz, ax_pfl, ax_pfr, ax_iald, ax_zald, ax_lald, ax_aald, ax_iast, ax_zast, ax_last, ax_aast, ax_alen, ax_ialdR, ax_alenR, ax_gst, ax_new, ax_nwi, ax_nwl, ax_nwq, ax_obj, ax_call, ax_calv, ax_nth, ax_p1, ax_p2, ax_k2, ax_nh, Value.category, lg_cmp_ge, lg_cmp_lt, lg_cmp_gt, lg_cmp_le, lg_cmp_eq, List.getElem?_cons_zero, List.getElem?_cons_succ, true_and, and_true, if_true, if_false, reduceIte, Nat.reduceEqDiff, Nat.add_eq_zero_iff, reduceCtorEq, Nat.reduceAdd, not_true_eq_false, not_false_eq_true, ax_pf, ax_popn, fv_in, fv_size, fv_drop, fv_within, fv_part, fv_cut, fv_sq, fv_absI, fv_absJ, fv_maxI, fv_minI, fv_maxJ, fv_minJ, List.map_cons, List.map_nil, List.sum_cons, List.sum_nil, Nat.reduceLeDiff, Nat.zero_le, Nat.le_refl, zb_0, zb_1, zb_em, true_or, or_true, Int32.toInt_toInt64, Nat.add_zero, fv_isGlass, fv_mayBe, fv_isReading8, fv_isHour8, fv_isPoint, fv_isReading7, fv_isRoom, fv_isWarmth, fv_isHour7, fv_isOnMap, fv_holds, fv_held, tm_eq, i3_add, i3_sub, i3_mul, i3_neg, i6_add, i6_sub, i6_mul, i6_neg, i6_I, i3_toInt, i6_toInt, i3_lt, i3_le, i3_eq, i6_lt, i6_le, i6_eq, i3_eq0, i3_eq1, i3_lt0, i3_le0, i3_gt0, i3_ge0, i6_eq0, i3_div, i6_div, i3_rem, i6_rem, i3_L, i3_nat, i3_inI, ax_up3, ax_up6, up_ne, up_0, up_s, up_00, up_0n, c7]
  refine ⟨Nat.le_of_ble_eq_true rfl, Nat.le_of_ble_eq_true rfl, Nat.le_of_ble_eq_true rfl, ?_⟩
  exact m2_gl_17 hU hL 128 0 _ _ (by omega) (tcore.row (k := 7) (g := ax_u (ax_u (ax_u (T 7) 6 0) 8 0) 7 0) (by omega) (Or.inl (by omega))) rfl h9 rfl ⟨rfl, rfl, fun s h => by omega⟩ hR3 (((hF.up (by omega)).up (by omega)).up (by omega))
end GBA
