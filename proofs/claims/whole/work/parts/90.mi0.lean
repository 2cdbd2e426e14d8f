/-! the reference as it is made -/
def Va : Nat → Int → Int := fun k j => if k = 0 then (if j = 14 then 3 else 0) else 0
def stF (k : Nat) : Int → Int := fun j => if j < k then stp j.toNat else 0
def nuF (g : Nat) : Int → Int := fun j => if 0 ≤ j ∧ j < 6 * g then firZ (j % 6) else 0
def loF (g : Nat) : Int → Int := fun j => if 0 ≤ j ∧ j < g then 1 else 0
def Vb (k g : Nat) : Nat → Int → Int := mset (mset (mset Va 1 (stF k)) 2 (nuF g)) 4 (loF g)
abbrev V0 : Nat → Int → Int := Vb 20001 6
theorem stF_s (k : Nat) (hk : 1 ≤ k) : ax_u (stF k) k (stF k ((k : Int) - 1) + (800000 : Int).tdiv k) = stF (k + 1) := by
  funext j
  unfold ax_u
  by_cases e : j = k
  · rw [if_pos e]
    unfold stF
    rw [if_pos (by omega), if_pos (by omega), e]
    have h := stp_1 (k - 1)
    rw [show k - 1 + 1 = k by omega, show (((k - 1 : Nat)) : Int) + 1 = k by omega] at h
    rw [show ((k : Int)).toNat = k by omega, show ((k : Int) - 1).toNat = k - 1 by omega, h]
  · rw [if_neg e]
    unfold stF
    by_cases l : j < k
    · rw [if_pos l, if_pos (by omega)]
    · rw [if_neg l, if_neg (by omega)]
theorem stF_b (k : Nat) (hk : k ≤ 20001) (j : Int) : 0 ≤ stF k j ∧ stF k j ≤ 16000800000 := by
  unfold stF
  split
  · have h := stp_bd j.toNat
    omega
  · omega
theorem nuF_s (g : Nat) : ax_u (ax_u (ax_u (ax_u (ax_u (ax_u (nuF g) (6 * (g : Int)) 0) (6 * (g : Int) + 1) 100) (6 * (g : Int) + 2) 7600) (6 * (g : Int) + 3) 5) (6 * (g : Int) + 4) 2) (6 * (g : Int) + 5) 8500 = nuF (g + 1) := by
  funext j
  unfold ax_u nuF
  by_cases e5 : j = 6 * (g : Int) + 5
  · rw [if_pos e5, if_pos (by omega), show j % 6 = 5 by omega]; rfl
  rw [if_neg e5]
  by_cases e4 : j = 6 * (g : Int) + 4
  · rw [if_pos e4, if_pos (by omega), show j % 6 = 4 by omega]; rfl
  rw [if_neg e4]
  by_cases e3 : j = 6 * (g : Int) + 3
  · rw [if_pos e3, if_pos (by omega), show j % 6 = 3 by omega]; rfl
  rw [if_neg e3]
  by_cases e2 : j = 6 * (g : Int) + 2
  · rw [if_pos e2, if_pos (by omega), show j % 6 = 2 by omega]; rfl
  rw [if_neg e2]
  by_cases e1 : j = 6 * (g : Int) + 1
  · rw [if_pos e1, if_pos (by omega), show j % 6 = 1 by omega]; rfl
  rw [if_neg e1]
  by_cases e0 : j = 6 * (g : Int)
  · rw [if_pos e0, if_pos (by omega), show j % 6 = 0 by omega]; rfl
  rw [if_neg e0]
  by_cases l : 0 ≤ j ∧ j < 6 * (g : Int)
  · rw [if_pos l, if_pos (by omega)]
  · rw [if_neg l, if_neg (by omega)]
theorem loF_s (g : Nat) : ax_u (loF g) (g : Int) 1 = loF (g + 1) := by
  funext j
  unfold ax_u loF
  by_cases e : j = g
  · rw [if_pos e, if_pos (by omega)]
  · rw [if_neg e]
    by_cases l : 0 ≤ j ∧ j < (g : Int)
    · rw [if_pos l, if_pos (by omega)]
    · rw [if_neg l, if_neg (by omega)]
theorem Vb_1 {k g : Nat} : Vb k g 1 = stF k := rfl
theorem Vb_2 {k g : Nat} : Vb k g 2 = nuF g := rfl
theorem Vb_4 {k g : Nat} : Vb k g 4 = loF g := rfl
abbrev m0Post (X : ax_X) (o : Nat) (f : ax_F) : Option Value → Nat → ax_F → Prop := fun v z' f' => v = none ∧ z' = o + 26 ∧ MH X o V0 f' ∧ MF o f f'
section MIA
variable {X : ax_X} {o z : Nat} {f f0 : ax_F}
theorem m8_in_250 : ∀ (n i : Nat) (f : ax_F), i + n = 6 → MH X o (Vb 20001 i) f → MF o f0 f → ax_G X mX8_init 25 21408 (m0Post X o f0) 250 [some (.ref o), some (.int (i3 i))] [] 25 21408 (o + 26) f := by
  intro n
  induction n with
  | zero =>
    intro i f hi hM hF
    have i6 : i = 6 := by omega
    subst i6
    refine sbX8_init_250 X 25 21408 _ _ _ _ _ _ _ ?_
    simp (disch := omega) only [bkX8_init_250, ax_ic, ax_lc, ax_nul, ax_il, ax_ll, ax_al, ax_is, ax_ls, ax_as, ax_inc, ax_iadd, ax_isub, ax_imul, ax_iand, ax_ior, ax_idiv, ax_irem, ax_ishl, ax_ishr, ax_ladd, ax_lsub, ax_lmul, ax_ldiv, ax_lrem, ax_ineg, ax_lneg, ax_i2l, ax_l2i, ax_lcmp, ax_dup, ax_pop1, ax_dupx1, ax_dup2, ax_ifeq, ax_ifne, ax_iflt, ax_ifge, ax_ifgt, ax_ifle, ax_iceq, ax_icne, ax_iclt, ax_icge, ax_icgt, ax_icle, ax_ifnull, ax_ifnn, ax_sw, ax_iret, ax_zret, ax_lret, ax_vret, ax_aret, ax_gf, ax_pfi, ax_pfz, ax_pfl, ax_pfr, ax_iald, ax_zald, ax_lald, ax_aald, ax_iast, ax_zast, ax_last, ax_aast, ax_alen, ax_ialdR, ax_alenR, ax_gst, ax_new, ax_nwi, ax_nwl, ax_nwq, ax_obj, ax_call, ax_calv, ax_nth, ax_p1, ax_p2, ax_k2, ax_nh, Value.category, lg_cmp_ge, lg_cmp_lt, lg_cmp_gt, lg_cmp_le, lg_cmp_eq, List.getElem?_cons_zero, List.getElem?_cons_succ, true_and, and_true, if_true, if_false, reduceIte, Nat.reduceEqDiff, Nat.add_eq_zero_iff, reduceCtorEq, Nat.reduceAdd, not_true_eq_false, not_false_eq_true, ax_pf, ax_popn, fv_in, fv_size, fv_drop, fv_within, fv_part, fv_cut, fv_sq, fv_absI, fv_absJ, fv_maxI, fv_minI, fv_maxJ, fv_minJ, List.map_cons, List.map_nil, List.sum_cons, List.sum_nil, Nat.reduceLeDiff, Nat.zero_le, Nat.le_refl, zb_0, zb_1, zb_em, true_or, or_true, Int32.toInt_toInt64, Nat.add_zero, fv_isGlass, fv_mayBe, fv_isReading8, fv_isHour8, fv_isPoint, fv_isReading7, fv_isRoom, fv_isWarmth, fv_isHour7, fv_isOnMap, fv_holds, fv_held, tm_eq, i3_add, i3_sub, i3_mul, i3_neg, i6_add, i6_sub, i6_mul, i6_neg, i6_I, i3_toInt, i6_toInt, i3_lt, i3_le, i3_eq, i6_lt, i6_le, i6_eq, i3_eq0, i3_eq1, i3_lt0, i3_le0, i3_gt0, i3_ge0, i6_eq0, i3_div, i6_div, i3_rem, i6_rem, i3_L, i3_nat, i3_inI, ax_up3, ax_up6]
    exact ⟨fun _ => ⟨Nat.le_refl _, Nat.le_refl _, rfl, rfl, hM, hF⟩, fun q => absurd (by omega) q⟩
  | succ n ih =>
    intro i f hi hM hF
    have m0 := hM 0 (by decide)
    have m2 := hM 2 (by decide)
    have m4 := hM 4 (by decide)
    rw [Vb_2] at m2
    rw [Vb_4] at m4
    simp only [mce, Nat.add_zero] at m0 m2 m4
    have nx := ih (i + 1) (va_up (va_up f (o + 2) (some (mce X o 2 (nuF (i + 1))))) (o + 4) (some (mce X o 4 (loF (i + 1))))) (by omega) (by
      have e := (hM.set (k := 2) (g := nuF (i + 1)) rfl).set (k := 4) (g := loF (i + 1)) rfl
      refine cast ?_ e
      congr 1
      funext k
      unfold Vb mset
      by_cases a : k = 4
      · rw [if_pos a, if_pos a]
      · rw [if_neg a, if_neg a, if_neg a]
        by_cases b : k = 2
        · rw [if_pos b, if_pos b]
        · rw [if_neg b, if_neg b, if_neg b]) ((hF.up (by decide)).up (by decide))
    have u2 : ∀ e1 e2 : Option va_E, va_up (va_up f (o + 2) e1) (o + 2) e2 = va_up f (o + 2) e2 := fun e1 e2 => by
      funext q
      unfold va_up
      by_cases h : q = o + 2
      · rw [if_pos h, if_pos h]
      · rw [if_neg h, if_neg h, if_neg h]
    have s6 := nuF_s i
    have s4 := loF_s i
    refine sbX8_init_250 X 25 21408 _ _ _ _ _ _ _ ?_
    simp (disch := omega) only [bkX8_init_250, ax_ic, ax_lc, ax_nul, ax_il, ax_ll, ax_al, ax_is, ax_ls, ax_as, ax_inc, ax_iadd, ax_isub, ax_imul, ax_iand, ax_ior, ax_idiv, ax_irem, ax_ishl, ax_ishr, ax_ladd, ax_lsub, ax_lmul, ax_ldiv, ax_lrem, ax_ineg, ax_lneg, ax_i2l, ax_l2i, ax_lcmp, ax_dup, ax_pop1, ax_dupx1, ax_dup2, ax_ifeq, ax_ifne, ax_iflt, ax_ifge, ax_ifgt, ax_ifle, ax_iceq, ax_icne, ax_iclt, ax_icge, ax_icgt, ax_icle, ax_ifnull, ax_ifnn, ax_sw, ax_iret, ax_zret, ax_lret, ax_vret, ax_aret, ax_gf, ax_pfi, ax_pfz, ax_pfl, ax_pfr, ax_iald, ax_zald, ax_lald, ax_aald, ax_iast, ax_zast, ax_last, ax_aast, ax_alen, ax_ialdR, ax_alenR, ax_gst, ax_new, ax_nwi, ax_nwl, ax_nwq, ax_obj, ax_call, ax_calv, ax_nth, ax_p1, ax_p2, ax_k2, ax_nh, Value.category, lg_cmp_ge, lg_cmp_lt, lg_cmp_gt, lg_cmp_le, lg_cmp_eq, List.getElem?_cons_zero, List.getElem?_cons_succ, true_and, and_true, if_true, if_false, reduceIte, Nat.reduceEqDiff, Nat.add_eq_zero_iff, reduceCtorEq, Nat.reduceAdd, not_true_eq_false, not_false_eq_true, ax_pf, ax_popn, fv_in, fv_size, fv_drop, fv_within, fv_part, fv_cut, fv_sq, fv_absI, fv_absJ, fv_maxI, fv_minI, fv_maxJ, fv_minJ, List.map_cons, List.map_nil, List.sum_cons, List.sum_nil, Nat.reduceLeDiff, Nat.zero_le, Nat.le_refl, zb_0, zb_1, zb_em, true_or, or_true, Int32.toInt_toInt64, Nat.add_zero, fv_isGlass, fv_mayBe, fv_isReading8, fv_isHour8, fv_isPoint, fv_isReading7, fv_isRoom, fv_isWarmth, fv_isHour7, fv_isOnMap, fv_holds, fv_held, tm_eq, i3_add, i3_sub, i3_mul, i3_neg, i6_add, i6_sub, i6_mul, i6_neg, i6_I, i3_toInt, i6_toInt, i3_lt, i3_le, i3_eq, i6_lt, i6_le, i6_eq, i3_eq0, i3_eq1, i3_lt0, i3_le0, i3_gt0, i3_ge0, i6_eq0, i3_div, i6_div, i3_rem, i6_rem, i3_L, i3_nat, i3_inI, ax_up3, ax_up6, m0, m2, m4, up_ne, up_0, up_s, u2, Int.add_zero]
    refine ⟨fun q => absurd q (by omega), fun _ => ?_⟩
    rw [s6, s4]
    repeat' apply And.intro
    all_goals first
      | omega
      | exact nx
theorem m8_in_216 : ∀ (n k : Nat) (f : ax_F), k + n = 20001 → 1 ≤ k → MH X o (Vb k 0) f → MF o f0 f → ax_G X mX8_init 25 21408 (m0Post X o f0) 216 [some (.ref o), some (.int (i3 k))] [] 25 21408 (o + 26) f := by
  intro n
  induction n with
  | zero =>
    intro k f hk h1 hM hF
    have k6 : k = 20001 := by omega
    subst k6
    refine sbX8_init_216 X 25 21408 _ _ _ _ _ _ _ ?_
    simp (disch := omega) only [bkX8_init_216, ax_ic, ax_lc, ax_nul, ax_il, ax_ll, ax_al, ax_is, ax_ls, ax_as, ax_inc, ax_iadd, ax_isub, ax_imul, ax_iand, ax_ior, ax_idiv, ax_irem, ax_ishl, ax_ishr, ax_ladd, ax_lsub, ax_lmul, ax_ldiv, ax_lrem, ax_ineg, ax_lneg, ax_i2l, ax_l2i, ax_lcmp, ax_dup, ax_pop1, ax_dupx1, ax_dup2, ax_ifeq, ax_ifne, ax_iflt, ax_ifge, ax_ifgt, ax_ifle, ax_iceq, ax_icne, ax_iclt, ax_icge, ax_icgt, ax_icle, ax_ifnull, ax_ifnn, ax_sw, ax_iret, ax_zret, ax_lret, ax_vret, ax_aret, ax_gf, ax_pfi, ax_pfz, ax_pfl, ax_pfr, ax_iald, ax_zald, ax_lald, ax_aald, ax_iast, ax_zast, ax_last, ax_aast, ax_alen, ax_ialdR, ax_alenR, ax_gst, ax_new, ax_nwi, ax_nwl, ax_nwq, ax_obj, ax_call, ax_calv, ax_nth, ax_p1, ax_p2, ax_k2, ax_nh, Value.category, lg_cmp_ge, lg_cmp_lt, lg_cmp_gt, lg_cmp_le, lg_cmp_eq, List.getElem?_cons_zero, List.getElem?_cons_succ, true_and, and_true, if_true, if_false, reduceIte, Nat.reduceEqDiff, Nat.add_eq_zero_iff, reduceCtorEq, Nat.reduceAdd, not_true_eq_false, not_false_eq_true, ax_pf, ax_popn, fv_in, fv_size, fv_drop, fv_within, fv_part, fv_cut, fv_sq, fv_absI, fv_absJ, fv_maxI, fv_minI, fv_maxJ, fv_minJ, List.map_cons, List.map_nil, List.sum_cons, List.sum_nil, Nat.reduceLeDiff, Nat.zero_le, Nat.le_refl, zb_0, zb_1, zb_em, true_or, or_true, Int32.toInt_toInt64, Nat.add_zero, fv_isGlass, fv_mayBe, fv_isReading8, fv_isHour8, fv_isPoint, fv_isReading7, fv_isRoom, fv_isWarmth, fv_isHour7, fv_isOnMap, fv_holds, fv_held, tm_eq, i3_add, i3_sub, i3_mul, i3_neg, i6_add, i6_sub, i6_mul, i6_neg, i6_I, i3_toInt, i6_toInt, i3_lt, i3_le, i3_eq, i6_lt, i6_le, i6_eq, i3_eq0, i3_eq1, i3_lt0, i3_le0, i3_gt0, i3_ge0, i6_eq0, i3_div, i6_div, i3_rem, i6_rem, i3_L, i3_nat, i3_inI, ax_up3, ax_up6]
    refine ⟨fun _ => m8_in_250 6 0 f rfl hM hF, fun q => absurd (by omega) q⟩
  | succ n ih =>
    intro k f hk h1 hM hF
    have m0 := hM 0 (by decide)
    have m1 := hM 1 (by decide)
    rw [Vb_1] at m1
    simp only [mce, Nat.add_zero] at m0 m1
    have nx := ih (k + 1) (va_up f (o + 1) (some (mce X o 1 (stF (k + 1))))) (by omega) (by omega) (by
      have e := hM.set (k := 1) (g := stF (k + 1)) rfl
      refine cast ?_ e
      congr 1
      funext q
      unfold Vb mset
      by_cases a : q = 1
      · rw [if_pos a, if_neg (by omega), if_neg (by omega), if_pos a]
      · rw [if_neg a]
        by_cases b : q = 4
        · rw [if_pos b, if_pos b]
        · rw [if_neg b, if_neg b]
          by_cases c : q = 2
          · rw [if_pos c, if_pos c]
          · rw [if_neg c, if_neg c, if_neg a, if_neg a]) (hF.up (by decide))
    have s1 := stF_s k h1
    have bd := stF_b k (by omega) ((k : Int) - 1)
    have td := td_bd (x := 800000) (y := k) (A := 800000) (by omega) (by omega) (by omega)
    refine sbX8_init_216 X 25 21408 _ _ _ _ _ _ _ ?_
    simp (disch := omega) only [bkX8_init_216, ax_ic, ax_lc, ax_nul, ax_il, ax_ll, ax_al, ax_is, ax_ls, ax_as, ax_inc, ax_iadd, ax_isub, ax_imul, ax_iand, ax_ior, ax_idiv, ax_irem, ax_ishl, ax_ishr, ax_ladd, ax_lsub, ax_lmul, ax_ldiv, ax_lrem, ax_ineg, ax_lneg, ax_i2l, ax_l2i, ax_lcmp, ax_dup, ax_pop1, ax_dupx1, ax_dup2, ax_ifeq, ax_ifne, ax_iflt, ax_ifge, ax_ifgt, ax_ifle, ax_iceq, ax_icne, ax_iclt, ax_icge, ax_icgt, ax_icle, ax_ifnull, ax_ifnn, ax_sw, ax_iret, ax_zret, ax_lret, ax_vret, ax_aret, ax_gf, ax_pfi, ax_pfz, ax_pfl, ax_pfr, ax_iald, ax_zald, ax_lald, ax_aald, ax_iast, ax_zast, ax_last, ax_aast, ax_alen, ax_ialdR, ax_alenR, ax_gst, ax_new, ax_nwi, ax_nwl, ax_nwq, ax_obj, ax_call, ax_calv, ax_nth, ax_p1, ax_p2, ax_k2, ax_nh, Value.category, lg_cmp_ge, lg_cmp_lt, lg_cmp_gt, lg_cmp_le, lg_cmp_eq, List.getElem?_cons_zero, List.getElem?_cons_succ, true_and, and_true, if_true, if_false, reduceIte, Nat.reduceEqDiff, Nat.add_eq_zero_iff, reduceCtorEq, Nat.reduceAdd, not_true_eq_false, not_false_eq_true, ax_pf, ax_popn, fv_in, fv_size, fv_drop, fv_within, fv_part, fv_cut, fv_sq, fv_absI, fv_absJ, fv_maxI, fv_minI, fv_maxJ, fv_minJ, List.map_cons, List.map_nil, List.sum_cons, List.sum_nil, Nat.reduceLeDiff, Nat.zero_le, Nat.le_refl, zb_0, zb_1, zb_em, true_or, or_true, Int32.toInt_toInt64, Nat.add_zero, fv_isGlass, fv_mayBe, fv_isReading8, fv_isHour8, fv_isPoint, fv_isReading7, fv_isRoom, fv_isWarmth, fv_isHour7, fv_isOnMap, fv_holds, fv_held, tm_eq, i3_add, i3_sub, i3_mul, i3_neg, i6_add, i6_sub, i6_mul, i6_neg, i6_I, i3_toInt, i6_toInt, i3_lt, i3_le, i3_eq, i6_lt, i6_le, i6_eq, i3_eq0, i3_eq1, i3_lt0, i3_le0, i3_gt0, i3_ge0, i6_eq0, i3_div, i6_div, i3_rem, i6_rem, i3_L, i3_nat, i3_inI, ax_up3, ax_up6, m0, m1]
    refine ⟨fun q => absurd q (by omega), fun _ => ?_⟩
    rw [s1]
    repeat' apply And.intro
    all_goals first
      | omega
      | exact nx
set_option maxRecDepth 20000 in
set_option maxHeartbeats 4000000 in
theorem m8_init (c0 : f o = some (.inr (7, [.null, .null, .null, .null, .null, .null, .null, .null, .int 0, .null, .null, .null, .null, .null, .int 0, .null, .null, .null, .null, .int 0, .null, .int 0, .null, .long 0, .null, .null, .null, .null, .int 0, .long 0, .long 0, .null, .null]))) : ax_M X mX8_init 25 21408 [.ref o] (o + 1) f (m0Post X o f) := by
  refine ax_met2 [some (.ref o), none] (by decide) (Nat.le_of_ble_eq_true rfl) rfl ?_
  refine sbX8_init_0 X 25 21408 _ _ _ _ _ _ _ ?_
  simp (disch := omega) only [bkX8_init_0, ax_ic, ax_lc, ax_nul, ax_il, ax_ll, ax_al, ax_is, ax_ls, ax_as, ax_inc, ax_iadd, ax_isub, ax_imul, ax_iand, ax_ior, ax_idiv, ax_irem, ax_ishl, ax_ishr, ax_ladd, ax_lsub, ax_lmul, ax_ldiv, ax_lrem, ax_ineg, ax_lneg, ax_i2l, ax_l2i, ax_lcmp, ax_dup, ax_pop1, ax_dupx1, ax_dup2, ax_ifeq, ax_ifne, ax_iflt, ax_ifge, ax_ifgt, ax_ifle, ax_iceq, ax_icne, ax_iclt, ax_icge, ax_icgt, ax_icle, ax_ifnull, ax_ifnn, ax_sw, ax_iret, ax_zret, ax_lret, ax_vret, ax_aret, ax_gf, ax_pfi, ax_pfz, ax_pfl, ax_pfr, ax_iald, ax_zald, ax_lald, ax_aald, ax_iast, ax_zast, ax_last, ax_aast, ax_alen, ax_ialdR, ax_alenR, ax_gst, ax_new, ax_nwi, ax_nwl, ax_nwq, ax_obj, ax_call, ax_calv, ax_nth, ax_p1, ax_p2, ax_k2, ax_nh, Value.category, lg_cmp_ge, lg_cmp_lt, lg_cmp_gt, lg_cmp_le, lg_cmp_eq, List.getElem?_cons_zero, List.getElem?_cons_succ, true_and, and_true, if_true, if_false, reduceIte, Nat.reduceEqDiff, Nat.add_eq_zero_iff, reduceCtorEq, Nat.reduceAdd, not_true_eq_false, not_false_eq_true, ax_pf, ax_popn, fv_in, fv_size, fv_drop, fv_within, fv_part, fv_cut, fv_sq, fv_absI, fv_absJ, fv_maxI, fv_minI, fv_maxJ, fv_minJ, List.map_cons, List.map_nil, List.sum_cons, List.sum_nil, Nat.reduceLeDiff, Nat.zero_le, Nat.le_refl, zb_0, zb_1, zb_em, true_or, or_true, Int32.toInt_toInt64, Nat.add_zero, fv_isGlass, fv_mayBe, fv_isReading8, fv_isHour8, fv_isPoint, fv_isReading7, fv_isRoom, fv_isWarmth, fv_isHour7, fv_isOnMap, fv_holds, fv_held, tm_eq, i3_add, i3_sub, i3_mul, i3_neg, i6_add, i6_sub, i6_mul, i6_neg, i6_I, i3_toInt, i6_toInt, i3_lt, i3_le, i3_eq, i6_lt, i6_le, i6_eq, i3_eq0, i3_eq1, i3_lt0, i3_le0, i3_gt0, i3_ge0, i6_eq0, i3_div, i6_div, i3_rem, i6_rem, i3_L, i3_nat, i3_inI, ax_up3, ax_up6, Int.reduceLE, Int.reduceLT, Int.reduceEq, Int.reduceNe, Int.reduceAdd, Int.reduceSub, Int.reduceMul, Int.reduceNeg, false_implies, true_implies, forall_const, List.set, List.length_cons, List.length_nil, Nat.reduceLT, Nat.add_assoc, Nat.zero_add, up_ne, up_0, up_0n, up_s, up_00, tn_3, tn_5, tn_6, tn_8, tn_12, tn_24, tn_25, tn_36, tn_48, tn_64, tn_128, tn_384, tn_20001, c0]
  refine m8_in_216 20000 1 _ rfl (Nat.le_refl _) (fun k hk => ?_) (fun q hq => ?_)
  · have e1 : stF 1 = fun _ => 0 := by
      funext j
      unfold stF
      by_cases h : j < ((1 : Nat) : Int)
      · rw [if_pos h, show j.toNat = 0 by omega]; rfl
      · rw [if_neg h]
    have e2 : nuF 0 = fun _ => 0 := by
      funext j
      unfold nuF
      rw [if_neg (by omega)]
    have e4 : loF 0 = fun _ => 0 := by
      funext j
      unfold loF
      rw [if_neg (by omega)]
    match k, hk with
    | 0, _ => simp (disch := omega) only [Nat.add_zero, up_0, up_s, up_00]; rfl
    | 1, _ => simp (disch := omega) only [up_ne, up_0n, up_s]; rw [Vb_1, e1]; rfl
    | 2, _ => simp (disch := omega) only [up_ne, up_0n, up_s]; rw [Vb_2, e2]; rfl
    | 3, _ => simp (disch := omega) only [up_ne, up_0n, up_s]; rfl
    | 4, _ => simp (disch := omega) only [up_ne, up_0n, up_s]; rw [Vb_4, e4]; rfl
    | 5, _ => simp (disch := omega) only [up_ne, up_0n, up_s]; rfl
    | 6, _ => simp (disch := omega) only [up_ne, up_0n, up_s]; rfl
    | 7, _ => simp (disch := omega) only [up_ne, up_0n, up_s]; rfl
    | 8, _ => simp (disch := omega) only [up_ne, up_0n, up_s]; rfl
    | 9, _ => simp (disch := omega) only [up_ne, up_0n, up_s]; rfl
    | 10, _ => simp (disch := omega) only [up_ne, up_0n, up_s]; rfl
    | 11, _ => simp (disch := omega) only [up_ne, up_0n, up_s]; rfl
    | 12, _ => simp (disch := omega) only [up_ne, up_0n, up_s]; rfl
    | 13, _ => simp (disch := omega) only [up_ne, up_0n, up_s]; rfl
    | 14, _ => simp (disch := omega) only [up_ne, up_0n, up_s]; rfl
    | 15, _ => simp (disch := omega) only [up_ne, up_0n, up_s]; rfl
    | 16, _ => simp (disch := omega) only [up_ne, up_0n, up_s]; rfl
    | 17, _ => simp (disch := omega) only [up_ne, up_0n, up_s]; rfl
    | 18, _ => simp (disch := omega) only [up_ne, up_0n, up_s]; rfl
    | 19, _ => simp (disch := omega) only [up_ne, up_0n, up_s]; rfl
    | 20, _ => simp (disch := omega) only [up_ne, up_0n, up_s]; rfl
    | 21, _ => simp (disch := omega) only [up_ne, up_0n, up_s]; rfl
    | 22, _ => simp (disch := omega) only [up_ne, up_0n, up_s]; rfl
    | 23, _ => simp (disch := omega) only [up_ne, up_0n, up_s]; rfl
    | 24, _ => simp (disch := omega) only [up_ne, up_0n, up_s]; rfl
    | 25, _ => simp (disch := omega) only [up_ne, up_0n, up_s]; rfl
    | k + 26, hk => exact absurd hk (by omega)
  · simp (disch := omega) only [up_q]
end MIA
