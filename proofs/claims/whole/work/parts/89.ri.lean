/-! the room as it is made -/
def T0 : Nat → Int → Int := fun j k => if j = 14 then (if k = 0 then 3 else 0) else if j = 26 then (if k = 5 then 1 else 0) else if 29 ≤ j ∧ j < 41 then (if (j - 29) % 2 = 0 then (if k = 2 then 1 else 0) else firZ k) else 0
theorem T0_g {i : Nat} (hi : i < 6) (k : Int) : T0 (29 + 2 * i) k = if k = 2 then 1 else 0 := by
  unfold T0
  rw [if_neg (by omega), if_neg (by omega), if_pos (by omega), if_pos (by omega)]
theorem T0_n {i : Nat} (hi : i < 6) : T0 (30 + 2 * i) = firZ := by
  funext k
  unfold T0
  rw [if_neg (by omega), if_neg (by omega), if_pos (by omega), if_neg (by omega)]
def RI (X : ax_X) (r i : Nat) (f : ax_F) : Prop := ∀ j : Nat, j < 29 + 2 * i → f (r + j) = some (if j = 1 then cQ X 3 6 (fun q => if q < i then some (r + 29 + 2 * q) else none) else rce X r 0 j (T0 j))
abbrev riPost (X : ax_X) (r : Nat) (f : ax_F) : Option Value → Nat → ax_F → Prop := fun v z' f' => v = none ∧ z' = r + 41 ∧ RH X r T0 f' ∧ ∀ q : Nat, q < r ∨ r + 41 ≤ q → f' q = f q
section RIA
variable {X : ax_X} {r : Nat} {f f0 : ax_F}
theorem rce3 {g : Int → Int} : cQ X 4 8 (fun _ => none) = rce X r 0 3 g := by
  have e : (fun _ => none : Nat → Option Nat) = qSt r 0 := by
    funext i
    unfold qSt
    rw [if_neg (by omega)]
  rw [e]
  rfl
theorem rce19 {g : Int → Int} : cQ X 5 5 (mq_g (r + 14 + 5) 5) = rce X r 0 19 g := by
  have e : mq_g (r + 14 + 5) 5 = qRw r := by
    funext i
    unfold qRw
    by_cases h : i < 5
    · rw [mq_g5 _ _ h, if_pos h]
    · rw [if_neg h]
      simp only [mq_g, va_up]
      rw [if_neg (by omega), if_neg (by omega), if_neg (by omega), if_neg (by omega), if_neg (by omega)]
  rw [e]
  rfl
theorem RI_end (h : RI X r 6 f) : RH X r T0 f := by
  intro j hj
  have e : (T0 2 1).toNat = 0 := rfl
  rw [e] at hj ⊢
  have hj' : j < 41 := by omega
  rw [h j (by omega)]
  by_cases j1 : j = 1
  · subst j1
    rfl
  · rw [if_neg j1]
theorem m7_in_59 (hC : clOk X) : ∀ (n i c m z : Nat) (f : ax_F), i + n = 6 → c = 28 + 2 * i → m = 1071 + 9 * i → z = r + 29 + 2 * i → RI X r i f → (∀ q : Nat, q < r ∨ r + 41 ≤ q → f q = f0 q) → ax_G X mX7_init 40 1125 (riPost X r f0) 59 [some (.ref r), some (.int (i3 i))] [] c m z f := by
  intro n
  induction n with
  | zero =>
    intro i c m z f hi hc hm hz hI hF
    have i6 : i = 6 := by omega
    subst i6
    refine sbX7_init_59 X 40 1125 _ _ _ _ _ _ _ ?_
    simp (disch := omega) only [bkX7_init_59, ax_ic, ax_lc, ax_nul, ax_il, ax_ll, ax_al, ax_is, ax_ls, ax_as, ax_inc, ax_iadd, ax_isub, ax_imul, ax_iand, ax_ior, ax_idiv, ax_irem, ax_ishl, ax_ishr, ax_ladd, ax_lsub, ax_lmul, ax_ldiv, ax_lrem, ax_ineg, ax_lneg, ax_i2l, ax_l2i, ax_lcmp, ax_dup, ax_pop1, ax_dupx1, ax_dup2, ax_ifeq, ax_ifne, ax_iflt, ax_ifge, ax_ifgt, ax_ifle, ax_iceq, ax_icne, ax_iclt, ax_icge, ax_icgt, ax_icle, ax_ifnull, ax_ifnn, ax_sw, ax_iret, ax_zret, ax_lret, ax_vret, ax_aret, ax_gf, ax_pfi, ax_pfz, ax_pfl, ax_pfr, ax_iald, ax_zald, ax_lald, ax_aald, ax_iast, ax_zast, ax_last, ax_aast, ax_alen, ax_ialdR, ax_alenR, ax_gst, ax_new, ax_nwi, ax_nwl, ax_nwq, ax_obj, ax_call, ax_calv, ax_nth, ax_p1, ax_p2, ax_k2, ax_nh, Value.category, lg_cmp_ge, lg_cmp_lt, lg_cmp_gt, lg_cmp_le, lg_cmp_eq, List.getElem?_cons_zero, List.getElem?_cons_succ, true_and, and_true, if_true, if_false, reduceIte, Nat.reduceEqDiff, Nat.add_eq_zero_iff, reduceCtorEq, Nat.reduceAdd, not_true_eq_false, not_false_eq_true, ax_pf, ax_popn, fv_in, fv_size, fv_drop, fv_within, fv_part, fv_cut, fv_sq, fv_absI, fv_absJ, fv_maxI, fv_minI, fv_maxJ, fv_minJ, List.map_cons, List.map_nil, List.sum_cons, List.sum_nil, Nat.reduceLeDiff, Nat.zero_le, Nat.le_refl, zb_0, zb_1, zb_em, true_or, or_true, Int32.toInt_toInt64, Nat.add_zero, fv_isGlass, fv_mayBe, fv_isReading8, fv_isHour8, fv_isPoint, fv_isReading7, fv_isRoom, fv_isWarmth, fv_isHour7, fv_isOnMap, fv_holds, fv_held, tm_eq, i3_add, i3_sub, i3_mul, i3_neg, i6_add, i6_sub, i6_mul, i6_neg, i6_I, i3_toInt, i6_toInt, i3_lt, i3_le, i3_eq, i6_lt, i6_le, i6_eq, i3_eq0, i3_eq1, i3_lt0, i3_le0, i3_gt0, i3_ge0, i6_eq0, i3_div, i6_div, i3_rem, i6_rem, i3_L, i3_nat, i3_inI, ax_up3, ax_up6]
    exact ⟨fun _ => ⟨by omega, by omega, rfl, by omega, RI_end hI, hF⟩, fun q => absurd (by omega) q⟩
  | succ n ih =>
    intro i c m z f hi hc hm hz hI hF
    have c0 : f r = some (.inr (6, [.ref (r + 1), .ref (r + 2), .ref (r + 7), .ref (r + 14), .ref (r + 26)])) := hI 0 (by omega)
    have c1 : f (r + 1) = some (.inl (X.2.2.1 3, 6, .inr (.inr (.inr (.inr (fun q => if q < i then some (r + 29 + 2 * q) else none)))))) := hI 1 (by omega)
    refine sbX7_init_59 X 40 1125 _ _ _ _ _ _ _ ?_
    simp (disch := omega) only [bkX7_init_59, ax_ic, ax_lc, ax_nul, ax_il, ax_ll, ax_al, ax_is, ax_ls, ax_as, ax_inc, ax_iadd, ax_isub, ax_imul, ax_iand, ax_ior, ax_idiv, ax_irem, ax_ishl, ax_ishr, ax_ladd, ax_lsub, ax_lmul, ax_ldiv, ax_lrem, ax_ineg, ax_lneg, ax_i2l, ax_l2i, ax_lcmp, ax_dup, ax_pop1, ax_dupx1, ax_dup2, ax_ifeq, ax_ifne, ax_iflt, ax_ifge, ax_ifgt, ax_ifle, ax_iceq, ax_icne, ax_iclt, ax_icge, ax_icgt, ax_icle, ax_ifnull, ax_ifnn, ax_sw, ax_iret, ax_zret, ax_lret, ax_vret, ax_aret, ax_gf, ax_pfi, ax_pfz, ax_pfl, ax_pfr, ax_iald, ax_zald, ax_lald, ax_aald, ax_iast, ax_zast, ax_last, ax_aast, ax_alen, ax_ialdR, ax_alenR, ax_gst, ax_new, ax_nwi, ax_nwl, ax_nwq, ax_obj, ax_call, ax_calv, ax_nth, ax_p1, ax_p2, ax_k2, ax_nh, Value.category, lg_cmp_ge, lg_cmp_lt, lg_cmp_gt, lg_cmp_le, lg_cmp_eq, List.getElem?_cons_zero, List.getElem?_cons_succ, true_and, and_true, if_true, if_false, reduceIte, Nat.reduceEqDiff, Nat.add_eq_zero_iff, reduceCtorEq, Nat.reduceAdd, not_true_eq_false, not_false_eq_true, ax_pf, ax_popn, fv_in, fv_size, fv_drop, fv_within, fv_part, fv_cut, fv_sq, fv_absI, fv_absJ, fv_maxI, fv_minI, fv_maxJ, fv_minJ, List.map_cons, List.map_nil, List.sum_cons, List.sum_nil, Nat.reduceLeDiff, Nat.zero_le, Nat.le_refl, zb_0, zb_1, zb_em, true_or, or_true, Int32.toInt_toInt64, Nat.add_zero, fv_isGlass, fv_mayBe, fv_isReading8, fv_isHour8, fv_isPoint, fv_isReading7, fv_isRoom, fv_isWarmth, fv_isHour7, fv_isOnMap, fv_holds, fv_held, tm_eq, i3_add, i3_sub, i3_mul, i3_neg, i6_add, i6_sub, i6_mul, i6_neg, i6_I, i3_toInt, i6_toInt, i3_lt, i3_le, i3_eq, i6_lt, i6_le, i6_eq, i3_eq0, i3_eq1, i3_lt0, i3_le0, i3_gt0, i3_ge0, i6_eq0, i3_div, i6_div, i3_rem, i6_rem, i3_L, i3_nat, i3_inI, ax_up3, ax_up6, c0]
    refine ⟨fun q => absurd q (by omega), fun _ => ⟨by omega, by omega, ⟨_, up_s⟩, Nat.le_of_ble_eq_true rfl, 1, 6, _, m4_init (a := z) hC up_s, by omega, by omega, fun v z' f1 hq => ?_⟩⟩
    obtain ⟨rfl, rfl, g0, g1, gk⟩ := hq
    have d1 : f1 (r + 1) = some (.inl (X.2.2.1 3, 6, .inr (.inr (.inr (.inr (fun q => if q < i then some (r + 29 + 2 * q) else none)))))) := by
      rw [gk (r + 1) (by omega), up_q (by omega)]
      exact c1
    simp (disch := omega) only [ax_ic, ax_lc, ax_nul, ax_il, ax_ll, ax_al, ax_is, ax_ls, ax_as, ax_inc, ax_iadd, ax_isub, ax_imul, ax_iand, ax_ior, ax_idiv, ax_irem, ax_ishl, ax_ishr, ax_ladd, ax_lsub, ax_lmul, ax_ldiv, ax_lrem, ax_ineg, ax_lneg, ax_i2l, ax_l2i, ax_lcmp, ax_dup, ax_pop1, ax_dupx1, ax_dup2, ax_ifeq, ax_ifne, ax_iflt, ax_ifge, ax_ifgt, ax_ifle, ax_iceq, ax_icne, ax_iclt, ax_icge, ax_icgt, ax_icle, ax_ifnull, ax_ifnn, ax_sw, ax_iret, ax_zret, ax_lret, ax_vret, ax_aret, ax_gf, ax_pfi, ax_pfz, ax_pfl, ax_pfr, ax_iald, ax_zald, ax_lald, ax_aald, ax_iast, ax_zast, ax_last, ax_aast, ax_alen, ax_ialdR, ax_alenR, ax_gst, ax_new, ax_nwi, ax_nwl, ax_nwq, ax_obj, ax_call, ax_calv, ax_nth, ax_p1, ax_p2, ax_k2, ax_nh, Value.category, lg_cmp_ge, lg_cmp_lt, lg_cmp_gt, lg_cmp_le, lg_cmp_eq, List.getElem?_cons_zero, List.getElem?_cons_succ, true_and, and_true, if_true, if_false, reduceIte, Nat.reduceEqDiff, Nat.add_eq_zero_iff, reduceCtorEq, Nat.reduceAdd, not_true_eq_false, not_false_eq_true, ax_pf, ax_popn, fv_in, fv_size, fv_drop, fv_within, fv_part, fv_cut, fv_sq, fv_absI, fv_absJ, fv_maxI, fv_minI, fv_maxJ, fv_minJ, List.map_cons, List.map_nil, List.sum_cons, List.sum_nil, Nat.reduceLeDiff, Nat.zero_le, Nat.le_refl, zb_0, zb_1, zb_em, true_or, or_true, Int32.toInt_toInt64, Nat.add_zero, fv_isGlass, fv_mayBe, fv_isReading8, fv_isHour8, fv_isPoint, fv_isReading7, fv_isRoom, fv_isWarmth, fv_isHour7, fv_isOnMap, fv_holds, fv_held, tm_eq, i3_add, i3_sub, i3_mul, i3_neg, i6_add, i6_sub, i6_mul, i6_neg, i6_I, i3_toInt, i6_toInt, i3_lt, i3_le, i3_eq, i6_lt, i6_le, i6_eq, i3_eq0, i3_eq1, i3_lt0, i3_le0, i3_gt0, i3_ge0, i6_eq0, i3_div, i6_div, i3_rem, i6_rem, i3_L, i3_nat, i3_inI, ax_up3, ax_up6, Option.toList, List.nil_append, d1, g0]
    refine ⟨by omega, ?_⟩
    refine ih (i + 1) _ _ _ _ (by omega) (by omega) (by omega) (by omega) (fun j hj => ?_) (fun q hq => ?_)
    · by_cases j1 : j = 1
      · subst j1
        have qe : va_up (fun q : Nat => if q < i then some (r + 29 + 2 * q) else none) (i3 (i : Int)).toNatClampNeg (some z) = fun q : Nat => if q < i + 1 then some (r + 29 + 2 * q) else none := by
          funext q
          unfold va_up
          rw [i3_tn (by omega) (by omega)]
          by_cases e : q = i
          · rw [if_pos (by omega), if_pos (by omega), hz, e]
          · rw [if_neg (by omega)]
            show (if q < i then some (r + 29 + 2 * q) else none) = _
            by_cases l : q < i
            · rw [if_pos l, if_pos (by omega)]
            · rw [if_neg l, if_neg (by omega)]
        rw [up_s, qe, if_pos rfl]
        rfl
      · rw [if_neg j1, up_ne j1]
        by_cases jo : j < 29 + 2 * i
        · rw [gk (r + j) (by omega), up_q (by omega), hI j jo, if_neg j1]
        · rcases (show j = 29 + 2 * i ∨ j = 30 + 2 * i by omega) with rfl | rfl
          · rw [show r + (29 + 2 * i) = z by omega, g0]
            unfold rce
            rw [if_neg (by omega), if_pos (by omega), if_pos (by omega)]
            unfold cGl
            rw [T0_g (by omega), T0_g (by omega), show r + (29 + 2 * i) + 1 = z + 1 by omega]
            rfl
          · rw [show r + (30 + 2 * i) = z + 1 by omega, g1, T0_n (by omega)]
            unfold rce
            rw [if_neg (by omega), if_pos (by omega), if_neg (by omega)]
    · rw [up_q (by omega), gk q (by omega), up_q (by omega)]
      exact hF q hq
set_option maxRecDepth 10000 in
theorem m7_init (hC : clOk X) (c0 : f r = some (.inr (6, [.null, .null, .null, .null, .null]))) : ax_M X mX7_init 40 1125 [.ref r] (r + 1) f (riPost X r f) := by
  refine ax_met2 [some (.ref r), none] (by decide) (Nat.le_of_ble_eq_true rfl) rfl ?_
  refine sbX7_init_0 X 40 1125 _ _ _ _ _ _ _ ?_
  simp (disch := omega) only [bkX7_init_0, ax_ic, ax_lc, ax_nul, ax_il, ax_ll, ax_al, ax_is, ax_ls, ax_as, ax_inc, ax_iadd, ax_isub, ax_imul, ax_iand, ax_ior, ax_idiv, ax_irem, ax_ishl, ax_ishr, ax_ladd, ax_lsub, ax_lmul, ax_ldiv, ax_lrem, ax_ineg, ax_lneg, ax_i2l, ax_l2i, ax_lcmp, ax_dup, ax_pop1, ax_dupx1, ax_dup2, ax_ifeq, ax_ifne, ax_iflt, ax_ifge, ax_ifgt, ax_ifle, ax_iceq, ax_icne, ax_iclt, ax_icge, ax_icgt, ax_icle, ax_ifnull, ax_ifnn, ax_sw, ax_iret, ax_zret, ax_lret, ax_vret, ax_aret, ax_gf, ax_pfi, ax_pfz, ax_pfl, ax_pfr, ax_iald, ax_zald, ax_lald, ax_aald, ax_iast, ax_zast, ax_last, ax_aast, ax_alen, ax_ialdR, ax_alenR, ax_gst, ax_new, ax_nwi, ax_nwl, ax_nwq, ax_obj, ax_call, ax_calv, ax_nth, ax_p1, ax_p2, ax_k2, ax_nh, Value.category, lg_cmp_ge, lg_cmp_lt, lg_cmp_gt, lg_cmp_le, lg_cmp_eq, List.getElem?_cons_zero, List.getElem?_cons_succ, true_and, and_true, if_true, if_false, reduceIte, Nat.reduceEqDiff, Nat.add_eq_zero_iff, reduceCtorEq, Nat.reduceAdd, not_true_eq_false, not_false_eq_true, ax_pf, ax_popn, fv_in, fv_size, fv_drop, fv_within, fv_part, fv_cut, fv_sq, fv_absI, fv_absJ, fv_maxI, fv_minI, fv_maxJ, fv_minJ, List.map_cons, List.map_nil, List.sum_cons, List.sum_nil, Nat.reduceLeDiff, Nat.zero_le, Nat.le_refl, zb_0, zb_1, zb_em, true_or, or_true, Int32.toInt_toInt64, Nat.add_zero, fv_isGlass, fv_mayBe, fv_isReading8, fv_isHour8, fv_isPoint, fv_isReading7, fv_isRoom, fv_isWarmth, fv_isHour7, fv_isOnMap, fv_holds, fv_held, tm_eq, i3_add, i3_sub, i3_mul, i3_neg, i6_add, i6_sub, i6_mul, i6_neg, i6_I, i3_toInt, i6_toInt, i3_lt, i3_le, i3_eq, i6_lt, i6_le, i6_eq, i3_eq0, i3_eq1, i3_lt0, i3_le0, i3_gt0, i3_ge0, i6_eq0, i3_div, i6_div, i3_rem, i6_rem, i3_L, i3_nat, i3_inI, ax_up3, ax_up6, Int.reduceLE, Int.reduceLT, Int.reduceEq, Int.reduceNe, Int.reduceAdd, Int.reduceSub, Int.reduceMul, Int.reduceNeg, false_implies, true_implies, forall_const, List.set, List.length_cons, List.length_nil, Nat.reduceLT, Nat.add_assoc, Nat.zero_add, up_ne, up_0, up_0n, up_s, up_00, tn_3, tn_5, tn_6, tn_8, tn_12, tn_24, tn_25, tn_36, tn_48, tn_64, tn_128, tn_384, tn_20001, c0]
  refine ⟨⟨_, up_s⟩, Nat.le_of_ble_eq_true rfl, 4, 144, _, m0_init (a := r + 2) up_s, Nat.le_of_ble_eq_true rfl, Nat.le_of_ble_eq_true rfl, fun v z' f1 hq => ?_⟩
  obtain ⟨rfl, rfl, a0, a1, a2, a3, a4, ak⟩ := hq
  have d0 : f1 r = some (.inr (6, [.ref (r + 1), .null, .null, .null, .null])) := by
    rw [ak r (by omega)]
    simp (disch := omega) only [up_0, up_s, up_00]
  have q1 : f1 (r + 1) = some (cQ X 3 6 (fun _ => none)) := by
    rw [ak (r + 1) (by omega)]
    simp (disch := omega) only [up_ne, up_0n, up_s]
    rfl
  have o0 : ∀ q : Nat, q < r ∨ r + 41 ≤ q → f1 q = f q := fun q h => by
    rw [ak q (by omega)]
    simp (disch := omega) only [up_q]
  simp (disch := omega) only [ax_ic, ax_lc, ax_nul, ax_il, ax_ll, ax_al, ax_is, ax_ls, ax_as, ax_inc, ax_iadd, ax_isub, ax_imul, ax_iand, ax_ior, ax_idiv, ax_irem, ax_ishl, ax_ishr, ax_ladd, ax_lsub, ax_lmul, ax_ldiv, ax_lrem, ax_ineg, ax_lneg, ax_i2l, ax_l2i, ax_lcmp, ax_dup, ax_pop1, ax_dupx1, ax_dup2, ax_ifeq, ax_ifne, ax_iflt, ax_ifge, ax_ifgt, ax_ifle, ax_iceq, ax_icne, ax_iclt, ax_icge, ax_icgt, ax_icle, ax_ifnull, ax_ifnn, ax_sw, ax_iret, ax_zret, ax_lret, ax_vret, ax_aret, ax_gf, ax_pfi, ax_pfz, ax_pfl, ax_pfr, ax_iald, ax_zald, ax_lald, ax_aald, ax_iast, ax_zast, ax_last, ax_aast, ax_alen, ax_ialdR, ax_alenR, ax_gst, ax_new, ax_nwi, ax_nwl, ax_nwq, ax_obj, ax_call, ax_calv, ax_nth, ax_p1, ax_p2, ax_k2, ax_nh, Value.category, lg_cmp_ge, lg_cmp_lt, lg_cmp_gt, lg_cmp_le, lg_cmp_eq, List.getElem?_cons_zero, List.getElem?_cons_succ, true_and, and_true, if_true, if_false, reduceIte, Nat.reduceEqDiff, Nat.add_eq_zero_iff, reduceCtorEq, Nat.reduceAdd, not_true_eq_false, not_false_eq_true, ax_pf, ax_popn, fv_in, fv_size, fv_drop, fv_within, fv_part, fv_cut, fv_sq, fv_absI, fv_absJ, fv_maxI, fv_minI, fv_maxJ, fv_minJ, List.map_cons, List.map_nil, List.sum_cons, List.sum_nil, Nat.reduceLeDiff, Nat.zero_le, Nat.le_refl, zb_0, zb_1, zb_em, true_or, or_true, Int32.toInt_toInt64, Nat.add_zero, fv_isGlass, fv_mayBe, fv_isReading8, fv_isHour8, fv_isPoint, fv_isReading7, fv_isRoom, fv_isWarmth, fv_isHour7, fv_isOnMap, fv_holds, fv_held, tm_eq, i3_add, i3_sub, i3_mul, i3_neg, i6_add, i6_sub, i6_mul, i6_neg, i6_I, i3_toInt, i6_toInt, i3_lt, i3_le, i3_eq, i6_lt, i6_le, i6_eq, i3_eq0, i3_eq1, i3_lt0, i3_le0, i3_gt0, i3_ge0, i6_eq0, i3_div, i6_div, i3_rem, i6_rem, i3_L, i3_nat, i3_inI, ax_up3, ax_up6, Int.reduceLE, Int.reduceLT, Int.reduceEq, Int.reduceNe, Int.reduceAdd, Int.reduceSub, Int.reduceMul, Int.reduceNeg, false_implies, true_implies, forall_const, List.set, List.length_cons, List.length_nil, Nat.reduceLT, Nat.add_assoc, Nat.zero_add, up_ne, up_0, up_0n, up_s, up_00, tn_3, tn_5, tn_6, tn_8, tn_12, tn_24, tn_25, tn_36, tn_48, tn_64, tn_128, tn_384, tn_20001, Option.toList, List.nil_append, d0]
  refine ⟨⟨_, up_s⟩, Nat.le_of_ble_eq_true rfl, 6, 704, _, m2_init (a := r + 7) up_s, Nat.le_of_ble_eq_true rfl, Nat.le_of_ble_eq_true rfl, fun v z' f2 hq => ?_⟩
  obtain ⟨rfl, rfl, b0, b1, b2, b3, b4, b5, b6, bk⟩ := hq
  have d1 : f2 r = some (.inr (6, [.ref (r + 1), .ref (r + 2), .null, .null, .null])) := by
    rw [bk r (by omega)]
    simp (disch := omega) only [up_0, up_s, up_00]
  have k1 : ∀ j : Nat, 1 ≤ j → j < 7 → f2 (r + j) = f1 (r + j) := fun j h1 h2 => by
    rw [bk (r + j) (by omega)]
    simp (disch := omega) only [up_ne, up_0n]
  have o1 : ∀ q : Nat, q < r ∨ r + 41 ≤ q → f2 q = f1 q := fun q h => by
    rw [bk q (by omega)]
    simp (disch := omega) only [up_q]
  simp (disch := omega) only [ax_ic, ax_lc, ax_nul, ax_il, ax_ll, ax_al, ax_is, ax_ls, ax_as, ax_inc, ax_iadd, ax_isub, ax_imul, ax_iand, ax_ior, ax_idiv, ax_irem, ax_ishl, ax_ishr, ax_ladd, ax_lsub, ax_lmul, ax_ldiv, ax_lrem, ax_ineg, ax_lneg, ax_i2l, ax_l2i, ax_lcmp, ax_dup, ax_pop1, ax_dupx1, ax_dup2, ax_ifeq, ax_ifne, ax_iflt, ax_ifge, ax_ifgt, ax_ifle, ax_iceq, ax_icne, ax_iclt, ax_icge, ax_icgt, ax_icle, ax_ifnull, ax_ifnn, ax_sw, ax_iret, ax_zret, ax_lret, ax_vret, ax_aret, ax_gf, ax_pfi, ax_pfz, ax_pfl, ax_pfr, ax_iald, ax_zald, ax_lald, ax_aald, ax_iast, ax_zast, ax_last, ax_aast, ax_alen, ax_ialdR, ax_alenR, ax_gst, ax_new, ax_nwi, ax_nwl, ax_nwq, ax_obj, ax_call, ax_calv, ax_nth, ax_p1, ax_p2, ax_k2, ax_nh, Value.category, lg_cmp_ge, lg_cmp_lt, lg_cmp_gt, lg_cmp_le, lg_cmp_eq, List.getElem?_cons_zero, List.getElem?_cons_succ, true_and, and_true, if_true, if_false, reduceIte, Nat.reduceEqDiff, Nat.add_eq_zero_iff, reduceCtorEq, Nat.reduceAdd, not_true_eq_false, not_false_eq_true, ax_pf, ax_popn, fv_in, fv_size, fv_drop, fv_within, fv_part, fv_cut, fv_sq, fv_absI, fv_absJ, fv_maxI, fv_minI, fv_maxJ, fv_minJ, List.map_cons, List.map_nil, List.sum_cons, List.sum_nil, Nat.reduceLeDiff, Nat.zero_le, Nat.le_refl, zb_0, zb_1, zb_em, true_or, or_true, Int32.toInt_toInt64, Nat.add_zero, fv_isGlass, fv_mayBe, fv_isReading8, fv_isHour8, fv_isPoint, fv_isReading7, fv_isRoom, fv_isWarmth, fv_isHour7, fv_isOnMap, fv_holds, fv_held, tm_eq, i3_add, i3_sub, i3_mul, i3_neg, i6_add, i6_sub, i6_mul, i6_neg, i6_I, i3_toInt, i6_toInt, i3_lt, i3_le, i3_eq, i6_lt, i6_le, i6_eq, i3_eq0, i3_eq1, i3_lt0, i3_le0, i3_gt0, i3_ge0, i6_eq0, i3_div, i6_div, i3_rem, i6_rem, i3_L, i3_nat, i3_inI, ax_up3, ax_up6, Int.reduceLE, Int.reduceLT, Int.reduceEq, Int.reduceNe, Int.reduceAdd, Int.reduceSub, Int.reduceMul, Int.reduceNeg, false_implies, true_implies, forall_const, List.set, List.length_cons, List.length_nil, Nat.reduceLT, Nat.add_assoc, Nat.zero_add, up_ne, up_0, up_0n, up_s, up_00, tn_3, tn_5, tn_6, tn_8, tn_12, tn_24, tn_25, tn_36, tn_48, tn_64, tn_128, tn_384, tn_20001, Option.toList, List.nil_append, d1]
  refine ⟨⟨_, up_s⟩, Nat.le_of_ble_eq_true rfl, 11, 89, _, m6_init (a := r + 14) up_s, Nat.le_of_ble_eq_true rfl, Nat.le_of_ble_eq_true rfl, fun v z' f3 hq => ?_⟩
  obtain ⟨rfl, rfl, s0, s1, s2, s3, s4, s5, s6, s7, s8, s9, s10, s11, sk⟩ := hq
  have d2 : f3 r = some (.inr (6, [.ref (r + 1), .ref (r + 2), .ref (r + 7), .null, .null])) := by
    rw [sk r (by omega)]
    simp (disch := omega) only [up_0, up_s, up_00]
  have k2 : ∀ j : Nat, 1 ≤ j → j < 14 → f3 (r + j) = f2 (r + j) := fun j h1 h2 => by
    rw [sk (r + j) (by omega)]
    simp (disch := omega) only [up_ne, up_0n]
  have o2 : ∀ q : Nat, q < r ∨ r + 41 ≤ q → f3 q = f2 q := fun q h => by
    rw [sk q (by omega)]
    simp (disch := omega) only [up_q]
  simp (disch := omega) only [ax_ic, ax_lc, ax_nul, ax_il, ax_ll, ax_al, ax_is, ax_ls, ax_as, ax_inc, ax_iadd, ax_isub, ax_imul, ax_iand, ax_ior, ax_idiv, ax_irem, ax_ishl, ax_ishr, ax_ladd, ax_lsub, ax_lmul, ax_ldiv, ax_lrem, ax_ineg, ax_lneg, ax_i2l, ax_l2i, ax_lcmp, ax_dup, ax_pop1, ax_dupx1, ax_dup2, ax_ifeq, ax_ifne, ax_iflt, ax_ifge, ax_ifgt, ax_ifle, ax_iceq, ax_icne, ax_iclt, ax_icge, ax_icgt, ax_icle, ax_ifnull, ax_ifnn, ax_sw, ax_iret, ax_zret, ax_lret, ax_vret, ax_aret, ax_gf, ax_pfi, ax_pfz, ax_pfl, ax_pfr, ax_iald, ax_zald, ax_lald, ax_aald, ax_iast, ax_zast, ax_last, ax_aast, ax_alen, ax_ialdR, ax_alenR, ax_gst, ax_new, ax_nwi, ax_nwl, ax_nwq, ax_obj, ax_call, ax_calv, ax_nth, ax_p1, ax_p2, ax_k2, ax_nh, Value.category, lg_cmp_ge, lg_cmp_lt, lg_cmp_gt, lg_cmp_le, lg_cmp_eq, List.getElem?_cons_zero, List.getElem?_cons_succ, true_and, and_true, if_true, if_false, reduceIte, Nat.reduceEqDiff, Nat.add_eq_zero_iff, reduceCtorEq, Nat.reduceAdd, not_true_eq_false, not_false_eq_true, ax_pf, ax_popn, fv_in, fv_size, fv_drop, fv_within, fv_part, fv_cut, fv_sq, fv_absI, fv_absJ, fv_maxI, fv_minI, fv_maxJ, fv_minJ, List.map_cons, List.map_nil, List.sum_cons, List.sum_nil, Nat.reduceLeDiff, Nat.zero_le, Nat.le_refl, zb_0, zb_1, zb_em, true_or, or_true, Int32.toInt_toInt64, Nat.add_zero, fv_isGlass, fv_mayBe, fv_isReading8, fv_isHour8, fv_isPoint, fv_isReading7, fv_isRoom, fv_isWarmth, fv_isHour7, fv_isOnMap, fv_holds, fv_held, tm_eq, i3_add, i3_sub, i3_mul, i3_neg, i6_add, i6_sub, i6_mul, i6_neg, i6_I, i3_toInt, i6_toInt, i3_lt, i3_le, i3_eq, i6_lt, i6_le, i6_eq, i3_eq0, i3_eq1, i3_lt0, i3_le0, i3_gt0, i3_ge0, i6_eq0, i3_div, i6_div, i3_rem, i6_rem, i3_L, i3_nat, i3_inI, ax_up3, ax_up6, Int.reduceLE, Int.reduceLT, Int.reduceEq, Int.reduceNe, Int.reduceAdd, Int.reduceSub, Int.reduceMul, Int.reduceNeg, false_implies, true_implies, forall_const, List.set, List.length_cons, List.length_nil, Nat.reduceLT, Nat.add_assoc, Nat.zero_add, up_ne, up_0, up_0n, up_s, up_00, tn_3, tn_5, tn_6, tn_8, tn_12, tn_24, tn_25, tn_36, tn_48, tn_64, tn_128, tn_384, tn_20001, Option.toList, List.nil_append, d2]
  refine ⟨⟨_, up_s⟩, Nat.le_of_ble_eq_true rfl, 2, 96, _, m3_init (a := r + 26) up_s, Nat.le_of_ble_eq_true rfl, Nat.le_of_ble_eq_true rfl, fun v z' f4 hq => ?_⟩
  obtain ⟨rfl, rfl, e0, e1, e2, ek⟩ := hq
  have d3 : f4 r = some (.inr (6, [.ref (r + 1), .ref (r + 2), .ref (r + 7), .ref (r + 14), .null])) := by
    rw [ek r (by omega)]
    simp (disch := omega) only [up_0, up_s, up_00]
  have k3 : ∀ j : Nat, 1 ≤ j → j < 26 → f4 (r + j) = f3 (r + j) := fun j h1 h2 => by
    rw [ek (r + j) (by omega)]
    simp (disch := omega) only [up_ne, up_0n]
  have o3 : ∀ q : Nat, q < r ∨ r + 41 ≤ q → f4 q = f3 q := fun q h => by
    rw [ek q (by omega)]
    simp (disch := omega) only [up_q]
  simp (disch := omega) only [ax_ic, ax_lc, ax_nul, ax_il, ax_ll, ax_al, ax_is, ax_ls, ax_as, ax_inc, ax_iadd, ax_isub, ax_imul, ax_iand, ax_ior, ax_idiv, ax_irem, ax_ishl, ax_ishr, ax_ladd, ax_lsub, ax_lmul, ax_ldiv, ax_lrem, ax_ineg, ax_lneg, ax_i2l, ax_l2i, ax_lcmp, ax_dup, ax_pop1, ax_dupx1, ax_dup2, ax_ifeq, ax_ifne, ax_iflt, ax_ifge, ax_ifgt, ax_ifle, ax_iceq, ax_icne, ax_iclt, ax_icge, ax_icgt, ax_icle, ax_ifnull, ax_ifnn, ax_sw, ax_iret, ax_zret, ax_lret, ax_vret, ax_aret, ax_gf, ax_pfi, ax_pfz, ax_pfl, ax_pfr, ax_iald, ax_zald, ax_lald, ax_aald, ax_iast, ax_zast, ax_last, ax_aast, ax_alen, ax_ialdR, ax_alenR, ax_gst, ax_new, ax_nwi, ax_nwl, ax_nwq, ax_obj, ax_call, ax_calv, ax_nth, ax_p1, ax_p2, ax_k2, ax_nh, Value.category, lg_cmp_ge, lg_cmp_lt, lg_cmp_gt, lg_cmp_le, lg_cmp_eq, List.getElem?_cons_zero, List.getElem?_cons_succ, true_and, and_true, if_true, if_false, reduceIte, Nat.reduceEqDiff, Nat.add_eq_zero_iff, reduceCtorEq, Nat.reduceAdd, not_true_eq_false, not_false_eq_true, ax_pf, ax_popn, fv_in, fv_size, fv_drop, fv_within, fv_part, fv_cut, fv_sq, fv_absI, fv_absJ, fv_maxI, fv_minI, fv_maxJ, fv_minJ, List.map_cons, List.map_nil, List.sum_cons, List.sum_nil, Nat.reduceLeDiff, Nat.zero_le, Nat.le_refl, zb_0, zb_1, zb_em, true_or, or_true, Int32.toInt_toInt64, Nat.add_zero, fv_isGlass, fv_mayBe, fv_isReading8, fv_isHour8, fv_isPoint, fv_isReading7, fv_isRoom, fv_isWarmth, fv_isHour7, fv_isOnMap, fv_holds, fv_held, tm_eq, i3_add, i3_sub, i3_mul, i3_neg, i6_add, i6_sub, i6_mul, i6_neg, i6_I, i3_toInt, i6_toInt, i3_lt, i3_le, i3_eq, i6_lt, i6_le, i6_eq, i3_eq0, i3_eq1, i3_lt0, i3_le0, i3_gt0, i3_ge0, i6_eq0, i3_div, i6_div, i3_rem, i6_rem, i3_L, i3_nat, i3_inI, ax_up3, ax_up6, Int.reduceLE, Int.reduceLT, Int.reduceEq, Int.reduceNe, Int.reduceAdd, Int.reduceSub, Int.reduceMul, Int.reduceNeg, false_implies, true_implies, forall_const, List.set, List.length_cons, List.length_nil, Nat.reduceLT, Nat.add_assoc, Nat.zero_add, up_ne, up_0, up_0n, up_s, up_00, tn_3, tn_5, tn_6, tn_8, tn_12, tn_24, tn_25, tn_36, tn_48, tn_64, tn_128, tn_384, tn_20001, Option.toList, List.nil_append, d3]
  refine m7_in_59 hC 6 0 _ _ _ _ rfl rfl rfl rfl (fun j hj => ?_) (fun q hq => ?_)
  · have hj' : j < 29 := by omega
    clear hj
    have sh : 1 ≤ j → va_up f4 r (some (.inr (6, [.ref (r + 1), .ref (r + 2), .ref (r + 7), .ref (r + 14), .ref (r + 26)]))) (r + j) = f4 (r + j) := fun h => up_0n (by omega)
    match j, hj', sh with
    | 0, _, _ => exact up_s
    | 1, _, sh => rw [sh (by omega), k3 1 (by omega) (by omega), k2 1 (by omega) (by omega), k1 1 (by omega) (by omega)]; exact q1.trans rfl
    | 2, _, sh => rw [sh (by omega), k3 2 (by omega) (by omega), k2 2 (by omega) (by omega), k1 2 (by omega) (by omega)]; exact a0.trans rfl
    | 3, _, sh => rw [sh (by omega), k3 3 (by omega) (by omega), k2 3 (by omega) (by omega), k1 3 (by omega) (by omega)]; exact a1.trans (congrArg some (rce3 (g := T0 3)))
    | 4, _, sh => rw [sh (by omega), k3 4 (by omega) (by omega), k2 4 (by omega) (by omega), k1 4 (by omega) (by omega)]; exact a2.trans rfl
    | 5, _, sh => rw [sh (by omega), k3 5 (by omega) (by omega), k2 5 (by omega) (by omega), k1 5 (by omega) (by omega)]; exact a3.trans rfl
    | 6, _, sh => rw [sh (by omega), k3 6 (by omega) (by omega), k2 6 (by omega) (by omega), k1 6 (by omega) (by omega)]; exact a4.trans rfl
    | 7, _, sh => rw [sh (by omega), k3 7 (by omega) (by omega), k2 7 (by omega) (by omega)]; exact b0.trans rfl
    | 8, _, sh => rw [sh (by omega), k3 8 (by omega) (by omega), k2 8 (by omega) (by omega)]; exact b1.trans rfl
    | 9, _, sh => rw [sh (by omega), k3 9 (by omega) (by omega), k2 9 (by omega) (by omega)]; exact b2.trans rfl
    | 10, _, sh => rw [sh (by omega), k3 10 (by omega) (by omega), k2 10 (by omega) (by omega)]; exact b3.trans rfl
    | 11, _, sh => rw [sh (by omega), k3 11 (by omega) (by omega), k2 11 (by omega) (by omega)]; exact b4.trans rfl
    | 12, _, sh => rw [sh (by omega), k3 12 (by omega) (by omega), k2 12 (by omega) (by omega)]; exact b5.trans rfl
    | 13, _, sh => rw [sh (by omega), k3 13 (by omega) (by omega), k2 13 (by omega) (by omega)]; exact b6.trans rfl
    | 14, _, sh => rw [sh (by omega), k3 14 (by omega) (by omega)]; exact s0.trans rfl
    | 15, _, sh => rw [sh (by omega), k3 15 (by omega) (by omega)]; exact s1.trans rfl
    | 16, _, sh => rw [sh (by omega), k3 16 (by omega) (by omega)]; exact s2.trans rfl
    | 17, _, sh => rw [sh (by omega), k3 17 (by omega) (by omega)]; exact s3.trans rfl
    | 18, _, sh => rw [sh (by omega), k3 18 (by omega) (by omega)]; exact s4.trans rfl
    | 19, _, sh => rw [sh (by omega), k3 19 (by omega) (by omega)]; exact s5.trans (congrArg some (rce19 (g := T0 19)))
    | 20, _, sh => rw [sh (by omega), k3 20 (by omega) (by omega)]; exact s6.trans rfl
    | 21, _, sh => rw [sh (by omega), k3 21 (by omega) (by omega)]; exact s7.trans rfl
    | 22, _, sh => rw [sh (by omega), k3 22 (by omega) (by omega)]; exact s8.trans rfl
    | 23, _, sh => rw [sh (by omega), k3 23 (by omega) (by omega)]; exact s9.trans rfl
    | 24, _, sh => rw [sh (by omega), k3 24 (by omega) (by omega)]; exact s10.trans rfl
    | 25, _, sh => rw [sh (by omega), k3 25 (by omega) (by omega)]; exact s11.trans rfl
    | 26, _, sh => rw [sh (by omega)]; exact e0.trans rfl
    | 27, _, sh => rw [sh (by omega)]; exact e1.trans rfl
    | 28, _, sh => rw [sh (by omega)]; exact e2.trans rfl
    | j + 29, hj', _ => exact absurd hj' (by omega)
  · rw [up_q (by omega), o3 q hq, o2 q hq, o1 q hq, o0 q hq]
end RIA
