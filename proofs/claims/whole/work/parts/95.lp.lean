/-! the law's loop, and the law from its entry -/
abbrev lwQ : Option Value → Nat → ax_F → Prop := fun v _ _ => v = some (.int 1)
theorem i3_N (n : Nat) : Int32.ofNat n = i3 (n : Int) := by first | rfl | exact (Int32.ofInt_eq_ofNat).symm | simp [i3]
section LPA
variable {X : ax_X} {r b L : Nat} {g : Int → Int}
theorem lw_loop (hX : stOk X) (hb : X.2.2.2.2.1 b = some (L, fun j : Nat => i3 (g (j : Int)))) (hg : ∀ j : Int, -2147483648 ≤ g j ∧ g j < 2147483648) (hL : L ≤ 3072) :
    ∀ (m t c n z : Nat) (f : ax_F) (V : Nat → Int → Int), t + m = 513 → 6 * t ≤ L ∨ t = 0 → c ≤ 67 + 5 * t → n ≤ 22571 + 111 * t → Jv X r V z f → ax_G X mL_law 600000 7302250 lwQ 18 [some (.ref b), some (.ref r), some (.ref (r + 41)), some (.int (i3 (6 * (t : Int))))] [] c n z f := by
  have hN := i3_N L
  intro m
  induction m with
  | zero =>
    intro t c n z f V ht hl
    omega
  | succ m ih =>
    intro t c n z f V ht hl hc hn J
    refine sbL_law_18 X 600000 7302250 _ _ _ _ _ _ _ ?_
    simp (disch := omega) only [bkL_law_18, ax_ic, ax_lc, ax_nul, ax_il, ax_ll, ax_al, ax_is, ax_ls, ax_as, ax_inc, ax_iadd, ax_isub, ax_imul, ax_iand, ax_ior, ax_idiv, ax_irem, ax_ishl, ax_ishr, ax_ladd, ax_lsub, ax_lmul, ax_ldiv, ax_lrem, ax_ineg, ax_lneg, ax_i2l, ax_l2i, ax_lcmp, ax_dup, ax_pop1, ax_dupx1, ax_dup2, ax_ifeq, ax_ifne, ax_iflt, ax_ifge, ax_ifgt, ax_ifle, ax_iceq, ax_icne, ax_iclt, ax_icge, ax_icgt, ax_icle, ax_ifnull, ax_ifnn, ax_sw, ax_iret, ax_zret, ax_lret, ax_vret, ax_aret, ax_gf, ax_pfi, ax_pfz, ax_pfl, ax_pfr, ax_iald, ax_zald, ax_lald, ax_aald, ax_iast, ax_zast, ax_last, ax_aast, ax_alen, ax_ialdR, ax_alenR, ax_gst, ax_new, ax_nwi, ax_nwl, ax_nwq, ax_obj, ax_call, ax_calv, ax_nth, ax_p1, ax_p2, ax_k2, ax_nh, Value.category, lg_cmp_ge, lg_cmp_lt, lg_cmp_gt, lg_cmp_le, lg_cmp_eq, List.getElem?_cons_zero, List.getElem?_cons_succ, true_and, and_true, if_true, if_false, reduceIte, Nat.reduceEqDiff, Nat.add_eq_zero_iff, reduceCtorEq, Nat.reduceAdd, not_true_eq_false, not_false_eq_true, tm_eq, i3_add, i3_sub, i3_mul, i3_neg, i6_add, i6_sub, i6_mul, i6_neg, i6_I, i3_toInt, i6_toInt, i3_lt, i3_le, i3_eq, i6_lt, i6_le, i6_eq, i3_eq0, i3_eq1, i3_lt0, i3_le0, i3_gt0, i3_ge0, i6_eq0, i3_div, i6_div, i3_rem, i6_rem, i3_L, i3_nat, i3_inI, ax_up3, ax_up6, hb, hN]
    refine ⟨fun q => ?_, fun q => ⟨by omega, fun h => ?_, fun j h1 h2 => ?_⟩⟩
    · exact ⟨by decide, by omega, by omega, rfl⟩
    all_goals
      have nxt : lwN X r b c n (6 * (t : Int)) lwQ := fun c' n' z' f' V' h1 h2 h3 => by
        refine sbL_law_1151 X 600000 7302250 _ _ _ _ _ _ _ ?_
        simp (disch := omega) only [bkL_law_1151, ax_ic, ax_lc, ax_nul, ax_il, ax_ll, ax_al, ax_is, ax_ls, ax_as, ax_inc, ax_iadd, ax_isub, ax_imul, ax_iand, ax_ior, ax_idiv, ax_irem, ax_ishl, ax_ishr, ax_ladd, ax_lsub, ax_lmul, ax_ldiv, ax_lrem, ax_ineg, ax_lneg, ax_i2l, ax_l2i, ax_lcmp, ax_dup, ax_pop1, ax_dupx1, ax_dup2, ax_ifeq, ax_ifne, ax_iflt, ax_ifge, ax_ifgt, ax_ifle, ax_iceq, ax_icne, ax_iclt, ax_icge, ax_icgt, ax_icle, ax_ifnull, ax_ifnn, ax_sw, ax_iret, ax_zret, ax_lret, ax_vret, ax_aret, ax_gf, ax_pfi, ax_pfz, ax_pfl, ax_pfr, ax_iald, ax_zald, ax_lald, ax_aald, ax_iast, ax_zast, ax_last, ax_aast, ax_alen, ax_ialdR, ax_alenR, ax_gst, ax_new, ax_nwi, ax_nwl, ax_nwq, ax_obj, ax_call, ax_calv, ax_nth, ax_p1, ax_p2, ax_k2, ax_nh, Value.category, lg_cmp_ge, lg_cmp_lt, lg_cmp_gt, lg_cmp_le, lg_cmp_eq, List.getElem?_cons_zero, List.getElem?_cons_succ, true_and, and_true, if_true, if_false, reduceIte, Nat.reduceEqDiff, Nat.add_eq_zero_iff, reduceCtorEq, Nat.reduceAdd, not_true_eq_false, not_false_eq_true, tm_eq, i3_add, i3_sub, i3_mul, i3_neg, i6_add, i6_sub, i6_mul, i6_neg, i6_I, i3_toInt, i6_toInt, i3_lt, i3_le, i3_eq, i6_lt, i6_le, i6_eq, i3_eq0, i3_eq1, i3_lt0, i3_le0, i3_gt0, i3_ge0, i6_eq0, i3_div, i6_div, i3_rem, i6_rem, i3_L, i3_nat, i3_inI, ax_up3, ax_up6]
        have e := ih (t + 1) c' n' z' f' V' (by omega) (by omega) (by omega) (by omega) h3
        rw [show 6 * (((t + 1 : Nat)) : Int) = 6 * (t : Int) + 6 by omega] at e
        exact e
    · exact nxt _ _ _ _ V (by omega) (by omega) J
    · have hj : j < 26 := by omega
      have i0 : 0 ≤ 6 * (t : Int) := by omega
      have i6 : 6 * (t : Int) + 6 ≤ L := by omega
      have hc5 : c + 5 ≤ 600000 := by omega
      have hn5 : n + 111 ≤ 7302250 := by omega
      clear h1 h2 ih hl
      match j, hj with
      | 0, _ => exact arm_set hX hb hg i0 i6 hL hc5 hn5 J nxt
      | 1, _ => exact arm_glass hX hb hg i0 i6 hL hc5 hn5 J nxt
      | 2, _ => exact arm_seal hX hb hg i0 i6 hL hc5 hn5 J nxt
      | 3, _ => exact arm_air hX hb hg i0 i6 hL hc5 hn5 J nxt
      | 4, _ => exact arm_right hX hb hg i0 i6 hL hc5 hn5 J nxt
      | 5, _ => exact arm_station hX hb hg i0 i6 hL hc5 hn5 J nxt
      | 6, _ => exact arm_tell hX hb hg i0 i6 hL hc5 hn5 J nxt
      | 7, _ => exact arm_gap hX hb hg i0 i6 hL hc5 hn5 J nxt
      | 8, _ => exact arm_reading hX hb hg i0 i6 hL hc5 hn5 J nxt
      | 9, _ => exact arm_rise hX hb hg i0 i6 hL hc5 hn5 J nxt
      | 10, _ => exact arm_between hX hb hg i0 i6 hL hc5 hn5 J nxt
      | 11, _ => exact arm_benches hX hb hg i0 i6 hL hc5 hn5 J nxt
      | 12, _ => exact arm_difference hX hb hg i0 i6 hL hc5 hn5 J nxt
      | 13, _ => exact arm_drop hX hb hg i0 i6 hL hc5 hn5 J nxt
      | 14, _ => exact arm_height hX hb hg i0 i6 hL hc5 hn5 J nxt
      | 15, _ => exact arm_off hX hb hg i0 i6 hL hc5 hn5 J nxt
      | 16, _ => exact arm_worst hX hb hg i0 i6 hL hc5 hn5 J nxt
      | 17, _ => exact arm_closing hX hb hg i0 i6 hL hc5 hn5 J nxt
      | 18, _ => exact arm_field hX hb hg i0 i6 hL hc5 hn5 J nxt
      | 19, _ => exact arm_low hX hb hg i0 i6 hL hc5 hn5 J nxt
      | 20, _ => exact arm_follow hX hb hg i0 i6 hL hc5 hn5 J nxt
      | 21, _ => exact arm_lines hX hb hg i0 i6 hL hc5 hn5 J nxt
      | 22, _ => exact arm_line hX hb hg i0 i6 hL hc5 hn5 J nxt
      | 23, _ => exact arm_drift hX hb hg i0 i6 hL hc5 hn5 J nxt
      | 24, _ => exact arm_mend hX hb hg i0 i6 hL hc5 hn5 J nxt
      | 25, _ => exact arm_told hX hb hg i0 i6 hL hc5 hn5 J nxt
      | j + 26, hj => exact absurd hj (by omega)
theorem lw_G {f : ax_F} (hC : clOk X) (hX : stOk X) (hb : X.2.2.2.2.1 b = some (L, fun j : Nat => i3 (g (j : Int)))) (hg : ∀ j : Int, -2147483648 ≤ g j ∧ g j < 2147483648) (hL : L ≤ 3072) : ax_G X mL_law 600000 7302250 lwQ 0 [some (.ref b), none, none, none] [] 0 0 r f := by
  refine sbL_law_0 X 600000 7302250 _ _ _ _ _ _ _ ?_
  simp (disch := omega) only [bkL_law_0, ax_ic, ax_lc, ax_nul, ax_il, ax_ll, ax_al, ax_is, ax_ls, ax_as, ax_inc, ax_iadd, ax_isub, ax_imul, ax_iand, ax_ior, ax_idiv, ax_irem, ax_ishl, ax_ishr, ax_ladd, ax_lsub, ax_lmul, ax_ldiv, ax_lrem, ax_ineg, ax_lneg, ax_i2l, ax_l2i, ax_lcmp, ax_dup, ax_pop1, ax_dupx1, ax_dup2, ax_ifeq, ax_ifne, ax_iflt, ax_ifge, ax_ifgt, ax_ifle, ax_iceq, ax_icne, ax_iclt, ax_icge, ax_icgt, ax_icle, ax_ifnull, ax_ifnn, ax_sw, ax_iret, ax_zret, ax_lret, ax_vret, ax_aret, ax_gf, ax_pfi, ax_pfz, ax_pfl, ax_pfr, ax_iald, ax_zald, ax_lald, ax_aald, ax_iast, ax_zast, ax_last, ax_aast, ax_alen, ax_ialdR, ax_alenR, ax_gst, ax_new, ax_nwi, ax_nwl, ax_nwq, ax_obj, ax_call, ax_calv, ax_nth, ax_p1, ax_p2, ax_k2, ax_nh, Value.category, lg_cmp_ge, lg_cmp_lt, lg_cmp_gt, lg_cmp_le, lg_cmp_eq, List.getElem?_cons_zero, List.getElem?_cons_succ, true_and, and_true, if_true, if_false, reduceIte, Nat.reduceEqDiff, Nat.add_eq_zero_iff, reduceCtorEq, Nat.reduceAdd, not_true_eq_false, not_false_eq_true, ax_pf, ax_popn, fv_in, fv_size, fv_drop, fv_within, fv_part, fv_cut, fv_sq, fv_absI, fv_absJ, fv_maxI, fv_minI, fv_maxJ, fv_minJ, List.map_cons, List.map_nil, List.sum_cons, List.sum_nil, Nat.reduceLeDiff, Nat.zero_le, Nat.le_refl, zb_0, zb_1, zb_em, true_or, or_true, Int32.toInt_toInt64, Nat.add_zero, fv_isGlass, fv_mayBe, fv_isReading8, fv_isHour8, fv_isPoint, fv_isReading7, fv_isRoom, fv_isWarmth, fv_isHour7, fv_isOnMap, fv_holds, fv_held, tm_eq, i3_add, i3_sub, i3_mul, i3_neg, i6_add, i6_sub, i6_mul, i6_neg, i6_I, i3_toInt, i6_toInt, i3_lt, i3_le, i3_eq, i6_lt, i6_le, i6_eq, i3_eq0, i3_eq1, i3_lt0, i3_le0, i3_gt0, i3_ge0, i6_eq0, i3_div, i6_div, i3_rem, i6_rem, i3_L, i3_nat, i3_inI, ax_up3, ax_up6, Int.reduceLE, Int.reduceLT, Int.reduceEq, Int.reduceNe, Int.reduceAdd, Int.reduceSub, Int.reduceMul, Int.reduceNeg, false_implies, true_implies, forall_const, List.set, List.length_cons, List.length_nil, Nat.reduceLT, Nat.add_assoc, Nat.zero_add, up_ne, up_0, up_0n, up_s, up_00, tn_3, tn_5, tn_6, tn_8, tn_12, tn_24, tn_25, tn_36, tn_48, tn_64, tn_128, tn_384, tn_20001]
  refine ⟨⟨_, up_s⟩, Nat.le_of_ble_eq_true rfl, 40, 1125, _, m7_init hC up_s, Nat.le_of_ble_eq_true rfl, Nat.le_of_ble_eq_true rfl, fun v z' f1 hq => ?_⟩
  obtain ⟨rfl, rfl, hR1, k1⟩ := hq
  simp (disch := omega) only [ax_ic, ax_lc, ax_nul, ax_il, ax_ll, ax_al, ax_is, ax_ls, ax_as, ax_inc, ax_iadd, ax_isub, ax_imul, ax_iand, ax_ior, ax_idiv, ax_irem, ax_ishl, ax_ishr, ax_ladd, ax_lsub, ax_lmul, ax_ldiv, ax_lrem, ax_ineg, ax_lneg, ax_i2l, ax_l2i, ax_lcmp, ax_dup, ax_pop1, ax_dupx1, ax_dup2, ax_ifeq, ax_ifne, ax_iflt, ax_ifge, ax_ifgt, ax_ifle, ax_iceq, ax_icne, ax_iclt, ax_icge, ax_icgt, ax_icle, ax_ifnull, ax_ifnn, ax_sw, ax_iret, ax_zret, ax_lret, ax_vret, ax_aret, ax_gf, ax_pfi, ax_pfz, ax_pfl, ax_pfr, ax_iald, ax_zald, ax_lald, ax_aald, ax_iast, ax_zast, ax_last, ax_aast, ax_alen, ax_ialdR, ax_alenR, ax_gst, ax_new, ax_nwi, ax_nwl, ax_nwq, ax_obj, ax_call, ax_calv, ax_nth, ax_p1, ax_p2, ax_k2, ax_nh, Value.category, lg_cmp_ge, lg_cmp_lt, lg_cmp_gt, lg_cmp_le, lg_cmp_eq, List.getElem?_cons_zero, List.getElem?_cons_succ, true_and, and_true, if_true, if_false, reduceIte, Nat.reduceEqDiff, Nat.add_eq_zero_iff, reduceCtorEq, Nat.reduceAdd, not_true_eq_false, not_false_eq_true, ax_pf, ax_popn, fv_in, fv_size, fv_drop, fv_within, fv_part, fv_cut, fv_sq, fv_absI, fv_absJ, fv_maxI, fv_minI, fv_maxJ, fv_minJ, List.map_cons, List.map_nil, List.sum_cons, List.sum_nil, Nat.reduceLeDiff, Nat.zero_le, Nat.le_refl, zb_0, zb_1, zb_em, true_or, or_true, Int32.toInt_toInt64, Nat.add_zero, fv_isGlass, fv_mayBe, fv_isReading8, fv_isHour8, fv_isPoint, fv_isReading7, fv_isRoom, fv_isWarmth, fv_isHour7, fv_isOnMap, fv_holds, fv_held, tm_eq, i3_add, i3_sub, i3_mul, i3_neg, i6_add, i6_sub, i6_mul, i6_neg, i6_I, i3_toInt, i6_toInt, i3_lt, i3_le, i3_eq, i6_lt, i6_le, i6_eq, i3_eq0, i3_eq1, i3_lt0, i3_le0, i3_gt0, i3_ge0, i6_eq0, i3_div, i6_div, i3_rem, i6_rem, i3_L, i3_nat, i3_inI, ax_up3, ax_up6, Int.reduceLE, Int.reduceLT, Int.reduceEq, Int.reduceNe, Int.reduceAdd, Int.reduceSub, Int.reduceMul, Int.reduceNeg, false_implies, true_implies, forall_const, List.set, List.length_cons, List.length_nil, Nat.reduceLT, Nat.add_assoc, Nat.zero_add, up_ne, up_0, up_0n, up_s, up_00, tn_3, tn_5, tn_6, tn_8, tn_12, tn_24, tn_25, tn_36, tn_48, tn_64, tn_128, tn_384, tn_20001, Option.toList, List.nil_append]
  refine ⟨⟨_, up_s⟩, Nat.le_of_ble_eq_true rfl, 25, 21408, _, m8_init (o := r + 41) up_s, Nat.le_of_ble_eq_true rfl, Nat.le_of_ble_eq_true rfl, fun v z' f2 hq => ?_⟩
  obtain ⟨rfl, rfl, hM2, hF2⟩ := hq
  simp (disch := omega) only [ax_ic, ax_lc, ax_nul, ax_il, ax_ll, ax_al, ax_is, ax_ls, ax_as, ax_inc, ax_iadd, ax_isub, ax_imul, ax_iand, ax_ior, ax_idiv, ax_irem, ax_ishl, ax_ishr, ax_ladd, ax_lsub, ax_lmul, ax_ldiv, ax_lrem, ax_ineg, ax_lneg, ax_i2l, ax_l2i, ax_lcmp, ax_dup, ax_pop1, ax_dupx1, ax_dup2, ax_ifeq, ax_ifne, ax_iflt, ax_ifge, ax_ifgt, ax_ifle, ax_iceq, ax_icne, ax_iclt, ax_icge, ax_icgt, ax_icle, ax_ifnull, ax_ifnn, ax_sw, ax_iret, ax_zret, ax_lret, ax_vret, ax_aret, ax_gf, ax_pfi, ax_pfz, ax_pfl, ax_pfr, ax_iald, ax_zald, ax_lald, ax_aald, ax_iast, ax_zast, ax_last, ax_aast, ax_alen, ax_ialdR, ax_alenR, ax_gst, ax_new, ax_nwi, ax_nwl, ax_nwq, ax_obj, ax_call, ax_calv, ax_nth, ax_p1, ax_p2, ax_k2, ax_nh, Value.category, lg_cmp_ge, lg_cmp_lt, lg_cmp_gt, lg_cmp_le, lg_cmp_eq, List.getElem?_cons_zero, List.getElem?_cons_succ, true_and, and_true, if_true, if_false, reduceIte, Nat.reduceEqDiff, Nat.add_eq_zero_iff, reduceCtorEq, Nat.reduceAdd, not_true_eq_false, not_false_eq_true, ax_pf, ax_popn, fv_in, fv_size, fv_drop, fv_within, fv_part, fv_cut, fv_sq, fv_absI, fv_absJ, fv_maxI, fv_minI, fv_maxJ, fv_minJ, List.map_cons, List.map_nil, List.sum_cons, List.sum_nil, Nat.reduceLeDiff, Nat.zero_le, Nat.le_refl, zb_0, zb_1, zb_em, true_or, or_true, Int32.toInt_toInt64, Nat.add_zero, fv_isGlass, fv_mayBe, fv_isReading8, fv_isHour8, fv_isPoint, fv_isReading7, fv_isRoom, fv_isWarmth, fv_isHour7, fv_isOnMap, fv_holds, fv_held, tm_eq, i3_add, i3_sub, i3_mul, i3_neg, i6_add, i6_sub, i6_mul, i6_neg, i6_I, i3_toInt, i6_toInt, i3_lt, i3_le, i3_eq, i6_lt, i6_le, i6_eq, i3_eq0, i3_eq1, i3_lt0, i3_le0, i3_gt0, i3_ge0, i6_eq0, i3_div, i6_div, i3_rem, i6_rem, i3_L, i3_nat, i3_inI, ax_up3, ax_up6, Int.reduceLE, Int.reduceLT, Int.reduceEq, Int.reduceNe, Int.reduceAdd, Int.reduceSub, Int.reduceMul, Int.reduceNeg, false_implies, true_implies, forall_const, List.set, List.length_cons, List.length_nil, Nat.reduceLT, Nat.add_assoc, Nat.zero_add, up_ne, up_0, up_0n, up_s, up_00, tn_3, tn_5, tn_6, tn_8, tn_12, tn_24, tn_25, tn_36, tn_48, tn_64, tn_128, tn_384, tn_20001, Option.toList, List.nil_append]
  exact lw_loop hX hb hg hL 513 0 _ _ _ f2 V0 rfl (Or.inr rfl) (by omega) (by omega) ⟨inv0, zr0, ⟨T0, (hR1.mf (fun q hq => up_q (by omega))).mf hF2, sim0⟩, hM2, rfl⟩
end LPA
