def mx0 (a : Int) : Int := if 0 < a then a else 0
def mn7 (a : Int) : Int := if a < 7 then a else 7
section LOW
variable {X : ax_X} {r z : Nat} {V T : Nat → Int → Int} {f f0 : ax_F} {h p : Int} {S : Int → Int}
abbrev dnC (S : Int → Int) (p y2 x2 : Int) : Prop := ∀ y x : Int, 0 ≤ y → y ≤ 7 → 0 ≤ x → x ≤ 7 → p / 8 - 1 ≤ y → y ≤ p / 8 + 1 → p % 8 - 1 ≤ x → x ≤ p % 8 + 1 → (y < y2 ∨ (y = y2 ∧ x < x2)) → ¬ bdC S p y x
theorem m0_il_41 (hR : RH X r T f) (h0 : 0 ≤ p) (h1 : p < 64) (hS : ∀ q : Int, 0 ≤ q → q < 64 → T 5 q = S q) (hb : ∀ q : Int, 0 ≤ q → q < 64 → 0 ≤ S q ∧ S q ≤ 20000) {y2 : Int} (hy : 0 ≤ y2) (hy' : y2 ≤ 7) (ya : p / 8 - 1 ≤ y2) (yb : y2 ≤ p / 8 + 1)
    (nx : dnC S p (y2 + 1) 0 → ∀ a b : Option Value, ax_G X mX0_isLow 0 0 (ax_pv (.int (zb (lowB S p = true))) z f) 19 [some (.ref (r + 2)), some (.int (i3 p)), some (.int (i3 (p % 8))), some (.int (i3 (p / 8))), some (.int (i3 (y2 + 1))), a, b] [] 0 0 z f) :
    ∀ (n : Nat) (x2 : Int) (b : Option Value), x2 + n = mn7 (p % 8 + 1) + 1 → 0 ≤ x2 → p % 8 - 1 ≤ x2 → dnC S p y2 x2 → ax_G X mX0_isLow 0 0 (ax_pv (.int (zb (lowB S p = true))) z f) 41 [some (.ref (r + 2)), some (.int (i3 p)), some (.int (i3 (p % 8))), some (.int (i3 (p / 8))), some (.int (i3 y2)), some (.int (i3 x2)), b] [] 0 0 z f := by
  have mm : mn7 (p % 8 + 1) = p % 8 + 1 ∧ p % 8 + 1 ≤ 7 ∨ mn7 (p % 8 + 1) = 7 ∧ 7 ≤ p % 8 + 1 := by unfold mn7; split <;> omega
  have em : (if p % 8 + 1 < 7 then i3 (p % 8 + 1) else i3 7) = i3 (mn7 (p % 8 + 1)) := by unfold mn7; split <;> rfl
  have c2 : f (r + 2) = some (.inr (0, [.ref (r + 3), .int (i3 (T 2 1)), .ref (r + 4), .ref (r + 5), .ref (r + 6), .int (i3 (T 2 5))])) := hR 2 (Or.inl (by decide))
  have c5 : f (r + 5) = some (.inl (X.2.2.1 0, 64, .inl (fun j : Nat => i3 (T 5 (j : Int))))) := hR 5 (Or.inl (by decide))
  intro n
  induction n with
  | zero =>
    intro x2 b hn hx hx2 hd
    refine sbX0_isLow_41 X 0 0 _ _ _ _ _ _ _ ?_
    simp (disch := omega) only [bkX0_isLow_41, ax_ic, ax_lc, ax_nul, ax_il, ax_ll, ax_al, ax_is, ax_ls, ax_as, ax_inc, ax_iadd, ax_isub, ax_imul, ax_iand, ax_ior, ax_idiv, ax_irem, ax_ishl, ax_ishr, ax_ladd, ax_lsub, ax_lmul, ax_ldiv, ax_lrem, ax_ineg, ax_lneg, ax_i2l, ax_l2i, ax_lcmp, ax_dup, ax_pop1, ax_dupx1, ax_dup2, ax_ifeq, ax_ifne, ax_iflt, ax_ifge, ax_ifgt, ax_ifle, ax_iceq, ax_icne, ax_iclt, ax_icge, ax_icgt, ax_icle, ax_ifnull, ax_ifnn, ax_sw, ax_iret, ax_zret, ax_lret, ax_vret, ax_aret, ax_gf, ax_pfi, ax_pfz, ax_pfl, ax_pfr, ax_iald, ax_zald, ax_lald, ax_aald, ax_iast, ax_zast, ax_last, ax_aast, ax_alen, ax_ialdR, ax_alenR, ax_gst, ax_new, ax_nwi, ax_nwl, ax_nwq, ax_obj, ax_call, ax_calv, ax_nth, ax_p1, ax_p2, ax_k2, ax_nh, Value.category, lg_cmp_ge, lg_cmp_lt, lg_cmp_gt, lg_cmp_le, lg_cmp_eq, List.getElem?_cons_zero, List.getElem?_cons_succ, true_and, and_true, if_true, if_false, reduceIte, Nat.reduceEqDiff, Nat.add_eq_zero_iff, reduceCtorEq, Nat.reduceAdd, not_true_eq_false, not_false_eq_true, ax_pf, ax_popn, fv_in, fv_size, fv_drop, fv_within, fv_part, fv_cut, fv_sq, fv_absI, fv_absJ, fv_maxI, fv_minI, fv_maxJ, fv_minJ, List.map_cons, List.map_nil, List.sum_cons, List.sum_nil, Nat.reduceLeDiff, Nat.zero_le, Nat.le_refl, zb_0, zb_1, zb_em, true_or, or_true, Int32.toInt_toInt64, Nat.add_zero, fv_isGlass, fv_mayBe, fv_isReading8, fv_isHour8, fv_isPoint, fv_isReading7, fv_isRoom, fv_isWarmth, fv_isHour7, fv_isOnMap, fv_holds, fv_held, tm_eq, i3_add, i3_sub, i3_mul, i3_neg, i6_add, i6_sub, i6_mul, i6_neg, i6_I, i3_toInt, i6_toInt, i3_lt, i3_le, i3_eq, i6_lt, i6_le, i6_eq, i3_eq0, i3_eq1, i3_lt0, i3_le0, i3_gt0, i3_ge0, i6_eq0, i3_div, i6_div, i3_rem, i6_rem, i3_L, i3_nat, i3_inI, ax_up3, ax_up6, em]
    refine ⟨fun _ => nx (fun y x a1 a2 a3 a4 a5 a6 a7 a8 c => hd y x a1 a2 a3 a4 a5 a6 a7 a8 ?_) _ _, fun q => absurd (by omega) q⟩
    omega
  | succ n ih =>
    intro x2 b hn hx hx2 hd
    have s1 := hS (8 * y2 + x2) (by omega) (by omega)
    have s2 := hS p h0 h1
    have b1 := hb (8 * y2 + x2) (by omega) (by omega)
    have b2 := hb p h0 h1
    have bad : bdC S p y2 x2 → i3 0 = zb (lowB S p = true) := fun c => zb_f (fun q => by
      have := (lowP_C h0 h1).mp (lowB_t.mp q)
      exact this y2 x2 hy hy' hx (by omega) ya yb hx2 (by omega) c)
    have good : ¬ bdC S p y2 x2 → ∀ b : Option Value, ax_G X mX0_isLow 0 0 (ax_pv (.int (zb (lowB S p = true))) z f) 41 [some (.ref (r + 2)), some (.int (i3 p)), some (.int (i3 (p % 8))), some (.int (i3 (p / 8))), some (.int (i3 y2)), some (.int (i3 (x2 + 1))), b] [] 0 0 z f := fun c b => by
      refine ih (x2 + 1) b (by omega) (by omega) (by omega) (fun y x a1 a2 a3 a4 a5 a6 a7 a8 d => ?_)
      by_cases e : y = y2 ∧ x = x2
      · rw [e.1, e.2]; exact c
      · exact hd y x a1 a2 a3 a4 a5 a6 a7 a8 (by omega)
    refine sbX0_isLow_41 X 0 0 _ _ _ _ _ _ _ ?_
    simp (disch := omega) only [bkX0_isLow_41, ax_ic, ax_lc, ax_nul, ax_il, ax_ll, ax_al, ax_is, ax_ls, ax_as, ax_inc, ax_iadd, ax_isub, ax_imul, ax_iand, ax_ior, ax_idiv, ax_irem, ax_ishl, ax_ishr, ax_ladd, ax_lsub, ax_lmul, ax_ldiv, ax_lrem, ax_ineg, ax_lneg, ax_i2l, ax_l2i, ax_lcmp, ax_dup, ax_pop1, ax_dupx1, ax_dup2, ax_ifeq, ax_ifne, ax_iflt, ax_ifge, ax_ifgt, ax_ifle, ax_iceq, ax_icne, ax_iclt, ax_icge, ax_icgt, ax_icle, ax_ifnull, ax_ifnn, ax_sw, ax_iret, ax_zret, ax_lret, ax_vret, ax_aret, ax_gf, ax_pfi, ax_pfz, ax_pfl, ax_pfr, ax_iald, ax_zald, ax_lald, ax_aald, ax_iast, ax_zast, ax_last, ax_aast, ax_alen, ax_ialdR, ax_alenR, ax_gst, ax_new, ax_nwi, ax_nwl, ax_nwq, ax_obj, ax_call, ax_calv, ax_nth, ax_p1, ax_p2, ax_k2, ax_nh, Value.category, lg_cmp_ge, lg_cmp_lt, lg_cmp_gt, lg_cmp_le, lg_cmp_eq, List.getElem?_cons_zero, List.getElem?_cons_succ, true_and, and_true, if_true, if_false, reduceIte, Nat.reduceEqDiff, Nat.add_eq_zero_iff, reduceCtorEq, Nat.reduceAdd, not_true_eq_false, not_false_eq_true, ax_pf, ax_popn, fv_in, fv_size, fv_drop, fv_within, fv_part, fv_cut, fv_sq, fv_absI, fv_absJ, fv_maxI, fv_minI, fv_maxJ, fv_minJ, List.map_cons, List.map_nil, List.sum_cons, List.sum_nil, Nat.reduceLeDiff, Nat.zero_le, Nat.le_refl, zb_0, zb_1, zb_em, true_or, or_true, Int32.toInt_toInt64, Nat.add_zero, fv_isGlass, fv_mayBe, fv_isReading8, fv_isHour8, fv_isPoint, fv_isReading7, fv_isRoom, fv_isWarmth, fv_isHour7, fv_isOnMap, fv_holds, fv_held, tm_eq, i3_add, i3_sub, i3_mul, i3_neg, i6_add, i6_sub, i6_mul, i6_neg, i6_I, i3_toInt, i6_toInt, i3_lt, i3_le, i3_eq, i6_lt, i6_le, i6_eq, i3_eq0, i3_eq1, i3_lt0, i3_le0, i3_gt0, i3_ge0, i6_eq0, i3_div, i6_div, i3_rem, i6_rem, i3_L, i3_nat, i3_inI, ax_up3, ax_up6, em, c2, c5, s1, s2]
    refine ⟨fun q => absurd q (by omega), fun _ => ⟨by omega, by omega, fun a => ax_pv0 (congrArg Value.int (bad (Or.inl a))), fun a => ⟨fun c => good (by omega) _, fun c => ⟨by omega, by omega, fun d => good (by omega) _, fun d => ax_pv0 (congrArg Value.int (bad (Or.inr ⟨by omega, by omega⟩)))⟩⟩⟩⟩
theorem m0_il_19 (hR : RH X r T f) (h0 : 0 ≤ p) (h1 : p < 64) (hS : ∀ q : Int, 0 ≤ q → q < 64 → T 5 q = S q) (hb : ∀ q : Int, 0 ≤ q → q < 64 → 0 ≤ S q ∧ S q ≤ 20000) :
    ∀ (n : Nat) (y2 : Int) (a b : Option Value), y2 + n = mn7 (p / 8 + 1) + 1 → 0 ≤ y2 → p / 8 - 1 ≤ y2 → dnC S p y2 0 → ax_G X mX0_isLow 0 0 (ax_pv (.int (zb (lowB S p = true))) z f) 19 [some (.ref (r + 2)), some (.int (i3 p)), some (.int (i3 (p % 8))), some (.int (i3 (p / 8))), some (.int (i3 y2)), a, b] [] 0 0 z f := by
  have mm : mn7 (p / 8 + 1) = p / 8 + 1 ∧ p / 8 + 1 ≤ 7 ∨ mn7 (p / 8 + 1) = 7 ∧ 7 ≤ p / 8 + 1 := by unfold mn7; split <;> omega
  have mm2 : mn7 (p % 8 + 1) = p % 8 + 1 ∧ p % 8 + 1 ≤ 7 ∨ mn7 (p % 8 + 1) = 7 ∧ 7 ≤ p % 8 + 1 := by unfold mn7; split <;> omega
  have em : (if p / 8 + 1 < 7 then i3 (p / 8 + 1) else i3 7) = i3 (mn7 (p / 8 + 1)) := by unfold mn7; split <;> rfl
  have ex : (if 0 < p % 8 - 1 then i3 (p % 8 - 1) else i3 0) = i3 (mx0 (p % 8 - 1)) := by unfold mx0; split <;> rfl
  have xx : mx0 (p % 8 - 1) = p % 8 - 1 ∧ 0 ≤ p % 8 - 1 ∨ mx0 (p % 8 - 1) = 0 ∧ p % 8 - 1 ≤ 0 := by unfold mx0; split <;> omega
  intro n
  induction n with
  | zero =>
    intro y2 a b hn hy hy2 hd
    refine sbX0_isLow_19 X 0 0 _ _ _ _ _ _ _ ?_
    simp (disch := omega) only [bkX0_isLow_19, ax_ic, ax_lc, ax_nul, ax_il, ax_ll, ax_al, ax_is, ax_ls, ax_as, ax_inc, ax_iadd, ax_isub, ax_imul, ax_iand, ax_ior, ax_idiv, ax_irem, ax_ishl, ax_ishr, ax_ladd, ax_lsub, ax_lmul, ax_ldiv, ax_lrem, ax_ineg, ax_lneg, ax_i2l, ax_l2i, ax_lcmp, ax_dup, ax_pop1, ax_dupx1, ax_dup2, ax_ifeq, ax_ifne, ax_iflt, ax_ifge, ax_ifgt, ax_ifle, ax_iceq, ax_icne, ax_iclt, ax_icge, ax_icgt, ax_icle, ax_ifnull, ax_ifnn, ax_sw, ax_iret, ax_zret, ax_lret, ax_vret, ax_aret, ax_gf, ax_pfi, ax_pfz, ax_pfl, ax_pfr, ax_iald, ax_zald, ax_lald, ax_aald, ax_iast, ax_zast, ax_last, ax_aast, ax_alen, ax_ialdR, ax_alenR, ax_gst, ax_new, ax_nwi, ax_nwl, ax_nwq, ax_obj, ax_call, ax_calv, ax_nth, ax_p1, ax_p2, ax_k2, ax_nh, Value.category, lg_cmp_ge, lg_cmp_lt, lg_cmp_gt, lg_cmp_le, lg_cmp_eq, List.getElem?_cons_zero, List.getElem?_cons_succ, true_and, and_true, if_true, if_false, reduceIte, Nat.reduceEqDiff, Nat.add_eq_zero_iff, reduceCtorEq, Nat.reduceAdd, not_true_eq_false, not_false_eq_true, ax_pf, ax_popn, fv_in, fv_size, fv_drop, fv_within, fv_part, fv_cut, fv_sq, fv_absI, fv_absJ, fv_maxI, fv_minI, fv_maxJ, fv_minJ, List.map_cons, List.map_nil, List.sum_cons, List.sum_nil, Nat.reduceLeDiff, Nat.zero_le, Nat.le_refl, zb_0, zb_1, zb_em, true_or, or_true, Int32.toInt_toInt64, Nat.add_zero, fv_isGlass, fv_mayBe, fv_isReading8, fv_isHour8, fv_isPoint, fv_isReading7, fv_isRoom, fv_isWarmth, fv_isHour7, fv_isOnMap, fv_holds, fv_held, tm_eq, i3_add, i3_sub, i3_mul, i3_neg, i6_add, i6_sub, i6_mul, i6_neg, i6_I, i3_toInt, i6_toInt, i3_lt, i3_le, i3_eq, i6_lt, i6_le, i6_eq, i3_eq0, i3_eq1, i3_lt0, i3_le0, i3_gt0, i3_ge0, i6_eq0, i3_div, i6_div, i3_rem, i6_rem, i3_L, i3_nat, i3_inI, ax_up3, ax_up6, em]
    refine ⟨fun _ => ax_pv0 (congrArg Value.int (zb_t ?_)), fun q => absurd (by omega) q⟩
    rw [lowB_t, lowP_C h0 h1]
    intro y x a1 a2 a3 a4 a5 a6 a7 a8
    exact hd y x a1 a2 a3 a4 a5 a6 a7 a8 (by omega)
  | succ n ih =>
    intro y2 a b hn hy hy2 hd
    refine sbX0_isLow_19 X 0 0 _ _ _ _ _ _ _ ?_
    simp (disch := omega) only [bkX0_isLow_19, ax_ic, ax_lc, ax_nul, ax_il, ax_ll, ax_al, ax_is, ax_ls, ax_as, ax_inc, ax_iadd, ax_isub, ax_imul, ax_iand, ax_ior, ax_idiv, ax_irem, ax_ishl, ax_ishr, ax_ladd, ax_lsub, ax_lmul, ax_ldiv, ax_lrem, ax_ineg, ax_lneg, ax_i2l, ax_l2i, ax_lcmp, ax_dup, ax_pop1, ax_dupx1, ax_dup2, ax_ifeq, ax_ifne, ax_iflt, ax_ifge, ax_ifgt, ax_ifle, ax_iceq, ax_icne, ax_iclt, ax_icge, ax_icgt, ax_icle, ax_ifnull, ax_ifnn, ax_sw, ax_iret, ax_zret, ax_lret, ax_vret, ax_aret, ax_gf, ax_pfi, ax_pfz, ax_pfl, ax_pfr, ax_iald, ax_zald, ax_lald, ax_aald, ax_iast, ax_zast, ax_last, ax_aast, ax_alen, ax_ialdR, ax_alenR, ax_gst, ax_new, ax_nwi, ax_nwl, ax_nwq, ax_obj, ax_call, ax_calv, ax_nth, ax_p1, ax_p2, ax_k2, ax_nh, Value.category, lg_cmp_ge, lg_cmp_lt, lg_cmp_gt, lg_cmp_le, lg_cmp_eq, List.getElem?_cons_zero, List.getElem?_cons_succ, true_and, and_true, if_true, if_false, reduceIte, Nat.reduceEqDiff, Nat.add_eq_zero_iff, reduceCtorEq, Nat.reduceAdd, not_true_eq_false, not_false_eq_true, ax_pf, ax_popn, fv_in, fv_size, fv_drop, fv_within, fv_part, fv_cut, fv_sq, fv_absI, fv_absJ, fv_maxI, fv_minI, fv_maxJ, fv_minJ, List.map_cons, List.map_nil, List.sum_cons, List.sum_nil, Nat.reduceLeDiff, Nat.zero_le, Nat.le_refl, zb_0, zb_1, zb_em, true_or, or_true, Int32.toInt_toInt64, Nat.add_zero, fv_isGlass, fv_mayBe, fv_isReading8, fv_isHour8, fv_isPoint, fv_isReading7, fv_isRoom, fv_isWarmth, fv_isHour7, fv_isOnMap, fv_holds, fv_held, tm_eq, i3_add, i3_sub, i3_mul, i3_neg, i6_add, i6_sub, i6_mul, i6_neg, i6_I, i3_toInt, i6_toInt, i3_lt, i3_le, i3_eq, i6_lt, i6_le, i6_eq, i3_eq0, i3_eq1, i3_lt0, i3_le0, i3_gt0, i3_ge0, i6_eq0, i3_div, i6_div, i3_rem, i6_rem, i3_L, i3_nat, i3_inI, ax_up3, ax_up6, em, ex]
    refine ⟨fun q => absurd q (by omega), fun _ => ?_⟩
    refine m0_il_41 hR h0 h1 hS hb hy (by omega) hy2 (by omega) (fun hd2 a b => ih (y2 + 1) a b (by omega) (by omega) (by omega) hd2) (mn7 (p % 8 + 1) + 1 - mx0 (p % 8 - 1)).toNat (mx0 (p % 8 - 1)) b (by omega) (by omega) (by omega) (fun y x a1 a2 a3 a4 a5 a6 a7 a8 c => hd y x a1 a2 a3 a4 a5 a6 a7 a8 (by omega))
theorem m0_isLow (hR : RH X r T f) (h0 : 0 ≤ p) (h1 : p < 64) (hS : ∀ q : Int, 0 ≤ q → q < 64 → T 5 q = S q) (hb : ∀ q : Int, 0 ≤ q → q < 64 → 0 ≤ S q ∧ S q ≤ 20000) :
    ax_M X mX0_isLow 0 0 [.ref (r + 2), .int (i3 p)] z f (ax_pv (.int (zb (lowB S p = true))) z f) := by
  have e1 : p.tmod 8 = p % 8 := Int.tmod_eq_emod_of_nonneg h0
  have e2 : p.tdiv 8 = p / 8 := Int.tdiv_eq_ediv_of_nonneg h0
  have e3 : p - p / 8 * 8 = p % 8 := by omega
  have mm : mn7 (p / 8 + 1) = p / 8 + 1 ∧ p / 8 + 1 ≤ 7 ∨ mn7 (p / 8 + 1) = 7 ∧ 7 ≤ p / 8 + 1 := by unfold mn7; split <;> omega
  have ex : (if 0 < p / 8 - 1 then i3 (p / 8 - 1) else i3 0) = i3 (mx0 (p / 8 - 1)) := by unfold mx0; split <;> rfl
  have xx : mx0 (p / 8 - 1) = p / 8 - 1 ∧ 0 ≤ p / 8 - 1 ∨ mx0 (p / 8 - 1) = 0 ∧ p / 8 - 1 ≤ 0 := by unfold mx0; split <;> omega
  refine ax_met2 [some (.ref (r + 2)), some (.int (i3 p)), none, none, none, none, none] (by decide) (Nat.le_of_ble_eq_true rfl) rfl ?_
  refine sbX0_isLow_0 X 0 0 _ _ _ _ _ _ _ ?_
  simp (disch := omega) only [bkX0_isLow_0, ax_ic, ax_lc, ax_nul, ax_il, ax_ll, ax_al, ax_is, ax_ls, ax_as, ax_inc, ax_iadd, ax_isub, ax_imul, ax_iand, ax_ior, ax_idiv, ax_irem, ax_ishl, ax_ishr, ax_ladd, ax_lsub, ax_lmul, ax_ldiv, ax_lrem, ax_ineg, ax_lneg, ax_i2l, ax_l2i, ax_lcmp, ax_dup, ax_pop1, ax_dupx1, ax_dup2, ax_ifeq, ax_ifne, ax_iflt, ax_ifge, ax_ifgt, ax_ifle, ax_iceq, ax_icne, ax_iclt, ax_icge, ax_icgt, ax_icle, ax_ifnull, ax_ifnn, ax_sw, ax_iret, ax_zret, ax_lret, ax_vret, ax_aret, ax_gf, ax_pfi, ax_pfz, ax_pfl, ax_pfr, ax_iald, ax_zald, ax_lald, ax_aald, ax_iast, ax_zast, ax_last, ax_aast, ax_alen, ax_ialdR, ax_alenR, ax_gst, ax_new, ax_nwi, ax_nwl, ax_nwq, ax_obj, ax_call, ax_calv, ax_nth, ax_p1, ax_p2, ax_k2, ax_nh, Value.category, lg_cmp_ge, lg_cmp_lt, lg_cmp_gt, lg_cmp_le, lg_cmp_eq, List.getElem?_cons_zero, List.getElem?_cons_succ, true_and, and_true, if_true, if_false, reduceIte, Nat.reduceEqDiff, Nat.add_eq_zero_iff, reduceCtorEq, Nat.reduceAdd, not_true_eq_false, not_false_eq_true, ax_pf, ax_popn, fv_in, fv_size, fv_drop, fv_within, fv_part, fv_cut, fv_sq, fv_absI, fv_absJ, fv_maxI, fv_minI, fv_maxJ, fv_minJ, List.map_cons, List.map_nil, List.sum_cons, List.sum_nil, Nat.reduceLeDiff, Nat.zero_le, Nat.le_refl, zb_0, zb_1, zb_em, true_or, or_true, Int32.toInt_toInt64, Nat.add_zero, fv_isGlass, fv_mayBe, fv_isReading8, fv_isHour8, fv_isPoint, fv_isReading7, fv_isRoom, fv_isWarmth, fv_isHour7, fv_isOnMap, fv_holds, fv_held, tm_eq, i3_add, i3_sub, i3_mul, i3_neg, i6_add, i6_sub, i6_mul, i6_neg, i6_I, i3_toInt, i6_toInt, i3_lt, i3_le, i3_eq, i6_lt, i6_le, i6_eq, i3_eq0, i3_eq1, i3_lt0, i3_le0, i3_gt0, i3_ge0, i6_eq0, i3_div, i6_div, i3_rem, i6_rem, i3_L, i3_nat, i3_inI, ax_up3, ax_up6, e1, e2, e3, ex]
  refine ⟨by omega, by omega, ?_⟩
  exact m0_il_19 hR h0 h1 hS hb (mn7 (p / 8 + 1) + 1 - mx0 (p / 8 - 1)).toNat (mx0 (p / 8 - 1)) none none (by omega) (by omega) (by omega) (fun y x a1 a2 a3 a4 a5 a6 a7 a8 c => by omega)
end LOW
/-! the i-th of those that are so -/
theorem cntB_le {P : Int → Bool} {a : Nat} : ∀ n : Nat, cntB P a ≤ cntB P (a + n)
  | 0 => Int.le_refl _
  | n + 1 => by
    have := cntB_le (P := P) (a := a) n
    rw [show cntB P (a + (n + 1)) = cntB P (a + n) + (if P ((a + n : Nat) : Int) = true then 1 else 0) from rfl]
    split <;> omega
theorem cntB_ex {P : Int → Bool} : ∀ (n : Nat) (i : Int), 0 ≤ i → i < cntB P n → ∃ q : Nat, q < n ∧ P q = true ∧ cntB P q = i
  | 0, i, h0, h1 => by
    unfold cntB at h1
    omega
  | n + 1, i, h0, h1 => by
    by_cases c : i < cntB P n
    · obtain ⟨q, a, b, d⟩ := cntB_ex n i h0 c
      exact ⟨q, by omega, b, d⟩
    · unfold cntB at h1
      by_cases e : P n = true
      · rw [if_pos e] at h1
        exact ⟨n, by omega, e, by omega⟩
      · rw [if_neg e] at h1
        omega
theorem lowG_at {S : Int → Int} {q : Nat} (hq : lowB S q = true) : ∀ (n k : Nat), k ≤ q → q < k + n → lowG S (cntB (lowB S) q) k (cntB (lowB S) k) n = q
  | 0, k, h1, h2 => by omega
  | n + 1, k, h1, h2 => by
    unfold lowG
    by_cases e : k = q
    · subst e
      rw [if_pos hq, if_pos rfl]
    · have le := cntB_le (P := lowB S) (a := k + 1) (q - (k + 1))
      rw [show k + 1 + (q - (k + 1)) = q by omega] at le
      have ih := lowG_at hq n (k + 1) (by omega) (by omega)
      by_cases c : lowB S k = true
      · have c1 : cntB (lowB S) (k + 1) = cntB (lowB S) k + 1 := by rw [cntB, if_pos c]
        rw [if_pos c, if_neg (by omega), ← c1]
        exact ih
      · have c1 : cntB (lowB S) (k + 1) = cntB (lowB S) k := by rw [cntB, if_neg c, Int.add_zero]
        rw [if_neg c, ← c1]
        exact ih
theorem lowG_no {S : Int → Int} {i : Int} : ∀ (n k : Nat), (i < 0 ∨ cntB (lowB S) (k + n) ≤ i) → lowG S i k (cntB (lowB S) k) n = (if i = -1 then cntB (lowB S) (k + n) else -6)
  | 0, k, h => rfl
  | n + 1, k, h => by
    have r := cntB_rng (lowB S) k
    have ih := lowG_no (S := S) (i := i) n (k + 1) (by rw [show k + 1 + n = k + (n + 1) by omega]; exact h)
    rw [show k + 1 + n = k + (n + 1) by omega] at ih
    unfold lowG
    by_cases c : lowB S k = true
    · have c1 : cntB (lowB S) (k + 1) = cntB (lowB S) k + 1 := by rw [cntB, if_pos c]
      have le := cntB_le (P := lowB S) (a := k + 1) n
      rw [show k + 1 + n = k + (n + 1) by omega] at le
      rw [if_pos c, if_neg (by omega), ← c1]
      exact ih
    · have c1 : cntB (lowB S) (k + 1) = cntB (lowB S) k := by rw [cntB, if_neg c, Int.add_zero]
      rw [if_neg c, ← c1]
      exact ih
