section SIA
variable {X : ax_X} {r z : Nat} {V V' T T' : Nat → Int → Int} {f f0 : ax_F}
abbrev siPost (X : ax_X) (a z : Nat) (x y H : Int) (gl : Nat) (f : ax_F) : Option Value → Nat → ax_F → Prop := fun v z' f' => v = none ∧ z' = z + 4 ∧ f' a = some (.inr (4, [.int (i3 x), .int (i3 y), .int (i3 H), .ref gl, .ref z, .ref (z + 1), .ref (z + 2), .ref (z + 3), .int (i3 0)])) ∧ f' z = some (cI X 48 (fun _ => 0)) ∧ f' (z + 1) = some (cI X 48 (fun _ => 0)) ∧ f' (z + 2) = some (cI X 3 (fun _ => 0)) ∧ f' (z + 3) = some (cL X 3 (fun _ => 0)) ∧ ∀ q : Nat, q ≠ a → (q < z ∨ z + 4 ≤ q) → f' q = f q
theorem m5_init {a gl : Nat} {x y H : Int} (ha : a < z) (c0 : f a = some (.inr (4, [.int 0, .int 0, .int 0, .null, .null, .null, .null, .null, .int 0]))) : ax_M X mX5_init 4 102 [.ref a, .int (i3 x), .int (i3 y), .int (i3 H), .ref gl] z f (siPost X a z x y H gl f) := by
  refine ax_met2 [some (.ref a), some (.int (i3 x)), some (.int (i3 y)), some (.int (i3 H)), some (.ref gl)] (by decide) (Nat.le_of_ble_eq_true rfl) rfl ?_
  refine sbX5_init_0 X 4 102 _ _ _ _ _ _ _ ?_
  have u1 : ∀ (e : Option va_E) (f : ax_F) (k : Nat), va_up f (z + k) e a = f a := fun e f k => if_neg (by omega)
  have u0 : ∀ (e : Option va_E) (f : ax_F), va_up f z e a = f a := fun e f => if_neg (by omega)
  have e48 : (i3 48).toNatClampNeg = 48 := rfl
  have e3 : (i3 3).toNatClampNeg = 3 := rfl
  simp (disch := omega) only [List.set, bkX5_init_0, ax_ic, ax_lc, ax_nul, ax_il, ax_ll, ax_al, ax_is, ax_ls, ax_as, ax_inc, ax_iadd, ax_isub, ax_imul, ax_iand, ax_ior, ax_idiv, ax_irem, ax_ishl, ax_ishr, ax_ladd, ax_lsub, ax_lmul, ax_ldiv, ax_lrem, ax_ineg, ax_lneg, ax_i2l, ax_l2i, ax_lcmp, ax_dup, ax_pop1, ax_dupx1, ax_dup2, ax_ifeq, ax_ifne, ax_iflt, ax_ifge, ax_ifgt, ax_ifle, ax_iceq, ax_icne, ax_iclt, ax_icge, ax_icgt, ax_icle, ax_ifnull, ax_ifnn, ax_sw, ax_iret, ax_zret, ax_lret, ax_vret, ax_aret, ax_gf, ax_pfi, ax_pfz, ax_pfl, ax_pfr, ax_iald, ax_zald, ax_lald, ax_aald, ax_iast, ax_zast, ax_last, ax_aast, ax_alen, ax_ialdR, ax_alenR, ax_gst, ax_new, ax_nwi, ax_nwl, ax_nwq, ax_obj, ax_call, ax_calv, ax_nth, ax_p1, ax_p2, ax_k2, ax_nh, Value.category, lg_cmp_ge, lg_cmp_lt, lg_cmp_gt, lg_cmp_le, lg_cmp_eq, List.getElem?_cons_zero, List.getElem?_cons_succ, true_and, and_true, if_true, if_false, reduceIte, Nat.reduceEqDiff, Nat.add_eq_zero_iff, reduceCtorEq, Nat.reduceAdd, not_true_eq_false, not_false_eq_true, ax_pf, ax_popn, fv_in, fv_size, fv_drop, fv_within, fv_part, fv_cut, fv_sq, fv_absI, fv_absJ, fv_maxI, fv_minI, fv_maxJ, fv_minJ, List.map_cons, List.map_nil, List.sum_cons, List.sum_nil, Nat.reduceLeDiff, Nat.zero_le, Nat.le_refl, zb_0, zb_1, zb_em, true_or, or_true, Int32.toInt_toInt64, Nat.add_zero, fv_isGlass, fv_mayBe, fv_isReading8, fv_isHour8, fv_isPoint, fv_isReading7, fv_isRoom, fv_isWarmth, fv_isHour7, fv_isOnMap, fv_holds, fv_held, tm_eq, i3_add, i3_sub, i3_mul, i3_neg, i6_add, i6_sub, i6_mul, i6_neg, i6_I, i3_toInt, i6_toInt, i3_lt, i3_le, i3_eq, i6_lt, i6_le, i6_eq, i3_eq0, i3_eq1, i3_lt0, i3_le0, i3_gt0, i3_ge0, i6_eq0, i3_div, i6_div, i3_rem, i6_rem, i3_L, i3_nat, i3_inI, ax_up3, ax_up6, c0, u0, u1, up_s, Nat.add_assoc, e48, e3]
  have v1 : ∀ (e : Option va_E) (f : ax_F) (k : Nat), va_up f a e (z + k) = f (z + k) := fun e f k => if_neg (by omega)
  have v0 : ∀ (e : Option va_E) (f : ax_F), va_up f a e z = f z := fun e f => if_neg (by omega)
  have L : ∀ a b : Nat, Nat.ble (a + 1) b = true → a < b := fun a b h => Nat.le_of_ble_eq_true h
  refine ⟨by omega, L _ _ rfl, by omega, L _ _ rfl, by omega, L _ _ rfl, by omega, L _ _ rfl, L _ _ rfl, L _ _ rfl, L _ _ rfl, L _ _ rfl, L _ _ rfl, Nat.le_refl _, Nat.le_refl _, rfl, rfl, up_s, ?_, ?_, ?_, ?_, fun q h1 h2 => ?_⟩
  · simp (disch := omega) only [v0, v1, up_ne, up_0, up_0n, up_s]
    rfl
  · simp (disch := omega) only [v0, v1, up_ne, up_0, up_0n, up_s]
    rfl
  · simp (disch := omega) only [v0, v1, up_ne, up_0, up_0n, up_s]
    rfl
  · simp (disch := omega) only [v0, v1, up_ne, up_0, up_0n, up_s]
    rfl
  · unfold va_up
    simp only [if_neg h1, if_neg (show ¬ q = z by omega), if_neg (show ¬ q = z + 1 by omega), if_neg (show ¬ q = z + 2 by omega), if_neg (show ¬ q = z + 3 by omega)]
theorem rce_n {n m j : Nat} {g : Int → Int} (h : j ≠ 3) : rce X r n j g = rce X r m j g := by
  unfold rce
  split
  · split <;> first | rfl | omega
  · rfl
/-- the class after a new station -/
def addT (T : Nat → Int → Int) (x y H g : Int) : Nat → Int → Int := fun j => if j = 2 then ax_u (T 2) 1 (T 2 1 + 1) else if j = 67 + 5 * (T 2 1).toNat then ax_u (ax_u (ax_u (ax_u (ax_u (fun _ => 0) 0 x) 1 y) 2 H) 3 g) 8 0 else if 67 + 5 * (T 2 1).toNat ≤ j then (fun _ => 0) else T j
abbrev adPost (X : ax_X) (r : Nat) (T : Nat → Int → Int) (x y H g : Int) (f0 : ax_F) : Option Value → Nat → ax_F → Prop := fun v z' f' => v = some (.int (i3 (T 2 1))) ∧ z' = r + 67 + 5 * (T 2 1 + 1).toNat ∧ RF r f0 f' ∧ RH X r (addT T x y H g) f'
theorem m0_add (hR : RH X r T f) (hF : RF r f0 f) {x y H g : Int} (hg : 0 ≤ g) (hg' : g ≤ 5) (hn : 0 ≤ T 2 1) (hn' : T 2 1 < 8) (hz : z = r + 67 + 5 * (T 2 1).toNat) :
    ax_M X mX0_add 5 111 [.ref (r + 2), .int (i3 x), .int (i3 y), .int (i3 H), .ref (r + 29 + 2 * g.toNat)] z f (adPost X r T x y H g f0) := by
  have c2 : f (r + 2) = some (.inr (0, [.ref (r + 3), .int (i3 (T 2 1)), .ref (r + 4), .ref (r + 5), .ref (r + 6), .int (i3 (T 2 5))])) := hR 2 (Or.inl (by decide))
  have c3 : f (r + 3) = some (.inl (X.2.2.1 4, 8, .inr (.inr (.inr (.inr (qSt r (T 2 1).toNat)))))) := hR 3 (Or.inl (by decide))
  have isF : ax_M X mX0_isFull 0 0 [.ref (r + 2)] z f (ax_pv (.int (zb (T 2 1 = 8))) z f) := by
    refine ax_met2 [some (.ref (r + 2))] (by decide) (Nat.le_of_ble_eq_true rfl) rfl ?_
    refine sbX0_isFull_0 X 0 0 _ _ _ _ _ _ _ ?_
    simp (disch := omega) only [bkX0_isFull_0, ax_ic, ax_lc, ax_nul, ax_il, ax_ll, ax_al, ax_is, ax_ls, ax_as, ax_inc, ax_iadd, ax_isub, ax_imul, ax_iand, ax_ior, ax_idiv, ax_irem, ax_ishl, ax_ishr, ax_ladd, ax_lsub, ax_lmul, ax_ldiv, ax_lrem, ax_ineg, ax_lneg, ax_i2l, ax_l2i, ax_lcmp, ax_dup, ax_pop1, ax_dupx1, ax_dup2, ax_ifeq, ax_ifne, ax_iflt, ax_ifge, ax_ifgt, ax_ifle, ax_iceq, ax_icne, ax_iclt, ax_icge, ax_icgt, ax_icle, ax_ifnull, ax_ifnn, ax_sw, ax_iret, ax_zret, ax_lret, ax_vret, ax_aret, ax_gf, ax_pfi, ax_pfz, ax_pfl, ax_pfr, ax_iald, ax_zald, ax_lald, ax_aald, ax_iast, ax_zast, ax_last, ax_aast, ax_alen, ax_ialdR, ax_alenR, ax_gst, ax_new, ax_nwi, ax_nwl, ax_nwq, ax_obj, ax_call, ax_calv, ax_nth, ax_p1, ax_p2, ax_k2, ax_nh, Value.category, lg_cmp_ge, lg_cmp_lt, lg_cmp_gt, lg_cmp_le, lg_cmp_eq, List.getElem?_cons_zero, List.getElem?_cons_succ, true_and, and_true, if_true, if_false, reduceIte, Nat.reduceEqDiff, Nat.add_eq_zero_iff, reduceCtorEq, Nat.reduceAdd, not_true_eq_false, not_false_eq_true, ax_pf, ax_popn, fv_in, fv_size, fv_drop, fv_within, fv_part, fv_cut, fv_sq, fv_absI, fv_absJ, fv_maxI, fv_minI, fv_maxJ, fv_minJ, List.map_cons, List.map_nil, List.sum_cons, List.sum_nil, Nat.reduceLeDiff, Nat.zero_le, Nat.le_refl, zb_0, zb_1, zb_em, true_or, or_true, Int32.toInt_toInt64, Nat.add_zero, fv_isGlass, fv_mayBe, fv_isReading8, fv_isHour8, fv_isPoint, fv_isReading7, fv_isRoom, fv_isWarmth, fv_isHour7, fv_isOnMap, fv_holds, fv_held, tm_eq, i3_add, i3_sub, i3_mul, i3_neg, i6_add, i6_sub, i6_mul, i6_neg, i6_I, i3_toInt, i6_toInt, i3_lt, i3_le, i3_eq, i6_lt, i6_le, i6_eq, i3_eq0, i3_eq1, i3_lt0, i3_le0, i3_gt0, i3_ge0, i6_eq0, i3_div, i6_div, i3_rem, i6_rem, i3_L, i3_nat, i3_inI, ax_up3, ax_up6, c2]
    exact ⟨fun a => ax_pv0 (congrArg Value.int (zb_f (by omega))), fun a => ax_pv0 (congrArg Value.int (zb_t (by omega)))⟩
  refine ax_met2 [some (.ref (r + 2)), some (.int (i3 x)), some (.int (i3 y)), some (.int (i3 H)), some (.ref (r + 29 + 2 * g.toNat))] (by decide) (Nat.le_of_ble_eq_true rfl) rfl ?_
  refine sbX0_add_0 X 5 111 _ _ _ _ _ _ _ ?_
  simp (disch := omega) only [bkX0_add_0, ax_ic, ax_lc, ax_nul, ax_il, ax_ll, ax_al, ax_is, ax_ls, ax_as, ax_inc, ax_iadd, ax_isub, ax_imul, ax_iand, ax_ior, ax_idiv, ax_irem, ax_ishl, ax_ishr, ax_ladd, ax_lsub, ax_lmul, ax_ldiv, ax_lrem, ax_ineg, ax_lneg, ax_i2l, ax_l2i, ax_lcmp, ax_dup, ax_pop1, ax_dupx1, ax_dup2, ax_ifeq, ax_ifne, ax_iflt, ax_ifge, ax_ifgt, ax_ifle, ax_iceq, ax_icne, ax_iclt, ax_icge, ax_icgt, ax_icle, ax_ifnull, ax_ifnn, ax_sw, ax_iret, ax_zret, ax_lret, ax_vret, ax_aret, ax_gf, ax_pfi, ax_pfz, ax_pfl, ax_pfr, ax_iald, ax_zald, ax_lald, ax_aald, ax_iast, ax_zast, ax_last, ax_aast, ax_alen, ax_ialdR, ax_alenR, ax_gst, ax_new, ax_nwi, ax_nwl, ax_nwq, ax_obj, ax_call, ax_calv, ax_nth, ax_p1, ax_p2, ax_k2, ax_nh, Value.category, lg_cmp_ge, lg_cmp_lt, lg_cmp_gt, lg_cmp_le, lg_cmp_eq, List.getElem?_cons_zero, List.getElem?_cons_succ, true_and, and_true, if_true, if_false, reduceIte, Nat.reduceEqDiff, Nat.add_eq_zero_iff, reduceCtorEq, Nat.reduceAdd, not_true_eq_false, not_false_eq_true, ax_pf, ax_popn, fv_in, fv_size, fv_drop, fv_within, fv_part, fv_cut, fv_sq, fv_absI, fv_absJ, fv_maxI, fv_minI, fv_maxJ, fv_minJ, List.map_cons, List.map_nil, List.sum_cons, List.sum_nil, Nat.reduceLeDiff, Nat.zero_le, Nat.le_refl, zb_0, zb_1, zb_em, true_or, or_true, Int32.toInt_toInt64, Nat.add_zero, fv_isGlass, fv_mayBe, fv_isReading8, fv_isHour8, fv_isPoint, fv_isReading7, fv_isRoom, fv_isWarmth, fv_isHour7, fv_isOnMap, fv_holds, fv_held, tm_eq, i3_add, i3_sub, i3_mul, i3_neg, i6_add, i6_sub, i6_mul, i6_neg, i6_I, i3_toInt, i6_toInt, i3_lt, i3_le, i3_eq, i6_lt, i6_le, i6_eq, i3_eq0, i3_eq1, i3_lt0, i3_le0, i3_gt0, i3_ge0, i6_eq0, i3_div, i6_div, i3_rem, i6_rem, i3_L, i3_nat, i3_inI, ax_up3, ax_up6, c2]
  refine ⟨⟨_, c2⟩, ax_fn (Nat.le_of_ble_eq_true rfl) (Nat.zero_le _) (Nat.zero_le _) isF ?_⟩
  simp (disch := omega) only [ax_ic, ax_lc, ax_nul, ax_il, ax_ll, ax_al, ax_is, ax_ls, ax_as, ax_inc, ax_iadd, ax_isub, ax_imul, ax_iand, ax_ior, ax_idiv, ax_irem, ax_ishl, ax_ishr, ax_ladd, ax_lsub, ax_lmul, ax_ldiv, ax_lrem, ax_ineg, ax_lneg, ax_i2l, ax_l2i, ax_lcmp, ax_dup, ax_pop1, ax_dupx1, ax_dup2, ax_ifeq, ax_ifne, ax_iflt, ax_ifge, ax_ifgt, ax_ifle, ax_iceq, ax_icne, ax_iclt, ax_icge, ax_icgt, ax_icle, ax_ifnull, ax_ifnn, ax_sw, ax_iret, ax_zret, ax_lret, ax_vret, ax_aret, ax_gf, ax_pfi, ax_pfz, ax_pfl, ax_pfr, ax_iald, ax_zald, ax_lald, ax_aald, ax_iast, ax_zast, ax_last, ax_aast, ax_alen, ax_ialdR, ax_alenR, ax_gst, ax_new, ax_nwi, ax_nwl, ax_nwq, ax_obj, ax_call, ax_calv, ax_nth, ax_p1, ax_p2, ax_k2, ax_nh, Value.category, lg_cmp_ge, lg_cmp_lt, lg_cmp_gt, lg_cmp_le, lg_cmp_eq, List.getElem?_cons_zero, List.getElem?_cons_succ, true_and, and_true, if_true, if_false, reduceIte, Nat.reduceEqDiff, Nat.add_eq_zero_iff, reduceCtorEq, Nat.reduceAdd, not_true_eq_false, not_false_eq_true, ax_pf, ax_popn, fv_in, fv_size, fv_drop, fv_within, fv_part, fv_cut, fv_sq, fv_absI, fv_absJ, fv_maxI, fv_minI, fv_maxJ, fv_minJ, List.map_cons, List.map_nil, List.sum_cons, List.sum_nil, Nat.reduceLeDiff, Nat.zero_le, Nat.le_refl, zb_0, zb_1, zb_em, true_or, or_true, Int32.toInt_toInt64, Nat.add_zero, fv_isGlass, fv_mayBe, fv_isReading8, fv_isHour8, fv_isPoint, fv_isReading7, fv_isRoom, fv_isWarmth, fv_isHour7, fv_isOnMap, fv_holds, fv_held, tm_eq, i3_add, i3_sub, i3_mul, i3_neg, i6_add, i6_sub, i6_mul, i6_neg, i6_I, i3_toInt, i6_toInt, i3_lt, i3_le, i3_eq, i6_lt, i6_le, i6_eq, i3_eq0, i3_eq1, i3_lt0, i3_le0, i3_gt0, i3_ge0, i6_eq0, i3_div, i6_div, i3_rem, i6_rem, i3_L, i3_nat, i3_inI, ax_up3, ax_up6, c2]
  refine ⟨fun _ => ?_, fun a => absurd (Decidable.byContradiction a) (by omega)⟩
  refine ⟨⟨_, up_s⟩, Nat.le_of_ble_eq_true rfl, 4, 102, _, m5_init (a := z) (z := z + 1) (by omega) up_s, by omega, by omega, fun v z' f1 hq => ?_⟩
  obtain ⟨rfl, rfl, fa, fb, fc, fd, fe, keep⟩ := hq
  have old : ∀ q : Nat, q < z → f1 q = f q := fun q hq => by rw [keep q (by omega) (by omega)]; exact if_neg (by omega)
  have d2 : f1 (r + 2) = f (r + 2) := old _ (by omega)
  have d3 : f1 (r + 3) = f (r + 3) := old _ (by omega)
  rw [c2] at d2
  rw [c3] at d3
  simp (disch := omega) only [List.set, ax_ic, ax_lc, ax_nul, ax_il, ax_ll, ax_al, ax_is, ax_ls, ax_as, ax_inc, ax_iadd, ax_isub, ax_imul, ax_iand, ax_ior, ax_idiv, ax_irem, ax_ishl, ax_ishr, ax_ladd, ax_lsub, ax_lmul, ax_ldiv, ax_lrem, ax_ineg, ax_lneg, ax_i2l, ax_l2i, ax_lcmp, ax_dup, ax_pop1, ax_dupx1, ax_dup2, ax_ifeq, ax_ifne, ax_iflt, ax_ifge, ax_ifgt, ax_ifle, ax_iceq, ax_icne, ax_iclt, ax_icge, ax_icgt, ax_icle, ax_ifnull, ax_ifnn, ax_sw, ax_iret, ax_zret, ax_lret, ax_vret, ax_aret, ax_gf, ax_pfi, ax_pfz, ax_pfl, ax_pfr, ax_iald, ax_zald, ax_lald, ax_aald, ax_iast, ax_zast, ax_last, ax_aast, ax_alen, ax_ialdR, ax_alenR, ax_gst, ax_new, ax_nwi, ax_nwl, ax_nwq, ax_obj, ax_call, ax_calv, ax_nth, ax_p1, ax_p2, ax_k2, ax_nh, Value.category, lg_cmp_ge, lg_cmp_lt, lg_cmp_gt, lg_cmp_le, lg_cmp_eq, List.getElem?_cons_zero, List.getElem?_cons_succ, true_and, and_true, if_true, if_false, reduceIte, Nat.reduceEqDiff, Nat.add_eq_zero_iff, reduceCtorEq, Nat.reduceAdd, not_true_eq_false, not_false_eq_true, ax_pf, ax_popn, fv_in, fv_size, fv_drop, fv_within, fv_part, fv_cut, fv_sq, fv_absI, fv_absJ, fv_maxI, fv_minI, fv_maxJ, fv_minJ, List.map_cons, List.map_nil, List.sum_cons, List.sum_nil, Nat.reduceLeDiff, Nat.zero_le, Nat.le_refl, zb_0, zb_1, zb_em, true_or, or_true, Int32.toInt_toInt64, Nat.add_zero, fv_isGlass, fv_mayBe, fv_isReading8, fv_isHour8, fv_isPoint, fv_isReading7, fv_isRoom, fv_isWarmth, fv_isHour7, fv_isOnMap, fv_holds, fv_held, tm_eq, i3_add, i3_sub, i3_mul, i3_neg, i6_add, i6_sub, i6_mul, i6_neg, i6_I, i3_toInt, i6_toInt, i3_lt, i3_le, i3_eq, i6_lt, i6_le, i6_eq, i3_eq0, i3_eq1, i3_lt0, i3_le0, i3_gt0, i3_ge0, i6_eq0, i3_div, i6_div, i3_rem, i6_rem, i3_L, i3_nat, i3_inI, ax_up3, ax_up6, up_ne, up_0, up_s, up_00, up_0n, Option.toList, List.nil_append, d2, d3, fa]
  refine ⟨by omega, Nat.le_of_ble_eq_true rfl, Nat.le_refl _, Nat.le_refl _, rfl, by omega, ?_, ?_⟩
  · refine RF.up (k := 2) (RF.up (k := 3) (fun q hq => ?_) (by omega)) (by omega)
    rw [old q (by omega)]
    exact hF q hq
  · have n2 : addT T x y H g 2 = ax_u (T 2) 1 (T 2 1 + 1) := rfl
    have n21 : addT T x y H g 2 1 = T 2 1 + 1 := rfl
    have qe : va_up (qSt r (T 2 1).toNat) (i3 (T 2 1)).toNatClampNeg (some z) = qSt r (T 2 1 + 1).toNat := by
      rw [i3_tn (by omega) (by omega)]
      funext i
      unfold va_up qSt
      by_cases e : i = (T 2 1).toNat
      · rw [if_pos e, if_pos (by omega), hz, e]
      · rw [if_neg e]
        by_cases c : i < (T 2 1).toNat
        · rw [if_pos c, if_pos (by omega)]
        · rw [if_neg c, if_neg (by omega)]
    intro j hj
    rw [n21] at hj ⊢
    by_cases j2 : j = 2
    · subst j2
      rw [up_s]
      rfl
    · rw [up_ne (o := r) (k := 2) j2]
      by_cases j3 : j = 3
      · subst j3
        rw [up_s, qe]
        rfl
      · rw [up_ne (o := r) (k := 3) j3]
        by_cases jo : j < 67 + 5 * (T 2 1).toNat
        · rw [old (r + j) (by omega), hR j (by omega), show addT T x y H g j = T j by unfold addT; rw [if_neg j2, if_neg (by omega), if_neg (by omega)]]
          congr 1
          exact rce_n j3
        · have hb : (T 2 1 + 1).toNat = (T 2 1).toNat + 1 := by omega
          rcases (show j = 67 + 5 * (T 2 1).toNat ∨ j = 68 + 5 * (T 2 1).toNat ∨ j = 69 + 5 * (T 2 1).toNat ∨ j = 70 + 5 * (T 2 1).toNat ∨ j = 71 + 5 * (T 2 1).toNat by omega) with rfl | rfl | rfl | rfl | rfl
          · rw [show r + (67 + 5 * (T 2 1).toNat) = z by omega, fa, rce_s0, show addT T x y H g (67 + 5 * (T 2 1).toNat) = ax_u (ax_u (ax_u (ax_u (ax_u (fun _ => 0) 0 x) 1 y) 2 H) 3 g) 8 0 by unfold addT; rw [if_neg j2, if_pos rfl]]
            unfold cSt
            rw [show r + (67 + 5 * (T 2 1).toNat) + 1 = z + 1 by omega, show r + (67 + 5 * (T 2 1).toNat) + 2 = z + 1 + 1 by omega, show r + (67 + 5 * (T 2 1).toNat) + 3 = z + 1 + 2 by omega, show r + (67 + 5 * (T 2 1).toNat) + 4 = z + 1 + 3 by omega]
            rfl
          · rw [show r + (68 + 5 * (T 2 1).toNat) = z + 1 by omega, fb, rce_s1, show addT T x y H g (68 + 5 * (T 2 1).toNat) = (fun _ => 0) by unfold addT; rw [if_neg j2, if_neg (by omega), if_pos (by omega)]]
          · rw [show r + (69 + 5 * (T 2 1).toNat) = z + 1 + 1 by omega, fc, rce_s2, show addT T x y H g (69 + 5 * (T 2 1).toNat) = (fun _ => 0) by unfold addT; rw [if_neg j2, if_neg (by omega), if_pos (by omega)]]
          · rw [show r + (70 + 5 * (T 2 1).toNat) = z + 1 + 2 by omega, fd, rce_s3, show addT T x y H g (70 + 5 * (T 2 1).toNat) = (fun _ => 0) by unfold addT; rw [if_neg j2, if_neg (by omega), if_pos (by omega)]]
          · rw [show r + (71 + 5 * (T 2 1).toNat) = z + 1 + 3 by omega, fe, rce_s4, show addT T x y H g (71 + 5 * (T 2 1).toNat) = (fun _ => 0) by unfold addT; rw [if_neg j2, if_neg (by omega), if_pos (by omega)]]
end SIA
