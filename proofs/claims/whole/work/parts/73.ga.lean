section GAA
variable {X : ax_X} {r z : Nat} {V T : Nat → Int → Int} {f f0 : ax_F} {S G L : Int → Int} {v s : Int}
theorem m2_isAtBorder (h1 : 0 ≤ s) (h2 : s < 128) : ax_M X mX2_isAtBorder 0 0 [.int (i3 s)] z f (ax_pv (.int (zb (brdZ s))) z f) := by
  have t1 : s.tmod 2 = s % 2 := Int.tmod_eq_emod_of_nonneg h1
  have t2 : s.tdiv 2 = s / 2 := Int.tdiv_eq_ediv_of_nonneg h1
  have t3 : (s / 2).tmod 8 = s / 2 % 8 := Int.tmod_eq_emod_of_nonneg (by omega)
  have t4 : (s / 2).tdiv 8 = s / 2 / 8 := Int.tdiv_eq_ediv_of_nonneg (by omega)
  refine ax_met2 [some (.int (i3 s)), none] (by decide) (Nat.le_of_ble_eq_true rfl) rfl ?_
  refine sbX2_isAtBorder_0 X 0 0 _ _ _ _ _ _ _ ?_
  have f1 : s - s / 2 * 2 = s % 2 := by omega
  have f2 : s / 2 - s / 2 / 8 * 8 = s / 2 % 8 := by omega
  simp (disch := omega) only [bkX2_isAtBorder_0, ax_ic, ax_lc, ax_nul, ax_il, ax_ll, ax_al, ax_is, ax_ls, ax_as, ax_inc, ax_iadd, ax_isub, ax_imul, ax_iand, ax_ior, ax_idiv, ax_irem, ax_ishl, ax_ishr, ax_ladd, ax_lsub, ax_lmul, ax_ldiv, ax_lrem, ax_ineg, ax_lneg, ax_i2l, ax_l2i, ax_lcmp, ax_dup, ax_pop1, ax_dupx1, ax_dup2, ax_ifeq, ax_ifne, ax_iflt, ax_ifge, ax_ifgt, ax_ifle, ax_iceq, ax_icne, ax_iclt, ax_icge, ax_icgt, ax_icle, ax_ifnull, ax_ifnn, ax_sw, ax_iret, ax_zret, ax_lret, ax_vret, ax_aret, ax_gf, ax_pfi, ax_pfz, ax_pfl, ax_pfr, ax_iald, ax_zald, ax_lald, ax_aald, ax_iast, ax_zast, ax_last, ax_aast, ax_alen, ax_ialdR, ax_alenR, ax_gst, ax_new, ax_nwi, ax_nwl, ax_nwq, ax_obj, ax_call, ax_calv, ax_nth, ax_p1, ax_p2, ax_k2, ax_nh, Value.category, lg_cmp_ge, lg_cmp_lt, lg_cmp_gt, lg_cmp_le, lg_cmp_eq, List.getElem?_cons_zero, List.getElem?_cons_succ, true_and, and_true, if_true, if_false, reduceIte, Nat.reduceEqDiff, Nat.add_eq_zero_iff, reduceCtorEq, Nat.reduceAdd, not_true_eq_false, not_false_eq_true, ax_pf, ax_popn, fv_in, fv_size, fv_drop, fv_within, fv_part, fv_cut, fv_sq, fv_absI, fv_absJ, fv_maxI, fv_minI, fv_maxJ, fv_minJ, List.map_cons, List.map_nil, List.sum_cons, List.sum_nil, Nat.reduceLeDiff, Nat.zero_le, Nat.le_refl, zb_0, zb_1, zb_em, true_or, or_true, Int32.toInt_toInt64, Nat.add_zero, fv_isGlass, fv_mayBe, fv_isReading8, fv_isHour8, fv_isPoint, fv_isReading7, fv_isRoom, fv_isWarmth, fv_isHour7, fv_isOnMap, fv_holds, fv_held, tm_eq, i3_add, i3_sub, i3_mul, i3_neg, i6_add, i6_sub, i6_mul, i6_neg, i6_I, i3_toInt, i6_toInt, i3_lt, i3_le, i3_eq, i6_lt, i6_le, i6_eq, i3_eq0, i3_eq1, i3_lt0, i3_le0, i3_gt0, i3_ge0, i6_eq0, i3_div, i6_div, i3_rem, i6_rem, i3_L, i3_nat, i3_inI, ax_up3, ax_up6, t1, t2, t3, t4, f1, f2]
  refine ⟨by omega, fun a => ⟨by omega, by omega, fun b => ax_pv0 (congrArg Value.int (zb_t (by omega))), fun b => ⟨fun c => ax_pv0 (congrArg Value.int (zb_f (by omega))), fun c => ax_pv0 (congrArg Value.int (zb_t (by omega)))⟩⟩, fun a => ⟨by omega, by omega, fun b => ax_pv0 (congrArg Value.int (zb_t (by omega))), fun b => ⟨fun c => ax_pv0 (congrArg Value.int (zb_f (by omega))), fun c => ax_pv0 (congrArg Value.int (zb_t (by omega)))⟩⟩⟩
abbrev fsP (G : Int → Int) : Int → Bool := fun s => decide (G s = s)
abbrev alP (T T' : Nat → Int → Int) (l s : Int) : Prop := tcore T T' ∧ T' 9 = T 9 ∧ (∀ j : Int, j ≠ 6 → T' 7 j = T 7 j) ∧ T' 7 6 = T 7 6 + (if s = l then 1 else 0) ∧ (∀ i : Int, T' 13 i = if s = l ∧ i = T 7 6 then l else T 13 i) ∧ (∀ i : Int, T' 10 i = if i = l then (if s = l then 0 else T 10 l) + 1 else T 10 i) ∧ (∀ i : Int, T' 11 i = if i = l then s else T 11 i) ∧ ∀ i : Int, T' 12 i = if i = l then (if brdZ s then 0 else if s = l then 1 else T 12 l) else T 12 i
abbrev alPost (X : ax_X) (r z : Nat) (T : Nat → Int → Int) (l s : Int) (f0 : ax_F) : Option Value → Nat → ax_F → Prop := fun w z' f' => w = none ∧ z' = z ∧ RF r f0 f' ∧ ∃ T' : Nat → Int → Int, RH X r T' f' ∧ alP T T' l s
theorem m2_al_36 {T1 : Nat → Int → Int} {l : Int} (hR : RH X r T1 f) (hF : RF r f0 f) (h1 : 0 ≤ s) (h2 : s < 128) (l1 : 0 ≤ l) (l2 : l < 128)
    (hT : tcore T T1 ∧ T1 9 = T 9 ∧ (∀ j : Int, j ≠ 6 → T1 7 j = T 7 j) ∧ T1 7 6 = T 7 6 + (if s = l then 1 else 0) ∧ (∀ i : Int, T1 13 i = if s = l ∧ i = T 7 6 then l else T 13 i) ∧ (∀ i : Int, T1 10 i = if i = l then (if s = l then 0 else T 10 l) else T 10 i) ∧ T1 11 = T 11 ∧ ∀ i : Int, T1 12 i = if i = l then (if s = l then 1 else T 12 l) else T 12 i) :
    ax_G X mX2_addToLine 0 0 (alPost X r z T l s f0) 36 [some (.ref (r + 7)), some (.int (i3 l)), some (.int (i3 s))] [] 0 0 z f := by
  obtain ⟨t1, t2, t3, t4, t5, t6, t7, t8⟩ := hT
  have c7 : f (r + 7) = some (.inr (1, [.ref (r + 8), .ref (r + 9), .ref (r + 10), .ref (r + 11), .ref (r + 12), .ref (r + 13), .int (i3 (T1 7 6)), .int (i3 (T1 7 7)), .int (i3 (T1 7 8)), .int (i3 (T1 7 9))])) := hR 7 (Or.inl (by decide))
  have c10 : f (r + 10) = some (.inl (X.2.2.1 0, 128, .inl (fun j : Nat => i3 (T1 10 (j : Int))))) := hR 10 (Or.inl (by decide))
  have c11 : f (r + 11) = some (.inl (X.2.2.1 0, 128, .inl (fun j : Nat => i3 (T1 11 (j : Int))))) := hR 11 (Or.inl (by decide))
  have c12 : f (r + 12) = some (.inl (X.2.2.1 2, 128, .inl (fun j : Nat => i3 (T1 12 (j : Int))))) := hR 12 (Or.inl (by decide))
  have hR2 := (hR.set (k := 10) (g := ax_u (T1 10) l (T1 10 l + 1)) (Or.inl (by omega)) rfl).set (k := 11) (g := ax_u (T1 11) l s) (Or.inl (by omega)) rfl
  have hF2 : ∀ e1 e2 : Option va_E, RF r f0 (va_up (va_up f (r + 10) e1) (r + 11) e2) := fun e1 e2 => (hF.up (by omega)).up (by omega)
  have tc : tcore T (mset (mset T1 10 (ax_u (T1 10) l (T1 10 l + 1))) 11 (ax_u (T1 11) l s)) := t1.trans ((tcore.row (k := 10) (g := ax_u (T1 10) l (T1 10 l + 1)) (by omega) (Or.inl (by omega))).trans (tcore.row (k := 11) (by omega) (Or.inl (by omega))))
  have f10 : ∀ i : Int, ax_u (T1 10) l (T1 10 l + 1) i = if i = l then (if s = l then 0 else T 10 l) + 1 else T 10 i := fun i => by
    unfold ax_u
    rw [t6 l, if_pos rfl]
    by_cases e : i = l
    · rw [if_pos e, if_pos e]
    · rw [if_neg e, if_neg e, t6 i, if_neg e]
  have f11 : ∀ i : Int, ax_u (T1 11) l s i = if i = l then s else T 11 i := fun i => by
    unfold ax_u
    rw [t7]
  refine sbX2_addToLine_36 X 0 0 _ _ _ _ _ _ _ ?_
  simp (disch := omega) only [bkX2_addToLine_36, ax_ic, ax_lc, ax_nul, ax_il, ax_ll, ax_al, ax_is, ax_ls, ax_as, ax_inc, ax_iadd, ax_isub, ax_imul, ax_iand, ax_ior, ax_idiv, ax_irem, ax_ishl, ax_ishr, ax_ladd, ax_lsub, ax_lmul, ax_ldiv, ax_lrem, ax_ineg, ax_lneg, ax_i2l, ax_l2i, ax_lcmp, ax_dup, ax_pop1, ax_dupx1, ax_dup2, ax_ifeq, ax_ifne, ax_iflt, ax_ifge, ax_ifgt, ax_ifle, ax_iceq, ax_icne, ax_iclt, ax_icge, ax_icgt, ax_icle, ax_ifnull, ax_ifnn, ax_sw, ax_iret, ax_zret, ax_lret, ax_vret, ax_aret, ax_gf, ax_pfi, ax_pfz, ax_pfl, ax_pfr, ax_iald, ax_zald, ax_lald, ax_aald, ax_iast, ax_zast, ax_last, ax_aast, ax_alen, ax_ialdR, ax_alenR, ax_gst, ax_new, ax_nwi, ax_nwl, ax_nwq, ax_obj, ax_call, ax_calv, ax_nth, ax_p1, ax_p2, ax_k2, ax_nh, Value.category, lg_cmp_ge, lg_cmp_lt, lg_cmp_gt, lg_cmp_le, lg_cmp_eq, List.getElem?_cons_zero, List.getElem?_cons_succ, true_and, and_true, if_true, if_false, reduceIte, Nat.reduceEqDiff, Nat.add_eq_zero_iff, reduceCtorEq, Nat.reduceAdd, not_true_eq_false, not_false_eq_true, ax_pf, ax_popn, fv_in, fv_size, fv_drop, fv_within, fv_part, fv_cut, fv_sq, fv_absI, fv_absJ, fv_maxI, fv_minI, fv_maxJ, fv_minJ, List.map_cons, List.map_nil, List.sum_cons, List.sum_nil, Nat.reduceLeDiff, Nat.zero_le, Nat.le_refl, zb_0, zb_1, zb_em, true_or, or_true, Int32.toInt_toInt64, Nat.add_zero, fv_isGlass, fv_mayBe, fv_isReading8, fv_isHour8, fv_isPoint, fv_isReading7, fv_isRoom, fv_isWarmth, fv_isHour7, fv_isOnMap, fv_holds, fv_held, tm_eq, i3_add, i3_sub, i3_mul, i3_neg, i6_add, i6_sub, i6_mul, i6_neg, i6_I, i3_toInt, i6_toInt, i3_lt, i3_le, i3_eq, i6_lt, i6_le, i6_eq, i3_eq0, i3_eq1, i3_lt0, i3_le0, i3_gt0, i3_ge0, i6_eq0, i3_div, i6_div, i3_rem, i6_rem, i3_L, i3_nat, i3_inI, ax_up3, ax_up6, up_ne, up_0, up_s, up_00, up_0n, c7, c10, c11]
  refine ⟨by omega, by omega, by omega, ax_fn (Nat.le_of_ble_eq_true rfl) (Nat.zero_le _) (Nat.zero_le _) (m2_isAtBorder h1 h2) ?_⟩
  simp (disch := omega) only [ax_ic, ax_lc, ax_nul, ax_il, ax_ll, ax_al, ax_is, ax_ls, ax_as, ax_inc, ax_iadd, ax_isub, ax_imul, ax_iand, ax_ior, ax_idiv, ax_irem, ax_ishl, ax_ishr, ax_ladd, ax_lsub, ax_lmul, ax_ldiv, ax_lrem, ax_ineg, ax_lneg, ax_i2l, ax_l2i, ax_lcmp, ax_dup, ax_pop1, ax_dupx1, ax_dup2, ax_ifeq, ax_ifne, ax_iflt, ax_ifge, ax_ifgt, ax_ifle, ax_iceq, ax_icne, ax_iclt, ax_icge, ax_icgt, ax_icle, ax_ifnull, ax_ifnn, ax_sw, ax_iret, ax_zret, ax_lret, ax_vret, ax_aret, ax_gf, ax_pfi, ax_pfz, ax_pfl, ax_pfr, ax_iald, ax_zald, ax_lald, ax_aald, ax_iast, ax_zast, ax_last, ax_aast, ax_alen, ax_ialdR, ax_alenR, ax_gst, ax_new, ax_nwi, ax_nwl, ax_nwq, ax_obj, ax_call, ax_calv, ax_nth, ax_p1, ax_p2, ax_k2, ax_nh, Value.category, lg_cmp_ge, lg_cmp_lt, lg_cmp_gt, lg_cmp_le, lg_cmp_eq, List.getElem?_cons_zero, List.getElem?_cons_succ, true_and, and_true, if_true, if_false, reduceIte, Nat.reduceEqDiff, Nat.add_eq_zero_iff, reduceCtorEq, Nat.reduceAdd, not_true_eq_false, not_false_eq_true, ax_pf, ax_popn, fv_in, fv_size, fv_drop, fv_within, fv_part, fv_cut, fv_sq, fv_absI, fv_absJ, fv_maxI, fv_minI, fv_maxJ, fv_minJ, List.map_cons, List.map_nil, List.sum_cons, List.sum_nil, Nat.reduceLeDiff, Nat.zero_le, Nat.le_refl, zb_0, zb_1, zb_em, true_or, or_true, Int32.toInt_toInt64, Nat.add_zero, fv_isGlass, fv_mayBe, fv_isReading8, fv_isHour8, fv_isPoint, fv_isReading7, fv_isRoom, fv_isWarmth, fv_isHour7, fv_isOnMap, fv_holds, fv_held, tm_eq, i3_add, i3_sub, i3_mul, i3_neg, i6_add, i6_sub, i6_mul, i6_neg, i6_I, i3_toInt, i6_toInt, i3_lt, i3_le, i3_eq, i6_lt, i6_le, i6_eq, i3_eq0, i3_eq1, i3_lt0, i3_le0, i3_gt0, i3_ge0, i6_eq0, i3_div, i6_div, i3_rem, i6_rem, i3_L, i3_nat, i3_inI, ax_up3, ax_up6, up_ne, up_0, up_s, up_00, up_0n, c7, c12]
  refine ⟨fun a => ⟨Nat.le_refl _, Nat.le_refl _, rfl, rfl, hF2 _ _, _, hR2, tc, t2, t3, t4, t5, f10, f11, fun i => ?_⟩, fun a => ⟨by omega, ?_⟩⟩
  · rw [if_neg a]
    exact t8 i
  · have a' : brdZ s := Decidable.byContradiction a
    refine ⟨Nat.le_refl _, Nat.le_refl _, rfl, rfl, (hF2 _ _).up (k := 12) (by omega), mset (mset (mset T1 10 (ax_u (T1 10) l (T1 10 l + 1))) 11 (ax_u (T1 11) l s)) 12 (ax_u (T1 12) l 0), hR2.set (k := 12) (g := ax_u (T1 12) l 0) (Or.inl (by omega)) rfl, tc.trans (tcore.row (k := 12) (by omega) (Or.inl (by omega))), t2, t3, t4, t5, f10, f11, fun i => ?_⟩
    rw [mset_s, if_pos a']
    unfold ax_u
    by_cases e : i = l
    · rw [if_pos e, if_pos e]
    · rw [if_neg e, if_neg e, t8 i, if_neg e]
theorem m2_addToLine {l : Int} (hR : RH X r T f) (hF : RF r f0 f) (h1 : 0 ≤ s) (h2 : s < 128) (l1 : 0 ≤ l) (l2 : l < 128) (h6 : 0 ≤ T 7 6) (h6' : T 7 6 < 128) :
    ax_M X mX2_addToLine 0 0 [.ref (r + 7), .int (i3 l), .int (i3 s)] z f (alPost X r z T l s f0) := by
  have c7 : f (r + 7) = some (.inr (1, [.ref (r + 8), .ref (r + 9), .ref (r + 10), .ref (r + 11), .ref (r + 12), .ref (r + 13), .int (i3 (T 7 6)), .int (i3 (T 7 7)), .int (i3 (T 7 8)), .int (i3 (T 7 9))])) := hR 7 (Or.inl (by decide))
  have c10 : f (r + 10) = some (.inl (X.2.2.1 0, 128, .inl (fun j : Nat => i3 (T 10 (j : Int))))) := hR 10 (Or.inl (by decide))
  have c12 : f (r + 12) = some (.inl (X.2.2.1 2, 128, .inl (fun j : Nat => i3 (T 12 (j : Int))))) := hR 12 (Or.inl (by decide))
  have c13 : f (r + 13) = some (.inl (X.2.2.1 0, 128, .inl (fun j : Nat => i3 (T 13 (j : Int))))) := hR 13 (Or.inl (by decide))
  refine ax_met2 [some (.ref (r + 7)), some (.int (i3 l)), some (.int (i3 s))] (by decide) (Nat.le_of_ble_eq_true rfl) rfl ?_
  refine sbX2_addToLine_0 X 0 0 _ _ _ _ _ _ _ ?_
  simp (disch := omega) only [List.set, bkX2_addToLine_0, ax_ic, ax_lc, ax_nul, ax_il, ax_ll, ax_al, ax_is, ax_ls, ax_as, ax_inc, ax_iadd, ax_isub, ax_imul, ax_iand, ax_ior, ax_idiv, ax_irem, ax_ishl, ax_ishr, ax_ladd, ax_lsub, ax_lmul, ax_ldiv, ax_lrem, ax_ineg, ax_lneg, ax_i2l, ax_l2i, ax_lcmp, ax_dup, ax_pop1, ax_dupx1, ax_dup2, ax_ifeq, ax_ifne, ax_iflt, ax_ifge, ax_ifgt, ax_ifle, ax_iceq, ax_icne, ax_iclt, ax_icge, ax_icgt, ax_icle, ax_ifnull, ax_ifnn, ax_sw, ax_iret, ax_zret, ax_lret, ax_vret, ax_aret, ax_gf, ax_pfi, ax_pfz, ax_pfl, ax_pfr, ax_iald, ax_zald, ax_lald, ax_aald, ax_iast, ax_zast, ax_last, ax_aast, ax_alen, ax_ialdR, ax_alenR, ax_gst, ax_new, ax_nwi, ax_nwl, ax_nwq, ax_obj, ax_call, ax_calv, ax_nth, ax_p1, ax_p2, ax_k2, ax_nh, Value.category, lg_cmp_ge, lg_cmp_lt, lg_cmp_gt, lg_cmp_le, lg_cmp_eq, List.getElem?_cons_zero, List.getElem?_cons_succ, true_and, and_true, if_true, if_false, reduceIte, Nat.reduceEqDiff, Nat.add_eq_zero_iff, reduceCtorEq, Nat.reduceAdd, not_true_eq_false, not_false_eq_true, ax_pf, ax_popn, fv_in, fv_size, fv_drop, fv_within, fv_part, fv_cut, fv_sq, fv_absI, fv_absJ, fv_maxI, fv_minI, fv_maxJ, fv_minJ, List.map_cons, List.map_nil, List.sum_cons, List.sum_nil, Nat.reduceLeDiff, Nat.zero_le, Nat.le_refl, zb_0, zb_1, zb_em, true_or, or_true, Int32.toInt_toInt64, Nat.add_zero, fv_isGlass, fv_mayBe, fv_isReading8, fv_isHour8, fv_isPoint, fv_isReading7, fv_isRoom, fv_isWarmth, fv_isHour7, fv_isOnMap, fv_holds, fv_held, tm_eq, i3_add, i3_sub, i3_mul, i3_neg, i6_add, i6_sub, i6_mul, i6_neg, i6_I, i3_toInt, i6_toInt, i3_lt, i3_le, i3_eq, i6_lt, i6_le, i6_eq, i3_eq0, i3_eq1, i3_lt0, i3_le0, i3_gt0, i3_ge0, i6_eq0, i3_div, i6_div, i3_rem, i6_rem, i3_L, i3_nat, i3_inI, ax_up3, ax_up6, up_ne, up_0, up_s, up_00, up_0n, c7, c10, c12, c13]
  refine ⟨fun a => ?_, fun a => ⟨Nat.le_of_ble_eq_true rfl, ?_⟩⟩
  · refine m2_al_36 hR hF h1 h2 l1 l2 ⟨tcore.rfl, rfl, fun _ _ => rfl, by rw [if_neg a, Int.add_zero], fun i => by rw [if_neg (fun d => a d.1)], fun i => ?_, rfl, fun i => ?_⟩
    · split
      · rename_i e; rw [e]
      · rfl
    · split
      · rename_i e; rw [e]
      · rfl
  · subst a
    refine ⟨by omega, by omega, by omega, ?_⟩
    refine m2_al_36 (T1 := mset (mset (mset (mset T 7 (ax_u (T 7) 6 (T 7 6 + 1))) 13 (ax_u (T 13) (T 7 6) s)) 10 (ax_u (T 10) s 0)) 12 (ax_u (T 12) s 1)) ((((hR.set (k := 7) (g := ax_u (T 7) 6 (T 7 6 + 1)) (Or.inl (by omega)) rfl).set (k := 13) (g := ax_u (T 13) (T 7 6) s) (Or.inl (by omega)) rfl).set (k := 10) (g := ax_u (T 10) s 0) (Or.inl (by omega)) rfl).set (k := 12) (g := ax_u (T 12) s 1) (Or.inl (by omega)) rfl) ((((hF.up (k := 7) (by omega)).up (k := 13) (by omega)).up (k := 10) (by omega)).up (k := 12) (by omega)) h1 h2 l1 l2 ⟨?_, rfl, fun j hj => ?_, ?_, fun i => ?_, fun i => ?_, rfl, fun i => ?_⟩
    · exact (tcore.row (k := 7) (g := ax_u (T 7) 6 (T 7 6 + 1)) (by omega) (Or.inl (by omega))).trans ((tcore.row (k := 13) (g := ax_u (T 13) (T 7 6) s) (by omega) (Or.inl (by omega))).trans ((tcore.row (k := 10) (g := ax_u (T 10) s 0) (by omega) (Or.inl (by omega))).trans (tcore.row (k := 12) (by omega) (Or.inl (by omega)))))
    · show ax_u (T 7) 6 (T 7 6 + 1) j = _
      exact ax_u_n hj
    · show ax_u (T 7) 6 (T 7 6 + 1) 6 = _
      rw [ax_u_s, if_pos rfl]
    · show ax_u (T 13) (T 7 6) s i = _
      unfold ax_u
      by_cases e : i = T 7 6
      · rw [if_pos e, if_pos ⟨rfl, e⟩]
      · rw [if_neg e, if_neg (fun d => e d.2)]
    · show ax_u (T 10) s 0 i = _
      unfold ax_u
      rw [if_pos rfl]
    · show ax_u (T 12) s 1 i = _
      unfold ax_u
      rw [if_pos rfl]
end GAA
