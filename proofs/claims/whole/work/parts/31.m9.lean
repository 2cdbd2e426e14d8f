theorem badZ_c {S S' : Int → Int} {p dy dx : Int} (h0 : 0 ≤ p) (h1 : p < 64) (hS : ∀ q : Int, 0 ≤ q → q < 64 → S q = S' q) : badZ S p dy dx ↔ badZ S' p dy dx := by
  unfold badZ
  constructor
  · rintro ⟨a, b, c⟩
    refine ⟨a, b, ?_⟩
    rw [← hS p h0 h1, ← hS _ (by omega) (by omega)]
    exact c
  · rintro ⟨a, b, c⟩
    refine ⟨a, b, ?_⟩
    rw [hS p h0 h1, hS _ (by omega) (by omega)]
    exact c
theorem lowB_c {S S' : Int → Int} {p : Int} (h0 : 0 ≤ p) (h1 : p < 64) (hS : ∀ q : Int, 0 ≤ q → q < 64 → S q = S' q) : lowB S p = lowB S' p := by
  rw [Bool.eq_iff_iff, lowB_t, lowB_t]
  exact ⟨fun h dy dx a b c d q => h dy dx a b c d ((badZ_c h0 h1 hS).mpr q), fun h dy dx a b c d q => h dy dx a b c d ((badZ_c h0 h1 hS).mp q)⟩
/-- the i-th low from a point on, so many having been counted -/
noncomputable def lowG (S : Int → Int) (i p cnt : Int) : Nat → Int
  | 0 => if i = -1 then cnt else -6
  | n + 1 => if lowB S p = true then (if cnt = i then p else lowG S i (p + 1) (cnt + 1) n) else lowG S i (p + 1) cnt n
theorem lowG_rng (S : Int → Int) (i : Int) : ∀ (n : Nat) (p cnt : Int), 0 ≤ p → 0 ≤ cnt → p + n ≤ 64 → cnt ≤ p → -6 ≤ lowG S i p cnt n ∧ lowG S i p cnt n ≤ 64
  | 0, p, cnt, h1, h2, h3, h4 => by
    unfold lowG
    split <;> omega
  | n + 1, p, cnt, h1, h2, h3, h4 => by
    unfold lowG
    split
    · split
      · omega
      · exact lowG_rng S i n (p + 1) (cnt + 1) (by omega) (by omega) (by omega) (by omega)
    · exact lowG_rng S i n (p + 1) cnt (by omega) h2 (by omega) (by omega)
noncomputable def mLow (V : Nat → Int → Int) (h i : Int) : Int := if anyB V h (-1) (V 0 8).toNat = true then lowG (shZ V h) i 0 0 64 else (if i = -1 then 0 else -6)
theorem mLow_rng (V : Nat → Int → Int) (h i : Int) : -6 ≤ mLow V h i ∧ mLow V h i ≤ 64 := by
  unfold mLow
  split
  · exact lowG_rng _ i 64 0 0 (by omega) (by omega) (by omega) (by omega)
  · split <;> omega
theorem m8_lowOf_loop {X : ax_X} {o z : Nat} {V V' : Nat → Int → Int} {f0 f : ax_F} {h i : Int} (hI : mInv V) (c : core V V') (hs : ∀ p : Int, 0 ≤ p → p < 64 → V' 21 p = shZ V h p) (hM : MH X o V' f) (hF : MF o f0 f) (hi : -2147483648 ≤ i) (hi' : i < 2147483648) :
    ∀ (n : Nat) (p cnt : Int), 0 ≤ p → 0 ≤ cnt → cnt ≤ p → p + n = 64 → ax_G X mX8_lowOf 0 0 (mqc X o f0 z (some (.int (i3 (lowG (shZ V h) i p cnt n)))) V) 31 [some (.ref o), some (.int (i3 h)), some (.int (i3 i)), some (.int (i3 cnt)), some (.int (i3 p))] [] 0 0 z f := by
  have m0 : f o = some (mce X o 0 (V' 0)) := hM 0 (by decide)
  intro n
  induction n with
  | zero =>
    intro p cnt h1 h2 h3 h4
    refine sbX8_lowOf_31 X 0 0 _ _ _ _ _ _ _ ?_
    simp (disch := omega) only [bkX8_lowOf_31, ax_ic, ax_lc, ax_nul, ax_il, ax_ll, ax_al, ax_is, ax_ls, ax_as, ax_inc, ax_iadd, ax_isub, ax_imul, ax_iand, ax_ior, ax_idiv, ax_irem, ax_ishl, ax_ishr, ax_ladd, ax_lsub, ax_lmul, ax_ldiv, ax_lrem, ax_ineg, ax_lneg, ax_i2l, ax_l2i, ax_lcmp, ax_dup, ax_pop1, ax_dupx1, ax_dup2, ax_ifeq, ax_ifne, ax_iflt, ax_ifge, ax_ifgt, ax_ifle, ax_iceq, ax_icne, ax_iclt, ax_icge, ax_icgt, ax_icle, ax_ifnull, ax_ifnn, ax_sw, ax_iret, ax_zret, ax_lret, ax_vret, ax_aret, ax_gf, ax_pfi, ax_pfz, ax_pfl, ax_pfr, ax_iald, ax_zald, ax_lald, ax_aald, ax_iast, ax_zast, ax_last, ax_aast, ax_alen, ax_ialdR, ax_alenR, ax_gst, ax_new, ax_nwi, ax_nwl, ax_nwq, ax_obj, ax_call, ax_calv, ax_nth, ax_p1, ax_p2, ax_k2, ax_nh, Value.category, lg_cmp_ge, lg_cmp_lt, lg_cmp_gt, lg_cmp_le, lg_cmp_eq, List.getElem?_cons_zero, List.getElem?_cons_succ, true_and, and_true, if_true, if_false, reduceIte, Nat.reduceEqDiff, Nat.add_eq_zero_iff, reduceCtorEq, Nat.reduceAdd, not_true_eq_false, not_false_eq_true, ax_pf, ax_popn, fv_in, fv_size, fv_drop, fv_within, fv_part, fv_cut, fv_sq, fv_absI, fv_absJ, fv_maxI, fv_minI, fv_maxJ, fv_minJ, List.map_cons, List.map_nil, List.sum_cons, List.sum_nil, Nat.reduceLeDiff, Nat.zero_le, Nat.le_refl, zb_0, zb_1, zb_em, true_or, or_true, Int32.toInt_toInt64, Nat.add_zero, fv_isGlass, fv_mayBe, fv_isReading8, fv_isHour8, fv_isPoint, fv_isReading7, fv_isRoom, fv_isWarmth, fv_isHour7, fv_isOnMap, fv_holds, fv_held, tm_eq, i3_add, i3_sub, i3_mul, i3_neg, i6_add, i6_sub, i6_mul, i6_neg, i6_I, i3_toInt, i6_toInt, i3_lt, i3_le, i3_eq, i6_lt, i6_le, i6_eq, i3_eq0, i3_eq1, i3_lt0, i3_le0, i3_gt0, i3_ge0, i6_eq0, i3_div, i6_div, i3_rem, i6_rem, i3_L, i3_nat, i3_inI, ax_up3, ax_up6]
    unfold lowG
    refine ⟨fun _ => ⟨fun q => mqc0 (by rw [if_neg q]) hM c hF, fun q => mqc0 (by rw [if_pos q]) hM c hF⟩, fun q => absurd (by omega) q⟩
  | succ n ih =>
    intro p cnt h1 h2 h3 h4
    refine sbX8_lowOf_31 X 0 0 _ _ _ _ _ _ _ ?_
    simp (disch := omega) only [bkX8_lowOf_31, ax_ic, ax_lc, ax_nul, ax_il, ax_ll, ax_al, ax_is, ax_ls, ax_as, ax_inc, ax_iadd, ax_isub, ax_imul, ax_iand, ax_ior, ax_idiv, ax_irem, ax_ishl, ax_ishr, ax_ladd, ax_lsub, ax_lmul, ax_ldiv, ax_lrem, ax_ineg, ax_lneg, ax_i2l, ax_l2i, ax_lcmp, ax_dup, ax_pop1, ax_dupx1, ax_dup2, ax_ifeq, ax_ifne, ax_iflt, ax_ifge, ax_ifgt, ax_ifle, ax_iceq, ax_icne, ax_iclt, ax_icge, ax_icgt, ax_icle, ax_ifnull, ax_ifnn, ax_sw, ax_iret, ax_zret, ax_lret, ax_vret, ax_aret, ax_gf, ax_pfi, ax_pfz, ax_pfl, ax_pfr, ax_iald, ax_zald, ax_lald, ax_aald, ax_iast, ax_zast, ax_last, ax_aast, ax_alen, ax_ialdR, ax_alenR, ax_gst, ax_new, ax_nwi, ax_nwl, ax_nwq, ax_obj, ax_call, ax_calv, ax_nth, ax_p1, ax_p2, ax_k2, ax_nh, Value.category, lg_cmp_ge, lg_cmp_lt, lg_cmp_gt, lg_cmp_le, lg_cmp_eq, List.getElem?_cons_zero, List.getElem?_cons_succ, true_and, and_true, if_true, if_false, reduceIte, Nat.reduceEqDiff, Nat.add_eq_zero_iff, reduceCtorEq, Nat.reduceAdd, not_true_eq_false, not_false_eq_true, ax_pf, ax_popn, fv_in, fv_size, fv_drop, fv_within, fv_part, fv_cut, fv_sq, fv_absI, fv_absJ, fv_maxI, fv_minI, fv_maxJ, fv_minJ, List.map_cons, List.map_nil, List.sum_cons, List.sum_nil, Nat.reduceLeDiff, Nat.zero_le, Nat.le_refl, zb_0, zb_1, zb_em, true_or, or_true, Int32.toInt_toInt64, Nat.add_zero, fv_isGlass, fv_mayBe, fv_isReading8, fv_isHour8, fv_isPoint, fv_isReading7, fv_isRoom, fv_isWarmth, fv_isHour7, fv_isOnMap, fv_holds, fv_held, tm_eq, i3_add, i3_sub, i3_mul, i3_neg, i6_add, i6_sub, i6_mul, i6_neg, i6_I, i3_toInt, i6_toInt, i3_lt, i3_le, i3_eq, i6_lt, i6_le, i6_eq, i3_eq0, i3_eq1, i3_lt0, i3_le0, i3_gt0, i3_ge0, i6_eq0, i3_div, i6_div, i3_rem, i6_rem, i3_L, i3_nat, i3_inI, ax_up3, ax_up6]
    refine ⟨fun q => absurd q (by omega), fun _ => ?_⟩
    refine ⟨⟨_, m0⟩, ax_fn (Nat.le_of_ble_eq_true rfl) (Nat.zero_le _) (Nat.zero_le _) (m8_isLow hM (fun q a b => by rw [hs q a b]; exact shZ_rng hI a b) h1 (by omega)) ?_⟩
    rw [lowB_c h1 (by omega) hs]
    simp (disch := omega) only [ax_ic, ax_lc, ax_nul, ax_il, ax_ll, ax_al, ax_is, ax_ls, ax_as, ax_inc, ax_iadd, ax_isub, ax_imul, ax_iand, ax_ior, ax_idiv, ax_irem, ax_ishl, ax_ishr, ax_ladd, ax_lsub, ax_lmul, ax_ldiv, ax_lrem, ax_ineg, ax_lneg, ax_i2l, ax_l2i, ax_lcmp, ax_dup, ax_pop1, ax_dupx1, ax_dup2, ax_ifeq, ax_ifne, ax_iflt, ax_ifge, ax_ifgt, ax_ifle, ax_iceq, ax_icne, ax_iclt, ax_icge, ax_icgt, ax_icle, ax_ifnull, ax_ifnn, ax_sw, ax_iret, ax_zret, ax_lret, ax_vret, ax_aret, ax_gf, ax_pfi, ax_pfz, ax_pfl, ax_pfr, ax_iald, ax_zald, ax_lald, ax_aald, ax_iast, ax_zast, ax_last, ax_aast, ax_alen, ax_ialdR, ax_alenR, ax_gst, ax_new, ax_nwi, ax_nwl, ax_nwq, ax_obj, ax_call, ax_calv, ax_nth, ax_p1, ax_p2, ax_k2, ax_nh, Value.category, lg_cmp_ge, lg_cmp_lt, lg_cmp_gt, lg_cmp_le, lg_cmp_eq, List.getElem?_cons_zero, List.getElem?_cons_succ, true_and, and_true, if_true, if_false, reduceIte, Nat.reduceEqDiff, Nat.add_eq_zero_iff, reduceCtorEq, Nat.reduceAdd, not_true_eq_false, not_false_eq_true, ax_pf, ax_popn, fv_in, fv_size, fv_drop, fv_within, fv_part, fv_cut, fv_sq, fv_absI, fv_absJ, fv_maxI, fv_minI, fv_maxJ, fv_minJ, List.map_cons, List.map_nil, List.sum_cons, List.sum_nil, Nat.reduceLeDiff, Nat.zero_le, Nat.le_refl, zb_0, zb_1, zb_em, true_or, or_true, Int32.toInt_toInt64, Nat.add_zero, fv_isGlass, fv_mayBe, fv_isReading8, fv_isHour8, fv_isPoint, fv_isReading7, fv_isRoom, fv_isWarmth, fv_isHour7, fv_isOnMap, fv_holds, fv_held, tm_eq, i3_add, i3_sub, i3_mul, i3_neg, i6_add, i6_sub, i6_mul, i6_neg, i6_I, i3_toInt, i6_toInt, i3_lt, i3_le, i3_eq, i6_lt, i6_le, i6_eq, i3_eq0, i3_eq1, i3_lt0, i3_le0, i3_gt0, i3_ge0, i6_eq0, i3_div, i6_div, i3_rem, i6_rem, i3_L, i3_nat, i3_inI, ax_up3, ax_up6]
    refine ⟨fun b1 => ?_, fun b1 => ?_⟩
    · rw [show lowG (shZ V h) i p cnt (n + 1) = lowG (shZ V h) i (p + 1) cnt n by rw [lowG, if_neg b1]]
      exact ih (p + 1) cnt (by omega) h2 (by omega) (by omega)
    · have b1' : lowB (shZ V h) p = true := by
        by_cases q : lowB (shZ V h) p = true
        · exact q
        · exact absurd q b1
      refine ⟨fun b2 => ?_, fun b2 => mqc0 (by rw [lowG, if_pos b1', if_pos b2]) hM c hF⟩
      rw [show lowG (shZ V h) i p cnt (n + 1) = lowG (shZ V h) i (p + 1) (cnt + 1) n by rw [lowG, if_pos b1', if_neg b2]]
      exact ih (p + 1) (cnt + 1) (by omega) (by omega) (by omega) (by omega)
theorem m8_lowOf {X : ax_X} {o z : Nat} {V : Nat → Int → Int} {f : ax_F} {h i : Int} (hM : MH X o V f) (hI : mInv V) (hh : 0 ≤ h) (hh' : h < 48) (hi : -2147483648 ≤ i) (hi' : i < 2147483648) :
    ax_M X mX8_lowOf 0 0 [.ref o, .int (i3 h), .int (i3 i)] z f (mqc X o f z (some (.int (i3 (mLow V h i)))) V) := by
  refine ax_met2 [some (.ref o), some (.int (i3 h)), some (.int (i3 i)), none, none] (by decide) (Nat.le_of_ble_eq_true rfl) rfl ?_
  refine sbX8_lowOf_0 X 0 0 _ _ _ _ _ _ _ ?_
  have m0 : f o = some (.inr (7, [.ref (o + 1), .ref (o + 2), .ref (o + 3), .ref (o + 4), .ref (o + 5), .ref (o + 6), .ref (o + 7), .ref (o + 8), .int (i3 (V 0 8)), .ref (o + 9), .ref (o + 10), .ref (o + 11), .ref (o + 12), .ref (o + 13), .int (i3 (V 0 14)), .ref (o + 14), .ref (o + 15), .ref (o + 16), .ref (o + 17), .int (i3 (V 0 19)), .ref (o + 18), .int (i3 (V 0 21)), .ref (o + 19), .long (i6 (V 0 23)), .ref (o + 20), .ref (o + 21), .ref (o + 22), .ref (o + 23), .int (i3 (V 0 28)), .long (i6 (V 0 29)), .long (i6 (V 0 30)), .ref (o + 24), .ref (o + 25)])) := hM 0 (by decide)
  simp (disch := omega) only [bkX8_lowOf_0, ax_ic, ax_lc, ax_nul, ax_il, ax_ll, ax_al, ax_is, ax_ls, ax_as, ax_inc, ax_iadd, ax_isub, ax_imul, ax_iand, ax_ior, ax_idiv, ax_irem, ax_ishl, ax_ishr, ax_ladd, ax_lsub, ax_lmul, ax_ldiv, ax_lrem, ax_ineg, ax_lneg, ax_i2l, ax_l2i, ax_lcmp, ax_dup, ax_pop1, ax_dupx1, ax_dup2, ax_ifeq, ax_ifne, ax_iflt, ax_ifge, ax_ifgt, ax_ifle, ax_iceq, ax_icne, ax_iclt, ax_icge, ax_icgt, ax_icle, ax_ifnull, ax_ifnn, ax_sw, ax_iret, ax_zret, ax_lret, ax_vret, ax_aret, ax_gf, ax_pfi, ax_pfz, ax_pfl, ax_pfr, ax_iald, ax_zald, ax_lald, ax_aald, ax_iast, ax_zast, ax_last, ax_aast, ax_alen, ax_ialdR, ax_alenR, ax_gst, ax_new, ax_nwi, ax_nwl, ax_nwq, ax_obj, ax_call, ax_calv, ax_nth, ax_p1, ax_p2, ax_k2, ax_nh, Value.category, lg_cmp_ge, lg_cmp_lt, lg_cmp_gt, lg_cmp_le, lg_cmp_eq, List.getElem?_cons_zero, List.getElem?_cons_succ, true_and, and_true, if_true, if_false, reduceIte, Nat.reduceEqDiff, Nat.add_eq_zero_iff, reduceCtorEq, Nat.reduceAdd, not_true_eq_false, not_false_eq_true, ax_pf, ax_popn, fv_in, fv_size, fv_drop, fv_within, fv_part, fv_cut, fv_sq, fv_absI, fv_absJ, fv_maxI, fv_minI, fv_maxJ, fv_minJ, List.map_cons, List.map_nil, List.sum_cons, List.sum_nil, Nat.reduceLeDiff, Nat.zero_le, Nat.le_refl, zb_0, zb_1, zb_em, true_or, or_true, Int32.toInt_toInt64, Nat.add_zero, fv_isGlass, fv_mayBe, fv_isReading8, fv_isHour8, fv_isPoint, fv_isReading7, fv_isRoom, fv_isWarmth, fv_isHour7, fv_isOnMap, fv_holds, fv_held, tm_eq, i3_add, i3_sub, i3_mul, i3_neg, i6_add, i6_sub, i6_mul, i6_neg, i6_I, i3_toInt, i6_toInt, i3_lt, i3_le, i3_eq, i6_lt, i6_le, i6_eq, i3_eq0, i3_eq1, i3_lt0, i3_le0, i3_gt0, i3_ge0, i6_eq0, i3_div, i6_div, i3_rem, i6_rem, i3_L, i3_nat, i3_inI, ax_up3, ax_up6, m0]
  refine ⟨⟨_, m0⟩, ax_fn (Nat.le_of_ble_eq_true rfl) (Nat.zero_le _) (Nat.zero_le _) (m8_hasAny hM hI (by omega) (by omega) (by omega) (by omega)) ?_⟩
  simp (disch := omega) only [ax_ic, ax_lc, ax_nul, ax_il, ax_ll, ax_al, ax_is, ax_ls, ax_as, ax_inc, ax_iadd, ax_isub, ax_imul, ax_iand, ax_ior, ax_idiv, ax_irem, ax_ishl, ax_ishr, ax_ladd, ax_lsub, ax_lmul, ax_ldiv, ax_lrem, ax_ineg, ax_lneg, ax_i2l, ax_l2i, ax_lcmp, ax_dup, ax_pop1, ax_dupx1, ax_dup2, ax_ifeq, ax_ifne, ax_iflt, ax_ifge, ax_ifgt, ax_ifle, ax_iceq, ax_icne, ax_iclt, ax_icge, ax_icgt, ax_icle, ax_ifnull, ax_ifnn, ax_sw, ax_iret, ax_zret, ax_lret, ax_vret, ax_aret, ax_gf, ax_pfi, ax_pfz, ax_pfl, ax_pfr, ax_iald, ax_zald, ax_lald, ax_aald, ax_iast, ax_zast, ax_last, ax_aast, ax_alen, ax_ialdR, ax_alenR, ax_gst, ax_new, ax_nwi, ax_nwl, ax_nwq, ax_obj, ax_call, ax_calv, ax_nth, ax_p1, ax_p2, ax_k2, ax_nh, Value.category, lg_cmp_ge, lg_cmp_lt, lg_cmp_gt, lg_cmp_le, lg_cmp_eq, List.getElem?_cons_zero, List.getElem?_cons_succ, true_and, and_true, if_true, if_false, reduceIte, Nat.reduceEqDiff, Nat.add_eq_zero_iff, reduceCtorEq, Nat.reduceAdd, not_true_eq_false, not_false_eq_true, ax_pf, ax_popn, fv_in, fv_size, fv_drop, fv_within, fv_part, fv_cut, fv_sq, fv_absI, fv_absJ, fv_maxI, fv_minI, fv_maxJ, fv_minJ, List.map_cons, List.map_nil, List.sum_cons, List.sum_nil, Nat.reduceLeDiff, Nat.zero_le, Nat.le_refl, zb_0, zb_1, zb_em, true_or, or_true, Int32.toInt_toInt64, Nat.add_zero, fv_isGlass, fv_mayBe, fv_isReading8, fv_isHour8, fv_isPoint, fv_isReading7, fv_isRoom, fv_isWarmth, fv_isHour7, fv_isOnMap, fv_holds, fv_held, tm_eq, i3_add, i3_sub, i3_mul, i3_neg, i6_add, i6_sub, i6_mul, i6_neg, i6_I, i3_toInt, i6_toInt, i3_lt, i3_le, i3_eq, i6_lt, i6_le, i6_eq, i3_eq0, i3_eq1, i3_lt0, i3_le0, i3_gt0, i3_ge0, i6_eq0, i3_div, i6_div, i3_rem, i6_rem, i3_L, i3_nat, i3_inI, ax_up3, ax_up6]
  unfold mLow
  refine ⟨fun b => ?_, fun b => ?_⟩
  · have b' : anyB V h (-1) (V 0 8).toNat = true := by
      by_cases q : anyB V h (-1) (V 0 8).toNat = true
      · exact q
      · exact absurd q b
    rw [if_pos b']
    refine ⟨⟨_, m0⟩, Nat.le_of_ble_eq_true rfl, 0, 0, _, m8_findSheet hM hI hh hh' b', Nat.zero_le _, Nat.zero_le _, fun v z' f1 hq => ?_⟩
    obtain ⟨rfl, rfl, ⟨V', c, hs, hM1⟩, hF1⟩ := hq
    simp (disch := omega) only [ax_ic, ax_lc, ax_nul, ax_il, ax_ll, ax_al, ax_is, ax_ls, ax_as, ax_inc, ax_iadd, ax_isub, ax_imul, ax_iand, ax_ior, ax_idiv, ax_irem, ax_ishl, ax_ishr, ax_ladd, ax_lsub, ax_lmul, ax_ldiv, ax_lrem, ax_ineg, ax_lneg, ax_i2l, ax_l2i, ax_lcmp, ax_dup, ax_pop1, ax_dupx1, ax_dup2, ax_ifeq, ax_ifne, ax_iflt, ax_ifge, ax_ifgt, ax_ifle, ax_iceq, ax_icne, ax_iclt, ax_icge, ax_icgt, ax_icle, ax_ifnull, ax_ifnn, ax_sw, ax_iret, ax_zret, ax_lret, ax_vret, ax_aret, ax_gf, ax_pfi, ax_pfz, ax_pfl, ax_pfr, ax_iald, ax_zald, ax_lald, ax_aald, ax_iast, ax_zast, ax_last, ax_aast, ax_alen, ax_ialdR, ax_alenR, ax_gst, ax_new, ax_nwi, ax_nwl, ax_nwq, ax_obj, ax_call, ax_calv, ax_nth, ax_p1, ax_p2, ax_k2, ax_nh, Value.category, lg_cmp_ge, lg_cmp_lt, lg_cmp_gt, lg_cmp_le, lg_cmp_eq, List.getElem?_cons_zero, List.getElem?_cons_succ, true_and, and_true, if_true, if_false, reduceIte, Nat.reduceEqDiff, Nat.add_eq_zero_iff, reduceCtorEq, Nat.reduceAdd, not_true_eq_false, not_false_eq_true, Option.toList, List.nil_append]
    exact m8_lowOf_loop hI c hs hM1 hF1 hi hi' 64 0 0 (by omega) (by omega) (by omega) (by omega)
  · rw [if_neg b]
    exact ⟨fun q => mqc0 (by rw [if_neg q]) hM core.rfl MF.rfl, fun q => mqc0 (by rw [if_pos q]) hM core.rfl MF.rfl⟩
/-- a call that keeps what calls show -/
theorem ax_fc {X : ax_X} {mi' : ax_MI} {mc ms : Nat} {k : ax_P} {ls : List (Option Value)} {as r : List Value} {c n z o : Nat} {f f0 : ax_F} {w : Option Value} {V0 V : Nat → Int → Int} (h1 : (r.map fun v => v.category).sum ≤ 8) (hc : c ≤ mc) (hn : n ≤ ms) (hV : core V0 V) (hF : MF o f0 f) (hM : ax_M X mi' 0 0 as z f (mqc X o f z w V)) (hk : ∀ (V' : Nat → Int → Int) (f' : ax_F), core V0 V' → MH X o V' f' → MF o f0 f' → k ls (w.toList ++ r) c n z f') : ax_cont X mi' mc ms k ls as r c n z f :=
  ⟨h1, 0, 0, _, hM, hc, hn, fun v z' f' h => by obtain ⟨rfl, rfl, ⟨V', a, b⟩, h4⟩ := h; exact hk V' f' (hV.trans a) b (hF.trans h4)⟩
theorem m8_low {X : ax_X} {o z : Nat} {V : Nat → Int → Int} {f : ax_F} {h i : Int} (hM : MH X o V f) (hI : mInv V) (hh : -2147483648 ≤ h) (hh' : h < 2147483648) (hi : -2147483648 ≤ i) (hi' : i < 2147483648) :
    ax_M X mX8_low 0 0 [.ref o, .int (i3 h), .int (i3 i)] z f (mqc X o f z (some (.int (i3 (if 0 ≤ h ∧ h ≤ 47 then mLow V h i else -2)))) V) := by
  refine ax_met2 [some (.ref o), some (.int (i3 h)), some (.int (i3 i))] (by decide) (Nat.le_of_ble_eq_true rfl) rfl ?_
  refine sbX8_low_0 X 0 0 _ _ _ _ _ _ _ ?_
  have m0 : f o = some (.inr (7, [.ref (o + 1), .ref (o + 2), .ref (o + 3), .ref (o + 4), .ref (o + 5), .ref (o + 6), .ref (o + 7), .ref (o + 8), .int (i3 (V 0 8)), .ref (o + 9), .ref (o + 10), .ref (o + 11), .ref (o + 12), .ref (o + 13), .int (i3 (V 0 14)), .ref (o + 14), .ref (o + 15), .ref (o + 16), .ref (o + 17), .int (i3 (V 0 19)), .ref (o + 18), .int (i3 (V 0 21)), .ref (o + 19), .long (i6 (V 0 23)), .ref (o + 20), .ref (o + 21), .ref (o + 22), .ref (o + 23), .int (i3 (V 0 28)), .long (i6 (V 0 29)), .long (i6 (V 0 30)), .ref (o + 24), .ref (o + 25)])) := hM 0 (by decide)
  simp (disch := omega) only [bkX8_low_0, ax_ic, ax_lc, ax_nul, ax_il, ax_ll, ax_al, ax_is, ax_ls, ax_as, ax_inc, ax_iadd, ax_isub, ax_imul, ax_iand, ax_ior, ax_idiv, ax_irem, ax_ishl, ax_ishr, ax_ladd, ax_lsub, ax_lmul, ax_ldiv, ax_lrem, ax_ineg, ax_lneg, ax_i2l, ax_l2i, ax_lcmp, ax_dup, ax_pop1, ax_dupx1, ax_dup2, ax_ifeq, ax_ifne, ax_iflt, ax_ifge, ax_ifgt, ax_ifle, ax_iceq, ax_icne, ax_iclt, ax_icge, ax_icgt, ax_icle, ax_ifnull, ax_ifnn, ax_sw, ax_iret, ax_zret, ax_lret, ax_vret, ax_aret, ax_gf, ax_pfi, ax_pfz, ax_pfl, ax_pfr, ax_iald, ax_zald, ax_lald, ax_aald, ax_iast, ax_zast, ax_last, ax_aast, ax_alen, ax_ialdR, ax_alenR, ax_gst, ax_new, ax_nwi, ax_nwl, ax_nwq, ax_obj, ax_call, ax_calv, ax_nth, ax_p1, ax_p2, ax_k2, ax_nh, Value.category, lg_cmp_ge, lg_cmp_lt, lg_cmp_gt, lg_cmp_le, lg_cmp_eq, List.getElem?_cons_zero, List.getElem?_cons_succ, true_and, and_true, if_true, if_false, reduceIte, Nat.reduceEqDiff, Nat.add_eq_zero_iff, reduceCtorEq, Nat.reduceAdd, not_true_eq_false, not_false_eq_true, ax_pf, ax_popn, fv_in, fv_size, fv_drop, fv_within, fv_part, fv_cut, fv_sq, fv_absI, fv_absJ, fv_maxI, fv_minI, fv_maxJ, fv_minJ, List.map_cons, List.map_nil, List.sum_cons, List.sum_nil, Nat.reduceLeDiff, Nat.zero_le, Nat.le_refl, zb_0, zb_1, zb_em, true_or, or_true, Int32.toInt_toInt64, Nat.add_zero, fv_isGlass, fv_mayBe, fv_isReading8, fv_isHour8, fv_isPoint, fv_isReading7, fv_isRoom, fv_isWarmth, fv_isHour7, fv_isOnMap, fv_holds, fv_held, tm_eq, i3_add, i3_sub, i3_mul, i3_neg, i6_add, i6_sub, i6_mul, i6_neg, i6_I, i3_toInt, i6_toInt, i3_lt, i3_le, i3_eq, i6_lt, i6_le, i6_eq, i3_eq0, i3_eq1, i3_lt0, i3_le0, i3_gt0, i3_ge0, i6_eq0, i3_div, i6_div, i3_rem, i6_rem, i3_L, i3_nat, i3_inI, ax_up3, ax_up6, m0]
  refine ⟨fun b => mqc0 (by rw [if_neg b]) hM core.rfl MF.rfl, fun b => ?_⟩
  refine ⟨⟨_, m0⟩, ax_fc (Nat.le_of_ble_eq_true rfl) (Nat.zero_le _) (Nat.zero_le _) core.rfl MF.rfl (m8_lowOf hM hI (by omega) (by omega) hi hi') (fun V' f' c hM1 hF1 => ?_)⟩
  simp (disch := omega) only [ax_ic, ax_lc, ax_nul, ax_il, ax_ll, ax_al, ax_is, ax_ls, ax_as, ax_inc, ax_iadd, ax_isub, ax_imul, ax_iand, ax_ior, ax_idiv, ax_irem, ax_ishl, ax_ishr, ax_ladd, ax_lsub, ax_lmul, ax_ldiv, ax_lrem, ax_ineg, ax_lneg, ax_i2l, ax_l2i, ax_lcmp, ax_dup, ax_pop1, ax_dupx1, ax_dup2, ax_ifeq, ax_ifne, ax_iflt, ax_ifge, ax_ifgt, ax_ifle, ax_iceq, ax_icne, ax_iclt, ax_icge, ax_icgt, ax_icle, ax_ifnull, ax_ifnn, ax_sw, ax_iret, ax_zret, ax_lret, ax_vret, ax_aret, ax_gf, ax_pfi, ax_pfz, ax_pfl, ax_pfr, ax_iald, ax_zald, ax_lald, ax_aald, ax_iast, ax_zast, ax_last, ax_aast, ax_alen, ax_ialdR, ax_alenR, ax_gst, ax_new, ax_nwi, ax_nwl, ax_nwq, ax_obj, ax_call, ax_calv, ax_nth, ax_p1, ax_p2, ax_k2, ax_nh, Value.category, lg_cmp_ge, lg_cmp_lt, lg_cmp_gt, lg_cmp_le, lg_cmp_eq, List.getElem?_cons_zero, List.getElem?_cons_succ, true_and, and_true, if_true, if_false, reduceIte, Nat.reduceEqDiff, Nat.add_eq_zero_iff, reduceCtorEq, Nat.reduceAdd, not_true_eq_false, not_false_eq_true, Option.toList, List.cons_append, List.nil_append]
  exact mqc0 (by rw [if_pos (by omega)]) hM1 c hF1
theorem lvO_core {V V' : Nat → Int → Int} (c : core V V') (s h : Int) : lvO V' s h = lvO V s h := by
  unfold lvO
  rw [mLvl_core c, c.1 9 (by omega) (by omega)]
theorem mFld_core {V V' : Nat → Int → Int} (c : core V V') (h x y wo : Int) : mFld V' h x y wo = mFld V h x y wo := by
  unfold mFld fldZ
  rw [c.2.1, fS_core c, fW_core c]
  congr 2
  funext s
  exact lvO_core c s h
theorem shZ_core {V V' : Nat → Int → Int} (c : core V V') (h : Int) : shZ V' h = shZ V h := by
  funext p
  exact mFld_core c _ _ _ _
theorem mLow_core {V V' : Nat → Int → Int} (c : core V V') (h i : Int) : mLow V' h i = mLow V h i := by
  unfold mLow
  rw [c.2.1, anyB_core c, shZ_core c]
def sqZ (a b : Int) : Int := (a.tmod 8 - b.tmod 8) * (a.tmod 8 - b.tmod 8) + (a.tdiv 8 - b.tdiv 8) * (a.tdiv 8 - b.tdiv 8)
theorem tm_bd {a : Int} (h1 : -64 ≤ a) (h2 : a ≤ 64) : -7 ≤ a.tmod 8 ∧ a.tmod 8 ≤ 7 ∧ -8 ≤ a.tdiv 8 ∧ a.tdiv 8 ≤ 8 := by
  rcases Int.le_total 0 a with h | h
  · rw [Int.tmod_eq_emod_of_nonneg h, Int.tdiv_eq_ediv_of_nonneg h]
    omega
  · have e : a.tdiv 8 = -((-a).tdiv 8) := by rw [Int.neg_tdiv, Int.neg_neg]
    have e2 : a.tmod 8 = -((-a).tmod 8) := by rw [Int.neg_tmod, Int.neg_neg]
    rw [e, e2, Int.tmod_eq_emod_of_nonneg (by omega), Int.tdiv_eq_ediv_of_nonneg (by omega)]
    omega
theorem sqZ_rng {a b : Int} (h1 : -64 ≤ a) (h2 : a ≤ 64) (h3 : -64 ≤ b) (h4 : b ≤ 64) : 0 ≤ sqZ a b ∧ sqZ a b ≤ 500 := by
  have x := tm_bd h1 h2
  have y := tm_bd h3 h4
  have p := mul_bd (x := a.tmod 8 - b.tmod 8) (y := a.tmod 8 - b.tmod 8) (A := 14) (B := 14) (by omega) (by omega) (by omega) (by omega)
  have q := mul_bd (x := a.tdiv 8 - b.tdiv 8) (y := a.tdiv 8 - b.tdiv 8) (A := 16) (B := 16) (by omega) (by omega) (by omega) (by omega)
  have p0 := sq_nn (a.tmod 8 - b.tmod 8)
  have q0 := sq_nn (a.tdiv 8 - b.tdiv 8)
  unfold sqZ
  omega
/-- the nearest low: best and its square, of the first k -/
noncomputable def nrZ (V : Nat → Int → Int) (h p : Int) : Nat → Int × Int
  | 0 => (-6, 9)
  | k + 1 => if sqZ (mLow V h k) p < (nrZ V h p k).2 then (mLow V h k, sqZ (mLow V h k) p) else nrZ V h p k
theorem nrZ_rng (V : Nat → Int → Int) (h p : Int) (h1 : -64 ≤ p) (h2 : p ≤ 64) : ∀ k : Nat, -6 ≤ (nrZ V h p k).1 ∧ (nrZ V h p k).1 ≤ 64 ∧ 0 ≤ (nrZ V h p k).2 ∧ (nrZ V h p k).2 ≤ 9
  | 0 => by simp [nrZ]
  | k + 1 => by
    have ih := nrZ_rng V h p h1 h2 k
    have m := mLow_rng V h k
    have s := sqZ_rng (a := mLow V h k) (b := p) (by omega) (by omega) h1 h2
    unfold nrZ
    split
    · exact ⟨m.1, m.2, s.1, by omega⟩
    · exact ih
noncomputable def mNear (V : Nat → Int → Int) (h p : Int) : Int := (nrZ V h p (mLow V h (-1)).toNat).1
theorem m8_nearest_loop {X : ax_X} {o z : Nat} {V : Nat → Int → Int} {f0 : ax_F} {h p N : Int} (hI : mInv V) (hh : 0 ≤ h) (hh' : h < 48) (hp : -64 ≤ p) (hp' : p ≤ 64) (hN : -6 ≤ N) (hN' : N ≤ 64) :
    ∀ (n k : Nat) (V' : Nat → Int → Int) (f : ax_F) (q7 q8 q9 : Option Value), k + n ≤ 64 → ((k : Int) + n = N ∨ (n = 0 ∧ N ≤ k)) → core V V' → MH X o V' f → MF o f0 f → ax_k2 q7 = q7 → ax_k2 q8 = q8 → ax_G X mX8_nearest 0 0 (mqc X o f0 z (some (.int (i3 (nrZ V h p (k + n)).1))) V) 18 [some (.ref o), some (.int (i3 h)), some (.int (i3 p)), some (.int (i3 (nrZ V h p k).1)), some (.int (i3 (nrZ V h p k).2)), some (.int (i3 N)), some (.int (i3 k)), q7, q8, q9] [] 0 0 z f := by
  intro n
  induction n with
  | zero =>
    intro k V' f q7 q8 q9 hk6 hk c hM hF e7 e8
    have r := nrZ_rng V h p hp hp' k
    refine sbX8_nearest_18 X 0 0 _ _ _ _ _ _ _ ?_
    simp (disch := omega) only [bkX8_nearest_18, ax_ic, ax_lc, ax_nul, ax_il, ax_ll, ax_al, ax_is, ax_ls, ax_as, ax_inc, ax_iadd, ax_isub, ax_imul, ax_iand, ax_ior, ax_idiv, ax_irem, ax_ishl, ax_ishr, ax_ladd, ax_lsub, ax_lmul, ax_ldiv, ax_lrem, ax_ineg, ax_lneg, ax_i2l, ax_l2i, ax_lcmp, ax_dup, ax_pop1, ax_dupx1, ax_dup2, ax_ifeq, ax_ifne, ax_iflt, ax_ifge, ax_ifgt, ax_ifle, ax_iceq, ax_icne, ax_iclt, ax_icge, ax_icgt, ax_icle, ax_ifnull, ax_ifnn, ax_sw, ax_iret, ax_zret, ax_lret, ax_vret, ax_aret, ax_gf, ax_pfi, ax_pfz, ax_pfl, ax_pfr, ax_iald, ax_zald, ax_lald, ax_aald, ax_iast, ax_zast, ax_last, ax_aast, ax_alen, ax_ialdR, ax_alenR, ax_gst, ax_new, ax_nwi, ax_nwl, ax_nwq, ax_obj, ax_call, ax_calv, ax_nth, ax_p1, ax_p2, ax_k2, ax_nh, Value.category, lg_cmp_ge, lg_cmp_lt, lg_cmp_gt, lg_cmp_le, lg_cmp_eq, List.getElem?_cons_zero, List.getElem?_cons_succ, true_and, and_true, if_true, if_false, reduceIte, Nat.reduceEqDiff, Nat.add_eq_zero_iff, reduceCtorEq, Nat.reduceAdd, not_true_eq_false, not_false_eq_true, ax_pf, ax_popn, fv_in, fv_size, fv_drop, fv_within, fv_part, fv_cut, fv_sq, fv_absI, fv_absJ, fv_maxI, fv_minI, fv_maxJ, fv_minJ, List.map_cons, List.map_nil, List.sum_cons, List.sum_nil, Nat.reduceLeDiff, Nat.zero_le, Nat.le_refl, zb_0, zb_1, zb_em, true_or, or_true, Int32.toInt_toInt64, Nat.add_zero, fv_isGlass, fv_mayBe, fv_isReading8, fv_isHour8, fv_isPoint, fv_isReading7, fv_isRoom, fv_isWarmth, fv_isHour7, fv_isOnMap, fv_holds, fv_held, tm_eq, i3_add, i3_sub, i3_mul, i3_neg, i6_add, i6_sub, i6_mul, i6_neg, i6_I, i3_toInt, i6_toInt, i3_lt, i3_le, i3_eq, i6_lt, i6_le, i6_eq, i3_eq0, i3_eq1, i3_lt0, i3_le0, i3_gt0, i3_ge0, i6_eq0, i3_div, i6_div, i3_rem, i6_rem, i3_L, i3_nat, i3_inI, ax_up3, ax_up6]
    exact ⟨fun _ => mqc0 rfl hM c hF, fun q => absurd (by omega) q⟩
  | succ n ih =>
    intro k V' f q7 q8 q9 hk6 hk c hM hF e7 e8
    have r := nrZ_rng V h p hp hp' k
    have m0 : f o = some (mce X o 0 (V' 0)) := hM 0 (by decide)
    have ml := mLow_rng V h k
    have x := tm_bd (a := mLow V h k) (by omega) (by omega)
    have y := tm_bd (a := p) (by omega) (by omega)
    have sq := sqZ_rng (a := mLow V h k) (b := p) (by omega) (by omega) hp hp'
    have pp := mul_bd (x := (mLow V h k).tmod 8 - p.tmod 8) (y := (mLow V h k).tmod 8 - p.tmod 8) (A := 14) (B := 14) (by omega) (by omega) (by omega) (by omega)
    have qq := mul_bd (x := (mLow V h k).tdiv 8 - p.tdiv 8) (y := (mLow V h k).tdiv 8 - p.tdiv 8) (A := 16) (B := 16) (by omega) (by omega) (by omega) (by omega)
    refine sbX8_nearest_18 X 0 0 _ _ _ _ _ _ _ ?_
    simp (disch := omega) only [bkX8_nearest_18, ax_ic, ax_lc, ax_nul, ax_il, ax_ll, ax_al, ax_is, ax_ls, ax_as, ax_inc, ax_iadd, ax_isub, ax_imul, ax_iand, ax_ior, ax_idiv, ax_irem, ax_ishl, ax_ishr, ax_ladd, ax_lsub, ax_lmul, ax_ldiv, ax_lrem, ax_ineg, ax_lneg, ax_i2l, ax_l2i, ax_lcmp, ax_dup, ax_pop1, ax_dupx1, ax_dup2, ax_ifeq, ax_ifne, ax_iflt, ax_ifge, ax_ifgt, ax_ifle, ax_iceq, ax_icne, ax_iclt, ax_icge, ax_icgt, ax_icle, ax_ifnull, ax_ifnn, ax_sw, ax_iret, ax_zret, ax_lret, ax_vret, ax_aret, ax_gf, ax_pfi, ax_pfz, ax_pfl, ax_pfr, ax_iald, ax_zald, ax_lald, ax_aald, ax_iast, ax_zast, ax_last, ax_aast, ax_alen, ax_ialdR, ax_alenR, ax_gst, ax_new, ax_nwi, ax_nwl, ax_nwq, ax_obj, ax_call, ax_calv, ax_nth, ax_p1, ax_p2, ax_k2, ax_nh, Value.category, lg_cmp_ge, lg_cmp_lt, lg_cmp_gt, lg_cmp_le, lg_cmp_eq, List.getElem?_cons_zero, List.getElem?_cons_succ, true_and, and_true, if_true, if_false, reduceIte, Nat.reduceEqDiff, Nat.add_eq_zero_iff, reduceCtorEq, Nat.reduceAdd, not_true_eq_false, not_false_eq_true, ax_pf, ax_popn, fv_in, fv_size, fv_drop, fv_within, fv_part, fv_cut, fv_sq, fv_absI, fv_absJ, fv_maxI, fv_minI, fv_maxJ, fv_minJ, List.map_cons, List.map_nil, List.sum_cons, List.sum_nil, Nat.reduceLeDiff, Nat.zero_le, Nat.le_refl, zb_0, zb_1, zb_em, true_or, or_true, Int32.toInt_toInt64, Nat.add_zero, fv_isGlass, fv_mayBe, fv_isReading8, fv_isHour8, fv_isPoint, fv_isReading7, fv_isRoom, fv_isWarmth, fv_isHour7, fv_isOnMap, fv_holds, fv_held, tm_eq, i3_add, i3_sub, i3_mul, i3_neg, i6_add, i6_sub, i6_mul, i6_neg, i6_I, i3_toInt, i6_toInt, i3_lt, i3_le, i3_eq, i6_lt, i6_le, i6_eq, i3_eq0, i3_eq1, i3_lt0, i3_le0, i3_gt0, i3_ge0, i6_eq0, i3_div, i6_div, i3_rem, i6_rem, i3_L, i3_nat, i3_inI, ax_up3, ax_up6]
    refine ⟨fun q => absurd q (by omega), fun _ => ?_⟩
    refine ⟨⟨_, m0⟩, ax_fc (Nat.le_of_ble_eq_true rfl) (Nat.zero_le _) (Nat.zero_le _) c hF (m8_lowOf (i := (k : Int)) hM (c.inv hI) hh hh' (by omega) (by omega)) (fun V2 f2 c2 hM2 hF2 => ?_)⟩
    rw [mLow_core c]
    have se : ((mLow V h k).tmod 8 - p.tmod 8) * ((mLow V h k).tmod 8 - p.tmod 8) + ((mLow V h k).tdiv 8 - p.tdiv 8) * ((mLow V h k).tdiv 8 - p.tdiv 8) = sqZ (mLow V h k) p := rfl
    simp (disch := omega) only [ax_ic, ax_lc, ax_nul, ax_il, ax_ll, ax_al, ax_is, ax_ls, ax_as, ax_inc, ax_iadd, ax_isub, ax_imul, ax_iand, ax_ior, ax_idiv, ax_irem, ax_ishl, ax_ishr, ax_ladd, ax_lsub, ax_lmul, ax_ldiv, ax_lrem, ax_ineg, ax_lneg, ax_i2l, ax_l2i, ax_lcmp, ax_dup, ax_pop1, ax_dupx1, ax_dup2, ax_ifeq, ax_ifne, ax_iflt, ax_ifge, ax_ifgt, ax_ifle, ax_iceq, ax_icne, ax_iclt, ax_icge, ax_icgt, ax_icle, ax_ifnull, ax_ifnn, ax_sw, ax_iret, ax_zret, ax_lret, ax_vret, ax_aret, ax_gf, ax_pfi, ax_pfz, ax_pfl, ax_pfr, ax_iald, ax_zald, ax_lald, ax_aald, ax_iast, ax_zast, ax_last, ax_aast, ax_alen, ax_ialdR, ax_alenR, ax_gst, ax_new, ax_nwi, ax_nwl, ax_nwq, ax_obj, ax_call, ax_calv, ax_nth, ax_p1, ax_p2, ax_k2, ax_nh, Value.category, lg_cmp_ge, lg_cmp_lt, lg_cmp_gt, lg_cmp_le, lg_cmp_eq, List.getElem?_cons_zero, List.getElem?_cons_succ, true_and, and_true, if_true, if_false, reduceIte, Nat.reduceEqDiff, Nat.add_eq_zero_iff, reduceCtorEq, Nat.reduceAdd, not_true_eq_false, not_false_eq_true, ax_pf, ax_popn, fv_in, fv_size, fv_drop, fv_within, fv_part, fv_cut, fv_sq, fv_absI, fv_absJ, fv_maxI, fv_minI, fv_maxJ, fv_minJ, List.map_cons, List.map_nil, List.sum_cons, List.sum_nil, Nat.reduceLeDiff, Nat.zero_le, Nat.le_refl, zb_0, zb_1, zb_em, true_or, or_true, Int32.toInt_toInt64, Nat.add_zero, fv_isGlass, fv_mayBe, fv_isReading8, fv_isHour8, fv_isPoint, fv_isReading7, fv_isRoom, fv_isWarmth, fv_isHour7, fv_isOnMap, fv_holds, fv_held, tm_eq, i3_add, i3_sub, i3_mul, i3_neg, i6_add, i6_sub, i6_mul, i6_neg, i6_I, i3_toInt, i6_toInt, i3_lt, i3_le, i3_eq, i6_lt, i6_le, i6_eq, i3_eq0, i3_eq1, i3_lt0, i3_le0, i3_gt0, i3_ge0, i6_eq0, i3_div, i6_div, i3_rem, i6_rem, i3_L, i3_nat, i3_inI, ax_up3, ax_up6, Option.toList, List.cons_append, List.nil_append, se]
    have nx := ih (k + 1) V2 f2
    rw [show k + 1 + n = k + (n + 1) by omega] at nx
    refine ⟨by omega, by omega, by omega, by omega, fun b => ?_, fun b => ?_⟩
    · have e := nx (some (.int (i3 (mLow V h k)))) (some (.int (i3 ((mLow V h k).tmod 8 - p.tmod 8)))) (some (.int (i3 ((mLow V h k).tdiv 8 - p.tdiv 8)))) (by omega) (by omega) c2 hM2 hF2 rfl rfl
      rw [show nrZ V h p (k + 1) = nrZ V h p k by rw [nrZ, if_neg (by omega)]] at e
      exact e
    · have e := nx (some (.int (i3 (mLow V h k)))) (some (.int (i3 ((mLow V h k).tmod 8 - p.tmod 8)))) (some (.int (i3 ((mLow V h k).tdiv 8 - p.tdiv 8)))) (by omega) (by omega) c2 hM2 hF2 rfl rfl
      rw [show nrZ V h p (k + 1) = (mLow V h k, sqZ (mLow V h k) p) by rw [nrZ, if_pos (by omega)]] at e
      exact e
theorem m8_nearest {X : ax_X} {o z : Nat} {V : Nat → Int → Int} {f : ax_F} {h p : Int} (hM : MH X o V f) (hI : mInv V) (hh : 0 ≤ h) (hh' : h < 48) (hp : -64 ≤ p) (hp' : p ≤ 64) :
    ax_M X mX8_nearest 0 0 [.ref o, .int (i3 h), .int (i3 p)] z f (mqc X o f z (some (.int (i3 (mNear V h p)))) V) := by
  have ml := mLow_rng V h (-1)
  refine ax_met2 [some (.ref o), some (.int (i3 h)), some (.int (i3 p)), none, none, none, none, none, none, none] (by decide) (Nat.le_of_ble_eq_true rfl) rfl ?_
  refine sbX8_nearest_0 X 0 0 _ _ _ _ _ _ _ ?_
  have m0 : f o = some (.inr (7, [.ref (o + 1), .ref (o + 2), .ref (o + 3), .ref (o + 4), .ref (o + 5), .ref (o + 6), .ref (o + 7), .ref (o + 8), .int (i3 (V 0 8)), .ref (o + 9), .ref (o + 10), .ref (o + 11), .ref (o + 12), .ref (o + 13), .int (i3 (V 0 14)), .ref (o + 14), .ref (o + 15), .ref (o + 16), .ref (o + 17), .int (i3 (V 0 19)), .ref (o + 18), .int (i3 (V 0 21)), .ref (o + 19), .long (i6 (V 0 23)), .ref (o + 20), .ref (o + 21), .ref (o + 22), .ref (o + 23), .int (i3 (V 0 28)), .long (i6 (V 0 29)), .long (i6 (V 0 30)), .ref (o + 24), .ref (o + 25)])) := hM 0 (by decide)
  simp (disch := omega) only [bkX8_nearest_0, ax_ic, ax_lc, ax_nul, ax_il, ax_ll, ax_al, ax_is, ax_ls, ax_as, ax_inc, ax_iadd, ax_isub, ax_imul, ax_iand, ax_ior, ax_idiv, ax_irem, ax_ishl, ax_ishr, ax_ladd, ax_lsub, ax_lmul, ax_ldiv, ax_lrem, ax_ineg, ax_lneg, ax_i2l, ax_l2i, ax_lcmp, ax_dup, ax_pop1, ax_dupx1, ax_dup2, ax_ifeq, ax_ifne, ax_iflt, ax_ifge, ax_ifgt, ax_ifle, ax_iceq, ax_icne, ax_iclt, ax_icge, ax_icgt, ax_icle, ax_ifnull, ax_ifnn, ax_sw, ax_iret, ax_zret, ax_lret, ax_vret, ax_aret, ax_gf, ax_pfi, ax_pfz, ax_pfl, ax_pfr, ax_iald, ax_zald, ax_lald, ax_aald, ax_iast, ax_zast, ax_last, ax_aast, ax_alen, ax_ialdR, ax_alenR, ax_gst, ax_new, ax_nwi, ax_nwl, ax_nwq, ax_obj, ax_call, ax_calv, ax_nth, ax_p1, ax_p2, ax_k2, ax_nh, Value.category, lg_cmp_ge, lg_cmp_lt, lg_cmp_gt, lg_cmp_le, lg_cmp_eq, List.getElem?_cons_zero, List.getElem?_cons_succ, true_and, and_true, if_true, if_false, reduceIte, Nat.reduceEqDiff, Nat.add_eq_zero_iff, reduceCtorEq, Nat.reduceAdd, not_true_eq_false, not_false_eq_true, ax_pf, ax_popn, fv_in, fv_size, fv_drop, fv_within, fv_part, fv_cut, fv_sq, fv_absI, fv_absJ, fv_maxI, fv_minI, fv_maxJ, fv_minJ, List.map_cons, List.map_nil, List.sum_cons, List.sum_nil, Nat.reduceLeDiff, Nat.zero_le, Nat.le_refl, zb_0, zb_1, zb_em, true_or, or_true, Int32.toInt_toInt64, Nat.add_zero, fv_isGlass, fv_mayBe, fv_isReading8, fv_isHour8, fv_isPoint, fv_isReading7, fv_isRoom, fv_isWarmth, fv_isHour7, fv_isOnMap, fv_holds, fv_held, tm_eq, i3_add, i3_sub, i3_mul, i3_neg, i6_add, i6_sub, i6_mul, i6_neg, i6_I, i3_toInt, i6_toInt, i3_lt, i3_le, i3_eq, i6_lt, i6_le, i6_eq, i3_eq0, i3_eq1, i3_lt0, i3_le0, i3_gt0, i3_ge0, i6_eq0, i3_div, i6_div, i3_rem, i6_rem, i3_L, i3_nat, i3_inI, ax_up3, ax_up6, m0]
  refine ⟨⟨_, m0⟩, ax_fc (Nat.le_of_ble_eq_true rfl) (Nat.zero_le _) (Nat.zero_le _) core.rfl MF.rfl (m8_lowOf hM hI hh hh' (by omega) (by omega)) (fun V' f' c hM1 hF1 => ?_)⟩
  simp (disch := omega) only [ax_ic, ax_lc, ax_nul, ax_il, ax_ll, ax_al, ax_is, ax_ls, ax_as, ax_inc, ax_iadd, ax_isub, ax_imul, ax_iand, ax_ior, ax_idiv, ax_irem, ax_ishl, ax_ishr, ax_ladd, ax_lsub, ax_lmul, ax_ldiv, ax_lrem, ax_ineg, ax_lneg, ax_i2l, ax_l2i, ax_lcmp, ax_dup, ax_pop1, ax_dupx1, ax_dup2, ax_ifeq, ax_ifne, ax_iflt, ax_ifge, ax_ifgt, ax_ifle, ax_iceq, ax_icne, ax_iclt, ax_icge, ax_icgt, ax_icle, ax_ifnull, ax_ifnn, ax_sw, ax_iret, ax_zret, ax_lret, ax_vret, ax_aret, ax_gf, ax_pfi, ax_pfz, ax_pfl, ax_pfr, ax_iald, ax_zald, ax_lald, ax_aald, ax_iast, ax_zast, ax_last, ax_aast, ax_alen, ax_ialdR, ax_alenR, ax_gst, ax_new, ax_nwi, ax_nwl, ax_nwq, ax_obj, ax_call, ax_calv, ax_nth, ax_p1, ax_p2, ax_k2, ax_nh, Value.category, lg_cmp_ge, lg_cmp_lt, lg_cmp_gt, lg_cmp_le, lg_cmp_eq, List.getElem?_cons_zero, List.getElem?_cons_succ, true_and, and_true, if_true, if_false, reduceIte, Nat.reduceEqDiff, Nat.add_eq_zero_iff, reduceCtorEq, Nat.reduceAdd, not_true_eq_false, not_false_eq_true, Option.toList, List.cons_append, List.nil_append]
  have e := m8_nearest_loop (z := z) (f0 := f) (N := mLow V h (-1)) hI hh hh' hp hp' ml.1 ml.2 (mLow V h (-1)).toNat 0 V' f' none none none (by omega) (by omega) c hM1 hF1 rfl rfl
  rw [Nat.zero_add] at e
  exact e
