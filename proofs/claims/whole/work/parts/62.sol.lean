section SOL
variable {X : ax_X} {r z : Nat} {V T : Nat → Int → Int} {f f0 : ax_F}
/-- a row after one difference -/
def arG (g : Int → Int) (own other w pull m : Int) : Int → Int := if other < 0 then ax_u (ax_u g own (g own + w)) m (ax_u g own (g own + w) m + pull) else ax_u (ax_u (ax_u g own (g own + w)) m (ax_u g own (g own + w) m + pull)) other (ax_u (ax_u g own (g own + w)) m (ax_u g own (g own + w) m + pull) other - w)
def atR (T : Nat → Int → Int) (own other w pull m : Int) : Nat → Int → Int := if own < 0 then T else mset T (20 + own.toNat) (arG (T (20 + own.toNat)) own other w pull m)
theorem arG_at {g : Int → Int} {own other w pull m j : Int} (h1 : 0 ≤ own) (h2 : own < m) (h3 : -1 ≤ other) (h4 : other < m) (h5 : own ≠ other) (hj : 0 ≤ j) : arG g own other w pull m j = g j + ((if j = own then w else 0) + (if j = m then pull else 0) - (if j = other then w else 0)) := by
  unfold arG ax_u
  by_cases a : j = own
  · rw [if_pos a, if_neg (show ¬ j = m by omega), if_neg (show ¬ j = other by omega)]
    split
    · dsimp only; rw [if_neg (show ¬ j = m by omega), if_pos a, a]; omega
    · dsimp only; rw [if_neg (show ¬ j = other by omega), if_neg (show ¬ j = m by omega), if_pos a, a]; omega
  · by_cases b : j = m
    · rw [if_neg a, if_pos b, if_neg (show ¬ j = other by omega)]
      split
      · dsimp only; rw [if_pos b, if_neg (show ¬ m = own by omega), b]; omega
      · dsimp only; rw [if_neg (show ¬ j = other by omega), if_pos b, if_neg (show ¬ m = own by omega), b]; omega
    · by_cases c : j = other
      · rw [if_neg a, if_neg b, if_pos c, if_neg (show ¬ other < 0 by omega), if_pos c, if_neg (show ¬ other = m by omega), if_neg (show ¬ other = own by omega), c]; omega
      · rw [if_neg a, if_neg b, if_neg c]
        split
        · dsimp only; rw [if_neg b, if_neg a]; omega
        · dsimp only; rw [if_neg c, if_neg b, if_neg a]; omega
theorem atR_at {own other w pull m j : Int} {k : Nat} (h1 : -1 ≤ own) (h2 : own < m) (h3 : -1 ≤ other) (h4 : other < m) (h5 : own ≠ other) (hm : m ≤ 5) (hk : k < 5) (hj : 0 ≤ j) : atR T own other w pull m (20 + k) j = T (20 + k) j + (if own = k then ((if j = own then w else 0) + (if j = m then pull else 0) - (if j = other then w else 0)) else 0) := by
  unfold atR
  by_cases a : own < 0
  · rw [if_pos a, if_neg (by omega), Int.add_zero]
  · rw [if_neg a]
    by_cases b : own = k
    · rw [if_pos b]
      subst b
      rw [show ((k : Int)).toNat = k by omega, mset_s]
      exact arG_at (by omega) h2 h3 h4 h5 hj
    · rw [if_neg b, mset_n (by omega), Int.add_zero]
theorem atR_n {own other w pull m : Int} (h2 : own < 5) {k : Nat} (hk : k < 20 ∨ 25 ≤ k) : atR T own other w pull m k = T k := by
  unfold atR
  split
  · rfl
  · exact mset_n (by omega)
theorem m6_addToRow (hR : RH X r T f) (hF : RF r f0 f) {own other w pull : Int} (hb : 2 ≤ T 14 0) (hb' : T 14 0 ≤ 6) (h1 : -1 ≤ own) (h2 : own < T 14 0 - 1) (h3 : -1 ≤ other) (h4 : other < T 14 0 - 1) (hw : 0 ≤ w) (hw' : w ≤ 9) :
    ax_M X mX6_addToRow 0 0 [.ref (r + 14), .int (i3 own), .int (i3 other), .int (i3 w), .long (i6 pull)] z f (rq X r f0 z none (atR T own other w pull (T 14 0 - 1))) := by
  have c14 : f (r + 14) = some (.inr (5, [.int (i3 (T 14 0)), .int (i3 (T 14 1)), .ref (r + 15), .ref (r + 16), .ref (r + 17), .ref (r + 18), .ref (r + 19), .ref (r + 25), .long (i6 (T 14 8)), .int (i3 (T 14 9))])) := hR 14 (Or.inl (by decide))
  have c19 : f (r + 19) = some (.inl (X.2.2.1 5, 5, .inr (.inr (.inr (.inr (qRw r)))))) := hR 19 (Or.inl (by decide))
  refine ax_met2 [some (.ref (r + 14)), some (.int (i3 own)), some (.int (i3 other)), some (.int (i3 w)), some (.long (i6 pull)), none] (by decide) (Nat.le_of_ble_eq_true rfl) rfl ?_
  refine sbX6_addToRow_0 X 0 0 _ _ _ _ _ _ _ ?_
  simp (disch := omega) only [bkX6_addToRow_0, ax_ic, ax_lc, ax_nul, ax_il, ax_ll, ax_al, ax_is, ax_ls, ax_as, ax_inc, ax_iadd, ax_isub, ax_imul, ax_iand, ax_ior, ax_idiv, ax_irem, ax_ishl, ax_ishr, ax_ladd, ax_lsub, ax_lmul, ax_ldiv, ax_lrem, ax_ineg, ax_lneg, ax_i2l, ax_l2i, ax_lcmp, ax_dup, ax_pop1, ax_dupx1, ax_dup2, ax_ifeq, ax_ifne, ax_iflt, ax_ifge, ax_ifgt, ax_ifle, ax_iceq, ax_icne, ax_iclt, ax_icge, ax_icgt, ax_icle, ax_ifnull, ax_ifnn, ax_sw, ax_iret, ax_zret, ax_lret, ax_vret, ax_aret, ax_gf, ax_pfi, ax_pfz, ax_pfl, ax_pfr, ax_iald, ax_zald, ax_lald, ax_aald, ax_iast, ax_zast, ax_last, ax_aast, ax_alen, ax_ialdR, ax_alenR, ax_gst, ax_new, ax_nwi, ax_nwl, ax_nwq, ax_obj, ax_call, ax_calv, ax_nth, ax_p1, ax_p2, ax_k2, ax_nh, Value.category, lg_cmp_ge, lg_cmp_lt, lg_cmp_gt, lg_cmp_le, lg_cmp_eq, List.getElem?_cons_zero, List.getElem?_cons_succ, true_and, and_true, if_true, if_false, reduceIte, Nat.reduceEqDiff, Nat.add_eq_zero_iff, reduceCtorEq, Nat.reduceAdd, not_true_eq_false, not_false_eq_true, ax_pf, ax_popn, fv_in, fv_size, fv_drop, fv_within, fv_part, fv_cut, fv_sq, fv_absI, fv_absJ, fv_maxI, fv_minI, fv_maxJ, fv_minJ, List.map_cons, List.map_nil, List.sum_cons, List.sum_nil, Nat.reduceLeDiff, Nat.zero_le, Nat.le_refl, zb_0, zb_1, zb_em, true_or, or_true, Int32.toInt_toInt64, Nat.add_zero, fv_isGlass, fv_mayBe, fv_isReading8, fv_isHour8, fv_isPoint, fv_isReading7, fv_isRoom, fv_isWarmth, fv_isHour7, fv_isOnMap, fv_holds, fv_held, tm_eq, i3_add, i3_sub, i3_mul, i3_neg, i6_add, i6_sub, i6_mul, i6_neg, i6_I, i3_toInt, i6_toInt, i3_lt, i3_le, i3_eq, i6_lt, i6_le, i6_eq, i3_eq0, i3_eq1, i3_lt0, i3_le0, i3_gt0, i3_ge0, i6_eq0, i3_div, i6_div, i3_rem, i6_rem, i3_L, i3_nat, i3_inI, ax_up3, ax_up6, c14, c19]
  refine ⟨fun a => ⟨by omega, ?_⟩, fun a => rq0 rfl hR (by unfold atR; rw [if_pos (by omega)]) hF⟩
  rw [qRw_at (by omega) (by omega)]
  have rw5 := RH.rw hR (k := own.toNat) (by omega)
  have u1 : ∀ (e : Option va_E) (f : ax_F), va_up f (r + 20 + own.toNat) e (r + 14) = f (r + 14) := fun e f => if_neg (by omega)
  have u2 : ∀ (e : Option va_E) (f : ax_F), va_up f (r + 20 + own.toNat) e (r + 19) = f (r + 19) := fun e f => if_neg (by omega)
  simp (disch := omega) only [ax_ic, ax_lc, ax_nul, ax_il, ax_ll, ax_al, ax_is, ax_ls, ax_as, ax_inc, ax_iadd, ax_isub, ax_imul, ax_iand, ax_ior, ax_idiv, ax_irem, ax_ishl, ax_ishr, ax_ladd, ax_lsub, ax_lmul, ax_ldiv, ax_lrem, ax_ineg, ax_lneg, ax_i2l, ax_l2i, ax_lcmp, ax_dup, ax_pop1, ax_dupx1, ax_dup2, ax_ifeq, ax_ifne, ax_iflt, ax_ifge, ax_ifgt, ax_ifle, ax_iceq, ax_icne, ax_iclt, ax_icge, ax_icgt, ax_icle, ax_ifnull, ax_ifnn, ax_sw, ax_iret, ax_zret, ax_lret, ax_vret, ax_aret, ax_gf, ax_pfi, ax_pfz, ax_pfl, ax_pfr, ax_iald, ax_zald, ax_lald, ax_aald, ax_iast, ax_zast, ax_last, ax_aast, ax_alen, ax_ialdR, ax_alenR, ax_gst, ax_new, ax_nwi, ax_nwl, ax_nwq, ax_obj, ax_call, ax_calv, ax_nth, ax_p1, ax_p2, ax_k2, ax_nh, Value.category, lg_cmp_ge, lg_cmp_lt, lg_cmp_gt, lg_cmp_le, lg_cmp_eq, List.getElem?_cons_zero, List.getElem?_cons_succ, true_and, and_true, if_true, if_false, reduceIte, Nat.reduceEqDiff, Nat.add_eq_zero_iff, reduceCtorEq, Nat.reduceAdd, not_true_eq_false, not_false_eq_true, ax_pf, ax_popn, fv_in, fv_size, fv_drop, fv_within, fv_part, fv_cut, fv_sq, fv_absI, fv_absJ, fv_maxI, fv_minI, fv_maxJ, fv_minJ, List.map_cons, List.map_nil, List.sum_cons, List.sum_nil, Nat.reduceLeDiff, Nat.zero_le, Nat.le_refl, zb_0, zb_1, zb_em, true_or, or_true, Int32.toInt_toInt64, Nat.add_zero, fv_isGlass, fv_mayBe, fv_isReading8, fv_isHour8, fv_isPoint, fv_isReading7, fv_isRoom, fv_isWarmth, fv_isHour7, fv_isOnMap, fv_holds, fv_held, tm_eq, i3_add, i3_sub, i3_mul, i3_neg, i6_add, i6_sub, i6_mul, i6_neg, i6_I, i3_toInt, i6_toInt, i3_lt, i3_le, i3_eq, i6_lt, i6_le, i6_eq, i3_eq0, i3_eq1, i3_lt0, i3_le0, i3_gt0, i3_ge0, i6_eq0, i3_div, i6_div, i3_rem, i6_rem, i3_L, i3_nat, i3_inI, ax_up3, ax_up6, up_ne, up_0, up_s, up_00, up_0n, c14, c19, rw5, u1, u2]
  refine ⟨by omega, by omega, by omega, ?_⟩
  rw [qRw_at (by omega) (by omega)]
  simp (disch := omega) only [ax_ic, ax_lc, ax_nul, ax_il, ax_ll, ax_al, ax_is, ax_ls, ax_as, ax_inc, ax_iadd, ax_isub, ax_imul, ax_iand, ax_ior, ax_idiv, ax_irem, ax_ishl, ax_ishr, ax_ladd, ax_lsub, ax_lmul, ax_ldiv, ax_lrem, ax_ineg, ax_lneg, ax_i2l, ax_l2i, ax_lcmp, ax_dup, ax_pop1, ax_dupx1, ax_dup2, ax_ifeq, ax_ifne, ax_iflt, ax_ifge, ax_ifgt, ax_ifle, ax_iceq, ax_icne, ax_iclt, ax_icge, ax_icgt, ax_icle, ax_ifnull, ax_ifnn, ax_sw, ax_iret, ax_zret, ax_lret, ax_vret, ax_aret, ax_gf, ax_pfi, ax_pfz, ax_pfl, ax_pfr, ax_iald, ax_zald, ax_lald, ax_aald, ax_iast, ax_zast, ax_last, ax_aast, ax_alen, ax_ialdR, ax_alenR, ax_gst, ax_new, ax_nwi, ax_nwl, ax_nwq, ax_obj, ax_call, ax_calv, ax_nth, ax_p1, ax_p2, ax_k2, ax_nh, Value.category, lg_cmp_ge, lg_cmp_lt, lg_cmp_gt, lg_cmp_le, lg_cmp_eq, List.getElem?_cons_zero, List.getElem?_cons_succ, true_and, and_true, if_true, if_false, reduceIte, Nat.reduceEqDiff, Nat.add_eq_zero_iff, reduceCtorEq, Nat.reduceAdd, not_true_eq_false, not_false_eq_true, ax_pf, ax_popn, fv_in, fv_size, fv_drop, fv_within, fv_part, fv_cut, fv_sq, fv_absI, fv_absJ, fv_maxI, fv_minI, fv_maxJ, fv_minJ, List.map_cons, List.map_nil, List.sum_cons, List.sum_nil, Nat.reduceLeDiff, Nat.zero_le, Nat.le_refl, zb_0, zb_1, zb_em, true_or, or_true, Int32.toInt_toInt64, Nat.add_zero, fv_isGlass, fv_mayBe, fv_isReading8, fv_isHour8, fv_isPoint, fv_isReading7, fv_isRoom, fv_isWarmth, fv_isHour7, fv_isOnMap, fv_holds, fv_held, tm_eq, i3_add, i3_sub, i3_mul, i3_neg, i6_add, i6_sub, i6_mul, i6_neg, i6_I, i3_toInt, i6_toInt, i3_lt, i3_le, i3_eq, i6_lt, i6_le, i6_eq, i3_eq0, i3_eq1, i3_lt0, i3_le0, i3_gt0, i3_ge0, i6_eq0, i3_div, i6_div, i3_rem, i6_rem, i3_L, i3_nat, i3_inI, ax_up3, ax_up6, up_ne, up_0, up_s, up_00, up_0n, c14, c19, rw5, u1, u2]
  refine ⟨by omega, by omega, ?_⟩
  rw [qRw_at (by omega) (by omega)]
  have key : ∀ g : Int → Int, rce X r (T 2 1).toNat (20 + own.toNat) g = cL X 6 g := fun g => rce_rw (by omega)
  have set1 : ∀ (T1 : Nat → Int → Int) (f1 : ax_F) (g : Int → Int), T1 2 1 = T 2 1 → RH X r T1 f1 → RH X r (mset T1 (20 + own.toNat) g) (va_up f1 (r + 20 + own.toNat) (some (cL X 6 g))) := fun T1 f1 g e h => by
    have := h.set (k := 20 + own.toNat) (g := g) (e := cL X 6 g) (Or.inl (by omega)) (by rw [e]; exact (key g).symm)
    rw [show r + (20 + own.toNat) = r + 20 + own.toNat by omega] at this
    exact this
  have upF : ∀ (f1 : ax_F) (e : Option va_E), RF r f0 f1 → RF r f0 (va_up f1 (r + 20 + own.toNat) e) := fun f1 e h => by
    have := h.up (k := 20 + own.toNat) (e := e) (by omega)
    rw [show r + (20 + own.toNat) = r + 20 + own.toNat by omega] at this
    exact this
  have n2 : ∀ (T1 : Nat → Int → Int) (g : Int → Int), mset T1 (20 + own.toNat) g 2 = T1 2 := fun T1 g => mset_n (by omega)
  refine ⟨fun b => rq0 rfl (set1 _ _ _ (by rw [n2]) (set1 T f _ rfl hR)) ?_ (upF _ _ (upF _ _ hF)), fun b => ⟨by omega, rfl, ?_⟩⟩
  · rw [mset_mset]
    unfold atR arG
    rw [if_neg (by omega), if_pos b]
  · simp (disch := omega) only [ax_ic, ax_lc, ax_nul, ax_il, ax_ll, ax_al, ax_is, ax_ls, ax_as, ax_inc, ax_iadd, ax_isub, ax_imul, ax_iand, ax_ior, ax_idiv, ax_irem, ax_ishl, ax_ishr, ax_ladd, ax_lsub, ax_lmul, ax_ldiv, ax_lrem, ax_ineg, ax_lneg, ax_i2l, ax_l2i, ax_lcmp, ax_dup, ax_pop1, ax_dupx1, ax_dup2, ax_ifeq, ax_ifne, ax_iflt, ax_ifge, ax_ifgt, ax_ifle, ax_iceq, ax_icne, ax_iclt, ax_icge, ax_icgt, ax_icle, ax_ifnull, ax_ifnn, ax_sw, ax_iret, ax_zret, ax_lret, ax_vret, ax_aret, ax_gf, ax_pfi, ax_pfz, ax_pfl, ax_pfr, ax_iald, ax_zald, ax_lald, ax_aald, ax_iast, ax_zast, ax_last, ax_aast, ax_alen, ax_ialdR, ax_alenR, ax_gst, ax_new, ax_nwi, ax_nwl, ax_nwq, ax_obj, ax_call, ax_calv, ax_nth, ax_p1, ax_p2, ax_k2, ax_nh, Value.category, lg_cmp_ge, lg_cmp_lt, lg_cmp_gt, lg_cmp_le, lg_cmp_eq, List.getElem?_cons_zero, List.getElem?_cons_succ, true_and, and_true, if_true, if_false, reduceIte, Nat.reduceEqDiff, Nat.add_eq_zero_iff, reduceCtorEq, Nat.reduceAdd, not_true_eq_false, not_false_eq_true, ax_pf, ax_popn, fv_in, fv_size, fv_drop, fv_within, fv_part, fv_cut, fv_sq, fv_absI, fv_absJ, fv_maxI, fv_minI, fv_maxJ, fv_minJ, List.map_cons, List.map_nil, List.sum_cons, List.sum_nil, Nat.reduceLeDiff, Nat.zero_le, Nat.le_refl, zb_0, zb_1, zb_em, true_or, or_true, Int32.toInt_toInt64, Nat.add_zero, fv_isGlass, fv_mayBe, fv_isReading8, fv_isHour8, fv_isPoint, fv_isReading7, fv_isRoom, fv_isWarmth, fv_isHour7, fv_isOnMap, fv_holds, fv_held, tm_eq, i3_add, i3_sub, i3_mul, i3_neg, i6_add, i6_sub, i6_mul, i6_neg, i6_I, i3_toInt, i6_toInt, i3_lt, i3_le, i3_eq, i6_lt, i6_le, i6_eq, i3_eq0, i3_eq1, i3_lt0, i3_le0, i3_gt0, i3_ge0, i6_eq0, i3_div, i6_div, i3_rem, i6_rem, i3_L, i3_nat, i3_inI, ax_up3, ax_up6, up_ne, up_0, up_s, up_00, up_0n]
    refine ⟨by omega, by omega, rq0 rfl (set1 _ _ _ (by rw [n2, n2]) (set1 _ _ _ (by rw [n2]) (set1 T f _ rfl hR))) ?_ (upF _ _ (upF _ _ (upF _ _ hF)))⟩
    rw [mset_mset, mset_mset]
    unfold atR arG
    rw [if_neg (by omega), if_neg b]
end SOL
