abbrev shOk (V : Nat → Int → Int) : Prop := ∀ p : Int, 0 ≤ p → p < 64 → 0 ≤ V 21 p ∧ V 21 p ≤ 20000
abbrev grOk (V : Nat → Int → Int) : Prop := ∀ s : Int, 0 ≤ s → s < 128 → (-1 ≤ V 22 s ∧ V 22 s ≤ 127) ∧ 0 ≤ V 23 s ∧ V 23 s ≤ 1000
theorem m8_isHigh {X : ax_X} {o z : Nat} {V : Nat → Int → Int} {f : ax_F} {x y v : Int} (hM : MH X o V f) (hS : shOk V) (hx : 0 ≤ x) (hx' : x ≤ 7) (hy : 0 ≤ y) (hy' : y ≤ 7) (hv : 1 ≤ v) (hv' : v ≤ 20000) :
    ax_M X mX8_isHigh 0 0 [.ref o, .int (i3 x), .int (i3 y), .int (i3 v)] z f (ax_pv (.int (zb (v ≤ V 21 (8 * y + x)))) z f) := by
  have q := hS (8 * y + x) (by omega) (by omega)
  refine ax_met2 [some (.ref o), some (.int (i3 x)), some (.int (i3 y)), some (.int (i3 v))] (by decide) (Nat.le_of_ble_eq_true rfl) rfl ?_
  refine sbX8_isHigh_0 X 0 0 _ _ _ _ _ _ _ ?_
  have m0 : f o = some (.inr (7, [.ref (o + 1), .ref (o + 2), .ref (o + 3), .ref (o + 4), .ref (o + 5), .ref (o + 6), .ref (o + 7), .ref (o + 8), .int (i3 (V 0 8)), .ref (o + 9), .ref (o + 10), .ref (o + 11), .ref (o + 12), .ref (o + 13), .int (i3 (V 0 14)), .ref (o + 14), .ref (o + 15), .ref (o + 16), .ref (o + 17), .int (i3 (V 0 19)), .ref (o + 18), .int (i3 (V 0 21)), .ref (o + 19), .long (i6 (V 0 23)), .ref (o + 20), .ref (o + 21), .ref (o + 22), .ref (o + 23), .int (i3 (V 0 28)), .long (i6 (V 0 29)), .long (i6 (V 0 30)), .ref (o + 24), .ref (o + 25)])) := hM 0 (by decide)
  have m21 : f (o + 21) = some (.inl (X.2.2.1 1, 64, .inr (.inl (fun j : Nat => i6 (V 21 (j : Int)))))) := hM 21 (by decide)
  simp (disch := omega) only [bkX8_isHigh_0, ax_ic, ax_lc, ax_nul, ax_il, ax_ll, ax_al, ax_is, ax_ls, ax_as, ax_inc, ax_iadd, ax_isub, ax_imul, ax_iand, ax_ior, ax_idiv, ax_irem, ax_ishl, ax_ishr, ax_ladd, ax_lsub, ax_lmul, ax_ldiv, ax_lrem, ax_ineg, ax_lneg, ax_i2l, ax_l2i, ax_lcmp, ax_dup, ax_pop1, ax_dupx1, ax_dup2, ax_ifeq, ax_ifne, ax_iflt, ax_ifge, ax_ifgt, ax_ifle, ax_iceq, ax_icne, ax_iclt, ax_icge, ax_icgt, ax_icle, ax_ifnull, ax_ifnn, ax_sw, ax_iret, ax_zret, ax_lret, ax_vret, ax_aret, ax_gf, ax_pfi, ax_pfz, ax_pfl, ax_pfr, ax_iald, ax_zald, ax_lald, ax_aald, ax_iast, ax_zast, ax_last, ax_aast, ax_alen, ax_ialdR, ax_alenR, ax_gst, ax_new, ax_nwi, ax_nwl, ax_nwq, ax_obj, ax_call, ax_calv, ax_nth, ax_p1, ax_p2, ax_k2, ax_nh, Value.category, lg_cmp_ge, lg_cmp_lt, lg_cmp_gt, lg_cmp_le, lg_cmp_eq, List.getElem?_cons_zero, List.getElem?_cons_succ, true_and, and_true, if_true, if_false, reduceIte, Nat.reduceEqDiff, Nat.add_eq_zero_iff, reduceCtorEq, Nat.reduceAdd, not_true_eq_false, not_false_eq_true, ax_pf, ax_popn, fv_in, fv_size, fv_drop, fv_within, fv_part, fv_cut, fv_sq, fv_absI, fv_absJ, fv_maxI, fv_minI, fv_maxJ, fv_minJ, List.map_cons, List.map_nil, List.sum_cons, List.sum_nil, Nat.reduceLeDiff, Nat.zero_le, Nat.le_refl, zb_0, zb_1, zb_em, true_or, or_true, Int32.toInt_toInt64, Nat.add_zero, fv_isGlass, fv_mayBe, fv_isReading8, fv_isHour8, fv_isPoint, fv_isReading7, fv_isRoom, fv_isWarmth, fv_isHour7, fv_isOnMap, fv_holds, fv_held, tm_eq, i3_add, i3_sub, i3_mul, i3_neg, i6_add, i6_sub, i6_mul, i6_neg, i6_I, i3_toInt, i6_toInt, i3_lt, i3_le, i3_eq, i6_lt, i6_le, i6_eq, i3_eq0, i3_eq1, i3_lt0, i3_le0, i3_gt0, i3_ge0, i6_eq0, i3_div, i6_div, i3_rem, i6_rem, i3_L, i3_nat, i3_inI, ax_up3, ax_up6, m0, m21]
  refine ⟨⟨by omega, by omega⟩, fun b => ax_pv0 (congrArg Value.int (zb_f (by omega))), fun b => ax_pv0 (congrArg Value.int (zb_t (by omega)))⟩
/-- the group hi has become the group lo, in the first k sides -/
def rlG (G : Int → Int) (hi lo : Int) (k : Int) : Int → Int := fun s => if (0 ≤ s ∧ s < k) ∧ G s = hi then lo else G s
def lkL (L : Int → Int) (a b : Int) : Int → Int := ax_u (ax_u L a (L a + 1)) b (ax_u L a (L a + 1) b + 1)
def hiG (G : Int → Int) (a b : Int) : Int := if G a < G b then G b else G a
def loG (G : Int → Int) (a b : Int) : Int := if G a < G b then G a else G b
abbrev GL : Type := (Int → Int) × (Int → Int)
def lnk (p : GL) (a b : Int) : GL := (rlG p.1 (hiG p.1 a b) (loG p.1 a b) 128, lkL p.2 a b)
theorem rlG_0 (G : Int → Int) (hi lo : Int) : rlG G hi lo 0 = G := by
  funext s
  unfold rlG
  rw [if_neg (by omega)]
theorem rlG_1 (G : Int → Int) (hi lo : Int) (k : Nat) : rlG G hi lo ((k : Int) + 1) = ax_u (rlG G hi lo k) k (if G k = hi then lo else G k) := by
  funext s
  unfold ax_u rlG
  by_cases e : s = k
  · rw [if_pos e, e]
    by_cases q : G k = hi
    · rw [if_pos ⟨by omega, q⟩, if_pos q]
    · rw [if_neg (fun r => q r.2), if_neg q]
  · rw [if_neg e]
    by_cases q : (0 ≤ s ∧ s < (k : Int)) ∧ G s = hi
    · rw [if_pos ⟨by omega, q.2⟩, if_pos q]
    · rw [if_neg (fun r => q ⟨by omega, r.2⟩), if_neg q]
theorem m8_lk_86 {X : ax_X} {o z : Nat} {V : Nat → Int → Int} {f0 : ax_F} {hi lo : Int} {a b : Option Value} (hG : ∀ s : Int, 0 ≤ s → s < 128 → -1 ≤ V 22 s ∧ V 22 s ≤ 127) (h1 : -1 ≤ hi) (h2 : hi ≤ 127) :
    ∀ (n k : Nat) (f : ax_F), k + n = 128 → MH X o (mset V 22 (rlG (V 22) hi lo k)) f → MF o f0 f → ax_G X mX8_link 0 0 (mq X o f0 z none (mset V 22 (rlG (V 22) hi lo 128))) 86 [some (.ref o), a, b, some (.int (i3 lo)), some (.int (i3 hi)), some (.int (i3 (k : Int)))] [] 0 0 z f := by
  intro n
  induction n with
  | zero =>
    intro k f hk hM hF
    refine sbX8_link_86 X 0 0 _ _ _ _ _ _ _ ?_
    simp (disch := omega) only [bkX8_link_86, ax_ic, ax_lc, ax_nul, ax_il, ax_ll, ax_al, ax_is, ax_ls, ax_as, ax_inc, ax_iadd, ax_isub, ax_imul, ax_iand, ax_ior, ax_idiv, ax_irem, ax_ishl, ax_ishr, ax_ladd, ax_lsub, ax_lmul, ax_ldiv, ax_lrem, ax_ineg, ax_lneg, ax_i2l, ax_l2i, ax_lcmp, ax_dup, ax_pop1, ax_dupx1, ax_dup2, ax_ifeq, ax_ifne, ax_iflt, ax_ifge, ax_ifgt, ax_ifle, ax_iceq, ax_icne, ax_iclt, ax_icge, ax_icgt, ax_icle, ax_ifnull, ax_ifnn, ax_sw, ax_iret, ax_zret, ax_lret, ax_vret, ax_aret, ax_gf, ax_pfi, ax_pfz, ax_pfl, ax_pfr, ax_iald, ax_zald, ax_lald, ax_aald, ax_iast, ax_zast, ax_last, ax_aast, ax_alen, ax_ialdR, ax_alenR, ax_gst, ax_new, ax_nwi, ax_nwl, ax_nwq, ax_obj, ax_call, ax_calv, ax_nth, ax_p1, ax_p2, ax_k2, ax_nh, Value.category, lg_cmp_ge, lg_cmp_lt, lg_cmp_gt, lg_cmp_le, lg_cmp_eq, List.getElem?_cons_zero, List.getElem?_cons_succ, true_and, and_true, if_true, if_false, reduceIte, Nat.reduceEqDiff, Nat.add_eq_zero_iff, reduceCtorEq, Nat.reduceAdd, not_true_eq_false, not_false_eq_true, ax_pf, ax_popn, fv_in, fv_size, fv_drop, fv_within, fv_part, fv_cut, fv_sq, fv_absI, fv_absJ, fv_maxI, fv_minI, fv_maxJ, fv_minJ, List.map_cons, List.map_nil, List.sum_cons, List.sum_nil, Nat.reduceLeDiff, Nat.zero_le, Nat.le_refl, zb_0, zb_1, zb_em, true_or, or_true, Int32.toInt_toInt64, Nat.add_zero, fv_isGlass, fv_mayBe, fv_isReading8, fv_isHour8, fv_isPoint, fv_isReading7, fv_isRoom, fv_isWarmth, fv_isHour7, fv_isOnMap, fv_holds, fv_held, tm_eq, i3_add, i3_sub, i3_mul, i3_neg, i6_add, i6_sub, i6_mul, i6_neg, i6_I, i3_toInt, i6_toInt, i3_lt, i3_le, i3_eq, i6_lt, i6_le, i6_eq, i3_eq0, i3_eq1, i3_lt0, i3_le0, i3_gt0, i3_ge0, i6_eq0, i3_div, i6_div, i3_rem, i6_rem, i3_L, i3_nat, i3_inI, ax_up3, ax_up6]
    refine ⟨fun _ => mq0 rfl hM ?_ hF, fun q => absurd (by omega) q⟩
    rw [show (k : Int) = 128 by omega]
  | succ n ih =>
    intro k f hk hM hF
    have g := hG k (by omega) (by omega)
    have m0 : f o = some (mce X o 0 (V 0)) := hM 0 (by decide)
    have m22 : f (o + 22) = some (mce X o 22 (rlG (V 22) hi lo k)) := hM 22 (by decide)
    simp only [mce] at m0 m22
    have e : rlG (V 22) hi lo k k = V 22 k := by
      unfold rlG
      rw [if_neg (by omega)]
    refine sbX8_link_86 X 0 0 _ _ _ _ _ _ _ ?_
    simp (disch := omega) only [bkX8_link_86, ax_ic, ax_lc, ax_nul, ax_il, ax_ll, ax_al, ax_is, ax_ls, ax_as, ax_inc, ax_iadd, ax_isub, ax_imul, ax_iand, ax_ior, ax_idiv, ax_irem, ax_ishl, ax_ishr, ax_ladd, ax_lsub, ax_lmul, ax_ldiv, ax_lrem, ax_ineg, ax_lneg, ax_i2l, ax_l2i, ax_lcmp, ax_dup, ax_pop1, ax_dupx1, ax_dup2, ax_ifeq, ax_ifne, ax_iflt, ax_ifge, ax_ifgt, ax_ifle, ax_iceq, ax_icne, ax_iclt, ax_icge, ax_icgt, ax_icle, ax_ifnull, ax_ifnn, ax_sw, ax_iret, ax_zret, ax_lret, ax_vret, ax_aret, ax_gf, ax_pfi, ax_pfz, ax_pfl, ax_pfr, ax_iald, ax_zald, ax_lald, ax_aald, ax_iast, ax_zast, ax_last, ax_aast, ax_alen, ax_ialdR, ax_alenR, ax_gst, ax_new, ax_nwi, ax_nwl, ax_nwq, ax_obj, ax_call, ax_calv, ax_nth, ax_p1, ax_p2, ax_k2, ax_nh, Value.category, lg_cmp_ge, lg_cmp_lt, lg_cmp_gt, lg_cmp_le, lg_cmp_eq, List.getElem?_cons_zero, List.getElem?_cons_succ, true_and, and_true, if_true, if_false, reduceIte, Nat.reduceEqDiff, Nat.add_eq_zero_iff, reduceCtorEq, Nat.reduceAdd, not_true_eq_false, not_false_eq_true, ax_pf, ax_popn, fv_in, fv_size, fv_drop, fv_within, fv_part, fv_cut, fv_sq, fv_absI, fv_absJ, fv_maxI, fv_minI, fv_maxJ, fv_minJ, List.map_cons, List.map_nil, List.sum_cons, List.sum_nil, Nat.reduceLeDiff, Nat.zero_le, Nat.le_refl, zb_0, zb_1, zb_em, true_or, or_true, Int32.toInt_toInt64, Nat.add_zero, fv_isGlass, fv_mayBe, fv_isReading8, fv_isHour8, fv_isPoint, fv_isReading7, fv_isRoom, fv_isWarmth, fv_isHour7, fv_isOnMap, fv_holds, fv_held, tm_eq, i3_add, i3_sub, i3_mul, i3_neg, i6_add, i6_sub, i6_mul, i6_neg, i6_I, i3_toInt, i6_toInt, i3_lt, i3_le, i3_eq, i6_lt, i6_le, i6_eq, i3_eq0, i3_eq1, i3_lt0, i3_le0, i3_gt0, i3_ge0, i6_eq0, i3_div, i6_div, i3_rem, i6_rem, i3_L, i3_nat, i3_inI, ax_up3, ax_up6, m0, m22, e]
    refine ⟨fun q => absurd q (by omega), fun _ => ⟨by omega, ?_⟩⟩
    have nx : ∀ v : Int, v = (if V 22 k = hi then lo else V 22 k) → MH X o (mset V 22 (rlG (V 22) hi lo ((k + 1 : Nat) : Int))) (va_up f (o + 22) (some (mce X o 22 (ax_u (rlG (V 22) hi lo k) k v)))) := fun v hv => by
      have := hM.set (k := 22) (g := ax_u (rlG (V 22) hi lo k) k v) (e := _) rfl
      rw [mset_mset] at this
      rw [show ((k + 1 : Nat) : Int) = (k : Int) + 1 by omega, rlG_1, ← hv]
      exact this
    refine ⟨fun q => ?_, fun q => ?_⟩
    · refine ⟨by omega, by omega, ih (k + 1) _ (by omega) (nx (V 22 k) ?_) (hF.up (by decide))⟩
      rw [if_neg q]
    · refine ⟨by omega, ih (k + 1) _ (by omega) (nx lo ?_) (hF.up (by decide))⟩
      rw [if_pos (by omega)]
theorem m8_lk_50 {X : ax_X} {o z : Nat} {V : Nat → Int → Int} {f f0 : ax_F} {a b lo : Int} (hlo : lo = loG (V 22) a b) (hM : MH X o V f) (hF : MF o f0 f) (hG : ∀ s : Int, 0 ≤ s → s < 128 → -1 ≤ V 22 s ∧ V 22 s ≤ 127) (ha : 0 ≤ a) (ha' : a < 128) (hb : 0 ≤ b) (hb' : b < 128) :
    ax_G X mX8_link 0 0 (mq X o f0 z none (mset V 22 (rlG (V 22) (hiG (V 22) a b) (loG (V 22) a b) 128))) 50 [some (.ref o), some (.int (i3 a)), some (.int (i3 b)), none, none, none] [.int (i3 lo)] 0 0 z f := by
  subst hlo
  have ga := hG a ha ha'
  have gb := hG b hb hb'
  refine sbX8_link_50 X 0 0 _ _ _ _ _ _ _ ?_
  have m0 : f o = some (.inr (7, [.ref (o + 1), .ref (o + 2), .ref (o + 3), .ref (o + 4), .ref (o + 5), .ref (o + 6), .ref (o + 7), .ref (o + 8), .int (i3 (V 0 8)), .ref (o + 9), .ref (o + 10), .ref (o + 11), .ref (o + 12), .ref (o + 13), .int (i3 (V 0 14)), .ref (o + 14), .ref (o + 15), .ref (o + 16), .ref (o + 17), .int (i3 (V 0 19)), .ref (o + 18), .int (i3 (V 0 21)), .ref (o + 19), .long (i6 (V 0 23)), .ref (o + 20), .ref (o + 21), .ref (o + 22), .ref (o + 23), .int (i3 (V 0 28)), .long (i6 (V 0 29)), .long (i6 (V 0 30)), .ref (o + 24), .ref (o + 25)])) := hM 0 (by decide)
  have m22 : f (o + 22) = some (.inl (X.2.2.1 0, 128, .inl (fun j : Nat => i3 (V 22 (j : Int))))) := hM 22 (by decide)
  simp (disch := omega) only [bkX8_link_50, ax_ic, ax_lc, ax_nul, ax_il, ax_ll, ax_al, ax_is, ax_ls, ax_as, ax_inc, ax_iadd, ax_isub, ax_imul, ax_iand, ax_ior, ax_idiv, ax_irem, ax_ishl, ax_ishr, ax_ladd, ax_lsub, ax_lmul, ax_ldiv, ax_lrem, ax_ineg, ax_lneg, ax_i2l, ax_l2i, ax_lcmp, ax_dup, ax_pop1, ax_dupx1, ax_dup2, ax_ifeq, ax_ifne, ax_iflt, ax_ifge, ax_ifgt, ax_ifle, ax_iceq, ax_icne, ax_iclt, ax_icge, ax_icgt, ax_icle, ax_ifnull, ax_ifnn, ax_sw, ax_iret, ax_zret, ax_lret, ax_vret, ax_aret, ax_gf, ax_pfi, ax_pfz, ax_pfl, ax_pfr, ax_iald, ax_zald, ax_lald, ax_aald, ax_iast, ax_zast, ax_last, ax_aast, ax_alen, ax_ialdR, ax_alenR, ax_gst, ax_new, ax_nwi, ax_nwl, ax_nwq, ax_obj, ax_call, ax_calv, ax_nth, ax_p1, ax_p2, ax_k2, ax_nh, Value.category, lg_cmp_ge, lg_cmp_lt, lg_cmp_gt, lg_cmp_le, lg_cmp_eq, List.getElem?_cons_zero, List.getElem?_cons_succ, true_and, and_true, if_true, if_false, reduceIte, Nat.reduceEqDiff, Nat.add_eq_zero_iff, reduceCtorEq, Nat.reduceAdd, not_true_eq_false, not_false_eq_true, ax_pf, ax_popn, fv_in, fv_size, fv_drop, fv_within, fv_part, fv_cut, fv_sq, fv_absI, fv_absJ, fv_maxI, fv_minI, fv_maxJ, fv_minJ, List.map_cons, List.map_nil, List.sum_cons, List.sum_nil, Nat.reduceLeDiff, Nat.zero_le, Nat.le_refl, zb_0, zb_1, zb_em, true_or, or_true, Int32.toInt_toInt64, Nat.add_zero, fv_isGlass, fv_mayBe, fv_isReading8, fv_isHour8, fv_isPoint, fv_isReading7, fv_isRoom, fv_isWarmth, fv_isHour7, fv_isOnMap, fv_holds, fv_held, tm_eq, i3_add, i3_sub, i3_mul, i3_neg, i6_add, i6_sub, i6_mul, i6_neg, i6_I, i3_toInt, i6_toInt, i3_lt, i3_le, i3_eq, i6_lt, i6_le, i6_eq, i3_eq0, i3_eq1, i3_lt0, i3_le0, i3_gt0, i3_ge0, i6_eq0, i3_div, i6_div, i3_rem, i6_rem, i3_L, i3_nat, i3_inI, ax_up3, ax_up6, m0, m22]
  have go : ∀ hi : Int, hi = hiG (V 22) a b → ax_G X mX8_link 0 0 (mq X o f0 z none (mset V 22 (rlG (V 22) (hiG (V 22) a b) (loG (V 22) a b) 128))) 86 [some (.ref o), some (.int (i3 a)), some (.int (i3 b)), some (.int (i3 (loG (V 22) a b))), some (.int (i3 hi)), some (.int (i3 0))] [] 0 0 z f := fun hi h => by
    rw [h]
    refine m8_lk_86 hG ?_ ?_ 128 0 f (by omega) ?_ hF
    · unfold hiG; split <;> omega
    · unfold hiG; split <;> omega
    · rw [show ((0 : Nat) : Int) = 0 from rfl, rlG_0]
      intro k hk
      have := hM k hk
      unfold mset
      split
      · rename_i e; rw [e] at this ⊢; exact this
      · exact this
  refine ⟨by omega, by omega, fun q => ⟨by omega, go _ ?_⟩, fun q => ⟨by omega, go _ ?_⟩⟩
  · unfold hiG
    rw [if_neg (by omega)]
  · unfold hiG
    rw [if_pos (by omega)]
theorem m8_link {X : ax_X} {o z : Nat} {V : Nat → Int → Int} {f : ax_F} {a b : Int} (hM : MH X o V f) (hG : grOk V) (ha : 0 ≤ a) (ha' : a < 128) (hb : 0 ≤ b) (hb' : b < 128) :
    ax_M X mX8_link 0 0 [.ref o, .int (i3 a), .int (i3 b)] z f (mq X o f z none (mset (mset V 23 (lnk (V 22, V 23) a b).2) 22 (lnk (V 22, V 23) a b).1)) := by
  have ga := hG a ha ha'
  have gb := hG b hb hb'
  refine ax_met2 [some (.ref o), some (.int (i3 a)), some (.int (i3 b)), none, none, none] (by decide) (Nat.le_of_ble_eq_true rfl) rfl ?_
  refine sbX8_link_0 X 0 0 _ _ _ _ _ _ _ ?_
  have m0 : f o = some (.inr (7, [.ref (o + 1), .ref (o + 2), .ref (o + 3), .ref (o + 4), .ref (o + 5), .ref (o + 6), .ref (o + 7), .ref (o + 8), .int (i3 (V 0 8)), .ref (o + 9), .ref (o + 10), .ref (o + 11), .ref (o + 12), .ref (o + 13), .int (i3 (V 0 14)), .ref (o + 14), .ref (o + 15), .ref (o + 16), .ref (o + 17), .int (i3 (V 0 19)), .ref (o + 18), .int (i3 (V 0 21)), .ref (o + 19), .long (i6 (V 0 23)), .ref (o + 20), .ref (o + 21), .ref (o + 22), .ref (o + 23), .int (i3 (V 0 28)), .long (i6 (V 0 29)), .long (i6 (V 0 30)), .ref (o + 24), .ref (o + 25)])) := hM 0 (by decide)
  have m22 : f (o + 22) = some (.inl (X.2.2.1 0, 128, .inl (fun j : Nat => i3 (V 22 (j : Int))))) := hM 22 (by decide)
  have m23 : f (o + 23) = some (.inl (X.2.2.1 0, 128, .inl (fun j : Nat => i3 (V 23 (j : Int))))) := hM 23 (by decide)
  have cc : 0 ≤ ax_u (V 23) a (V 23 a + 1) b ∧ ax_u (V 23) a (V 23 a + 1) b ≤ 1001 := by unfold ax_u; split <;> omega
  have hM2 := (hM.set (k := 23) (g := ax_u (V 23) a (V 23 a + 1)) rfl).set (k := 23) (g := ax_u (ax_u (V 23) a (V 23 a + 1)) b (ax_u (V 23) a (V 23 a + 1) b + 1)) rfl
  rw [mset_mset] at hM2
  have fin : ∀ lo : Int, lo = loG (V 22) a b → _ := fun lo h => m8_lk_50 (V := mset V 23 (ax_u (ax_u (V 23) a (V 23 a + 1)) b (ax_u (V 23) a (V 23 a + 1) b + 1))) (z := z) (a := a) (b := b) (lo := lo) h hM2 ((MF.rfl (f := f)).up (k := 23) (by decide) |>.up (k := 23) (by decide)) (fun s h1 h2 => (hG s h1 h2).1) ha ha' hb hb'
  simp (disch := omega) only [bkX8_link_0, ax_ic, ax_lc, ax_nul, ax_il, ax_ll, ax_al, ax_is, ax_ls, ax_as, ax_inc, ax_iadd, ax_isub, ax_imul, ax_iand, ax_ior, ax_idiv, ax_irem, ax_ishl, ax_ishr, ax_ladd, ax_lsub, ax_lmul, ax_ldiv, ax_lrem, ax_ineg, ax_lneg, ax_i2l, ax_l2i, ax_lcmp, ax_dup, ax_pop1, ax_dupx1, ax_dup2, ax_ifeq, ax_ifne, ax_iflt, ax_ifge, ax_ifgt, ax_ifle, ax_iceq, ax_icne, ax_iclt, ax_icge, ax_icgt, ax_icle, ax_ifnull, ax_ifnn, ax_sw, ax_iret, ax_zret, ax_lret, ax_vret, ax_aret, ax_gf, ax_pfi, ax_pfz, ax_pfl, ax_pfr, ax_iald, ax_zald, ax_lald, ax_aald, ax_iast, ax_zast, ax_last, ax_aast, ax_alen, ax_ialdR, ax_alenR, ax_gst, ax_new, ax_nwi, ax_nwl, ax_nwq, ax_obj, ax_call, ax_calv, ax_nth, ax_p1, ax_p2, ax_k2, ax_nh, Value.category, lg_cmp_ge, lg_cmp_lt, lg_cmp_gt, lg_cmp_le, lg_cmp_eq, List.getElem?_cons_zero, List.getElem?_cons_succ, true_and, and_true, if_true, if_false, reduceIte, Nat.reduceEqDiff, Nat.add_eq_zero_iff, reduceCtorEq, Nat.reduceAdd, not_true_eq_false, not_false_eq_true, ax_pf, ax_popn, fv_in, fv_size, fv_drop, fv_within, fv_part, fv_cut, fv_sq, fv_absI, fv_absJ, fv_maxI, fv_minI, fv_maxJ, fv_minJ, List.map_cons, List.map_nil, List.sum_cons, List.sum_nil, Nat.reduceLeDiff, Nat.zero_le, Nat.le_refl, zb_0, zb_1, zb_em, true_or, or_true, Int32.toInt_toInt64, Nat.add_zero, fv_isGlass, fv_mayBe, fv_isReading8, fv_isHour8, fv_isPoint, fv_isReading7, fv_isRoom, fv_isWarmth, fv_isHour7, fv_isOnMap, fv_holds, fv_held, tm_eq, i3_add, i3_sub, i3_mul, i3_neg, i6_add, i6_sub, i6_mul, i6_neg, i6_I, i3_toInt, i6_toInt, i3_lt, i3_le, i3_eq, i6_lt, i6_le, i6_eq, i3_eq0, i3_eq1, i3_lt0, i3_le0, i3_gt0, i3_ge0, i6_eq0, i3_div, i6_div, i3_rem, i6_rem, i3_L, i3_nat, i3_inI, ax_up3, ax_up6, up_ne, up_0, up_s, up_00, up_0n, m0, m22, m23]
  refine ⟨by omega, by omega, by omega, by omega, by omega, by omega, fun q => ⟨by omega, ?_⟩, fun q => ⟨by omega, ?_⟩⟩
  · exact fin (V 22 b) (by unfold loG; rw [if_neg (by omega)])
  · exact fin (V 22 a) (by unfold loG; rw [if_pos (by omega)])
