def hasZ (V : Nat → Int → Int) (s h : Int) : Prop := 0 < V 9 (48 * s + h)
def anyB (V : Nat → Int → Int) (h wo : Int) : Nat → Bool
  | 0 => false
  | n + 1 => anyB V h wo n || (decide ((n : Int) ≠ wo) && decide (0 < V 9 (48 * n + h)))
/-- what the calls show is the same: rows 1 to 17, the three counts -/
def core (V V' : Nat → Int → Int) : Prop := (∀ k : Nat, 1 ≤ k → k ≤ 17 → V' k = V k) ∧ V' 0 8 = V 0 8 ∧ V' 0 14 = V 0 14 ∧ V' 0 19 = V 0 19
theorem core.rfl {V : Nat → Int → Int} : core V V := ⟨fun _ _ _ => Eq.refl _, Eq.refl _, Eq.refl _, Eq.refl _⟩
theorem core.trans {V V' V'' : Nat → Int → Int} (a : core V V') (b : core V' V'') : core V V'' := ⟨fun k h1 h2 => (b.1 k h1 h2).trans (a.1 k h1 h2), b.2.1.trans a.2.1, b.2.2.1.trans a.2.2.1, b.2.2.2.trans a.2.2.2⟩
theorem core.row {V : Nat → Int → Int} {k : Nat} {g : Int → Int} (hk : 18 ≤ k) : core V (mset V k g) := ⟨fun j _ h => mset_n (by omega), by rw [mset_n (by omega)], by rw [mset_n (by omega)], by rw [mset_n (by omega)]⟩
theorem core.sc {V : Nat → Int → Int} {k v : Int} (h1 : k ≠ 8) (h2 : k ≠ 14) (h3 : k ≠ 19) : core V (mset V 0 (ax_u (V 0) k v)) := ⟨fun j h _ => mset_n (by omega), by rw [mset_s, ax_u_n (by omega)], by rw [mset_s, ax_u_n (by omega)], by rw [mset_s, ax_u_n (by omega)]⟩
theorem core.inv {V V' : Nat → Int → Int} (c : core V V') (h : mInv V) : mInv V' := by
  obtain ⟨h1, h2, h3, h4, h5, h6, h7, h8, h9⟩ := h
  unfold mInv
  rw [c.1 1 (by omega) (by omega), c.1 2 (by omega) (by omega), c.1 3 (by omega) (by omega), c.1 4 (by omega) (by omega), c.1 5 (by omega) (by omega), c.1 6 (by omega) (by omega), c.1 7 (by omega) (by omega), c.1 8 (by omega) (by omega), c.1 9 (by omega) (by omega), c.1 10 (by omega) (by omega), c.1 11 (by omega) (by omega), c.1 12 (by omega) (by omega), c.1 13 (by omega) (by omega), c.1 14 (by omega) (by omega), c.1 15 (by omega) (by omega), c.1 16 (by omega) (by omega), c.1 17 (by omega) (by omega), c.2.1, c.2.2.1, c.2.2.2]
  exact ⟨h1, h2, h3, h4, h5, h6, h7, h8, h9⟩
theorem mndS_core {V V' : Nat → Int → Int} (c : core V V') (s h : Int) : ∀ k : Nat, mndS V' s h k = mndS V s h k
  | 0 => rfl
  | k + 1 => by
    unfold mndS
    rw [mndS_core c s h k, c.1 11 (by omega) (by omega), c.1 12 (by omega) (by omega)]
theorem mMnd_core {V V' : Nat → Int → Int} (c : core V V') (s h : Int) : mMnd V' s h = mMnd V s h := by
  unfold mMnd mRgt
  rw [mndS_core c, c.1 2 (by omega) (by omega), c.1 3 (by omega) (by omega), c.1 4 (by omega) (by omega), c.1 8 (by omega) (by omega), c.1 9 (by omega) (by omega), c.1 10 (by omega) (by omega), c.1 13 (by omega) (by omega)]
theorem mLvl_core {V V' : Nat → Int → Int} (c : core V V') (s h : Int) : mLvl V' s h = mLvl V s h := by
  unfold mLvl
  rw [mMnd_core c, c.1 7 (by omega) (by omega), c.1 10 (by omega) (by omega)]
theorem anyB_core {V V' : Nat → Int → Int} (c : core V V') (h wo : Int) : ∀ k : Nat, anyB V' h wo k = anyB V h wo k
  | 0 => rfl
  | k + 1 => by
    unfold anyB
    rw [anyB_core c h wo k, c.1 9 (by omega) (by omega)]
def mqc (X : ax_X) (o : Nat) (f : ax_F) (z : Nat) (w : Option Value) (V : Nat → Int → Int) : Option Value → Nat → ax_F → Prop := fun v z' f' => v = w ∧ z' = z ∧ (∃ V' : Nat → Int → Int, core V V' ∧ MH X o V' f') ∧ MF o f f'
theorem mqc0 {X : ax_X} {o z : Nat} {f f' : ax_F} {w w' : Option Value} {V V' : Nat → Int → Int} (h : w = w') (hM : MH X o V' f') (hV : core V V') (hF : MF o f f') : ax_Rt 0 0 (mqc X o f z w' V) w 0 0 z f' := ⟨Nat.le_refl _, Nat.le_refl _, h, rfl, ⟨V', hV, hM⟩, hF⟩
theorem m8_hasAny_loop {X : ax_X} {o z : Nat} {V : Nat → Int → Int} {f : ax_F} {h wo : Int} (hM : MH X o V f) (hI : mInv V) (hh : 0 ≤ h) (hh' : h < 48) (hw : -2147483648 ≤ wo) (hw' : wo < 2147483648) :
    ∀ (n k : Nat), V 0 8 = (k : Int) + n → ax_G X mX8_hasAny 0 0 (ax_pv (.int (zb (anyB V h wo (V 0 8).toNat = true))) z f) 5 [some (.ref o), some (.int (i3 h)), some (.int (i3 wo)), some (.int (zb (anyB V h wo k = true))), some (.int (i3 k))] [] 0 0 z f := by
  have i0 := hI.2.2.1
  have m0 : f o = some (.inr (7, [.ref (o + 1), .ref (o + 2), .ref (o + 3), .ref (o + 4), .ref (o + 5), .ref (o + 6), .ref (o + 7), .ref (o + 8), .int (i3 (V 0 8)), .ref (o + 9), .ref (o + 10), .ref (o + 11), .ref (o + 12), .ref (o + 13), .int (i3 (V 0 14)), .ref (o + 14), .ref (o + 15), .ref (o + 16), .ref (o + 17), .int (i3 (V 0 19)), .ref (o + 18), .int (i3 (V 0 21)), .ref (o + 19), .long (i6 (V 0 23)), .ref (o + 20), .ref (o + 21), .ref (o + 22), .ref (o + 23), .int (i3 (V 0 28)), .long (i6 (V 0 29)), .long (i6 (V 0 30)), .ref (o + 24), .ref (o + 25)])) := hM 0 (by decide)
  intro n
  induction n with
  | zero =>
    intro k hk
    refine sbX8_hasAny_5 X 0 0 _ _ _ _ _ _ _ ?_
    simp (disch := omega) only [bkX8_hasAny_5, ax_ic, ax_lc, ax_nul, ax_il, ax_ll, ax_al, ax_is, ax_ls, ax_as, ax_inc, ax_iadd, ax_isub, ax_imul, ax_iand, ax_ior, ax_idiv, ax_irem, ax_ishl, ax_ishr, ax_ladd, ax_lsub, ax_lmul, ax_ldiv, ax_lrem, ax_ineg, ax_lneg, ax_i2l, ax_l2i, ax_lcmp, ax_dup, ax_pop1, ax_dupx1, ax_dup2, ax_ifeq, ax_ifne, ax_iflt, ax_ifge, ax_ifgt, ax_ifle, ax_iceq, ax_icne, ax_iclt, ax_icge, ax_icgt, ax_icle, ax_ifnull, ax_ifnn, ax_sw, ax_iret, ax_zret, ax_lret, ax_vret, ax_aret, ax_gf, ax_pfi, ax_pfz, ax_pfl, ax_pfr, ax_iald, ax_zald, ax_lald, ax_aald, ax_iast, ax_zast, ax_last, ax_aast, ax_alen, ax_ialdR, ax_alenR, ax_gst, ax_new, ax_nwi, ax_nwl, ax_nwq, ax_obj, ax_call, ax_calv, ax_nth, ax_p1, ax_p2, ax_k2, ax_nh, Value.category, lg_cmp_ge, lg_cmp_lt, lg_cmp_gt, lg_cmp_le, lg_cmp_eq, List.getElem?_cons_zero, List.getElem?_cons_succ, true_and, and_true, if_true, if_false, reduceIte, Nat.reduceEqDiff, Nat.add_eq_zero_iff, reduceCtorEq, Nat.reduceAdd, not_true_eq_false, not_false_eq_true, ax_pf, ax_popn, fv_in, fv_size, fv_drop, fv_within, fv_part, fv_cut, fv_sq, fv_absI, fv_absJ, fv_maxI, fv_minI, fv_maxJ, fv_minJ, List.map_cons, List.map_nil, List.sum_cons, List.sum_nil, Nat.reduceLeDiff, Nat.zero_le, Nat.le_refl, zb_0, zb_1, zb_em, true_or, or_true, Int32.toInt_toInt64, Nat.add_zero, fv_isGlass, fv_mayBe, fv_isReading8, fv_isHour8, fv_isPoint, fv_isReading7, fv_isRoom, fv_isWarmth, fv_isHour7, fv_isOnMap, fv_holds, fv_held, tm_eq, i3_add, i3_sub, i3_mul, i3_neg, i6_add, i6_sub, i6_mul, i6_neg, i6_I, i3_toInt, i6_toInt, i3_lt, i3_le, i3_eq, i6_lt, i6_le, i6_eq, i3_eq0, i3_eq1, i3_lt0, i3_le0, i3_gt0, i3_ge0, i6_eq0, i3_div, i6_div, i3_rem, i6_rem, i3_L, i3_nat, i3_inI, ax_up3, ax_up6, m0]
    refine ⟨fun _ => ax_pv0 ?_, fun q => absurd (by omega) q⟩
    rw [show (V 0 8).toNat = k by omega]
  | succ n ih =>
    intro k hk
    have j := hI.2.2.2.2.1 (48 * k + h) (by omega) (by omega)
    have nx := ih (k + 1) (by omega)
    have nx' : ∀ v : Int32, v = zb (anyB V h wo (k + 1) = true) → ax_G X mX8_hasAny 0 0 (ax_pv (.int (zb (anyB V h wo (V 0 8).toNat = true))) z f) 5 [some (.ref o), some (.int (i3 h)), some (.int (i3 wo)), some (.int v), some (.int (i3 ((k : Int) + 1)))] [] 0 0 z f := fun v hv => by rw [hv]; exact nx
    refine sbX8_hasAny_5 X 0 0 _ _ _ _ _ _ _ ?_
    simp (disch := omega) only [bkX8_hasAny_5, ax_ic, ax_lc, ax_nul, ax_il, ax_ll, ax_al, ax_is, ax_ls, ax_as, ax_inc, ax_iadd, ax_isub, ax_imul, ax_iand, ax_ior, ax_idiv, ax_irem, ax_ishl, ax_ishr, ax_ladd, ax_lsub, ax_lmul, ax_ldiv, ax_lrem, ax_ineg, ax_lneg, ax_i2l, ax_l2i, ax_lcmp, ax_dup, ax_pop1, ax_dupx1, ax_dup2, ax_ifeq, ax_ifne, ax_iflt, ax_ifge, ax_ifgt, ax_ifle, ax_iceq, ax_icne, ax_iclt, ax_icge, ax_icgt, ax_icle, ax_ifnull, ax_ifnn, ax_sw, ax_iret, ax_zret, ax_lret, ax_vret, ax_aret, ax_gf, ax_pfi, ax_pfz, ax_pfl, ax_pfr, ax_iald, ax_zald, ax_lald, ax_aald, ax_iast, ax_zast, ax_last, ax_aast, ax_alen, ax_ialdR, ax_alenR, ax_gst, ax_new, ax_nwi, ax_nwl, ax_nwq, ax_obj, ax_call, ax_calv, ax_nth, ax_p1, ax_p2, ax_k2, ax_nh, Value.category, lg_cmp_ge, lg_cmp_lt, lg_cmp_gt, lg_cmp_le, lg_cmp_eq, List.getElem?_cons_zero, List.getElem?_cons_succ, true_and, and_true, if_true, if_false, reduceIte, Nat.reduceEqDiff, Nat.add_eq_zero_iff, reduceCtorEq, Nat.reduceAdd, not_true_eq_false, not_false_eq_true, ax_pf, ax_popn, fv_in, fv_size, fv_drop, fv_within, fv_part, fv_cut, fv_sq, fv_absI, fv_absJ, fv_maxI, fv_minI, fv_maxJ, fv_minJ, List.map_cons, List.map_nil, List.sum_cons, List.sum_nil, Nat.reduceLeDiff, Nat.zero_le, Nat.le_refl, zb_0, zb_1, zb_em, true_or, or_true, Int32.toInt_toInt64, Nat.add_zero, fv_isGlass, fv_mayBe, fv_isReading8, fv_isHour8, fv_isPoint, fv_isReading7, fv_isRoom, fv_isWarmth, fv_isHour7, fv_isOnMap, fv_holds, fv_held, tm_eq, i3_add, i3_sub, i3_mul, i3_neg, i6_add, i6_sub, i6_mul, i6_neg, i6_I, i3_toInt, i6_toInt, i3_lt, i3_le, i3_eq, i6_lt, i6_le, i6_eq, i3_eq0, i3_eq1, i3_lt0, i3_le0, i3_gt0, i3_ge0, i6_eq0, i3_div, i6_div, i3_rem, i6_rem, i3_L, i3_nat, i3_inI, ax_up3, ax_up6, m0]
    refine ⟨fun q => absurd q (by omega), fun _ => ⟨fun h1 => nx' _ ?_, fun h1 => ⟨fun h2 => nx' _ ?_, fun h2 => ?_⟩⟩⟩
    · refine zb_t ?_
      have h1' : anyB V h wo k = true := by
        by_cases q : anyB V h wo k = true
        · exact q
        · exact absurd q h1
      simp [anyB, h1']
    · refine zb_f ?_
      have h1' : ¬ anyB V h wo k = true := fun q => by simp [q] at h1
      simp [anyB, h1', h2]
    · have h1' : ¬ anyB V h wo k = true := fun q => by simp [q] at h1
      refine ⟨⟨_, m0⟩, ax_fn (Nat.le_of_ble_eq_true rfl) (Nat.zero_le _) (Nat.zero_le _) (m8_has hM (by omega) (by omega) (by omega) (by omega) (by omega) (by omega)) ?_⟩
      simp (disch := omega) only [ax_ic, ax_lc, ax_nul, ax_il, ax_ll, ax_al, ax_is, ax_ls, ax_as, ax_inc, ax_iadd, ax_isub, ax_imul, ax_iand, ax_ior, ax_idiv, ax_irem, ax_ishl, ax_ishr, ax_ladd, ax_lsub, ax_lmul, ax_ldiv, ax_lrem, ax_ineg, ax_lneg, ax_i2l, ax_l2i, ax_lcmp, ax_dup, ax_pop1, ax_dupx1, ax_dup2, ax_ifeq, ax_ifne, ax_iflt, ax_ifge, ax_ifgt, ax_ifle, ax_iceq, ax_icne, ax_iclt, ax_icge, ax_icgt, ax_icle, ax_ifnull, ax_ifnn, ax_sw, ax_iret, ax_zret, ax_lret, ax_vret, ax_aret, ax_gf, ax_pfi, ax_pfz, ax_pfl, ax_pfr, ax_iald, ax_zald, ax_lald, ax_aald, ax_iast, ax_zast, ax_last, ax_aast, ax_alen, ax_ialdR, ax_alenR, ax_gst, ax_new, ax_nwi, ax_nwl, ax_nwq, ax_obj, ax_call, ax_calv, ax_nth, ax_p1, ax_p2, ax_k2, ax_nh, Value.category, lg_cmp_ge, lg_cmp_lt, lg_cmp_gt, lg_cmp_le, lg_cmp_eq, List.getElem?_cons_zero, List.getElem?_cons_succ, true_and, and_true, if_true, if_false, reduceIte, Nat.reduceEqDiff, Nat.add_eq_zero_iff, reduceCtorEq, Nat.reduceAdd, not_true_eq_false, not_false_eq_true, ax_pf, ax_popn, fv_in, fv_size, fv_drop, fv_within, fv_part, fv_cut, fv_sq, fv_absI, fv_absJ, fv_maxI, fv_minI, fv_maxJ, fv_minJ, List.map_cons, List.map_nil, List.sum_cons, List.sum_nil, Nat.reduceLeDiff, Nat.zero_le, Nat.le_refl, zb_0, zb_1, zb_em, true_or, or_true, Int32.toInt_toInt64, Nat.add_zero, fv_isGlass, fv_mayBe, fv_isReading8, fv_isHour8, fv_isPoint, fv_isReading7, fv_isRoom, fv_isWarmth, fv_isHour7, fv_isOnMap, fv_holds, fv_held, tm_eq, i3_add, i3_sub, i3_mul, i3_neg, i6_add, i6_sub, i6_mul, i6_neg, i6_I, i3_toInt, i6_toInt, i3_lt, i3_le, i3_eq, i6_lt, i6_le, i6_eq, i3_eq0, i3_eq1, i3_lt0, i3_le0, i3_gt0, i3_ge0, i6_eq0, i3_div, i6_div, i3_rem, i6_rem, i3_L, i3_nat, i3_inI, ax_up3, ax_up6]
      refine ⟨fun h3 => nx' _ (zb_f ?_), fun h3 => nx' _ (zb_t ?_)⟩
      · simp [anyB, h1', h3]
      · have h3' : 0 < V 9 (48 * k + h) := by omega
        simp [anyB, h2, h3']
theorem m8_hasAny {X : ax_X} {o z : Nat} {V : Nat → Int → Int} {f : ax_F} {h wo : Int} (hM : MH X o V f) (hI : mInv V) (hh : 0 ≤ h) (hh' : h < 48) (hw : -2147483648 ≤ wo) (hw' : wo < 2147483648) :
    ax_M X mX8_hasAny 0 0 [.ref o, .int (i3 h), .int (i3 wo)] z f (ax_pv (.int (zb (anyB V h wo (V 0 8).toNat = true))) z f) := by
  have i0 := hI.2.2.1
  refine ax_met2 [some (.ref o), some (.int (i3 h)), some (.int (i3 wo)), none, none] (by decide) (Nat.le_of_ble_eq_true rfl) rfl ?_
  refine sbX8_hasAny_0 X 0 0 _ _ _ _ _ _ _ ?_
  simp (disch := omega) only [bkX8_hasAny_0, ax_ic, ax_lc, ax_nul, ax_il, ax_ll, ax_al, ax_is, ax_ls, ax_as, ax_inc, ax_iadd, ax_isub, ax_imul, ax_iand, ax_ior, ax_idiv, ax_irem, ax_ishl, ax_ishr, ax_ladd, ax_lsub, ax_lmul, ax_ldiv, ax_lrem, ax_ineg, ax_lneg, ax_i2l, ax_l2i, ax_lcmp, ax_dup, ax_pop1, ax_dupx1, ax_dup2, ax_ifeq, ax_ifne, ax_iflt, ax_ifge, ax_ifgt, ax_ifle, ax_iceq, ax_icne, ax_iclt, ax_icge, ax_icgt, ax_icle, ax_ifnull, ax_ifnn, ax_sw, ax_iret, ax_zret, ax_lret, ax_vret, ax_aret, ax_gf, ax_pfi, ax_pfz, ax_pfl, ax_pfr, ax_iald, ax_zald, ax_lald, ax_aald, ax_iast, ax_zast, ax_last, ax_aast, ax_alen, ax_ialdR, ax_alenR, ax_gst, ax_new, ax_nwi, ax_nwl, ax_nwq, ax_obj, ax_call, ax_calv, ax_nth, ax_p1, ax_p2, ax_k2, ax_nh, Value.category, lg_cmp_ge, lg_cmp_lt, lg_cmp_gt, lg_cmp_le, lg_cmp_eq, List.getElem?_cons_zero, List.getElem?_cons_succ, true_and, and_true, if_true, if_false, reduceIte, Nat.reduceEqDiff, Nat.add_eq_zero_iff, reduceCtorEq, Nat.reduceAdd, not_true_eq_false, not_false_eq_true, ax_pf, ax_popn, fv_in, fv_size, fv_drop, fv_within, fv_part, fv_cut, fv_sq, fv_absI, fv_absJ, fv_maxI, fv_minI, fv_maxJ, fv_minJ, List.map_cons, List.map_nil, List.sum_cons, List.sum_nil, Nat.reduceLeDiff, Nat.zero_le, Nat.le_refl, zb_0, zb_1, zb_em, true_or, or_true, Int32.toInt_toInt64, Nat.add_zero, fv_isGlass, fv_mayBe, fv_isReading8, fv_isHour8, fv_isPoint, fv_isReading7, fv_isRoom, fv_isWarmth, fv_isHour7, fv_isOnMap, fv_holds, fv_held, tm_eq, i3_add, i3_sub, i3_mul, i3_neg, i6_add, i6_sub, i6_mul, i6_neg, i6_I, i3_toInt, i6_toInt, i3_lt, i3_le, i3_eq, i6_lt, i6_le, i6_eq, i3_eq0, i3_eq1, i3_lt0, i3_le0, i3_gt0, i3_ge0, i6_eq0, i3_div, i6_div, i3_rem, i6_rem, i3_L, i3_nat, i3_inI, ax_up3, ax_up6]
  have e := m8_hasAny_loop (z := z) hM hI hh hh' hw hw' (V 0 8).toNat 0 (by omega)
  rw [show zb (anyB V h wo 0 = true) = i3 0 from (zb_f (by simp [anyB])).symm] at e
  exact e
def lvO (V : Nat → Int → Int) (s h : Int) : Int := if 0 < V 9 (48 * s + h) then mLvl V s h else 0
def lvF (V : Nat → Int → Int) (h : Int) (k : Int) : Int → Int := fun j => if 0 ≤ j ∧ j < k then lvO V j h else V 20 j
theorem lvF_0 (V : Nat → Int → Int) (h : Int) : lvF V h 0 = V 20 := by
  funext j
  unfold lvF
  rw [if_neg (by omega)]
theorem lvF_s (V : Nat → Int → Int) (h : Int) {k : Int} (hk : 0 ≤ k) : ax_u (lvF V h k) k (lvO V k h) = lvF V h (k + 1) := by
  funext j
  unfold ax_u lvF
  by_cases e : j = k
  · rw [if_pos e, if_pos (by omega), e]
  · rw [if_neg e]
    by_cases q : 0 ≤ j ∧ j < k
    · rw [if_pos q, if_pos (by omega)]
    · rw [if_neg q, if_neg (by omega)]
theorem lvO_rng (V : Nat → Int → Int) (s h : Int) : 0 ≤ lvO V s h ∧ lvO V s h ≤ 20000 := by
  unfold lvO
  split
  · have : 1 ≤ mLvl V s h ∧ mLvl V s h ≤ 20000 := lvZ_rng (heldZ_rng _).1 (heldZ_rng _).2
    omega
  · omega
theorem m8_findLevels_loop {X : ax_X} {o z : Nat} {V : Nat → Int → Int} {f0 : ax_F} {h : Int} (hI : mInv V) (hh : 0 ≤ h) (hh' : h < 48) :
    ∀ (n k : Nat) (f : ax_F), V 0 8 = (k : Int) + n → MH X o (mset V 20 (lvF V h k)) f → MF o f0 f → ax_G X mX8_findLevels 0 0 (mq X o f0 z none (mset V 20 (lvF V h (V 0 8)))) 2 [some (.ref o), some (.int (i3 h)), some (.int (i3 k))] [] 0 0 z f := by
  have i0 := hI.2.2.1
  intro n
  induction n with
  | zero =>
    intro k f hk hM hF
    have m0 := hM 0 (by decide)
    refine sbX8_findLevels_2 X 0 0 _ _ _ _ _ _ _ ?_
    have hV8 : mset V 20 (lvF V h k) 0 = V 0 := rfl
    rw [hV8] at m0
    simp only [mce, Nat.add_zero] at m0
    simp (disch := omega) only [bkX8_findLevels_2, ax_ic, ax_lc, ax_nul, ax_il, ax_ll, ax_al, ax_is, ax_ls, ax_as, ax_inc, ax_iadd, ax_isub, ax_imul, ax_iand, ax_ior, ax_idiv, ax_irem, ax_ishl, ax_ishr, ax_ladd, ax_lsub, ax_lmul, ax_ldiv, ax_lrem, ax_ineg, ax_lneg, ax_i2l, ax_l2i, ax_lcmp, ax_dup, ax_pop1, ax_dupx1, ax_dup2, ax_ifeq, ax_ifne, ax_iflt, ax_ifge, ax_ifgt, ax_ifle, ax_iceq, ax_icne, ax_iclt, ax_icge, ax_icgt, ax_icle, ax_ifnull, ax_ifnn, ax_sw, ax_iret, ax_zret, ax_lret, ax_vret, ax_aret, ax_gf, ax_pfi, ax_pfz, ax_pfl, ax_pfr, ax_iald, ax_zald, ax_lald, ax_aald, ax_iast, ax_zast, ax_last, ax_aast, ax_alen, ax_ialdR, ax_alenR, ax_gst, ax_new, ax_nwi, ax_nwl, ax_nwq, ax_obj, ax_call, ax_calv, ax_nth, ax_p1, ax_p2, ax_k2, ax_nh, Value.category, lg_cmp_ge, lg_cmp_lt, lg_cmp_gt, lg_cmp_le, lg_cmp_eq, List.getElem?_cons_zero, List.getElem?_cons_succ, true_and, and_true, if_true, if_false, reduceIte, Nat.reduceEqDiff, Nat.add_eq_zero_iff, reduceCtorEq, Nat.reduceAdd, not_true_eq_false, not_false_eq_true, ax_pf, ax_popn, fv_in, fv_size, fv_drop, fv_within, fv_part, fv_cut, fv_sq, fv_absI, fv_absJ, fv_maxI, fv_minI, fv_maxJ, fv_minJ, List.map_cons, List.map_nil, List.sum_cons, List.sum_nil, Nat.reduceLeDiff, Nat.zero_le, Nat.le_refl, zb_0, zb_1, zb_em, true_or, or_true, Int32.toInt_toInt64, Nat.add_zero, fv_isGlass, fv_mayBe, fv_isReading8, fv_isHour8, fv_isPoint, fv_isReading7, fv_isRoom, fv_isWarmth, fv_isHour7, fv_isOnMap, fv_holds, fv_held, tm_eq, i3_add, i3_sub, i3_mul, i3_neg, i6_add, i6_sub, i6_mul, i6_neg, i6_I, i3_toInt, i6_toInt, i3_lt, i3_le, i3_eq, i6_lt, i6_le, i6_eq, i3_eq0, i3_eq1, i3_lt0, i3_le0, i3_gt0, i3_ge0, i6_eq0, i3_div, i6_div, i3_rem, i6_rem, i3_L, i3_nat, i3_inI, ax_up3, ax_up6, m0]
    refine ⟨fun _ => mq0 rfl hM ?_ hF, fun q => absurd (by omega) q⟩
    rw [show V 0 8 = k by omega]
  | succ n ih =>
    intro k f hk hM hF
    have j := hI.2.2.2.2.1 (48 * k + h) (by omega) (by omega)
    have m0 := hM 0 (by decide)
    have m20 := hM 20 (by decide)
    have hV8 : mset V 20 (lvF V h k) 0 = V 0 := rfl
    rw [hV8] at m0
    rw [mset_s] at m20
    simp only [mce, Nat.add_zero] at m0 m20
    have hI' : mInv (mset V 20 (lvF V h k)) := hI
    refine sbX8_findLevels_2 X 0 0 _ _ _ _ _ _ _ ?_
    simp (disch := omega) only [bkX8_findLevels_2, ax_ic, ax_lc, ax_nul, ax_il, ax_ll, ax_al, ax_is, ax_ls, ax_as, ax_inc, ax_iadd, ax_isub, ax_imul, ax_iand, ax_ior, ax_idiv, ax_irem, ax_ishl, ax_ishr, ax_ladd, ax_lsub, ax_lmul, ax_ldiv, ax_lrem, ax_ineg, ax_lneg, ax_i2l, ax_l2i, ax_lcmp, ax_dup, ax_pop1, ax_dupx1, ax_dup2, ax_ifeq, ax_ifne, ax_iflt, ax_ifge, ax_ifgt, ax_ifle, ax_iceq, ax_icne, ax_iclt, ax_icge, ax_icgt, ax_icle, ax_ifnull, ax_ifnn, ax_sw, ax_iret, ax_zret, ax_lret, ax_vret, ax_aret, ax_gf, ax_pfi, ax_pfz, ax_pfl, ax_pfr, ax_iald, ax_zald, ax_lald, ax_aald, ax_iast, ax_zast, ax_last, ax_aast, ax_alen, ax_ialdR, ax_alenR, ax_gst, ax_new, ax_nwi, ax_nwl, ax_nwq, ax_obj, ax_call, ax_calv, ax_nth, ax_p1, ax_p2, ax_k2, ax_nh, Value.category, lg_cmp_ge, lg_cmp_lt, lg_cmp_gt, lg_cmp_le, lg_cmp_eq, List.getElem?_cons_zero, List.getElem?_cons_succ, true_and, and_true, if_true, if_false, reduceIte, Nat.reduceEqDiff, Nat.add_eq_zero_iff, reduceCtorEq, Nat.reduceAdd, not_true_eq_false, not_false_eq_true, ax_pf, ax_popn, fv_in, fv_size, fv_drop, fv_within, fv_part, fv_cut, fv_sq, fv_absI, fv_absJ, fv_maxI, fv_minI, fv_maxJ, fv_minJ, List.map_cons, List.map_nil, List.sum_cons, List.sum_nil, Nat.reduceLeDiff, Nat.zero_le, Nat.le_refl, zb_0, zb_1, zb_em, true_or, or_true, Int32.toInt_toInt64, Nat.add_zero, fv_isGlass, fv_mayBe, fv_isReading8, fv_isHour8, fv_isPoint, fv_isReading7, fv_isRoom, fv_isWarmth, fv_isHour7, fv_isOnMap, fv_holds, fv_held, tm_eq, i3_add, i3_sub, i3_mul, i3_neg, i6_add, i6_sub, i6_mul, i6_neg, i6_I, i3_toInt, i6_toInt, i3_lt, i3_le, i3_eq, i6_lt, i6_le, i6_eq, i3_eq0, i3_eq1, i3_lt0, i3_le0, i3_gt0, i3_ge0, i6_eq0, i3_div, i6_div, i3_rem, i6_rem, i3_L, i3_nat, i3_inI, ax_up3, ax_up6, m0]
    refine ⟨fun q => absurd q (by omega), fun _ => ?_⟩
    refine ⟨⟨_, m0⟩, ax_fn (Nat.le_of_ble_eq_true rfl) (Nat.zero_le _) (Nat.zero_le _) (m8_has hM (by omega) (by omega) (by omega) (by omega) j.1 j.2.1) ?_⟩
    have fin : ∀ v : Int, v = lvO V k h → MH X o (mset V 20 (lvF V h ((k + 1 : Nat) : Int))) (va_up f (o + 20) (some (.inl (X.2.2.1 0, 8, .inl (fun j : Nat => i3 (ax_u (lvF V h k) k v (j : Int))))))) := fun v hv => by
      have e := hM.set (k := 20) (g := ax_u (lvF V h k) k v) rfl
      rw [hv, lvF_s V h (by omega)] at e
      rw [hv, lvF_s V h (by omega), show (((k + 1 : Nat) : Int)) = (k : Int) + 1 by omega]
      refine cast ?_ e
      congr 1
      funext q
      unfold mset
      split <;> rfl
    simp (disch := omega) only [ax_ic, ax_lc, ax_nul, ax_il, ax_ll, ax_al, ax_is, ax_ls, ax_as, ax_inc, ax_iadd, ax_isub, ax_imul, ax_iand, ax_ior, ax_idiv, ax_irem, ax_ishl, ax_ishr, ax_ladd, ax_lsub, ax_lmul, ax_ldiv, ax_lrem, ax_ineg, ax_lneg, ax_i2l, ax_l2i, ax_lcmp, ax_dup, ax_pop1, ax_dupx1, ax_dup2, ax_ifeq, ax_ifne, ax_iflt, ax_ifge, ax_ifgt, ax_ifle, ax_iceq, ax_icne, ax_iclt, ax_icge, ax_icgt, ax_icle, ax_ifnull, ax_ifnn, ax_sw, ax_iret, ax_zret, ax_lret, ax_vret, ax_aret, ax_gf, ax_pfi, ax_pfz, ax_pfl, ax_pfr, ax_iald, ax_zald, ax_lald, ax_aald, ax_iast, ax_zast, ax_last, ax_aast, ax_alen, ax_ialdR, ax_alenR, ax_gst, ax_new, ax_nwi, ax_nwl, ax_nwq, ax_obj, ax_call, ax_calv, ax_nth, ax_p1, ax_p2, ax_k2, ax_nh, Value.category, lg_cmp_ge, lg_cmp_lt, lg_cmp_gt, lg_cmp_le, lg_cmp_eq, List.getElem?_cons_zero, List.getElem?_cons_succ, true_and, and_true, if_true, if_false, reduceIte, Nat.reduceEqDiff, Nat.add_eq_zero_iff, reduceCtorEq, Nat.reduceAdd, not_true_eq_false, not_false_eq_true, ax_pf, ax_popn, fv_in, fv_size, fv_drop, fv_within, fv_part, fv_cut, fv_sq, fv_absI, fv_absJ, fv_maxI, fv_minI, fv_maxJ, fv_minJ, List.map_cons, List.map_nil, List.sum_cons, List.sum_nil, Nat.reduceLeDiff, Nat.zero_le, Nat.le_refl, zb_0, zb_1, zb_em, true_or, or_true, Int32.toInt_toInt64, Nat.add_zero, fv_isGlass, fv_mayBe, fv_isReading8, fv_isHour8, fv_isPoint, fv_isReading7, fv_isRoom, fv_isWarmth, fv_isHour7, fv_isOnMap, fv_holds, fv_held, tm_eq, i3_add, i3_sub, i3_mul, i3_neg, i6_add, i6_sub, i6_mul, i6_neg, i6_I, i3_toInt, i6_toInt, i3_lt, i3_le, i3_eq, i6_lt, i6_le, i6_eq, i3_eq0, i3_eq1, i3_lt0, i3_le0, i3_gt0, i3_ge0, i6_eq0, i3_div, i6_div, i3_rem, i6_rem, i3_L, i3_nat, i3_inI, ax_up3, ax_up6, m0, m20]
    refine ⟨fun h1 => ⟨by omega, ?_⟩, fun h1 => ?_⟩
    · have h1' : ¬ 0 < V 9 (48 * k + h) := h1
      exact ih (k + 1) _ (by omega) (fin 0 (by unfold lvO; rw [if_neg h1'])) (hF.up (by decide))
    · have h1' : 0 < V 9 (48 * k + h) := by
        by_cases q : 0 < V 9 (48 * k + h)
        · exact q
        · exact absurd q h1
      refine ⟨⟨_, m0⟩, ax_fn (Nat.le_of_ble_eq_true rfl) (Nat.zero_le _) (Nat.zero_le _) (m8_levelAt hM hI' (by omega) (by omega) (by omega) (by omega)) ?_⟩
      simp (disch := omega) only [ax_ic, ax_lc, ax_nul, ax_il, ax_ll, ax_al, ax_is, ax_ls, ax_as, ax_inc, ax_iadd, ax_isub, ax_imul, ax_iand, ax_ior, ax_idiv, ax_irem, ax_ishl, ax_ishr, ax_ladd, ax_lsub, ax_lmul, ax_ldiv, ax_lrem, ax_ineg, ax_lneg, ax_i2l, ax_l2i, ax_lcmp, ax_dup, ax_pop1, ax_dupx1, ax_dup2, ax_ifeq, ax_ifne, ax_iflt, ax_ifge, ax_ifgt, ax_ifle, ax_iceq, ax_icne, ax_iclt, ax_icge, ax_icgt, ax_icle, ax_ifnull, ax_ifnn, ax_sw, ax_iret, ax_zret, ax_lret, ax_vret, ax_aret, ax_gf, ax_pfi, ax_pfz, ax_pfl, ax_pfr, ax_iald, ax_zald, ax_lald, ax_aald, ax_iast, ax_zast, ax_last, ax_aast, ax_alen, ax_ialdR, ax_alenR, ax_gst, ax_new, ax_nwi, ax_nwl, ax_nwq, ax_obj, ax_call, ax_calv, ax_nth, ax_p1, ax_p2, ax_k2, ax_nh, Value.category, lg_cmp_ge, lg_cmp_lt, lg_cmp_gt, lg_cmp_le, lg_cmp_eq, List.getElem?_cons_zero, List.getElem?_cons_succ, true_and, and_true, if_true, if_false, reduceIte, Nat.reduceEqDiff, Nat.add_eq_zero_iff, reduceCtorEq, Nat.reduceAdd, not_true_eq_false, not_false_eq_true, ax_pf, ax_popn, fv_in, fv_size, fv_drop, fv_within, fv_part, fv_cut, fv_sq, fv_absI, fv_absJ, fv_maxI, fv_minI, fv_maxJ, fv_minJ, List.map_cons, List.map_nil, List.sum_cons, List.sum_nil, Nat.reduceLeDiff, Nat.zero_le, Nat.le_refl, zb_0, zb_1, zb_em, true_or, or_true, Int32.toInt_toInt64, Nat.add_zero, fv_isGlass, fv_mayBe, fv_isReading8, fv_isHour8, fv_isPoint, fv_isReading7, fv_isRoom, fv_isWarmth, fv_isHour7, fv_isOnMap, fv_holds, fv_held, tm_eq, i3_add, i3_sub, i3_mul, i3_neg, i6_add, i6_sub, i6_mul, i6_neg, i6_I, i3_toInt, i6_toInt, i3_lt, i3_le, i3_eq, i6_lt, i6_le, i6_eq, i3_eq0, i3_eq1, i3_lt0, i3_le0, i3_gt0, i3_ge0, i6_eq0, i3_div, i6_div, i3_rem, i6_rem, i3_L, i3_nat, i3_inI, ax_up3, ax_up6, m0, m20]
      refine ⟨by omega, ?_⟩
      exact ih (k + 1) _ (by omega) (fin _ (by unfold lvO; rw [if_pos h1', mLvl_core (core.row (by decide))])) (hF.up (by decide))
theorem m8_findLevels {X : ax_X} {o z : Nat} {V : Nat → Int → Int} {f : ax_F} {h : Int} (hM : MH X o V f) (hI : mInv V) (hh : 0 ≤ h) (hh' : h < 48) :
    ax_M X mX8_findLevels 0 0 [.ref o, .int (i3 h)] z f (mq X o f z none (mset V 20 (lvF V h (V 0 8)))) := by
  have i0 := hI.2.2.1
  refine ax_met2 [some (.ref o), some (.int (i3 h)), none] (by decide) (Nat.le_of_ble_eq_true rfl) rfl ?_
  refine sbX8_findLevels_0 X 0 0 _ _ _ _ _ _ _ ?_
  simp (disch := omega) only [bkX8_findLevels_0, ax_ic, ax_lc, ax_nul, ax_il, ax_ll, ax_al, ax_is, ax_ls, ax_as, ax_inc, ax_iadd, ax_isub, ax_imul, ax_iand, ax_ior, ax_idiv, ax_irem, ax_ishl, ax_ishr, ax_ladd, ax_lsub, ax_lmul, ax_ldiv, ax_lrem, ax_ineg, ax_lneg, ax_i2l, ax_l2i, ax_lcmp, ax_dup, ax_pop1, ax_dupx1, ax_dup2, ax_ifeq, ax_ifne, ax_iflt, ax_ifge, ax_ifgt, ax_ifle, ax_iceq, ax_icne, ax_iclt, ax_icge, ax_icgt, ax_icle, ax_ifnull, ax_ifnn, ax_sw, ax_iret, ax_zret, ax_lret, ax_vret, ax_aret, ax_gf, ax_pfi, ax_pfz, ax_pfl, ax_pfr, ax_iald, ax_zald, ax_lald, ax_aald, ax_iast, ax_zast, ax_last, ax_aast, ax_alen, ax_ialdR, ax_alenR, ax_gst, ax_new, ax_nwi, ax_nwl, ax_nwq, ax_obj, ax_call, ax_calv, ax_nth, ax_p1, ax_p2, ax_k2, ax_nh, Value.category, lg_cmp_ge, lg_cmp_lt, lg_cmp_gt, lg_cmp_le, lg_cmp_eq, List.getElem?_cons_zero, List.getElem?_cons_succ, true_and, and_true, if_true, if_false, reduceIte, Nat.reduceEqDiff, Nat.add_eq_zero_iff, reduceCtorEq, Nat.reduceAdd, not_true_eq_false, not_false_eq_true, ax_pf, ax_popn, fv_in, fv_size, fv_drop, fv_within, fv_part, fv_cut, fv_sq, fv_absI, fv_absJ, fv_maxI, fv_minI, fv_maxJ, fv_minJ, List.map_cons, List.map_nil, List.sum_cons, List.sum_nil, Nat.reduceLeDiff, Nat.zero_le, Nat.le_refl, zb_0, zb_1, zb_em, true_or, or_true, Int32.toInt_toInt64, Nat.add_zero, fv_isGlass, fv_mayBe, fv_isReading8, fv_isHour8, fv_isPoint, fv_isReading7, fv_isRoom, fv_isWarmth, fv_isHour7, fv_isOnMap, fv_holds, fv_held, tm_eq, i3_add, i3_sub, i3_mul, i3_neg, i6_add, i6_sub, i6_mul, i6_neg, i6_I, i3_toInt, i6_toInt, i3_lt, i3_le, i3_eq, i6_lt, i6_le, i6_eq, i3_eq0, i3_eq1, i3_lt0, i3_le0, i3_gt0, i3_ge0, i6_eq0, i3_div, i6_div, i3_rem, i6_rem, i3_L, i3_nat, i3_inI, ax_up3, ax_up6]
  refine m8_findLevels_loop hI hh hh' (V 0 8).toNat 0 f (by omega) ?_ MF.rfl
  rw [show lvF V h ((0 : Nat) : Int) = V 20 from lvF_0 V h]
  refine cast ?_ hM
  congr 1
  funext q
  unfold mset
  split
  · rename_i e; rw [e]
  · rfl
theorem sq_nn (a : Int) : 0 ≤ a * a := by
  rcases Int.le_total 0 a with h | h
  · exact Int.mul_nonneg h h
  · exact Int.mul_nonneg_of_nonpos_of_nonpos h h
def wZ (dx dy : Int) : Int := (1000 : Int).tdiv (1 + dx * dx + dy * dy)
theorem wZ_rng {dx dy : Int} (h1 : -7 ≤ dx) (h2 : dx ≤ 7) (h3 : -7 ≤ dy) (h4 : dy ≤ 7) : (1 ≤ 1 + dx * dx + dy * dy ∧ 1 + dx * dx + dy * dy ≤ 99) ∧ 10 ≤ wZ dx dy ∧ wZ dx dy ≤ 1000 := by
  have a := mul_bd (x := dx) (y := dx) (A := 7) (B := 7) (by omega) (by omega) (by omega) (by omega)
  have b := mul_bd (x := dy) (y := dy) (A := 7) (B := 7) (by omega) (by omega) (by omega) (by omega)
  have a0 : 0 ≤ dx * dx := sq_nn dx
  have b0 : 0 ≤ dy * dy := sq_nn dy
  have hq : 1 ≤ 1 + dx * dx + dy * dy ∧ 1 + dx * dx + dy * dy ≤ 99 := by omega
  refine ⟨hq, ?_⟩
  unfold wZ
  generalize 1 + dx * dx + dy * dy = q at hq
  rw [Int.tdiv_eq_ediv_of_nonneg (by omega)]
  refine ⟨?_, Int.ediv_le_self q (by omega)⟩
  rw [Int.le_ediv_iff_mul_le (by omega)]
  omega
def fS (V : Nat → Int → Int) (L : Int → Int) (h x y wo : Int) : Nat → Int
  | 0 => 0
  | k + 1 => fS V L h x y wo k + (if (k : Int) ≠ wo ∧ 0 < V 9 (48 * k + h) then L k * wZ (x - V 5 k) (y - V 6 k) else 0)
def fW (V : Nat → Int → Int) (h x y wo : Int) : Nat → Int
  | 0 => 0
  | k + 1 => fW V h x y wo k + (if (k : Int) ≠ wo ∧ 0 < V 9 (48 * k + h) then wZ (x - V 5 k) (y - V 6 k) else 0)
def fldZ (V : Nat → Int → Int) (L : Int → Int) (h x y wo : Int) : Int := (fS V L h x y wo (V 0 8).toNat).tdiv (fW V h x y wo (V 0 8).toNat)
theorem fW_rng {V : Nat → Int → Int} {h x y wo : Int} (hI : mInv V) (hx : 0 ≤ x) (hx' : x ≤ 7) (hy : 0 ≤ y) (hy' : y ≤ 7) : ∀ k : Nat, k ≤ 8 → 0 ≤ fW V h x y wo k ∧ fW V h x y wo k ≤ 1000 * k ∧ (anyB V h wo k = true → 10 ≤ fW V h x y wo k)
  | 0, _ => by simp [fW, anyB]
  | k + 1, hk => by
    have ih := fW_rng (h := h) (wo := wo) hI hx hx' hy hy' k (by omega)
    have i := hI.2.2.2.1 k (by omega) (by omega)
    have w := (wZ_rng (dx := x - V 5 k) (dy := y - V 6 k) (by omega) (by omega) (by omega) (by omega)).2
    unfold fW anyB
    split
    · refine ⟨by omega, by omega, fun _ => by omega⟩
    · rename_i q
      refine ⟨by omega, by omega, fun e => ?_⟩
      have : anyB V h wo k = true := by
        simp only [Bool.or_eq_true, Bool.and_eq_true, decide_eq_true_eq] at e
        rcases e with e | e
        · exact e
        · exact absurd e q
      have := ih.2.2 this
      omega
theorem fS_rng {V : Nat → Int → Int} {L : Int → Int} {h x y wo : Int} (hI : mInv V) (hL : ∀ j : Int, 0 ≤ j → j < V 0 8 → 0 ≤ L j ∧ L j ≤ 20000) (hx : 0 ≤ x) (hx' : x ≤ 7) (hy : 0 ≤ y) (hy' : y ≤ 7) : ∀ k : Nat, (k : Int) ≤ V 0 8 → 0 ≤ fS V L h x y wo k ∧ fS V L h x y wo k ≤ 20000 * fW V h x y wo k
  | 0, _ => by simp [fS, fW]
  | k + 1, hk => by
    have i0 := hI.2.2.1
    have ih := fS_rng (h := h) (wo := wo) hI hL hx hx' hy hy' k (by omega)
    have i := hI.2.2.2.1 k (by omega) (by omega)
    have l := hL k (by omega) (by omega)
    have w := (wZ_rng (dx := x - V 5 k) (dy := y - V 6 k) (by omega) (by omega) (by omega) (by omega)).2
    unfold fS fW
    split
    · have m1 : 0 ≤ L k * wZ (x - V 5 k) (y - V 6 k) := Int.mul_nonneg l.1 (by omega)
      have m2 : L k * wZ (x - V 5 k) (y - V 6 k) ≤ 20000 * wZ (x - V 5 k) (y - V 6 k) := Int.mul_le_mul_of_nonneg_right l.2 (by omega)
      omega
    · omega
