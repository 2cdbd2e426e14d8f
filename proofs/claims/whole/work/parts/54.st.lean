/-! the class's numbers are the reference's -/
def smG (V T : Nat → Int → Int) : Prop := ∀ i : Nat, i < 6 → (∀ j : Int, 0 ≤ j → j < 6 → T (30 + 2 * i) j = V 2 (6 * i + j)) ∧ 0 ≤ T (29 + 2 * i) 1 ∧ T (29 + 2 * i) 1 ≤ 200000000000 ∧ 1 ≤ T (29 + 2 * i) 2 ∧ T (29 + 2 * i) 2 ≤ 4000 ∧ lowZ (T (29 + 2 * i) 1) (T (29 + 2 * i) 2) 0 = V 3 i ∧ lowZ (T (29 + 2 * i) 1) (T (29 + 2 * i) 2) 1 = V 4 i
def smS (V T : Nat → Int → Int) : Prop := T 2 1 = V 0 8 ∧ ∀ k : Nat, (k : Int) < V 0 8 → T (67 + 5 * k) 0 = V 5 k ∧ T (67 + 5 * k) 1 = V 6 k ∧ T (67 + 5 * k) 2 = V 7 k ∧ T (67 + 5 * k) 3 = V 8 k ∧ T (67 + 5 * k) 8 = V 13 k ∧ (∀ j : Int, 0 ≤ j → j < 48 → T (68 + 5 * k) j = V 9 (48 * k + j) ∧ T (69 + 5 * k) j = V 10 (48 * k + j)) ∧ (∀ j : Int, 0 ≤ j → j < 3 → T (70 + 5 * k) j = V 11 (3 * k + j) ∧ T (71 + 5 * k) j = V 12 (3 * k + j))
def smB (V T : Nat → Int → Int) : Prop := T 14 0 = V 0 14 ∧ T 14 1 = V 0 19 ∧ (∀ j : Int, 0 ≤ j → j < 12 → T 15 j = V 14 j ∧ T 16 j = V 15 j ∧ T 17 j = V 16 j ∧ T 18 j = V 17 j) ∧ (T 14 9 = 0 ∨ (T 14 9 = 1 ∧ T 14 8 = loZ V ∧ ∀ b : Int, 0 ≤ b → b < V 0 14 → T 25 b = hiZ V b))
def Sim (V T : Nat → Int → Int) : Prop := smG V T ∧ smS V T ∧ smB V T
/-- only what is written anew at each call has changed -/
def tcore (T T' : Nat → Int → Int) : Prop := (∀ j : Nat, ((14 ≤ j ∧ j ≤ 18) ∨ j = 25 ∨ 29 ≤ j) → T' j = T j) ∧ T' 2 1 = T 2 1
theorem tcore.rfl {T : Nat → Int → Int} : tcore T T := ⟨fun _ _ => Eq.refl _, Eq.refl _⟩
theorem tcore.trans {T T' T'' : Nat → Int → Int} (a : tcore T T') (b : tcore T' T'') : tcore T T'' := ⟨fun j h => (b.1 j h).trans (a.1 j h), b.2.trans a.2⟩
theorem tcore.row {T : Nat → Int → Int} {k : Nat} {g : Int → Int} (h : ¬ ((14 ≤ k ∧ k ≤ 18) ∨ k = 25 ∨ 29 ≤ k)) (h2 : k ≠ 2 ∨ g 1 = T 2 1) : tcore T (mset T k g) := by
  refine ⟨fun j hj => mset_n (fun e => h (e ▸ hj)), ?_⟩
  unfold mset
  split
  · rename_i e
    rcases h2 with h2 | h2
    · omega
    · exact h2
  · exact Eq.refl _
theorem Sim.core {V T T' : Nat → Int → Int} (h : Sim V T) (c : tcore T T') : Sim V T' := by
  obtain ⟨hg, hs, hb⟩ := h
  refine ⟨fun i hi => ?_, ⟨c.2.trans hs.1, fun k hk => ?_⟩, ?_⟩
  · rw [c.1 (30 + 2 * i) (by omega), c.1 (29 + 2 * i) (by omega)]
    exact hg i hi
  · rw [c.1 (67 + 5 * k) (by omega), c.1 (68 + 5 * k) (by omega), c.1 (69 + 5 * k) (by omega), c.1 (70 + 5 * k) (by omega), c.1 (71 + 5 * k) (by omega)]
    exact hs.2 k hk
  · unfold smB
    rw [c.1 14 (by omega), c.1 15 (by omega), c.1 16 (by omega), c.1 17 (by omega), c.1 18 (by omega), c.1 25 (by omega)]
    exact hb
section STA
variable {X : ax_X} {r z : Nat} {V T : Nat → Int → Int} {f : ax_F} {s h : Int}
theorem m7_right (hX : stOk X) (hR : RH X r T f) (hI : mInv V) (hS : Sim V T) {g : Int} {a w : Int} (hg : 0 ≤ g) (hg' : g < 6) (ha : 0 ≤ a) (ha' : a ≤ 12000) (hw : -30 ≤ w) (hw' : w ≤ 50) :
    ax_M X mX4_corrected 0 0 [.ref (r + 29 + 2 * g.toNat), .int (i3 a), .int (i3 w)] z f (ax_pv (.long (i6 (mRgt V g a w))) z f) := by
  have sg := hS.1 g.toNat (by omega)
  have ig := hI.2.1 g hg hg'
  obtain ⟨n, t0, t1, l0, l1, u3, u4⟩ := sg
  rw [show (g.toNat : Int) = g by omega] at n u3 u4
  have e := m4_corrected (z := z) (r := a) (w := w) hX (hR.gl (i := g.toNat) (by omega)) (hR.gn (i := g.toNat) (by omega)) t0 t1 l0 l1 (by rw [n 0 (by omega) (by omega), n 1 (by omega) (by omega), n 2 (by omega) (by omega), n 3 (by omega) (by omega), n 4 (by omega) (by omega), n 5 (by omega) (by omega), Int.add_zero]; exact ig.1) ha ha' hw hw'
  rw [n 0 (by omega) (by omega), n 1 (by omega) (by omega), n 2 (by omega) (by omega), n 3 (by omega) (by omega), n 4 (by omega) (by omega), n 5 (by omega) (by omega), Int.add_zero, u3, u4] at e
  exact e
theorem m5_isAt (hR : RH X r T f) (hI : mInv V) (hS : Sim V T) (hs : 0 ≤ s) (hs' : s < V 0 8) {x y : Int} (hx : -2147483648 ≤ x) (hx' : x < 2147483648) (hy : -2147483648 ≤ y) (hy' : y < 2147483648) :
    ax_M X mX5_isAt 0 0 [.ref (r + 67 + 5 * s.toNat), .int (i3 x), .int (i3 y)] z f (ax_pv (.int (zb (V 5 s = x ∧ V 6 s = y))) z f) := by
  have i0 := hI.2.2.1
  have i1 := hI.2.2.2.1 s hs (by omega)
  have ss := hS.2.1.2 s.toNat (by omega)
  rw [show (s.toNat : Int) = s by omega] at ss
  have c0 := hR.st (k := s.toNat) (by rw [hS.2.1.1]; omega)
  rw [ss.1, ss.2.1] at c0
  refine ax_met2 [some (.ref (r + 67 + 5 * s.toNat)), some (.int (i3 x)), some (.int (i3 y))] (by decide) (Nat.le_of_ble_eq_true rfl) rfl ?_
  refine sbX5_isAt_0 X 0 0 _ _ _ _ _ _ _ ?_
  simp (disch := omega) only [bkX5_isAt_0, ax_ic, ax_lc, ax_nul, ax_il, ax_ll, ax_al, ax_is, ax_ls, ax_as, ax_inc, ax_iadd, ax_isub, ax_imul, ax_iand, ax_ior, ax_idiv, ax_irem, ax_ishl, ax_ishr, ax_ladd, ax_lsub, ax_lmul, ax_ldiv, ax_lrem, ax_ineg, ax_lneg, ax_i2l, ax_l2i, ax_lcmp, ax_dup, ax_pop1, ax_dupx1, ax_dup2, ax_ifeq, ax_ifne, ax_iflt, ax_ifge, ax_ifgt, ax_ifle, ax_iceq, ax_icne, ax_iclt, ax_icge, ax_icgt, ax_icle, ax_ifnull, ax_ifnn, ax_sw, ax_iret, ax_zret, ax_lret, ax_vret, ax_aret, ax_gf, ax_pfi, ax_pfz, ax_pfl, ax_pfr, ax_iald, ax_zald, ax_lald, ax_aald, ax_iast, ax_zast, ax_last, ax_aast, ax_alen, ax_ialdR, ax_alenR, ax_gst, ax_new, ax_nwi, ax_nwl, ax_nwq, ax_obj, ax_call, ax_calv, ax_nth, ax_p1, ax_p2, ax_k2, ax_nh, Value.category, lg_cmp_ge, lg_cmp_lt, lg_cmp_gt, lg_cmp_le, lg_cmp_eq, List.getElem?_cons_zero, List.getElem?_cons_succ, true_and, and_true, if_true, if_false, reduceIte, Nat.reduceEqDiff, Nat.add_eq_zero_iff, reduceCtorEq, Nat.reduceAdd, not_true_eq_false, not_false_eq_true, ax_pf, ax_popn, fv_in, fv_size, fv_drop, fv_within, fv_part, fv_cut, fv_sq, fv_absI, fv_absJ, fv_maxI, fv_minI, fv_maxJ, fv_minJ, List.map_cons, List.map_nil, List.sum_cons, List.sum_nil, Nat.reduceLeDiff, Nat.zero_le, Nat.le_refl, zb_0, zb_1, zb_em, true_or, or_true, Int32.toInt_toInt64, Nat.add_zero, fv_isGlass, fv_mayBe, fv_isReading8, fv_isHour8, fv_isPoint, fv_isReading7, fv_isRoom, fv_isWarmth, fv_isHour7, fv_isOnMap, fv_holds, fv_held, tm_eq, i3_add, i3_sub, i3_mul, i3_neg, i6_add, i6_sub, i6_mul, i6_neg, i6_I, i3_toInt, i6_toInt, i3_lt, i3_le, i3_eq, i6_lt, i6_le, i6_eq, i3_eq0, i3_eq1, i3_lt0, i3_le0, i3_gt0, i3_ge0, i6_eq0, i3_div, i6_div, i3_rem, i6_rem, i3_L, i3_nat, i3_inI, ax_up3, ax_up6, c0]
  refine ⟨fun a => ax_pv0 (congrArg Value.int (zb_f (fun q => a q.1))), fun a => ⟨fun b => ax_pv0 (congrArg Value.int (zb_f (fun q => b q.2))), fun b => ax_pv0 (congrArg Value.int (zb_t ⟨a, b⟩))⟩⟩
theorem m5_hasReading (hR : RH X r T f) (hI : mInv V) (hS : Sim V T) (hs : 0 ≤ s) (hs' : s < V 0 8) (hh : 0 ≤ h) (hh' : h < 48) :
    ax_M X mX5_hasReading 0 0 [.ref (r + 67 + 5 * s.toNat), .int (i3 h)] z f (ax_pv (.int (zb (0 < V 9 (48 * s + h)))) z f) := by
  have i0 := hI.2.2.1
  have i2 := hI.2.2.2.2.1 (48 * s + h) (by omega) (by omega)
  have ss := hS.2.1.2 s.toNat (by omega)
  rw [show (s.toNat : Int) = s by omega] at ss
  have c0 := hR.st (k := s.toNat) (by rw [hS.2.1.1]; omega)
  have c1 := hR.s1 (k := s.toNat) (by rw [hS.2.1.1]; omega)
  have e1 := (ss.2.2.2.2.2.1 h hh hh').1
  refine ax_met2 [some (.ref (r + 67 + 5 * s.toNat)), some (.int (i3 h))] (by decide) (Nat.le_of_ble_eq_true rfl) rfl ?_
  refine sbX5_hasReading_0 X 0 0 _ _ _ _ _ _ _ ?_
  simp (disch := omega) only [bkX5_hasReading_0, ax_ic, ax_lc, ax_nul, ax_il, ax_ll, ax_al, ax_is, ax_ls, ax_as, ax_inc, ax_iadd, ax_isub, ax_imul, ax_iand, ax_ior, ax_idiv, ax_irem, ax_ishl, ax_ishr, ax_ladd, ax_lsub, ax_lmul, ax_ldiv, ax_lrem, ax_ineg, ax_lneg, ax_i2l, ax_l2i, ax_lcmp, ax_dup, ax_pop1, ax_dupx1, ax_dup2, ax_ifeq, ax_ifne, ax_iflt, ax_ifge, ax_ifgt, ax_ifle, ax_iceq, ax_icne, ax_iclt, ax_icge, ax_icgt, ax_icle, ax_ifnull, ax_ifnn, ax_sw, ax_iret, ax_zret, ax_lret, ax_vret, ax_aret, ax_gf, ax_pfi, ax_pfz, ax_pfl, ax_pfr, ax_iald, ax_zald, ax_lald, ax_aald, ax_iast, ax_zast, ax_last, ax_aast, ax_alen, ax_ialdR, ax_alenR, ax_gst, ax_new, ax_nwi, ax_nwl, ax_nwq, ax_obj, ax_call, ax_calv, ax_nth, ax_p1, ax_p2, ax_k2, ax_nh, Value.category, lg_cmp_ge, lg_cmp_lt, lg_cmp_gt, lg_cmp_le, lg_cmp_eq, List.getElem?_cons_zero, List.getElem?_cons_succ, true_and, and_true, if_true, if_false, reduceIte, Nat.reduceEqDiff, Nat.add_eq_zero_iff, reduceCtorEq, Nat.reduceAdd, not_true_eq_false, not_false_eq_true, ax_pf, ax_popn, fv_in, fv_size, fv_drop, fv_within, fv_part, fv_cut, fv_sq, fv_absI, fv_absJ, fv_maxI, fv_minI, fv_maxJ, fv_minJ, List.map_cons, List.map_nil, List.sum_cons, List.sum_nil, Nat.reduceLeDiff, Nat.zero_le, Nat.le_refl, zb_0, zb_1, zb_em, true_or, or_true, Int32.toInt_toInt64, Nat.add_zero, fv_isGlass, fv_mayBe, fv_isReading8, fv_isHour8, fv_isPoint, fv_isReading7, fv_isRoom, fv_isWarmth, fv_isHour7, fv_isOnMap, fv_holds, fv_held, tm_eq, i3_add, i3_sub, i3_mul, i3_neg, i6_add, i6_sub, i6_mul, i6_neg, i6_I, i3_toInt, i6_toInt, i3_lt, i3_le, i3_eq, i6_lt, i6_le, i6_eq, i3_eq0, i3_eq1, i3_lt0, i3_le0, i3_gt0, i3_ge0, i6_eq0, i3_div, i6_div, i3_rem, i6_rem, i3_L, i3_nat, i3_inI, ax_up3, ax_up6, c0, c1, e1]
  refine ⟨⟨by omega, by omega⟩, fun a => ax_pv0 (congrArg Value.int (zb_f (by omega))), fun a => ax_pv0 (congrArg Value.int (zb_t (by omega)))⟩
theorem m5_warmth (hR : RH X r T f) (hI : mInv V) (hS : Sim V T) (hs : 0 ≤ s) (hs' : s < V 0 8) (hh : 0 ≤ h) (hh' : h < 48) :
    ax_M X mX5_warmth 0 0 [.ref (r + 67 + 5 * s.toNat), .int (i3 h)] z f (ax_pv (.int (i3 (V 10 (48 * s + h)))) z f) := by
  have ss := hS.2.1.2 s.toNat (by omega)
  rw [show (s.toNat : Int) = s by omega] at ss
  have c0 := hR.st (k := s.toNat) (by rw [hS.2.1.1]; omega)
  have c1 := hR.s2 (k := s.toNat) (by rw [hS.2.1.1]; omega)
  have e1 := (ss.2.2.2.2.2.1 h hh hh').2
  refine ax_met2 [some (.ref (r + 67 + 5 * s.toNat)), some (.int (i3 h))] (by decide) (Nat.le_of_ble_eq_true rfl) rfl ?_
  refine sbX5_warmth_0 X 0 0 _ _ _ _ _ _ _ ?_
  simp (disch := omega) only [bkX5_warmth_0, ax_ic, ax_lc, ax_nul, ax_il, ax_ll, ax_al, ax_is, ax_ls, ax_as, ax_inc, ax_iadd, ax_isub, ax_imul, ax_iand, ax_ior, ax_idiv, ax_irem, ax_ishl, ax_ishr, ax_ladd, ax_lsub, ax_lmul, ax_ldiv, ax_lrem, ax_ineg, ax_lneg, ax_i2l, ax_l2i, ax_lcmp, ax_dup, ax_pop1, ax_dupx1, ax_dup2, ax_ifeq, ax_ifne, ax_iflt, ax_ifge, ax_ifgt, ax_ifle, ax_iceq, ax_icne, ax_iclt, ax_icge, ax_icgt, ax_icle, ax_ifnull, ax_ifnn, ax_sw, ax_iret, ax_zret, ax_lret, ax_vret, ax_aret, ax_gf, ax_pfi, ax_pfz, ax_pfl, ax_pfr, ax_iald, ax_zald, ax_lald, ax_aald, ax_iast, ax_zast, ax_last, ax_aast, ax_alen, ax_ialdR, ax_alenR, ax_gst, ax_new, ax_nwi, ax_nwl, ax_nwq, ax_obj, ax_call, ax_calv, ax_nth, ax_p1, ax_p2, ax_k2, ax_nh, Value.category, lg_cmp_ge, lg_cmp_lt, lg_cmp_gt, lg_cmp_le, lg_cmp_eq, List.getElem?_cons_zero, List.getElem?_cons_succ, true_and, and_true, if_true, if_false, reduceIte, Nat.reduceEqDiff, Nat.add_eq_zero_iff, reduceCtorEq, Nat.reduceAdd, not_true_eq_false, not_false_eq_true, ax_pf, ax_popn, fv_in, fv_size, fv_drop, fv_within, fv_part, fv_cut, fv_sq, fv_absI, fv_absJ, fv_maxI, fv_minI, fv_maxJ, fv_minJ, List.map_cons, List.map_nil, List.sum_cons, List.sum_nil, Nat.reduceLeDiff, Nat.zero_le, Nat.le_refl, zb_0, zb_1, zb_em, true_or, or_true, Int32.toInt_toInt64, Nat.add_zero, fv_isGlass, fv_mayBe, fv_isReading8, fv_isHour8, fv_isPoint, fv_isReading7, fv_isRoom, fv_isWarmth, fv_isHour7, fv_isOnMap, fv_holds, fv_held, tm_eq, i3_add, i3_sub, i3_mul, i3_neg, i6_add, i6_sub, i6_mul, i6_neg, i6_I, i3_toInt, i6_toInt, i3_lt, i3_le, i3_eq, i6_lt, i6_le, i6_eq, i3_eq0, i3_eq1, i3_lt0, i3_le0, i3_gt0, i3_ge0, i6_eq0, i3_div, i6_div, i3_rem, i6_rem, i3_L, i3_nat, i3_inI, ax_up3, ax_up6, c0, c1, e1]
  exact ⟨⟨by omega, by omega⟩, ax_pv0 rfl⟩
theorem m5_mendings (hR : RH X r T f) (hS : Sim V T) (hs : 0 ≤ s) (hs' : s < V 0 8) :
    ax_M X mX5_mendings 0 0 [.ref (r + 67 + 5 * s.toNat)] z f (ax_pv (.int (i3 (V 13 s))) z f) := by
  have ss := hS.2.1.2 s.toNat (by omega)
  rw [show (s.toNat : Int) = s by omega] at ss
  have c0 := hR.st (k := s.toNat) (by rw [hS.2.1.1]; omega)
  rw [ss.2.2.2.2.1] at c0
  refine ax_met2 [some (.ref (r + 67 + 5 * s.toNat))] (by decide) (Nat.le_of_ble_eq_true rfl) rfl ?_
  refine sbX5_mendings_0 X 0 0 _ _ _ _ _ _ _ ?_
  simp (disch := omega) only [bkX5_mendings_0, ax_ic, ax_lc, ax_nul, ax_il, ax_ll, ax_al, ax_is, ax_ls, ax_as, ax_inc, ax_iadd, ax_isub, ax_imul, ax_iand, ax_ior, ax_idiv, ax_irem, ax_ishl, ax_ishr, ax_ladd, ax_lsub, ax_lmul, ax_ldiv, ax_lrem, ax_ineg, ax_lneg, ax_i2l, ax_l2i, ax_lcmp, ax_dup, ax_pop1, ax_dupx1, ax_dup2, ax_ifeq, ax_ifne, ax_iflt, ax_ifge, ax_ifgt, ax_ifle, ax_iceq, ax_icne, ax_iclt, ax_icge, ax_icgt, ax_icle, ax_ifnull, ax_ifnn, ax_sw, ax_iret, ax_zret, ax_lret, ax_vret, ax_aret, ax_gf, ax_pfi, ax_pfz, ax_pfl, ax_pfr, ax_iald, ax_zald, ax_lald, ax_aald, ax_iast, ax_zast, ax_last, ax_aast, ax_alen, ax_ialdR, ax_alenR, ax_gst, ax_new, ax_nwi, ax_nwl, ax_nwq, ax_obj, ax_call, ax_calv, ax_nth, ax_p1, ax_p2, ax_k2, ax_nh, Value.category, lg_cmp_ge, lg_cmp_lt, lg_cmp_gt, lg_cmp_le, lg_cmp_eq, List.getElem?_cons_zero, List.getElem?_cons_succ, true_and, and_true, if_true, if_false, reduceIte, Nat.reduceEqDiff, Nat.add_eq_zero_iff, reduceCtorEq, Nat.reduceAdd, not_true_eq_false, not_false_eq_true, ax_pf, ax_popn, fv_in, fv_size, fv_drop, fv_within, fv_part, fv_cut, fv_sq, fv_absI, fv_absJ, fv_maxI, fv_minI, fv_maxJ, fv_minJ, List.map_cons, List.map_nil, List.sum_cons, List.sum_nil, Nat.reduceLeDiff, Nat.zero_le, Nat.le_refl, zb_0, zb_1, zb_em, true_or, or_true, Int32.toInt_toInt64, Nat.add_zero, fv_isGlass, fv_mayBe, fv_isReading8, fv_isHour8, fv_isPoint, fv_isReading7, fv_isRoom, fv_isWarmth, fv_isHour7, fv_isOnMap, fv_holds, fv_held, tm_eq, i3_add, i3_sub, i3_mul, i3_neg, i6_add, i6_sub, i6_mul, i6_neg, i6_I, i3_toInt, i6_toInt, i3_lt, i3_le, i3_eq, i6_lt, i6_le, i6_eq, i3_eq0, i3_eq1, i3_lt0, i3_le0, i3_gt0, i3_ge0, i6_eq0, i3_div, i6_div, i3_rem, i6_rem, i3_L, i3_nat, i3_inI, ax_up3, ax_up6, c0]
  exact ax_pv0 rfl
theorem m5_md_23 (hR : RH X r T f) (hI : mInv V) (hS : Sim V T) (hs : 0 ≤ s) (hs' : s < V 0 8) (hh : 0 ≤ h) (hh' : h < 48) {R : Int} (hR1 : -2000000000000 ≤ R) (hR2 : R ≤ 2000000000000) :
    ∀ (d k : Nat), V 13 s = (k : Int) + d → ax_G X mX5_mended 0 0 (ax_pv (.long (i6 (R - mndS V s h (V 13 s).toNat))) z f) 23 [some (.ref (r + 67 + 5 * s.toNat)), some (.int (i3 h)), some (.long (i6 (R - mndS V s h k))), none, some (.int (i3 (k : Int)))] [] 0 0 z f := by
  have i0 := hI.2.2.1
  have i1 := hI.2.2.2.1 s hs (by omega)
  have ss := hS.2.1.2 s.toNat (by omega)
  rw [show (s.toNat : Int) = s by omega] at ss
  have c0 := hR.st (k := s.toNat) (by rw [hS.2.1.1]; omega)
  have c3 := hR.s3 (k := s.toNat) (by rw [hS.2.1.1]; omega)
  have c4 := hR.s4 (k := s.toNat) (by rw [hS.2.1.1]; omega)
  rw [ss.2.2.2.2.1] at c0
  intro d
  induction d with
  | zero =>
    intro k hk
    refine sbX5_mended_23 X 0 0 _ _ _ _ _ _ _ ?_
    simp (disch := omega) only [bkX5_mended_23, ax_ic, ax_lc, ax_nul, ax_il, ax_ll, ax_al, ax_is, ax_ls, ax_as, ax_inc, ax_iadd, ax_isub, ax_imul, ax_iand, ax_ior, ax_idiv, ax_irem, ax_ishl, ax_ishr, ax_ladd, ax_lsub, ax_lmul, ax_ldiv, ax_lrem, ax_ineg, ax_lneg, ax_i2l, ax_l2i, ax_lcmp, ax_dup, ax_pop1, ax_dupx1, ax_dup2, ax_ifeq, ax_ifne, ax_iflt, ax_ifge, ax_ifgt, ax_ifle, ax_iceq, ax_icne, ax_iclt, ax_icge, ax_icgt, ax_icle, ax_ifnull, ax_ifnn, ax_sw, ax_iret, ax_zret, ax_lret, ax_vret, ax_aret, ax_gf, ax_pfi, ax_pfz, ax_pfl, ax_pfr, ax_iald, ax_zald, ax_lald, ax_aald, ax_iast, ax_zast, ax_last, ax_aast, ax_alen, ax_ialdR, ax_alenR, ax_gst, ax_new, ax_nwi, ax_nwl, ax_nwq, ax_obj, ax_call, ax_calv, ax_nth, ax_p1, ax_p2, ax_k2, ax_nh, Value.category, lg_cmp_ge, lg_cmp_lt, lg_cmp_gt, lg_cmp_le, lg_cmp_eq, List.getElem?_cons_zero, List.getElem?_cons_succ, true_and, and_true, if_true, if_false, reduceIte, Nat.reduceEqDiff, Nat.add_eq_zero_iff, reduceCtorEq, Nat.reduceAdd, not_true_eq_false, not_false_eq_true, ax_pf, ax_popn, fv_in, fv_size, fv_drop, fv_within, fv_part, fv_cut, fv_sq, fv_absI, fv_absJ, fv_maxI, fv_minI, fv_maxJ, fv_minJ, List.map_cons, List.map_nil, List.sum_cons, List.sum_nil, Nat.reduceLeDiff, Nat.zero_le, Nat.le_refl, zb_0, zb_1, zb_em, true_or, or_true, Int32.toInt_toInt64, Nat.add_zero, fv_isGlass, fv_mayBe, fv_isReading8, fv_isHour8, fv_isPoint, fv_isReading7, fv_isRoom, fv_isWarmth, fv_isHour7, fv_isOnMap, fv_holds, fv_held, tm_eq, i3_add, i3_sub, i3_mul, i3_neg, i6_add, i6_sub, i6_mul, i6_neg, i6_I, i3_toInt, i6_toInt, i3_lt, i3_le, i3_eq, i6_lt, i6_le, i6_eq, i3_eq0, i3_eq1, i3_lt0, i3_le0, i3_gt0, i3_ge0, i6_eq0, i3_div, i6_div, i3_rem, i6_rem, i3_L, i3_nat, i3_inI, ax_up3, ax_up6, c0]
    refine ⟨fun _ => ax_pv0 ?_, fun q => absurd (by omega) q⟩
    rw [show (V 13 s).toNat = k by omega]
  | succ d ih =>
    intro k hk
    have e := ih (k + 1) (by omega)
    have i3' := hI.2.2.2.2.2.1 (3 * s + k) (by omega) (by omega)
    have hb := mndS_bd (h := h) hI hs (by omega) k (by omega)
    have ee := ss.2.2.2.2.2.2 k (by omega) (by omega)
    refine sbX5_mended_23 X 0 0 _ _ _ _ _ _ _ ?_
    simp (disch := omega) only [bkX5_mended_23, ax_ic, ax_lc, ax_nul, ax_il, ax_ll, ax_al, ax_is, ax_ls, ax_as, ax_inc, ax_iadd, ax_isub, ax_imul, ax_iand, ax_ior, ax_idiv, ax_irem, ax_ishl, ax_ishr, ax_ladd, ax_lsub, ax_lmul, ax_ldiv, ax_lrem, ax_ineg, ax_lneg, ax_i2l, ax_l2i, ax_lcmp, ax_dup, ax_pop1, ax_dupx1, ax_dup2, ax_ifeq, ax_ifne, ax_iflt, ax_ifge, ax_ifgt, ax_ifle, ax_iceq, ax_icne, ax_iclt, ax_icge, ax_icgt, ax_icle, ax_ifnull, ax_ifnn, ax_sw, ax_iret, ax_zret, ax_lret, ax_vret, ax_aret, ax_gf, ax_pfi, ax_pfz, ax_pfl, ax_pfr, ax_iald, ax_zald, ax_lald, ax_aald, ax_iast, ax_zast, ax_last, ax_aast, ax_alen, ax_ialdR, ax_alenR, ax_gst, ax_new, ax_nwi, ax_nwl, ax_nwq, ax_obj, ax_call, ax_calv, ax_nth, ax_p1, ax_p2, ax_k2, ax_nh, Value.category, lg_cmp_ge, lg_cmp_lt, lg_cmp_gt, lg_cmp_le, lg_cmp_eq, List.getElem?_cons_zero, List.getElem?_cons_succ, true_and, and_true, if_true, if_false, reduceIte, Nat.reduceEqDiff, Nat.add_eq_zero_iff, reduceCtorEq, Nat.reduceAdd, not_true_eq_false, not_false_eq_true, ax_pf, ax_popn, fv_in, fv_size, fv_drop, fv_within, fv_part, fv_cut, fv_sq, fv_absI, fv_absJ, fv_maxI, fv_minI, fv_maxJ, fv_minJ, List.map_cons, List.map_nil, List.sum_cons, List.sum_nil, Nat.reduceLeDiff, Nat.zero_le, Nat.le_refl, zb_0, zb_1, zb_em, true_or, or_true, Int32.toInt_toInt64, Nat.add_zero, fv_isGlass, fv_mayBe, fv_isReading8, fv_isHour8, fv_isPoint, fv_isReading7, fv_isRoom, fv_isWarmth, fv_isHour7, fv_isOnMap, fv_holds, fv_held, tm_eq, i3_add, i3_sub, i3_mul, i3_neg, i6_add, i6_sub, i6_mul, i6_neg, i6_I, i3_toInt, i6_toInt, i3_lt, i3_le, i3_eq, i6_lt, i6_le, i6_eq, i3_eq0, i3_eq1, i3_lt0, i3_le0, i3_gt0, i3_ge0, i6_eq0, i3_div, i6_div, i3_rem, i6_rem, i3_L, i3_nat, i3_inI, ax_up3, ax_up6, c0, c3, c4, ee.1, ee.2]
    refine ⟨fun q => absurd q (by omega), fun _ => ⟨by omega, fun q => ?_, fun q => ⟨by omega, ?_⟩⟩⟩
    · rw [mndS, if_neg (by omega), Int.add_zero] at e
      exact e
    · rw [mndS, if_pos (by omega), ← Int.sub_sub] at e
      exact e
theorem m5_mended (hX : stOk X) (hR : RH X r T f) (hI : mInv V) (hS : Sim V T) (hs : 0 ≤ s) (hs' : s < V 0 8) (hh : 0 ≤ h) (hh' : h < 48) :
    ax_M X mX5_mended 0 0 [.ref (r + 67 + 5 * s.toNat), .int (i3 h)] z f (ax_pv (.long (i6 (mMnd V s h))) z f) := by
  have i0 := hI.2.2.1
  have i1 := hI.2.2.2.1 s hs (by omega)
  have i2 := hI.2.2.2.2.1 (48 * s + h) (by omega) (by omega)
  have ss := hS.2.1.2 s.toNat (by omega)
  rw [show (s.toNat : Int) = s by omega] at ss
  have c0 := hR.st (k := s.toNat) (by rw [hS.2.1.1]; omega)
  have c1 := hR.s1 (k := s.toNat) (by rw [hS.2.1.1]; omega)
  have c2 := hR.s2 (k := s.toNat) (by rw [hS.2.1.1]; omega)
  have e1 := ss.2.2.2.2.2.1 h hh hh'
  rw [ss.2.2.2.1] at c0
  have g0 := hR.gl (i := (V 8 s).toNat) (by omega)
  have hb := mRgt_bd (g := V 8 s) (r := V 9 (48 * s + h)) (w := V 10 (48 * s + h)) hI (by omega) (by omega) (by omega) (by omega) (by omega) (by omega)
  refine ax_met2 [some (.ref (r + 67 + 5 * s.toNat)), some (.int (i3 h)), none, none, none] (by decide) (Nat.le_of_ble_eq_true rfl) rfl ?_
  refine sbX5_mended_0 X 0 0 _ _ _ _ _ _ _ ?_
  simp (disch := omega) only [bkX5_mended_0, ax_ic, ax_lc, ax_nul, ax_il, ax_ll, ax_al, ax_is, ax_ls, ax_as, ax_inc, ax_iadd, ax_isub, ax_imul, ax_iand, ax_ior, ax_idiv, ax_irem, ax_ishl, ax_ishr, ax_ladd, ax_lsub, ax_lmul, ax_ldiv, ax_lrem, ax_ineg, ax_lneg, ax_i2l, ax_l2i, ax_lcmp, ax_dup, ax_pop1, ax_dupx1, ax_dup2, ax_ifeq, ax_ifne, ax_iflt, ax_ifge, ax_ifgt, ax_ifle, ax_iceq, ax_icne, ax_iclt, ax_icge, ax_icgt, ax_icle, ax_ifnull, ax_ifnn, ax_sw, ax_iret, ax_zret, ax_lret, ax_vret, ax_aret, ax_gf, ax_pfi, ax_pfz, ax_pfl, ax_pfr, ax_iald, ax_zald, ax_lald, ax_aald, ax_iast, ax_zast, ax_last, ax_aast, ax_alen, ax_ialdR, ax_alenR, ax_gst, ax_new, ax_nwi, ax_nwl, ax_nwq, ax_obj, ax_call, ax_calv, ax_nth, ax_p1, ax_p2, ax_k2, ax_nh, Value.category, lg_cmp_ge, lg_cmp_lt, lg_cmp_gt, lg_cmp_le, lg_cmp_eq, List.getElem?_cons_zero, List.getElem?_cons_succ, true_and, and_true, if_true, if_false, reduceIte, Nat.reduceEqDiff, Nat.add_eq_zero_iff, reduceCtorEq, Nat.reduceAdd, not_true_eq_false, not_false_eq_true, ax_pf, ax_popn, fv_in, fv_size, fv_drop, fv_within, fv_part, fv_cut, fv_sq, fv_absI, fv_absJ, fv_maxI, fv_minI, fv_maxJ, fv_minJ, List.map_cons, List.map_nil, List.sum_cons, List.sum_nil, Nat.reduceLeDiff, Nat.zero_le, Nat.le_refl, zb_0, zb_1, zb_em, true_or, or_true, Int32.toInt_toInt64, Nat.add_zero, fv_isGlass, fv_mayBe, fv_isReading8, fv_isHour8, fv_isPoint, fv_isReading7, fv_isRoom, fv_isWarmth, fv_isHour7, fv_isOnMap, fv_holds, fv_held, tm_eq, i3_add, i3_sub, i3_mul, i3_neg, i6_add, i6_sub, i6_mul, i6_neg, i6_I, i3_toInt, i6_toInt, i3_lt, i3_le, i3_eq, i6_lt, i6_le, i6_eq, i3_eq0, i3_eq1, i3_lt0, i3_le0, i3_gt0, i3_ge0, i6_eq0, i3_div, i6_div, i3_rem, i6_rem, i3_L, i3_nat, i3_inI, ax_up3, ax_up6, c0, c1, c2, e1.1, e1.2]
  refine ⟨⟨by omega, by omega⟩, ⟨by omega, by omega⟩, ⟨_, g0⟩, ax_fn (Nat.le_of_ble_eq_true rfl) (Nat.zero_le _) (Nat.zero_le _) (m7_right hX hR hI hS (by omega) (by omega) (by omega) (by omega) (by omega) (by omega)) ?_⟩
  simp only [ax_ic, ax_lc, ax_nul, ax_il, ax_ll, ax_al, ax_is, ax_ls, ax_as, ax_inc, ax_iadd, ax_isub, ax_imul, ax_iand, ax_ior, ax_idiv, ax_irem, ax_ishl, ax_ishr, ax_ladd, ax_lsub, ax_lmul, ax_ldiv, ax_lrem, ax_ineg, ax_lneg, ax_i2l, ax_l2i, ax_lcmp, ax_dup, ax_pop1, ax_dupx1, ax_dup2, ax_ifeq, ax_ifne, ax_iflt, ax_ifge, ax_ifgt, ax_ifle, ax_iceq, ax_icne, ax_iclt, ax_icge, ax_icgt, ax_icle, ax_ifnull, ax_ifnn, ax_sw, ax_iret, ax_zret, ax_lret, ax_vret, ax_aret, ax_gf, ax_pfi, ax_pfz, ax_pfl, ax_pfr, ax_iald, ax_zald, ax_lald, ax_aald, ax_iast, ax_zast, ax_last, ax_aast, ax_alen, ax_ialdR, ax_alenR, ax_gst, ax_new, ax_nwi, ax_nwl, ax_nwq, ax_obj, ax_call, ax_calv, ax_nth, ax_p1, ax_p2, ax_k2, ax_nh, Value.category, lg_cmp_ge, lg_cmp_lt, lg_cmp_gt, lg_cmp_le, lg_cmp_eq, List.getElem?_cons_zero, List.getElem?_cons_succ, true_and, and_true, if_true, if_false, reduceIte, Nat.reduceEqDiff, Nat.add_eq_zero_iff, reduceCtorEq, Nat.reduceAdd, not_true_eq_false, not_false_eq_true]
  have e := m5_md_23 (z := z) hR hI hS hs hs' hh hh' hb.1 hb.2 (V 13 s).toNat 0 (by omega)
  rw [show mndS V s h 0 = 0 from rfl, Int.sub_zero] at e
  exact e
theorem m5_levelAt (hX : stOk X) (hR : RH X r T f) (hI : mInv V) (hS : Sim V T) (hs : 0 ≤ s) (hs' : s < V 0 8) (hh : 0 ≤ h) (hh' : h < 48) :
    ax_M X mX5_levelAt 0 0 [.ref (r + 67 + 5 * s.toNat), .int (i3 h)] z f (ax_pv (.int (i3 (mLvl V s h))) z f) := by
  have i0 := hI.2.2.1
  have i1 := hI.2.2.2.1 s hs (by omega)
  have i2 := hI.2.2.2.2.1 (48 * s + h) (by omega) (by omega)
  have ss := hS.2.1.2 s.toNat (by omega)
  rw [show (s.toNat : Int) = s by omega] at ss
  have c0 := hR.st (k := s.toNat) (by rw [hS.2.1.1]; omega)
  have c2 := hR.s2 (k := s.toNat) (by rw [hS.2.1.1]; omega)
  have e1 := ss.2.2.2.2.2.1 h hh hh'
  rw [ss.2.2.1] at c0
  have hb := mMnd_bd hI hs (by omega) hh hh'
  refine ax_met2 [some (.ref (r + 67 + 5 * s.toNat)), some (.int (i3 h))] (by decide) (Nat.le_of_ble_eq_true rfl) rfl ?_
  refine sbX5_levelAt_0 X 0 0 _ _ _ _ _ _ _ ?_
  simp (disch := omega) only [bkX5_levelAt_0, ax_ic, ax_lc, ax_nul, ax_il, ax_ll, ax_al, ax_is, ax_ls, ax_as, ax_inc, ax_iadd, ax_isub, ax_imul, ax_iand, ax_ior, ax_idiv, ax_irem, ax_ishl, ax_ishr, ax_ladd, ax_lsub, ax_lmul, ax_ldiv, ax_lrem, ax_ineg, ax_lneg, ax_i2l, ax_l2i, ax_lcmp, ax_dup, ax_pop1, ax_dupx1, ax_dup2, ax_ifeq, ax_ifne, ax_iflt, ax_ifge, ax_ifgt, ax_ifle, ax_iceq, ax_icne, ax_iclt, ax_icge, ax_icgt, ax_icle, ax_ifnull, ax_ifnn, ax_sw, ax_iret, ax_zret, ax_lret, ax_vret, ax_aret, ax_gf, ax_pfi, ax_pfz, ax_pfl, ax_pfr, ax_iald, ax_zald, ax_lald, ax_aald, ax_iast, ax_zast, ax_last, ax_aast, ax_alen, ax_ialdR, ax_alenR, ax_gst, ax_new, ax_nwi, ax_nwl, ax_nwq, ax_obj, ax_call, ax_calv, ax_nth, ax_p1, ax_p2, ax_k2, ax_nh, Value.category, lg_cmp_ge, lg_cmp_lt, lg_cmp_gt, lg_cmp_le, lg_cmp_eq, List.getElem?_cons_zero, List.getElem?_cons_succ, true_and, and_true, if_true, if_false, reduceIte, Nat.reduceEqDiff, Nat.add_eq_zero_iff, reduceCtorEq, Nat.reduceAdd, not_true_eq_false, not_false_eq_true, ax_pf, ax_popn, fv_in, fv_size, fv_drop, fv_within, fv_part, fv_cut, fv_sq, fv_absI, fv_absJ, fv_maxI, fv_minI, fv_maxJ, fv_minJ, List.map_cons, List.map_nil, List.sum_cons, List.sum_nil, Nat.reduceLeDiff, Nat.zero_le, Nat.le_refl, zb_0, zb_1, zb_em, true_or, or_true, Int32.toInt_toInt64, Nat.add_zero, fv_isGlass, fv_mayBe, fv_isReading8, fv_isHour8, fv_isPoint, fv_isReading7, fv_isRoom, fv_isWarmth, fv_isHour7, fv_isOnMap, fv_holds, fv_held, tm_eq, i3_add, i3_sub, i3_mul, i3_neg, i6_add, i6_sub, i6_mul, i6_neg, i6_I, i3_toInt, i6_toInt, i3_lt, i3_le, i3_eq, i6_lt, i6_le, i6_eq, i3_eq0, i3_eq1, i3_lt0, i3_le0, i3_gt0, i3_ge0, i6_eq0, i3_div, i6_div, i3_rem, i6_rem, i3_L, i3_nat, i3_inI, ax_up3, ax_up6, c0, c2]
  refine ⟨⟨_, c0⟩, ax_fn (Nat.le_of_ble_eq_true rfl) (Nat.zero_le _) (Nat.zero_le _) (m5_mended hX hR hI hS hs hs' hh hh') ?_⟩
  simp (disch := omega) only [ax_ic, ax_lc, ax_nul, ax_il, ax_ll, ax_al, ax_is, ax_ls, ax_as, ax_inc, ax_iadd, ax_isub, ax_imul, ax_iand, ax_ior, ax_idiv, ax_irem, ax_ishl, ax_ishr, ax_ladd, ax_lsub, ax_lmul, ax_ldiv, ax_lrem, ax_ineg, ax_lneg, ax_i2l, ax_l2i, ax_lcmp, ax_dup, ax_pop1, ax_dupx1, ax_dup2, ax_ifeq, ax_ifne, ax_iflt, ax_ifge, ax_ifgt, ax_ifle, ax_iceq, ax_icne, ax_iclt, ax_icge, ax_icgt, ax_icle, ax_ifnull, ax_ifnn, ax_sw, ax_iret, ax_zret, ax_lret, ax_vret, ax_aret, ax_gf, ax_pfi, ax_pfz, ax_pfl, ax_pfr, ax_iald, ax_zald, ax_lald, ax_aald, ax_iast, ax_zast, ax_last, ax_aast, ax_alen, ax_ialdR, ax_alenR, ax_gst, ax_new, ax_nwi, ax_nwl, ax_nwq, ax_obj, ax_call, ax_calv, ax_nth, ax_p1, ax_p2, ax_k2, ax_nh, Value.category, lg_cmp_ge, lg_cmp_lt, lg_cmp_gt, lg_cmp_le, lg_cmp_eq, List.getElem?_cons_zero, List.getElem?_cons_succ, true_and, and_true, if_true, if_false, reduceIte, Nat.reduceEqDiff, Nat.add_eq_zero_iff, reduceCtorEq, Nat.reduceAdd, not_true_eq_false, not_false_eq_true, ax_pf, ax_popn, fv_in, fv_size, fv_drop, fv_within, fv_part, fv_cut, fv_sq, fv_absI, fv_absJ, fv_maxI, fv_minI, fv_maxJ, fv_minJ, List.map_cons, List.map_nil, List.sum_cons, List.sum_nil, Nat.reduceLeDiff, Nat.zero_le, Nat.le_refl, zb_0, zb_1, zb_em, true_or, or_true, Int32.toInt_toInt64, Nat.add_zero, fv_isGlass, fv_mayBe, fv_isReading8, fv_isHour8, fv_isPoint, fv_isReading7, fv_isRoom, fv_isWarmth, fv_isHour7, fv_isOnMap, fv_holds, fv_held, tm_eq, i3_add, i3_sub, i3_mul, i3_neg, i6_add, i6_sub, i6_mul, i6_neg, i6_I, i3_toInt, i6_toInt, i3_lt, i3_le, i3_eq, i6_lt, i6_le, i6_eq, i3_eq0, i3_eq1, i3_lt0, i3_le0, i3_gt0, i3_ge0, i6_eq0, i3_div, i6_div, i3_rem, i6_rem, i3_L, i3_nat, i3_inI, ax_up3, ax_up6, c0, c2, e1.1, e1.2]
  have hp := heldZ_rng (mMnd V s h)
  refine ⟨⟨by omega, by omega⟩, ax_fn (Nat.le_of_ble_eq_true rfl) (Nat.zero_le _) (Nat.zero_le _) (m1_reduced hX hp.1 hp.2 (by omega) (by omega) (by omega) (by omega)) ?_⟩
  simp only [ax_ic, ax_lc, ax_nul, ax_il, ax_ll, ax_al, ax_is, ax_ls, ax_as, ax_inc, ax_iadd, ax_isub, ax_imul, ax_iand, ax_ior, ax_idiv, ax_irem, ax_ishl, ax_ishr, ax_ladd, ax_lsub, ax_lmul, ax_ldiv, ax_lrem, ax_ineg, ax_lneg, ax_i2l, ax_l2i, ax_lcmp, ax_dup, ax_pop1, ax_dupx1, ax_dup2, ax_ifeq, ax_ifne, ax_iflt, ax_ifge, ax_ifgt, ax_ifle, ax_iceq, ax_icne, ax_iclt, ax_icge, ax_icgt, ax_icle, ax_ifnull, ax_ifnn, ax_sw, ax_iret, ax_zret, ax_lret, ax_vret, ax_aret, ax_gf, ax_pfi, ax_pfz, ax_pfl, ax_pfr, ax_iald, ax_zald, ax_lald, ax_aald, ax_iast, ax_zast, ax_last, ax_aast, ax_alen, ax_ialdR, ax_alenR, ax_gst, ax_new, ax_nwi, ax_nwl, ax_nwq, ax_obj, ax_call, ax_calv, ax_nth, ax_p1, ax_p2, ax_k2, ax_nh, Value.category, lg_cmp_ge, lg_cmp_lt, lg_cmp_gt, lg_cmp_le, lg_cmp_eq, List.getElem?_cons_zero, List.getElem?_cons_succ, true_and, and_true, if_true, if_false, reduceIte, Nat.reduceEqDiff, Nat.add_eq_zero_iff, reduceCtorEq, Nat.reduceAdd, not_true_eq_false, not_false_eq_true]
  exact ax_pv0 rfl
end STA
