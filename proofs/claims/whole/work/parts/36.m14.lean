theorem hmZ_core {V V' : Nat → Int → Int} (c : core V V') (s h : Int) : hmZ V' s h ↔ hmZ V s h := by
  unfold hmZ
  rw [c.1 9 (by omega) (by omega), c.2.1, anyB_core c]
theorem m8_fd_1 {X : ax_X} {o z : Nat} {V : Nat → Int → Int} {f0 : ax_F} {s : Int} (hI : mInv V) (hs : 0 ≤ s) (hs' : s < V 0 8) :
    ∀ (n k : Nat) (V' : Nat → Int → Int) (f : ax_F), k + n = 48 → core V V' → (∀ j : Int, 0 ≤ j → j < k → V' 25 j = PZ V s j) → (∀ j : Int, 0 ≤ j → j < k → PZ V s j = 1 → V' 24 j = MZ V s j) → MH X o V' f → MF o f0 f → ax_G X mX8_findDrift 0 0 (fdPost X o z V s f0) 2 [some (.ref o), some (.int (i3 s)), some (.int (i3 k))] [] 0 0 z f := by
  have i0 := hI.2.2.1
  have is := hI.2.2.2.1 s hs (by omega)
  intro n
  induction n with
  | zero =>
    intro k V' f hk c hP hMM hM hF
    have hk' : k = 48 := by omega
    subst hk'
    have m0 : f o = some (mce X o 0 (V' 0)) := hM 0 (by decide)
    simp only [mce] at m0
    refine sbX8_findDrift_2 X 0 0 _ _ _ _ _ _ _ ?_
    simp (disch := omega) only [bkX8_findDrift_2, ax_ic, ax_lc, ax_nul, ax_il, ax_ll, ax_al, ax_is, ax_ls, ax_as, ax_inc, ax_iadd, ax_isub, ax_imul, ax_iand, ax_ior, ax_idiv, ax_irem, ax_ishl, ax_ishr, ax_ladd, ax_lsub, ax_lmul, ax_ldiv, ax_lrem, ax_ineg, ax_lneg, ax_i2l, ax_l2i, ax_lcmp, ax_dup, ax_pop1, ax_dupx1, ax_dup2, ax_ifeq, ax_ifne, ax_iflt, ax_ifge, ax_ifgt, ax_ifle, ax_iceq, ax_icne, ax_iclt, ax_icge, ax_icgt, ax_icle, ax_ifnull, ax_ifnn, ax_sw, ax_iret, ax_zret, ax_lret, ax_vret, ax_aret, ax_gf, ax_pfi, ax_pfz, ax_pfl, ax_pfr, ax_iald, ax_zald, ax_lald, ax_aald, ax_iast, ax_zast, ax_last, ax_aast, ax_alen, ax_ialdR, ax_alenR, ax_gst, ax_new, ax_nwi, ax_nwl, ax_nwq, ax_obj, ax_call, ax_calv, ax_nth, ax_p1, ax_p2, ax_k2, ax_nh, Value.category, lg_cmp_ge, lg_cmp_lt, lg_cmp_gt, lg_cmp_le, lg_cmp_eq, List.getElem?_cons_zero, List.getElem?_cons_succ, true_and, and_true, if_true, if_false, reduceIte, Nat.reduceEqDiff, Nat.add_eq_zero_iff, reduceCtorEq, Nat.reduceAdd, not_true_eq_false, not_false_eq_true, ax_pf, ax_popn, fv_in, fv_size, fv_drop, fv_within, fv_part, fv_cut, fv_sq, fv_absI, fv_absJ, fv_maxI, fv_minI, fv_maxJ, fv_minJ, List.map_cons, List.map_nil, List.sum_cons, List.sum_nil, Nat.reduceLeDiff, Nat.zero_le, Nat.le_refl, zb_0, zb_1, zb_em, true_or, or_true, Int32.toInt_toInt64, Nat.add_zero, fv_isGlass, fv_mayBe, fv_isReading8, fv_isHour8, fv_isPoint, fv_isReading7, fv_isRoom, fv_isWarmth, fv_isHour7, fv_isOnMap, fv_holds, fv_held, tm_eq, i3_add, i3_sub, i3_mul, i3_neg, i6_add, i6_sub, i6_mul, i6_neg, i6_I, i3_toInt, i6_toInt, i3_lt, i3_le, i3_eq, i6_lt, i6_le, i6_eq, i3_eq0, i3_eq1, i3_lt0, i3_le0, i3_gt0, i3_ge0, i6_eq0, i3_div, i6_div, i3_rem, i6_rem, i3_L, i3_nat, i3_inI, ax_up3, ax_up6, up_ne, up_0, up_s, up_00, up_0n, m0]
    refine ⟨fun _ => ⟨Nat.le_of_ble_eq_true rfl, Nat.le_of_ble_eq_true rfl, Nat.le_of_ble_eq_true rfl, ?_⟩, fun q => absurd (by omega) q⟩
    refine m8_fd_2 hI hs hs' 48 0 _ _ (by omega) (c.trans ⟨fun j h1 _ => ?_, ?_, ?_, ?_⟩) ?_ ?_ ?_ (((hM.set (k := 0) (g := ax_u (V' 0) 28 (-6)) rfl).set (k := 0) (g := ax_u (ax_u (V' 0) 28 (-6)) 29 0) rfl).set (k := 0) (g := ax_u (ax_u (ax_u (V' 0) 28 (-6)) 29 0) 30 1) rfl) (((hF.up (k := 0) (by decide)).up (k := 0) (by decide)).up (k := 0) (by decide))
    · rw [mset_n (by omega), mset_n (by omega), mset_n (by omega)]
    · rfl
    · rfl
    · rfl
    · intro j a b
      rw [mset_n (by decide), mset_n (by decide), mset_n (by decide)]
      exact hP j a b
    · intro j a b e
      rw [mset_n (by decide), mset_n (by decide), mset_n (by decide)]
      exact hMM j a b e
    · rfl
  | succ n ih =>
    intro k V' f hk c hP hMM hM hF
    have hI' := c.inv hI
    have m0 : f o = some (mce X o 0 (V' 0)) := hM 0 (by decide)
    have m25 := hM 25 (by decide)
    simp only [mce] at m0 m25
    have jj := hI.2.2.2.2.1 (48 * s + k) (by omega) (by omega)
    have jj' : 0 ≤ V' 9 (48 * s + k) ∧ V' 9 (48 * s + k) ≤ 12000 := by rw [c.1 9 (by omega) (by omega)]; exact ⟨jj.1, jj.2.1⟩
    have at36n : ¬ hmZ V s k → ax_G X mX8_findDrift 0 0 (fdPost X o z V s f0) 36 [some (.ref o), some (.int (i3 s)), some (.int (i3 k))] [.int (i3 0), .int (i3 k), .ref (o + 25)] 0 0 z f := by
      intro hn
      refine sbX8_findDrift_36 X 0 0 _ _ _ _ _ _ _ ?_
      simp (disch := omega) only [bkX8_findDrift_36, ax_ic, ax_lc, ax_nul, ax_il, ax_ll, ax_al, ax_is, ax_ls, ax_as, ax_inc, ax_iadd, ax_isub, ax_imul, ax_iand, ax_ior, ax_idiv, ax_irem, ax_ishl, ax_ishr, ax_ladd, ax_lsub, ax_lmul, ax_ldiv, ax_lrem, ax_ineg, ax_lneg, ax_i2l, ax_l2i, ax_lcmp, ax_dup, ax_pop1, ax_dupx1, ax_dup2, ax_ifeq, ax_ifne, ax_iflt, ax_ifge, ax_ifgt, ax_ifle, ax_iceq, ax_icne, ax_iclt, ax_icge, ax_icgt, ax_icle, ax_ifnull, ax_ifnn, ax_sw, ax_iret, ax_zret, ax_lret, ax_vret, ax_aret, ax_gf, ax_pfi, ax_pfz, ax_pfl, ax_pfr, ax_iald, ax_zald, ax_lald, ax_aald, ax_iast, ax_zast, ax_last, ax_aast, ax_alen, ax_ialdR, ax_alenR, ax_gst, ax_new, ax_nwi, ax_nwl, ax_nwq, ax_obj, ax_call, ax_calv, ax_nth, ax_p1, ax_p2, ax_k2, ax_nh, Value.category, lg_cmp_ge, lg_cmp_lt, lg_cmp_gt, lg_cmp_le, lg_cmp_eq, List.getElem?_cons_zero, List.getElem?_cons_succ, true_and, and_true, if_true, if_false, reduceIte, Nat.reduceEqDiff, Nat.add_eq_zero_iff, reduceCtorEq, Nat.reduceAdd, not_true_eq_false, not_false_eq_true, ax_pf, ax_popn, fv_in, fv_size, fv_drop, fv_within, fv_part, fv_cut, fv_sq, fv_absI, fv_absJ, fv_maxI, fv_minI, fv_maxJ, fv_minJ, List.map_cons, List.map_nil, List.sum_cons, List.sum_nil, Nat.reduceLeDiff, Nat.zero_le, Nat.le_refl, zb_0, zb_1, zb_em, true_or, or_true, Int32.toInt_toInt64, Nat.add_zero, fv_isGlass, fv_mayBe, fv_isReading8, fv_isHour8, fv_isPoint, fv_isReading7, fv_isRoom, fv_isWarmth, fv_isHour7, fv_isOnMap, fv_holds, fv_held, tm_eq, i3_add, i3_sub, i3_mul, i3_neg, i6_add, i6_sub, i6_mul, i6_neg, i6_I, i3_toInt, i6_toInt, i3_lt, i3_le, i3_eq, i6_lt, i6_le, i6_eq, i3_eq0, i3_eq1, i3_lt0, i3_le0, i3_gt0, i3_ge0, i6_eq0, i3_div, i6_div, i3_rem, i6_rem, i3_L, i3_nat, i3_inI, ax_up3, ax_up6, up_ne, up_0, up_s, up_00, up_0n, m0, m25, ax_u_s]
      refine ⟨by omega, by omega, fun _ => ?_, fun q => q.elim⟩
      refine ih (k + 1) (mset V' 25 (ax_u (V' 25) k 0)) _ (by omega) (c.trans (core.row (by decide))) (fun j a b => ?_) (fun j a b e => ?_) (hM.set (k := 25) rfl) (hF.up (by decide))
      · rw [mset_s]
        unfold ax_u
        split
        · rename_i e
          rw [e]
          unfold PZ
          rw [if_neg hn]
        · exact hP j a (by omega)
      · rw [mset_n (by decide)]
        by_cases q : j = k
        · rw [q] at e
          unfold PZ at e
          rw [if_neg hn] at e
          omega
        · exact hMM j a (by omega) e
    have at36y : hmZ V s k → ax_G X mX8_findDrift 0 0 (fdPost X o z V s f0) 36 [some (.ref o), some (.int (i3 s)), some (.int (i3 k))] [.int (i3 1), .int (i3 k), .ref (o + 25)] 0 0 z f := by
      intro hy
      have pe : PZ V s k = 1 := by unfold PZ; rw [if_pos hy]
      have me : MZ V s k = msZ V s k := by unfold MZ; rw [if_pos hy]
      refine sbX8_findDrift_36 X 0 0 _ _ _ _ _ _ _ ?_
      simp (disch := omega) only [bkX8_findDrift_36, ax_ic, ax_lc, ax_nul, ax_il, ax_ll, ax_al, ax_is, ax_ls, ax_as, ax_inc, ax_iadd, ax_isub, ax_imul, ax_iand, ax_ior, ax_idiv, ax_irem, ax_ishl, ax_ishr, ax_ladd, ax_lsub, ax_lmul, ax_ldiv, ax_lrem, ax_ineg, ax_lneg, ax_i2l, ax_l2i, ax_lcmp, ax_dup, ax_pop1, ax_dupx1, ax_dup2, ax_ifeq, ax_ifne, ax_iflt, ax_ifge, ax_ifgt, ax_ifle, ax_iceq, ax_icne, ax_iclt, ax_icge, ax_icgt, ax_icle, ax_ifnull, ax_ifnn, ax_sw, ax_iret, ax_zret, ax_lret, ax_vret, ax_aret, ax_gf, ax_pfi, ax_pfz, ax_pfl, ax_pfr, ax_iald, ax_zald, ax_lald, ax_aald, ax_iast, ax_zast, ax_last, ax_aast, ax_alen, ax_ialdR, ax_alenR, ax_gst, ax_new, ax_nwi, ax_nwl, ax_nwq, ax_obj, ax_call, ax_calv, ax_nth, ax_p1, ax_p2, ax_k2, ax_nh, Value.category, lg_cmp_ge, lg_cmp_lt, lg_cmp_gt, lg_cmp_le, lg_cmp_eq, List.getElem?_cons_zero, List.getElem?_cons_succ, true_and, and_true, if_true, if_false, reduceIte, Nat.reduceEqDiff, Nat.add_eq_zero_iff, reduceCtorEq, Nat.reduceAdd, not_true_eq_false, not_false_eq_true, ax_pf, ax_popn, fv_in, fv_size, fv_drop, fv_within, fv_part, fv_cut, fv_sq, fv_absI, fv_absJ, fv_maxI, fv_minI, fv_maxJ, fv_minJ, List.map_cons, List.map_nil, List.sum_cons, List.sum_nil, Nat.reduceLeDiff, Nat.zero_le, Nat.le_refl, zb_0, zb_1, zb_em, true_or, or_true, Int32.toInt_toInt64, Nat.add_zero, fv_isGlass, fv_mayBe, fv_isReading8, fv_isHour8, fv_isPoint, fv_isReading7, fv_isRoom, fv_isWarmth, fv_isHour7, fv_isOnMap, fv_holds, fv_held, tm_eq, i3_add, i3_sub, i3_mul, i3_neg, i6_add, i6_sub, i6_mul, i6_neg, i6_I, i3_toInt, i6_toInt, i3_lt, i3_le, i3_eq, i6_lt, i6_le, i6_eq, i3_eq0, i3_eq1, i3_lt0, i3_le0, i3_gt0, i3_ge0, i6_eq0, i3_div, i6_div, i3_rem, i6_rem, i3_L, i3_nat, i3_inI, ax_up3, ax_up6, up_ne, up_0, up_s, up_00, up_0n, m0, m25, ax_u_s]
      refine ⟨by omega, by omega, fun q => absurd q (by omega), fun _ => ?_⟩
      have hM1 := hM.set (k := 25) (g := ax_u (V' 25) k 1) (e := .inl (X.2.2.1 2, 48, .inl (fun j : Nat => i3 (ax_u (V' 25) k 1 (j : Int))))) rfl
      have c1 : core V (mset V' 25 (ax_u (V' 25) k 1)) := c.trans (core.row (by decide))
      have n0 : va_up f (o + 25) (some (.inl (X.2.2.1 2, 48, .inl (fun j : Nat => i3 (ax_u (V' 25) k 1 (j : Int)))))) o = some (mce X o 0 (V' 0)) := hM1 0 (by decide)
      refine ⟨⟨_, n0⟩, ax_fm (Nat.le_of_ble_eq_true rfl) (Nat.zero_le _) (Nat.zero_le _) (hF.up (by decide)) (m8_findLevels hM1 (c1.inv hI) (by omega) (by omega)) (fun f2 hM2 hF2 => ?_)⟩
      have c2 : core V (mset (mset V' 25 (ax_u (V' 25) k 1)) 20 (lvF (mset V' 25 (ax_u (V' 25) k 1)) k ((mset V' 25 (ax_u (V' 25) k 1)) 0 8))) := c1.trans (core.row (by decide))
      have hl2 : ∀ q : Int, 0 ≤ q → q < V 0 8 → (mset (mset V' 25 (ax_u (V' 25) k 1)) 20 (lvF (mset V' 25 (ax_u (V' 25) k 1)) k ((mset V' 25 (ax_u (V' 25) k 1)) 0 8))) 20 q = lvO V q k := fun q a b => by
        rw [mset_s, lvF_in (V := mset V' 25 (ax_u (V' 25) k 1)) a (by rw [c1.2.1]; exact b), lvO_core c1]
      have h25 : (mset (mset V' 25 (ax_u (V' 25) k 1)) 20 (lvF (mset V' 25 (ax_u (V' 25) k 1)) k ((mset V' 25 (ax_u (V' 25) k 1)) 0 8))) 25 = ax_u (V' 25) k 1 := by rw [mset_n (by decide), mset_s]
      have h24 : (mset (mset V' 25 (ax_u (V' 25) k 1)) 20 (lvF (mset V' 25 (ax_u (V' 25) k 1)) k ((mset V' 25 (ax_u (V' 25) k 1)) 0 8))) 24 = V' 24 := by rw [mset_n (by decide), mset_n (by decide)]
      generalize mset (mset V' 25 (ax_u (V' 25) k 1)) 20 (lvF (mset V' 25 (ax_u (V' 25) k 1)) k ((mset V' 25 (ax_u (V' 25) k 1)) 0 8)) = V2 at hM2 c2 hl2 h25 h24
      have p0 : f2 o = some (mce X o 0 (V2 0)) := hM2 0 (by decide)
      have p5 := hM2 5 (by decide)
      have p6 := hM2 6 (by decide)
      have p20 := hM2 20 (by decide)
      have p24 := hM2 24 (by decide)
      simp only [mce] at p0 p5 p6 p20 p24
      have x5 : V2 5 = V 5 := c2.1 5 (by omega) (by omega)
      have x6 : V2 6 = V 6 := c2.1 6 (by omega) (by omega)
      rw [x5] at p5
      rw [x6] at p6
      have lr := lvO_rng V s k
      have mr := mFld_rng (h := (k : Int)) (wo := s) hI is.1 is.2.1 is.2.2.1 is.2.2.2.1
      have l20 := hl2 s hs hs'
      simp (disch := omega) only [ax_ic, ax_lc, ax_nul, ax_il, ax_ll, ax_al, ax_is, ax_ls, ax_as, ax_inc, ax_iadd, ax_isub, ax_imul, ax_iand, ax_ior, ax_idiv, ax_irem, ax_ishl, ax_ishr, ax_ladd, ax_lsub, ax_lmul, ax_ldiv, ax_lrem, ax_ineg, ax_lneg, ax_i2l, ax_l2i, ax_lcmp, ax_dup, ax_pop1, ax_dupx1, ax_dup2, ax_ifeq, ax_ifne, ax_iflt, ax_ifge, ax_ifgt, ax_ifle, ax_iceq, ax_icne, ax_iclt, ax_icge, ax_icgt, ax_icle, ax_ifnull, ax_ifnn, ax_sw, ax_iret, ax_zret, ax_lret, ax_vret, ax_aret, ax_gf, ax_pfi, ax_pfz, ax_pfl, ax_pfr, ax_iald, ax_zald, ax_lald, ax_aald, ax_iast, ax_zast, ax_last, ax_aast, ax_alen, ax_ialdR, ax_alenR, ax_gst, ax_new, ax_nwi, ax_nwl, ax_nwq, ax_obj, ax_call, ax_calv, ax_nth, ax_p1, ax_p2, ax_k2, ax_nh, Value.category, lg_cmp_ge, lg_cmp_lt, lg_cmp_gt, lg_cmp_le, lg_cmp_eq, List.getElem?_cons_zero, List.getElem?_cons_succ, true_and, and_true, if_true, if_false, reduceIte, Nat.reduceEqDiff, Nat.add_eq_zero_iff, reduceCtorEq, Nat.reduceAdd, not_true_eq_false, not_false_eq_true, tm_eq, i3_add, i3_sub, i3_mul, i3_neg, i6_add, i6_sub, i6_mul, i6_neg, i6_I, i3_toInt, i6_toInt, i3_lt, i3_le, i3_eq, i6_lt, i6_le, i6_eq, i3_eq0, i3_eq1, i3_lt0, i3_le0, i3_gt0, i3_ge0, i6_eq0, i3_div, i6_div, i3_rem, i6_rem, i3_L, i3_nat, i3_inI, ax_up3, ax_up6, Option.toList, List.nil_append, p0, p5, p6, p20, l20]
      refine ⟨by omega, by omega, by omega, ?_⟩
      refine ⟨⟨_, p0⟩, ax_fn (Nat.le_of_ble_eq_true rfl) (Nat.zero_le _) (Nat.zero_le _) (m8_fieldAt hM2 (c2.inv hI) (fun j a b => by rw [c2.2.1] at b; rw [hl2 j a b]; exact lvO_rng V j k) (by omega) (by omega) (by omega) (by omega) (by omega) (by omega) (by omega) (by omega) (by rw [c2.2.1, anyB_core c2]; exact hy.2)) ?_⟩
      rw [mFld_eq hI c2 hl2]
      simp (disch := omega) only [ax_ic, ax_lc, ax_nul, ax_il, ax_ll, ax_al, ax_is, ax_ls, ax_as, ax_inc, ax_iadd, ax_isub, ax_imul, ax_iand, ax_ior, ax_idiv, ax_irem, ax_ishl, ax_ishr, ax_ladd, ax_lsub, ax_lmul, ax_ldiv, ax_lrem, ax_ineg, ax_lneg, ax_i2l, ax_l2i, ax_lcmp, ax_dup, ax_pop1, ax_dupx1, ax_dup2, ax_ifeq, ax_ifne, ax_iflt, ax_ifge, ax_ifgt, ax_ifle, ax_iceq, ax_icne, ax_iclt, ax_icge, ax_icgt, ax_icle, ax_ifnull, ax_ifnn, ax_sw, ax_iret, ax_zret, ax_lret, ax_vret, ax_aret, ax_gf, ax_pfi, ax_pfz, ax_pfl, ax_pfr, ax_iald, ax_zald, ax_lald, ax_aald, ax_iast, ax_zast, ax_last, ax_aast, ax_alen, ax_ialdR, ax_alenR, ax_gst, ax_new, ax_nwi, ax_nwl, ax_nwq, ax_obj, ax_call, ax_calv, ax_nth, ax_p1, ax_p2, ax_k2, ax_nh, Value.category, lg_cmp_ge, lg_cmp_lt, lg_cmp_gt, lg_cmp_le, lg_cmp_eq, List.getElem?_cons_zero, List.getElem?_cons_succ, true_and, and_true, if_true, if_false, reduceIte, Nat.reduceEqDiff, Nat.add_eq_zero_iff, reduceCtorEq, Nat.reduceAdd, not_true_eq_false, not_false_eq_true, tm_eq, i3_add, i3_sub, i3_mul, i3_neg, i6_add, i6_sub, i6_mul, i6_neg, i6_I, i3_toInt, i6_toInt, i3_lt, i3_le, i3_eq, i6_lt, i6_le, i6_eq, i3_eq0, i3_eq1, i3_lt0, i3_le0, i3_gt0, i3_ge0, i6_eq0, i3_div, i6_div, i3_rem, i6_rem, i3_L, i3_nat, i3_inI, ax_up3, ax_up6, p24]
      refine ⟨by omega, ?_⟩
      refine ih (k + 1) (mset V2 24 (ax_u (V2 24) k (lvO V s k - mFld V k (V 5 s) (V 6 s) s))) _ (by omega) (c2.trans (core.row (by decide))) (fun j a b => ?_) (fun j a b e => ?_) (hM2.set (k := 24) rfl) (hF2.up (by decide))
      · rw [mset_n (by decide), h25]
        unfold ax_u
        split
        · rename_i e
          rw [e, pe]
        · exact hP j a (by omega)
      · rw [mset_s, h24]
        unfold ax_u
        split
        · rename_i q
          rw [q, me]
          rfl
        · exact hMM j a (by omega) e
    refine sbX8_findDrift_2 X 0 0 _ _ _ _ _ _ _ ?_
    simp (disch := omega) only [bkX8_findDrift_2, ax_ic, ax_lc, ax_nul, ax_il, ax_ll, ax_al, ax_is, ax_ls, ax_as, ax_inc, ax_iadd, ax_isub, ax_imul, ax_iand, ax_ior, ax_idiv, ax_irem, ax_ishl, ax_ishr, ax_ladd, ax_lsub, ax_lmul, ax_ldiv, ax_lrem, ax_ineg, ax_lneg, ax_i2l, ax_l2i, ax_lcmp, ax_dup, ax_pop1, ax_dupx1, ax_dup2, ax_ifeq, ax_ifne, ax_iflt, ax_ifge, ax_ifgt, ax_ifle, ax_iceq, ax_icne, ax_iclt, ax_icge, ax_icgt, ax_icle, ax_ifnull, ax_ifnn, ax_sw, ax_iret, ax_zret, ax_lret, ax_vret, ax_aret, ax_gf, ax_pfi, ax_pfz, ax_pfl, ax_pfr, ax_iald, ax_zald, ax_lald, ax_aald, ax_iast, ax_zast, ax_last, ax_aast, ax_alen, ax_ialdR, ax_alenR, ax_gst, ax_new, ax_nwi, ax_nwl, ax_nwq, ax_obj, ax_call, ax_calv, ax_nth, ax_p1, ax_p2, ax_k2, ax_nh, Value.category, lg_cmp_ge, lg_cmp_lt, lg_cmp_gt, lg_cmp_le, lg_cmp_eq, List.getElem?_cons_zero, List.getElem?_cons_succ, true_and, and_true, if_true, if_false, reduceIte, Nat.reduceEqDiff, Nat.add_eq_zero_iff, reduceCtorEq, Nat.reduceAdd, not_true_eq_false, not_false_eq_true, ax_pf, ax_popn, fv_in, fv_size, fv_drop, fv_within, fv_part, fv_cut, fv_sq, fv_absI, fv_absJ, fv_maxI, fv_minI, fv_maxJ, fv_minJ, List.map_cons, List.map_nil, List.sum_cons, List.sum_nil, Nat.reduceLeDiff, Nat.zero_le, Nat.le_refl, zb_0, zb_1, zb_em, true_or, or_true, Int32.toInt_toInt64, Nat.add_zero, fv_isGlass, fv_mayBe, fv_isReading8, fv_isHour8, fv_isPoint, fv_isReading7, fv_isRoom, fv_isWarmth, fv_isHour7, fv_isOnMap, fv_holds, fv_held, tm_eq, i3_add, i3_sub, i3_mul, i3_neg, i6_add, i6_sub, i6_mul, i6_neg, i6_I, i3_toInt, i6_toInt, i3_lt, i3_le, i3_eq, i6_lt, i6_le, i6_eq, i3_eq0, i3_eq1, i3_lt0, i3_le0, i3_gt0, i3_ge0, i6_eq0, i3_div, i6_div, i3_rem, i6_rem, i3_L, i3_nat, i3_inI, ax_up3, ax_up6, m0]
    refine ⟨fun q => absurd q (by omega), fun _ => ?_⟩
    refine ⟨⟨_, m0⟩, ax_fn (Nat.le_of_ble_eq_true rfl) (Nat.zero_le _) (Nat.zero_le _) (m8_has hM hs (by omega) (by omega) (by omega) jj'.1 jj'.2) ?_⟩
    simp (disch := omega) only [ax_ic, ax_lc, ax_nul, ax_il, ax_ll, ax_al, ax_is, ax_ls, ax_as, ax_inc, ax_iadd, ax_isub, ax_imul, ax_iand, ax_ior, ax_idiv, ax_irem, ax_ishl, ax_ishr, ax_ladd, ax_lsub, ax_lmul, ax_ldiv, ax_lrem, ax_ineg, ax_lneg, ax_i2l, ax_l2i, ax_lcmp, ax_dup, ax_pop1, ax_dupx1, ax_dup2, ax_ifeq, ax_ifne, ax_iflt, ax_ifge, ax_ifgt, ax_ifle, ax_iceq, ax_icne, ax_iclt, ax_icge, ax_icgt, ax_icle, ax_ifnull, ax_ifnn, ax_sw, ax_iret, ax_zret, ax_lret, ax_vret, ax_aret, ax_gf, ax_pfi, ax_pfz, ax_pfl, ax_pfr, ax_iald, ax_zald, ax_lald, ax_aald, ax_iast, ax_zast, ax_last, ax_aast, ax_alen, ax_ialdR, ax_alenR, ax_gst, ax_new, ax_nwi, ax_nwl, ax_nwq, ax_obj, ax_call, ax_calv, ax_nth, ax_p1, ax_p2, ax_k2, ax_nh, Value.category, lg_cmp_ge, lg_cmp_lt, lg_cmp_gt, lg_cmp_le, lg_cmp_eq, List.getElem?_cons_zero, List.getElem?_cons_succ, true_and, and_true, if_true, if_false, reduceIte, Nat.reduceEqDiff, Nat.add_eq_zero_iff, reduceCtorEq, Nat.reduceAdd, not_true_eq_false, not_false_eq_true, ax_pf, ax_popn, fv_in, fv_size, fv_drop, fv_within, fv_part, fv_cut, fv_sq, fv_absI, fv_absJ, fv_maxI, fv_minI, fv_maxJ, fv_minJ, List.map_cons, List.map_nil, List.sum_cons, List.sum_nil, Nat.reduceLeDiff, Nat.zero_le, Nat.le_refl, zb_0, zb_1, zb_em, true_or, or_true, Int32.toInt_toInt64, Nat.add_zero, fv_isGlass, fv_mayBe, fv_isReading8, fv_isHour8, fv_isPoint, fv_isReading7, fv_isRoom, fv_isWarmth, fv_isHour7, fv_isOnMap, fv_holds, fv_held, tm_eq, i3_add, i3_sub, i3_mul, i3_neg, i6_add, i6_sub, i6_mul, i6_neg, i6_I, i3_toInt, i6_toInt, i3_lt, i3_le, i3_eq, i6_lt, i6_le, i6_eq, i3_eq0, i3_eq1, i3_lt0, i3_le0, i3_gt0, i3_ge0, i6_eq0, i3_div, i6_div, i3_rem, i6_rem, i3_L, i3_nat, i3_inI, ax_up3, ax_up6, m0]
    refine ⟨fun b => at36n (fun q => b (by rw [c.1 9 (by omega) (by omega)]; exact q.1)), fun b => ?_⟩
    refine ⟨⟨_, m0⟩, ax_fn (Nat.le_of_ble_eq_true rfl) (Nat.zero_le _) (Nat.zero_le _) (m8_hasAny hM hI' (by omega) (by omega) (by omega) (by omega)) ?_⟩
    simp (disch := omega) only [ax_ic, ax_lc, ax_nul, ax_il, ax_ll, ax_al, ax_is, ax_ls, ax_as, ax_inc, ax_iadd, ax_isub, ax_imul, ax_iand, ax_ior, ax_idiv, ax_irem, ax_ishl, ax_ishr, ax_ladd, ax_lsub, ax_lmul, ax_ldiv, ax_lrem, ax_ineg, ax_lneg, ax_i2l, ax_l2i, ax_lcmp, ax_dup, ax_pop1, ax_dupx1, ax_dup2, ax_ifeq, ax_ifne, ax_iflt, ax_ifge, ax_ifgt, ax_ifle, ax_iceq, ax_icne, ax_iclt, ax_icge, ax_icgt, ax_icle, ax_ifnull, ax_ifnn, ax_sw, ax_iret, ax_zret, ax_lret, ax_vret, ax_aret, ax_gf, ax_pfi, ax_pfz, ax_pfl, ax_pfr, ax_iald, ax_zald, ax_lald, ax_aald, ax_iast, ax_zast, ax_last, ax_aast, ax_alen, ax_ialdR, ax_alenR, ax_gst, ax_new, ax_nwi, ax_nwl, ax_nwq, ax_obj, ax_call, ax_calv, ax_nth, ax_p1, ax_p2, ax_k2, ax_nh, Value.category, lg_cmp_ge, lg_cmp_lt, lg_cmp_gt, lg_cmp_le, lg_cmp_eq, List.getElem?_cons_zero, List.getElem?_cons_succ, true_and, and_true, if_true, if_false, reduceIte, Nat.reduceEqDiff, Nat.add_eq_zero_iff, reduceCtorEq, Nat.reduceAdd, not_true_eq_false, not_false_eq_true, ax_pf, ax_popn, fv_in, fv_size, fv_drop, fv_within, fv_part, fv_cut, fv_sq, fv_absI, fv_absJ, fv_maxI, fv_minI, fv_maxJ, fv_minJ, List.map_cons, List.map_nil, List.sum_cons, List.sum_nil, Nat.reduceLeDiff, Nat.zero_le, Nat.le_refl, zb_0, zb_1, zb_em, true_or, or_true, Int32.toInt_toInt64, Nat.add_zero, fv_isGlass, fv_mayBe, fv_isReading8, fv_isHour8, fv_isPoint, fv_isReading7, fv_isRoom, fv_isWarmth, fv_isHour7, fv_isOnMap, fv_holds, fv_held, tm_eq, i3_add, i3_sub, i3_mul, i3_neg, i6_add, i6_sub, i6_mul, i6_neg, i6_I, i3_toInt, i6_toInt, i3_lt, i3_le, i3_eq, i6_lt, i6_le, i6_eq, i3_eq0, i3_eq1, i3_lt0, i3_le0, i3_gt0, i3_ge0, i6_eq0, i3_div, i6_div, i3_rem, i6_rem, i3_L, i3_nat, i3_inI, ax_up3, ax_up6, m0]
    have b' : 0 < V 9 (48 * s + k) := by rw [c.1 9 (by omega) (by omega)] at b; omega
    rw [c.2.1, anyB_core c]
    refine ⟨fun b2 => at36n (fun q => b2 q.2), fun b2 => at36y ⟨b', ?_⟩⟩
    by_cases q : anyB V k s (V 0 8).toNat = true
    · exact q
    · exact absurd q b2
theorem m8_findDrift {X : ax_X} {o z : Nat} {V : Nat → Int → Int} {f : ax_F} {s : Int} (hM : MH X o V f) (hI : mInv V) (hs : 0 ≤ s) (hs' : s < V 0 8) : ax_M X mX8_findDrift 0 0 [.ref o, .int (i3 s)] z f (fdPost X o z V s f) := by
  refine ax_met2 [some (.ref o), some (.int (i3 s)), none] (by decide) (Nat.le_of_ble_eq_true rfl) rfl ?_
  refine sbX8_findDrift_0 X 0 0 _ _ _ _ _ _ _ ?_
  simp (disch := omega) only [bkX8_findDrift_0, ax_ic, ax_lc, ax_nul, ax_il, ax_ll, ax_al, ax_is, ax_ls, ax_as, ax_inc, ax_iadd, ax_isub, ax_imul, ax_iand, ax_ior, ax_idiv, ax_irem, ax_ishl, ax_ishr, ax_ladd, ax_lsub, ax_lmul, ax_ldiv, ax_lrem, ax_ineg, ax_lneg, ax_i2l, ax_l2i, ax_lcmp, ax_dup, ax_pop1, ax_dupx1, ax_dup2, ax_ifeq, ax_ifne, ax_iflt, ax_ifge, ax_ifgt, ax_ifle, ax_iceq, ax_icne, ax_iclt, ax_icge, ax_icgt, ax_icle, ax_ifnull, ax_ifnn, ax_sw, ax_iret, ax_zret, ax_lret, ax_vret, ax_aret, ax_gf, ax_pfi, ax_pfz, ax_pfl, ax_pfr, ax_iald, ax_zald, ax_lald, ax_aald, ax_iast, ax_zast, ax_last, ax_aast, ax_alen, ax_ialdR, ax_alenR, ax_gst, ax_new, ax_nwi, ax_nwl, ax_nwq, ax_obj, ax_call, ax_calv, ax_nth, ax_p1, ax_p2, ax_k2, ax_nh, Value.category, lg_cmp_ge, lg_cmp_lt, lg_cmp_gt, lg_cmp_le, lg_cmp_eq, List.getElem?_cons_zero, List.getElem?_cons_succ, true_and, and_true, if_true, if_false, reduceIte, Nat.reduceEqDiff, Nat.add_eq_zero_iff, reduceCtorEq, Nat.reduceAdd, not_true_eq_false, not_false_eq_true, ax_pf, ax_popn, fv_in, fv_size, fv_drop, fv_within, fv_part, fv_cut, fv_sq, fv_absI, fv_absJ, fv_maxI, fv_minI, fv_maxJ, fv_minJ, List.map_cons, List.map_nil, List.sum_cons, List.sum_nil, Nat.reduceLeDiff, Nat.zero_le, Nat.le_refl, zb_0, zb_1, zb_em, true_or, or_true, Int32.toInt_toInt64, Nat.add_zero, fv_isGlass, fv_mayBe, fv_isReading8, fv_isHour8, fv_isPoint, fv_isReading7, fv_isRoom, fv_isWarmth, fv_isHour7, fv_isOnMap, fv_holds, fv_held, tm_eq, i3_add, i3_sub, i3_mul, i3_neg, i6_add, i6_sub, i6_mul, i6_neg, i6_I, i3_toInt, i6_toInt, i3_lt, i3_le, i3_eq, i6_lt, i6_le, i6_eq, i3_eq0, i3_eq1, i3_lt0, i3_le0, i3_gt0, i3_ge0, i6_eq0, i3_div, i6_div, i3_rem, i6_rem, i3_L, i3_nat, i3_inI, ax_up3, ax_up6]
  exact m8_fd_1 hI hs hs' 48 0 V f (by omega) core.rfl (fun j a b => by omega) (fun j a b => by omega) hM MF.rfl
