theorem m8_tryHour {X : ax_X} {o z : Nat} {V : Nat → Int → Int} {f : ax_F} {h : Int} (hM : MH X o V f) (hr : rowOk (V 24) (V 25)) (ht : trOk (V 0 28, V 0 29, V 0 30)) (h0 : 0 ≤ h) (h1 : h ≤ 47) :
    ax_M X mX8_tryHour 0 0 [.ref o, .int (i3 h)] z f (fun v z' f' => v = none ∧ z' = z ∧ MF o f f' ∧ ∃ V' : Nat → Int → Int, MH X o V' f' ∧ (∀ j : Nat, 1 ≤ j → V' j = V j) ∧ (V' 0 28, V' 0 29, V' 0 30) = tryZ (V 24) (V 25) h (V 0 28, V 0 29, V 0 30) ∧ core V V') := by
  refine ax_met2 [some (.ref o), some (.int (i3 h)), none, none, none, none, none, none, none, none, none, none, none, none] (by decide) (Nat.le_of_ble_eq_true rfl) rfl ?_
  refine sbX8_tryHour_0 X 0 0 _ _ _ _ _ _ _ ?_
  simp (disch := omega) only [bkX8_tryHour_0, ax_ic, ax_lc, ax_nul, ax_il, ax_ll, ax_al, ax_is, ax_ls, ax_as, ax_inc, ax_iadd, ax_isub, ax_imul, ax_iand, ax_ior, ax_idiv, ax_irem, ax_ishl, ax_ishr, ax_ladd, ax_lsub, ax_lmul, ax_ldiv, ax_lrem, ax_ineg, ax_lneg, ax_i2l, ax_l2i, ax_lcmp, ax_dup, ax_pop1, ax_dupx1, ax_dup2, ax_ifeq, ax_ifne, ax_iflt, ax_ifge, ax_ifgt, ax_ifle, ax_iceq, ax_icne, ax_iclt, ax_icge, ax_icgt, ax_icle, ax_ifnull, ax_ifnn, ax_sw, ax_iret, ax_zret, ax_lret, ax_vret, ax_aret, ax_gf, ax_pfi, ax_pfz, ax_pfl, ax_pfr, ax_iald, ax_zald, ax_lald, ax_aald, ax_iast, ax_zast, ax_last, ax_aast, ax_alen, ax_ialdR, ax_alenR, ax_gst, ax_new, ax_nwi, ax_nwl, ax_nwq, ax_obj, ax_call, ax_calv, ax_nth, ax_p1, ax_p2, ax_k2, ax_nh, Value.category, lg_cmp_ge, lg_cmp_lt, lg_cmp_gt, lg_cmp_le, lg_cmp_eq, List.getElem?_cons_zero, List.getElem?_cons_succ, true_and, and_true, if_true, if_false, reduceIte, Nat.reduceEqDiff, Nat.add_eq_zero_iff, reduceCtorEq, Nat.reduceAdd, not_true_eq_false, not_false_eq_true, ax_pf, ax_popn, fv_in, fv_size, fv_drop, fv_within, fv_part, fv_cut, fv_sq, fv_absI, fv_absJ, fv_maxI, fv_minI, fv_maxJ, fv_minJ, List.map_cons, List.map_nil, List.sum_cons, List.sum_nil, Nat.reduceLeDiff, Nat.zero_le, Nat.le_refl, zb_0, zb_1, zb_em, true_or, or_true, Int32.toInt_toInt64, Nat.add_zero, fv_isGlass, fv_mayBe, fv_isReading8, fv_isHour8, fv_isPoint, fv_isReading7, fv_isRoom, fv_isWarmth, fv_isHour7, fv_isOnMap, fv_holds, fv_held, tm_eq, i3_add, i3_sub, i3_mul, i3_neg, i6_add, i6_sub, i6_mul, i6_neg, i6_I, i3_toInt, i6_toInt, i3_lt, i3_le, i3_eq, i6_lt, i6_le, i6_eq, i3_eq0, i3_eq1, i3_lt0, i3_le0, i3_gt0, i3_ge0, i6_eq0, i3_div, i6_div, i3_rem, i6_rem, i3_L, i3_nat, i3_inI, ax_up3, ax_up6]
  exact m8_try_loop hM hr ht h0 h1 48 0 (by omega)
theorem mFld_rng {V : Nat → Int → Int} {h x y wo : Int} (hI : mInv V) (hx : 0 ≤ x) (hx' : x ≤ 7) (hy : 0 ≤ y) (hy' : y ≤ 7) : 0 ≤ mFld V h x y wo ∧ mFld V h x y wo ≤ 20000 := by
  have i0 := hI.2.2.1
  have a := fW_rng (h := h) (wo := wo) hI hx hx' hy hy' (V 0 8).toNat (by omega)
  have b := fS_rng (L := fun s => lvO V s h) (h := h) (wo := wo) hI (fun j _ _ => lvO_rng V j h) hx hx' hy hy' (V 0 8).toNat (by omega)
  unfold mFld fldZ
  generalize fS V (fun s => lvO V s h) h x y wo (V 0 8).toNat = u at b
  generalize fW V h x y wo (V 0 8).toNat = w at a b
  rw [Int.tdiv_eq_ediv_of_nonneg b.1]
  rcases Int.lt_or_le 0 w with q | q
  · exact ⟨Int.ediv_nonneg b.1 a.1, Int.ediv_le_of_le_mul q (by omega)⟩
  · rw [show w = 0 by omega, Int.ediv_zero]
    omega
abbrev hmZ (V : Nat → Int → Int) (s h : Int) : Prop := 0 < V 9 (48 * s + h) ∧ anyB V h s (V 0 8).toNat = true
def msZ (V : Nat → Int → Int) (s h : Int) : Int := lvO V s h - mFld V h (V 5 s) (V 6 s) s
theorem msZ_rng {V : Nat → Int → Int} {s h : Int} (hI : mInv V) (hs : 0 ≤ s) (hs' : s < 8) : -20000 ≤ msZ V s h ∧ msZ V s h ≤ 20000 := by
  have i := hI.2.2.2.1 s hs hs'
  have a := lvO_rng V s h
  have b := mFld_rng (h := h) (wo := s) hI i.1 i.2.1 i.2.2.1 i.2.2.2.1
  unfold msZ
  omega
def MZ (V : Nat → Int → Int) (s : Int) : Int → Int := fun h => if hmZ V s h then msZ V s h else 0
def PZ (V : Nat → Int → Int) (s : Int) : Int → Int := fun h => if hmZ V s h then 1 else 0
def drZ (M P : Int → Int) : Nat → Tr
  | 0 => (-6, 0, 1)
  | k + 1 => if P k = 1 then tryZ M P k (drZ M P k) else drZ M P k
/-- the drift: the hour, and the change as a fraction -/
def mDr (V : Nat → Int → Int) (s : Int) : Tr := drZ (MZ V s) (PZ V s) 48
theorem drZ_ok {M P : Int → Int} (hr : rowOk M P) : ∀ k : Nat, k ≤ 48 → trOk (drZ M P k)
  | 0, _ => by
    unfold drZ
    refine ⟨?_, ?_, ?_⟩ <;> dsimp only <;> omega
  | k + 1, hk => by
    have ih := drZ_ok hr k (by omega)
    unfold drZ
    split
    · exact tryZ_ok hr (by omega) (by omega) ih
    · exact ih
theorem rowOk_Z {V : Nat → Int → Int} {s : Int} (hI : mInv V) (hs : 0 ≤ s) (hs' : s < 8) : rowOk (MZ V s) (PZ V s) := by
  intro j _ _
  unfold MZ PZ
  split
  · exact ⟨Or.inr rfl, fun _ => msZ_rng hI hs hs'⟩
  · exact ⟨Or.inl rfl, fun q => by omega⟩
theorem aS_c {M P M' P' : Int → Int} {h : Int} (hP : ∀ j : Int, 0 ≤ j → j < 48 → P j = P' j) (hM : ∀ j : Int, 0 ≤ j → j < 48 → P' j = 1 → M j = M' j) : ∀ k : Nat, k ≤ 48 → aS M P h k = aS M' P' h k ∧ aN P h k = aN P' h k ∧ bS M P h k = bS M' P' h k ∧ bN P h k = bN P' h k
  | 0, _ => ⟨rfl, rfl, rfl, rfl⟩
  | k + 1, hk => by
    obtain ⟨a, b, c, d⟩ := aS_c (h := h) hP hM k (by omega)
    have p := hP k (by omega) (by omega)
    have m := hM k (by omega) (by omega)
    unfold aS aN bS bN
    rw [a, b, c, d, p]
    refine ⟨?_, rfl, ?_, rfl⟩
    · by_cases q : P' k = 1 ∧ (k : Int) < h
      · rw [if_pos q, if_pos q, m q.1]
      · rw [if_neg q, if_neg q]
    · by_cases q : P' k = 1 ∧ ¬ (k : Int) < h
      · rw [if_pos q, if_pos q, m q.1]
      · rw [if_neg q, if_neg q]
theorem tryZ_c {M P M' P' : Int → Int} {h : Int} {t : Tr} (hP : ∀ j : Int, 0 ≤ j → j < 48 → P j = P' j) (hM : ∀ j : Int, 0 ≤ j → j < 48 → P' j = 1 → M j = M' j) : tryZ M P h t = tryZ M' P' h t := by
  obtain ⟨a, b, c, d⟩ := aS_c (h := h) hP hM 48 (Nat.le_refl _)
  unfold tryZ
  rw [a, b, c, d]
theorem drZ_c {M P M' P' : Int → Int} (hP : ∀ j : Int, 0 ≤ j → j < 48 → P j = P' j) (hM : ∀ j : Int, 0 ≤ j → j < 48 → P' j = 1 → M j = M' j) : ∀ k : Nat, k ≤ 48 → drZ M P k = drZ M' P' k
  | 0, _ => rfl
  | k + 1, hk => by
    unfold drZ
    rw [drZ_c hP hM k (by omega), hP k (by omega) (by omega), tryZ_c hP hM]
abbrev fdPost (X : ax_X) (o z : Nat) (V : Nat → Int → Int) (s : Int) (f0 : ax_F) : Option Value → Nat → ax_F → Prop := fun v z' f' => v = some (.int (zb (0 ≤ (mDr V s).1))) ∧ z' = z ∧ MF o f0 f' ∧ ∃ V' : Nat → Int → Int, MH X o V' f' ∧ (V' 0 28, V' 0 29, V' 0 30) = mDr V s ∧ core V V'
theorem m8_fd_2 {X : ax_X} {o z : Nat} {V : Nat → Int → Int} {f0 : ax_F} {s : Int} (hI : mInv V) (hs : 0 ≤ s) (hs' : s < V 0 8) :
    ∀ (n k : Nat) (V' : Nat → Int → Int) (f : ax_F), k + n = 48 → core V V' → (∀ j : Int, 0 ≤ j → j < 48 → V' 25 j = PZ V s j) → (∀ j : Int, 0 ≤ j → j < 48 → PZ V s j = 1 → V' 24 j = MZ V s j) → (V' 0 28, V' 0 29, V' 0 30) = drZ (MZ V s) (PZ V s) k → MH X o V' f → MF o f0 f → ax_G X mX8_findDrift 0 0 (fdPost X o z V s f0) 107 [some (.ref o), some (.int (i3 s)), some (.int (i3 k))] [] 0 0 z f := by
  have i0 := hI.2.2.1
  have ro := rowOk_Z (s := s) hI hs (by omega)
  intro n
  induction n with
  | zero =>
    intro k V' f hk c hP hMM hT hM hF
    have hk' : k = 48 := by omega
    subst hk'
    have m0 : f o = some (mce X o 0 (V' 0)) := hM 0 (by decide)
    have tk := drZ_ok ro 48 (by omega)
    rw [← hT] at tk
    obtain ⟨t1, t2, t3⟩ : (-6 ≤ V' 0 28 ∧ V' 0 28 ≤ 47) ∧ (-100000000 ≤ V' 0 29 ∧ V' 0 29 ≤ 100000000) ∧ (1 ≤ V' 0 30 ∧ V' 0 30 ≤ 2304) := tk
    have e28 : (mDr V s).1 = V' 0 28 := (congrArg Prod.fst hT).symm
    refine sbX8_findDrift_107 X 0 0 _ _ _ _ _ _ _ ?_
    simp (disch := omega) only [bkX8_findDrift_107, ax_ic, ax_lc, ax_nul, ax_il, ax_ll, ax_al, ax_is, ax_ls, ax_as, ax_inc, ax_iadd, ax_isub, ax_imul, ax_iand, ax_ior, ax_idiv, ax_irem, ax_ishl, ax_ishr, ax_ladd, ax_lsub, ax_lmul, ax_ldiv, ax_lrem, ax_ineg, ax_lneg, ax_i2l, ax_l2i, ax_lcmp, ax_dup, ax_pop1, ax_dupx1, ax_dup2, ax_ifeq, ax_ifne, ax_iflt, ax_ifge, ax_ifgt, ax_ifle, ax_iceq, ax_icne, ax_iclt, ax_icge, ax_icgt, ax_icle, ax_ifnull, ax_ifnn, ax_sw, ax_iret, ax_zret, ax_lret, ax_vret, ax_aret, ax_gf, ax_pfi, ax_pfz, ax_pfl, ax_pfr, ax_iald, ax_zald, ax_lald, ax_aald, ax_iast, ax_zast, ax_last, ax_aast, ax_alen, ax_ialdR, ax_alenR, ax_gst, ax_new, ax_nwi, ax_nwl, ax_nwq, ax_obj, ax_call, ax_calv, ax_nth, ax_p1, ax_p2, ax_k2, ax_nh, Value.category, lg_cmp_ge, lg_cmp_lt, lg_cmp_gt, lg_cmp_le, lg_cmp_eq, List.getElem?_cons_zero, List.getElem?_cons_succ, true_and, and_true, if_true, if_false, reduceIte, Nat.reduceEqDiff, Nat.add_eq_zero_iff, reduceCtorEq, Nat.reduceAdd, not_true_eq_false, not_false_eq_true, ax_pf, ax_popn, fv_in, fv_size, fv_drop, fv_within, fv_part, fv_cut, fv_sq, fv_absI, fv_absJ, fv_maxI, fv_minI, fv_maxJ, fv_minJ, List.map_cons, List.map_nil, List.sum_cons, List.sum_nil, Nat.reduceLeDiff, Nat.zero_le, Nat.le_refl, zb_0, zb_1, zb_em, true_or, or_true, Int32.toInt_toInt64, Nat.add_zero, fv_isGlass, fv_mayBe, fv_isReading8, fv_isHour8, fv_isPoint, fv_isReading7, fv_isRoom, fv_isWarmth, fv_isHour7, fv_isOnMap, fv_holds, fv_held, tm_eq, i3_add, i3_sub, i3_mul, i3_neg, i6_add, i6_sub, i6_mul, i6_neg, i6_I, i3_toInt, i6_toInt, i3_lt, i3_le, i3_eq, i6_lt, i6_le, i6_eq, i3_eq0, i3_eq1, i3_lt0, i3_le0, i3_gt0, i3_ge0, i6_eq0, i3_div, i6_div, i3_rem, i6_rem, i3_L, i3_nat, i3_inI, ax_up3, ax_up6, m0, mce]
    refine ⟨fun _ => ⟨fun b => ⟨by omega, by omega, by rw [e28]; exact congrArg (fun q => some (Value.int q)) (zb_f (by omega)), rfl, hF, V', hM, hT, c⟩, fun b => ⟨by omega, by omega, by rw [e28]; exact congrArg (fun q => some (Value.int q)) (zb_t (by omega)), rfl, hF, V', hM, hT, c⟩⟩, fun q => absurd (by omega) q⟩
  | succ n ih =>
    intro k V' f hk c hP hMM hT hM hF
    have m0 : f o = some (mce X o 0 (V' 0)) := hM 0 (by decide)
    have m25 := hM 25 (by decide)
    simp only [mce] at m0 m25
    have pk := hP k (by omega) (by omega)
    have r01 := (ro k (by omega) (by omega)).1
    have tk := drZ_ok ro k (by omega)
    have ro' : rowOk (V' 24) (V' 25) := fun j a b => by
      have q := ro j a b
      rw [hP j a b]
      exact ⟨q.1, fun e => by rw [hMM j a b e]; exact q.2 e⟩
    refine sbX8_findDrift_107 X 0 0 _ _ _ _ _ _ _ ?_
    simp (disch := omega) only [bkX8_findDrift_107, ax_ic, ax_lc, ax_nul, ax_il, ax_ll, ax_al, ax_is, ax_ls, ax_as, ax_inc, ax_iadd, ax_isub, ax_imul, ax_iand, ax_ior, ax_idiv, ax_irem, ax_ishl, ax_ishr, ax_ladd, ax_lsub, ax_lmul, ax_ldiv, ax_lrem, ax_ineg, ax_lneg, ax_i2l, ax_l2i, ax_lcmp, ax_dup, ax_pop1, ax_dupx1, ax_dup2, ax_ifeq, ax_ifne, ax_iflt, ax_ifge, ax_ifgt, ax_ifle, ax_iceq, ax_icne, ax_iclt, ax_icge, ax_icgt, ax_icle, ax_ifnull, ax_ifnn, ax_sw, ax_iret, ax_zret, ax_lret, ax_vret, ax_aret, ax_gf, ax_pfi, ax_pfz, ax_pfl, ax_pfr, ax_iald, ax_zald, ax_lald, ax_aald, ax_iast, ax_zast, ax_last, ax_aast, ax_alen, ax_ialdR, ax_alenR, ax_gst, ax_new, ax_nwi, ax_nwl, ax_nwq, ax_obj, ax_call, ax_calv, ax_nth, ax_p1, ax_p2, ax_k2, ax_nh, Value.category, lg_cmp_ge, lg_cmp_lt, lg_cmp_gt, lg_cmp_le, lg_cmp_eq, List.getElem?_cons_zero, List.getElem?_cons_succ, true_and, and_true, if_true, if_false, reduceIte, Nat.reduceEqDiff, Nat.add_eq_zero_iff, reduceCtorEq, Nat.reduceAdd, not_true_eq_false, not_false_eq_true, ax_pf, ax_popn, fv_in, fv_size, fv_drop, fv_within, fv_part, fv_cut, fv_sq, fv_absI, fv_absJ, fv_maxI, fv_minI, fv_maxJ, fv_minJ, List.map_cons, List.map_nil, List.sum_cons, List.sum_nil, Nat.reduceLeDiff, Nat.zero_le, Nat.le_refl, zb_0, zb_1, zb_em, true_or, or_true, Int32.toInt_toInt64, Nat.add_zero, fv_isGlass, fv_mayBe, fv_isReading8, fv_isHour8, fv_isPoint, fv_isReading7, fv_isRoom, fv_isWarmth, fv_isHour7, fv_isOnMap, fv_holds, fv_held, tm_eq, i3_add, i3_sub, i3_mul, i3_neg, i6_add, i6_sub, i6_mul, i6_neg, i6_I, i3_toInt, i6_toInt, i3_lt, i3_le, i3_eq, i6_lt, i6_le, i6_eq, i3_eq0, i3_eq1, i3_lt0, i3_le0, i3_gt0, i3_ge0, i6_eq0, i3_div, i6_div, i3_rem, i6_rem, i3_L, i3_nat, i3_inI, ax_up3, ax_up6, m0, m25]
    refine ⟨fun q => absurd q (by omega), fun _ => ⟨by omega, fun b => ?_, fun b => ?_⟩⟩
    · exact ih (k + 1) V' f (by omega) c hP hMM (by rw [hT, drZ, if_neg (by omega)]) hM hF
    · refine ⟨⟨_, m0⟩, Nat.le_of_ble_eq_true rfl, 0, 0, _, m8_tryHour hM ro' (by rw [hT]; exact tk) (by omega) (by omega), Nat.zero_le _, Nat.zero_le _, fun v z' f1 hq => ?_⟩
      obtain ⟨rfl, rfl, hF1, V1, hM1, hr1, ht1, c1⟩ := hq
      simp (disch := omega) only [ax_ic, ax_lc, ax_nul, ax_il, ax_ll, ax_al, ax_is, ax_ls, ax_as, ax_inc, ax_iadd, ax_isub, ax_imul, ax_iand, ax_ior, ax_idiv, ax_irem, ax_ishl, ax_ishr, ax_ladd, ax_lsub, ax_lmul, ax_ldiv, ax_lrem, ax_ineg, ax_lneg, ax_i2l, ax_l2i, ax_lcmp, ax_dup, ax_pop1, ax_dupx1, ax_dup2, ax_ifeq, ax_ifne, ax_iflt, ax_ifge, ax_ifgt, ax_ifle, ax_iceq, ax_icne, ax_iclt, ax_icge, ax_icgt, ax_icle, ax_ifnull, ax_ifnn, ax_sw, ax_iret, ax_zret, ax_lret, ax_vret, ax_aret, ax_gf, ax_pfi, ax_pfz, ax_pfl, ax_pfr, ax_iald, ax_zald, ax_lald, ax_aald, ax_iast, ax_zast, ax_last, ax_aast, ax_alen, ax_ialdR, ax_alenR, ax_gst, ax_new, ax_nwi, ax_nwl, ax_nwq, ax_obj, ax_call, ax_calv, ax_nth, ax_p1, ax_p2, ax_k2, ax_nh, Value.category, lg_cmp_ge, lg_cmp_lt, lg_cmp_gt, lg_cmp_le, lg_cmp_eq, List.getElem?_cons_zero, List.getElem?_cons_succ, true_and, and_true, if_true, if_false, reduceIte, Nat.reduceEqDiff, Nat.add_eq_zero_iff, reduceCtorEq, Nat.reduceAdd, not_true_eq_false, not_false_eq_true, tm_eq, i3_add, i3_sub, i3_mul, i3_neg, i6_add, i6_sub, i6_mul, i6_neg, i6_I, Option.toList, List.nil_append]
      refine ih (k + 1) V1 f1 (by omega) (c.trans c1) (fun j a b => by rw [hr1 25 (by decide)]; exact hP j a b) (fun j a b e => by rw [hr1 24 (by decide)]; exact hMM j a b e) ?_ hM1 (hF.trans hF1)
      rw [ht1, hT, show drZ (MZ V s) (PZ V s) (k + 1) = tryZ (MZ V s) (PZ V s) k (drZ (MZ V s) (PZ V s) k) by rw [drZ, if_pos (by omega)]]
      exact tryZ_c hP hMM
