theorem rnZ_c {p q : GL} (h : agr p q) (s : Int) : ∀ k : Nat, k ≤ 128 → rnZ p.1 p.2 s k = rnZ q.1 q.2 s k
  | 0, _ => rfl
  | k + 1, hk => by
    have g := h k (by omega) (by omega)
    unfold rnZ
    rw [rnZ_c h s k (by omega), g.1, g.2]
theorem moZ_c {p q : GL} (h : agr p q) (s : Int) : ∀ k : Nat, k ≤ 128 → moZ p.1 s k = moZ q.1 s k
  | 0, _ => rfl
  | k + 1, hk => by
    have g := h k (by omega) (by omega)
    unfold moZ
    rw [moZ_c h s k (by omega), g.1]
theorem olZ_c {p q : GL} (h : agr p q) (s w : Int) : olZ p.1 p.2 s w = olZ q.1 q.2 s w := by
  unfold olZ
  rw [rnZ_c h s 128 (by omega), moZ_c h s 128 (by omega), cntB_c (P := fun t => decide (p.1 t = s)) (P' := fun t => decide (q.1 t = s)) 128 (fun t a b => by rw [(h t a b).1])]
theorem linZ_c {S S' : Int → Int} {v w : Int} {p q : GL} (h : agr p q) (hS : ∀ t : Int, 0 ≤ t → t < 64 → S t = S' t) : linZ S v p.1 p.2 w = linZ S' v q.1 q.2 w := by
  unfold linZ
  rw [cntB_c (P := fun t => decide (v ≤ S t)) (P' := fun t => decide (v ≤ S' t)) 64 (fun t a b => by rw [hS t a b]), cntB_c (P := fun s => decide (lnP p.1 p.2 w s)) (P' := fun s => decide (lnP q.1 q.2 w s)) 128 (fun t a b => by
    have e : lnP p.1 p.2 w t ↔ lnP q.1 q.2 w t := by
      unfold lnP
      rw [(h t a b).1, rnZ_c h t 128 (by omega)]
    exact decide_eq_decide.mpr e)]
def lnsZ (V : Nat → Int → Int) (h v w : Int) : Int := linZ (shZ V h) v (goA (shZ V h) v 49).1 (goA (shZ V h) v 49).2 w
theorem agr_grOk {V V' : Nat → Int → Int} {h v : Int} (hA : agr (V' 22, V' 23) (goA (shZ V h) v 49)) : grOk V' := fun s h1 h2 => by
  have a := hA s h1 h2
  have b := goA_ok (shZ V h) v 49 (by omega) s h1 h2
  dsimp only at a
  rw [a.1, a.2]
  omega
theorem m8_lines {X : ax_X} {o z : Nat} {V : Nat → Int → Int} {f : ax_F} {h v w : Int} (hM : MH X o V f) (hI : mInv V) (hh : -2147483648 ≤ h) (hh' : h < 2147483648) (hv : -2147483648 ≤ v) (hv' : v < 2147483648) (hw : -2147483648 ≤ w) (hw' : w < 2147483648) :
    ax_M X mX8_lines 0 0 [.ref o, .int (i3 h), .int (i3 v), .int (i3 w)] z f (mqc X o f z (some (.int (i3 (if whyZ V h v w < 0 then whyZ V h v w else lnsZ V h v w)))) V) := by
  refine ax_met2 [some (.ref o), some (.int (i3 h)), some (.int (i3 v)), some (.int (i3 w)), none, none, none, none] (by decide) (Nat.le_of_ble_eq_true rfl) rfl ?_
  refine sbX8_lines_0 X 0 0 _ _ _ _ _ _ _ ?_
  have m0 : f o = some (.inr (7, [.ref (o + 1), .ref (o + 2), .ref (o + 3), .ref (o + 4), .ref (o + 5), .ref (o + 6), .ref (o + 7), .ref (o + 8), .int (i3 (V 0 8)), .ref (o + 9), .ref (o + 10), .ref (o + 11), .ref (o + 12), .ref (o + 13), .int (i3 (V 0 14)), .ref (o + 14), .ref (o + 15), .ref (o + 16), .ref (o + 17), .int (i3 (V 0 19)), .ref (o + 18), .int (i3 (V 0 21)), .ref (o + 19), .long (i6 (V 0 23)), .ref (o + 20), .ref (o + 21), .ref (o + 22), .ref (o + 23), .int (i3 (V 0 28)), .long (i6 (V 0 29)), .long (i6 (V 0 30)), .ref (o + 24), .ref (o + 25)])) := hM 0 (by decide)
  simp (disch := omega) only [bkX8_lines_0, ax_ic, ax_lc, ax_nul, ax_il, ax_ll, ax_al, ax_is, ax_ls, ax_as, ax_inc, ax_iadd, ax_isub, ax_imul, ax_iand, ax_ior, ax_idiv, ax_irem, ax_ishl, ax_ishr, ax_ladd, ax_lsub, ax_lmul, ax_ldiv, ax_lrem, ax_ineg, ax_lneg, ax_i2l, ax_l2i, ax_lcmp, ax_dup, ax_pop1, ax_dupx1, ax_dup2, ax_ifeq, ax_ifne, ax_iflt, ax_ifge, ax_ifgt, ax_ifle, ax_iceq, ax_icne, ax_iclt, ax_icge, ax_icgt, ax_icle, ax_ifnull, ax_ifnn, ax_sw, ax_iret, ax_zret, ax_lret, ax_vret, ax_aret, ax_gf, ax_pfi, ax_pfz, ax_pfl, ax_pfr, ax_iald, ax_zald, ax_lald, ax_aald, ax_iast, ax_zast, ax_last, ax_aast, ax_alen, ax_ialdR, ax_alenR, ax_gst, ax_new, ax_nwi, ax_nwl, ax_nwq, ax_obj, ax_call, ax_calv, ax_nth, ax_p1, ax_p2, ax_k2, ax_nh, Value.category, lg_cmp_ge, lg_cmp_lt, lg_cmp_gt, lg_cmp_le, lg_cmp_eq, List.getElem?_cons_zero, List.getElem?_cons_succ, true_and, and_true, if_true, if_false, reduceIte, Nat.reduceEqDiff, Nat.add_eq_zero_iff, reduceCtorEq, Nat.reduceAdd, not_true_eq_false, not_false_eq_true, ax_pf, ax_popn, fv_in, fv_size, fv_drop, fv_within, fv_part, fv_cut, fv_sq, fv_absI, fv_absJ, fv_maxI, fv_minI, fv_maxJ, fv_minJ, List.map_cons, List.map_nil, List.sum_cons, List.sum_nil, Nat.reduceLeDiff, Nat.zero_le, Nat.le_refl, zb_0, zb_1, zb_em, true_or, or_true, Int32.toInt_toInt64, Nat.add_zero, fv_isGlass, fv_mayBe, fv_isReading8, fv_isHour8, fv_isPoint, fv_isReading7, fv_isRoom, fv_isWarmth, fv_isHour7, fv_isOnMap, fv_holds, fv_held, tm_eq, i3_add, i3_sub, i3_mul, i3_neg, i6_add, i6_sub, i6_mul, i6_neg, i6_I, i3_toInt, i6_toInt, i3_lt, i3_le, i3_eq, i6_lt, i6_le, i6_eq, i3_eq0, i3_eq1, i3_lt0, i3_le0, i3_gt0, i3_ge0, i6_eq0, i3_div, i6_div, i3_rem, i6_rem, i3_L, i3_nat, i3_inI, ax_up3, ax_up6]
  refine ⟨⟨_, m0⟩, ax_fn (Nat.le_of_ble_eq_true rfl) (Nat.zero_le _) (Nat.zero_le _) (m8_whyNot hM hI hh hh' hv hv' hw hw') ?_⟩
  have wr : -3 ≤ whyZ V h v w ∧ whyZ V h v w ≤ 0 := by
    unfold whyZ
    repeat' split
    all_goals omega
  have wi : 0 ≤ whyZ V h v w → ((0 ≤ h ∧ h ≤ 47) ∧ (1 ≤ v ∧ v ≤ 20000) ∧ 0 ≤ w ∧ w ≤ 3) ∧ anyB V h (-1) (V 0 8).toNat = true := fun c => by
    unfold whyZ at c
    by_cases c1 : (0 ≤ h ∧ h ≤ 47) ∧ (1 ≤ v ∧ v ≤ 20000) ∧ 0 ≤ w ∧ w ≤ 3
    · by_cases c2 : anyB V h (-1) (V 0 8).toNat = true
      · exact ⟨c1, c2⟩
      · rw [if_pos c1, if_neg c2] at c
        omega
    · rw [if_neg c1] at c
      omega
  generalize whyZ V h v w = y at *
  simp (disch := omega) only [ax_ic, ax_lc, ax_nul, ax_il, ax_ll, ax_al, ax_is, ax_ls, ax_as, ax_inc, ax_iadd, ax_isub, ax_imul, ax_iand, ax_ior, ax_idiv, ax_irem, ax_ishl, ax_ishr, ax_ladd, ax_lsub, ax_lmul, ax_ldiv, ax_lrem, ax_ineg, ax_lneg, ax_i2l, ax_l2i, ax_lcmp, ax_dup, ax_pop1, ax_dupx1, ax_dup2, ax_ifeq, ax_ifne, ax_iflt, ax_ifge, ax_ifgt, ax_ifle, ax_iceq, ax_icne, ax_iclt, ax_icge, ax_icgt, ax_icle, ax_ifnull, ax_ifnn, ax_sw, ax_iret, ax_zret, ax_lret, ax_vret, ax_aret, ax_gf, ax_pfi, ax_pfz, ax_pfl, ax_pfr, ax_iald, ax_zald, ax_lald, ax_aald, ax_iast, ax_zast, ax_last, ax_aast, ax_alen, ax_ialdR, ax_alenR, ax_gst, ax_new, ax_nwi, ax_nwl, ax_nwq, ax_obj, ax_call, ax_calv, ax_nth, ax_p1, ax_p2, ax_k2, ax_nh, Value.category, lg_cmp_ge, lg_cmp_lt, lg_cmp_gt, lg_cmp_le, lg_cmp_eq, List.getElem?_cons_zero, List.getElem?_cons_succ, true_and, and_true, if_true, if_false, reduceIte, Nat.reduceEqDiff, Nat.add_eq_zero_iff, reduceCtorEq, Nat.reduceAdd, not_true_eq_false, not_false_eq_true, ax_pf, ax_popn, fv_in, fv_size, fv_drop, fv_within, fv_part, fv_cut, fv_sq, fv_absI, fv_absJ, fv_maxI, fv_minI, fv_maxJ, fv_minJ, List.map_cons, List.map_nil, List.sum_cons, List.sum_nil, Nat.reduceLeDiff, Nat.zero_le, Nat.le_refl, zb_0, zb_1, zb_em, true_or, or_true, Int32.toInt_toInt64, Nat.add_zero, fv_isGlass, fv_mayBe, fv_isReading8, fv_isHour8, fv_isPoint, fv_isReading7, fv_isRoom, fv_isWarmth, fv_isHour7, fv_isOnMap, fv_holds, fv_held, tm_eq, i3_add, i3_sub, i3_mul, i3_neg, i6_add, i6_sub, i6_mul, i6_neg, i6_I, i3_toInt, i6_toInt, i3_lt, i3_le, i3_eq, i6_lt, i6_le, i6_eq, i3_eq0, i3_eq1, i3_lt0, i3_le0, i3_gt0, i3_ge0, i6_eq0, i3_div, i6_div, i3_rem, i6_rem, i3_L, i3_nat, i3_inI, ax_up3, ax_up6]
  refine ⟨fun a => ?_, fun a => mqc0 (by rw [if_pos (by omega)]) hM core.rfl MF.rfl⟩
  obtain ⟨w1, w2⟩ := wi a
  refine ⟨⟨_, m0⟩, Nat.le_of_ble_eq_true rfl, 0, 0, _, m8_findLines hM hI (by omega) (by omega) (by omega) (by omega) w2, Nat.zero_le _, Nat.zero_le _, fun v' z' f1 hq => ?_⟩
  obtain ⟨rfl, rfl, hF1, V1, hM1, c1, hs1, hA1⟩ := hq
  simp (disch := omega) only [ax_ic, ax_lc, ax_nul, ax_il, ax_ll, ax_al, ax_is, ax_ls, ax_as, ax_inc, ax_iadd, ax_isub, ax_imul, ax_iand, ax_ior, ax_idiv, ax_irem, ax_ishl, ax_ishr, ax_ladd, ax_lsub, ax_lmul, ax_ldiv, ax_lrem, ax_ineg, ax_lneg, ax_i2l, ax_l2i, ax_lcmp, ax_dup, ax_pop1, ax_dupx1, ax_dup2, ax_ifeq, ax_ifne, ax_iflt, ax_ifge, ax_ifgt, ax_ifle, ax_iceq, ax_icne, ax_iclt, ax_icge, ax_icgt, ax_icle, ax_ifnull, ax_ifnn, ax_sw, ax_iret, ax_zret, ax_lret, ax_vret, ax_aret, ax_gf, ax_pfi, ax_pfz, ax_pfl, ax_pfr, ax_iald, ax_zald, ax_lald, ax_aald, ax_iast, ax_zast, ax_last, ax_aast, ax_alen, ax_ialdR, ax_alenR, ax_gst, ax_new, ax_nwi, ax_nwl, ax_nwq, ax_obj, ax_call, ax_calv, ax_nth, ax_p1, ax_p2, ax_k2, ax_nh, Value.category, lg_cmp_ge, lg_cmp_lt, lg_cmp_gt, lg_cmp_le, lg_cmp_eq, List.getElem?_cons_zero, List.getElem?_cons_succ, true_and, and_true, if_true, if_false, reduceIte, Nat.reduceEqDiff, Nat.add_eq_zero_iff, reduceCtorEq, Nat.reduceAdd, not_true_eq_false, not_false_eq_true, Option.toList, List.nil_append]
  refine m8_ln_29 hM1 (agr_grOk hA1) (fun t h1 h2 => by rw [hs1 t h1 h2]; exact shZ_rng hI h1 h2) (by omega) (by omega) (by omega) (by omega) ?_ 128 0 none (by omega)
  refine mqc0 ?_ hM1 c1 hF1
  rw [if_neg (by omega), lnsZ, linZ_c hA1 hs1]
/-- the i-th of those that are so, among the first k; -1 if there is none -/
def ntB (P : Int → Bool) (i : Int) : Nat → Int
  | 0 => -1
  | k + 1 => if 0 ≤ ntB P i k then ntB P i k else if P k = true ∧ cntB P k = i then (k : Int) else -1
theorem ntB_rng (P : Int → Bool) (i : Int) : ∀ k : Nat, -1 ≤ ntB P i k ∧ ntB P i k < k
  | 0 => by unfold ntB; omega
  | k + 1 => by
    have := ntB_rng P i k
    unfold ntB
    repeat' split
    all_goals omega
theorem ntB_c {P P' : Int → Bool} {i : Int} : ∀ k : Nat, (∀ s : Int, 0 ≤ s → s < k → P s = P' s) → ntB P i k = ntB P' i k
  | 0, _ => rfl
  | k + 1, h => by
    unfold ntB
    rw [ntB_c k (fun s a b => h s a (by omega)), cntB_c k (fun s a b => h s a (by omega)), h k (by omega) (by omega)]
/-- once found, it stays -/
theorem ntB_stay {P : Int → Bool} {i : Int} {k : Nat} (h : 0 ≤ ntB P i k) : ∀ n : Nat, ntB P i (k + n) = ntB P i k
  | 0 => rfl
  | n + 1 => by
    show ntB P i ((k + n) + 1) = _
    rw [ntB, ntB_stay h n, if_pos h]
def lieZ (G L : Int → Int) (i w : Int) : Int := if 0 ≤ ntB (fun s => decide (G s = s)) i 128 then (if w = 2 then ntB (fun s => decide (G s = s)) i 128 else olZ G L (ntB (fun s => decide (G s = s)) i 128) (if w = 3 then 2 else w)) else -1
theorem lieZ_c {i w : Int} {p q : GL} (h : agr p q) : lieZ p.1 p.2 i w = lieZ q.1 q.2 i w := by
  unfold lieZ
  rw [ntB_c (P := fun s => decide (p.1 s = s)) (P' := fun s => decide (q.1 s = s)) 128 (fun t a b => by rw [(h t a b).1]), olZ_c h]
def lieV (V : Nat → Int → Int) (h v i w : Int) : Int := lieZ (goA (shZ V h) v 49).1 (goA (shZ V h) v 49).2 i w
theorem m8_li_30 {X : ax_X} {o z : Nat} {V : Nat → Int → Int} {f : ax_F} {h v i w : Int} {R : Option Value → Nat → ax_F → Prop} {q5 : Int} (hM : MH X o V f) (hG : grOk V) (hi : -2147483648 ≤ i) (hi' : i < 2147483648) (hw : 0 ≤ w) (hw' : w ≤ 3)
    (fin : ax_Rt 0 0 R (some (.int (i3 (lieZ (V 22) (V 23) i w)))) 0 0 z f) :
    ∀ (n k : Nat), k + n = 128 → ntB (fun s => decide (V 22 s = s)) i k = -1 → ax_G X mX8_line 0 0 R 30 [some (.ref o), some (.int (i3 h)), some (.int (i3 v)), some (.int (i3 i)), some (.int (i3 w)), some (.int (i3 q5)), some (.int (i3 (cntB (fun s => decide (V 22 s = s)) k))), some (.int (i3 (k : Int)))] [] 0 0 z f := by
  have m0 : f o = some (.inr (7, [.ref (o + 1), .ref (o + 2), .ref (o + 3), .ref (o + 4), .ref (o + 5), .ref (o + 6), .ref (o + 7), .ref (o + 8), .int (i3 (V 0 8)), .ref (o + 9), .ref (o + 10), .ref (o + 11), .ref (o + 12), .ref (o + 13), .int (i3 (V 0 14)), .ref (o + 14), .ref (o + 15), .ref (o + 16), .ref (o + 17), .int (i3 (V 0 19)), .ref (o + 18), .int (i3 (V 0 21)), .ref (o + 19), .long (i6 (V 0 23)), .ref (o + 20), .ref (o + 21), .ref (o + 22), .ref (o + 23), .int (i3 (V 0 28)), .long (i6 (V 0 29)), .long (i6 (V 0 30)), .ref (o + 24), .ref (o + 25)])) := hM 0 (by decide)
  have m22 : f (o + 22) = some (.inl (X.2.2.1 0, 128, .inl (fun j : Nat => i3 (V 22 (j : Int))))) := hM 22 (by decide)
  intro n
  induction n with
  | zero =>
    intro k hk hn
    have hk' : k = 128 := by omega
    subst hk'
    refine sbX8_line_30 X 0 0 _ _ _ _ _ _ _ ?_
    simp (disch := omega) only [bkX8_line_30, ax_ic, ax_lc, ax_nul, ax_il, ax_ll, ax_al, ax_is, ax_ls, ax_as, ax_inc, ax_iadd, ax_isub, ax_imul, ax_iand, ax_ior, ax_idiv, ax_irem, ax_ishl, ax_ishr, ax_ladd, ax_lsub, ax_lmul, ax_ldiv, ax_lrem, ax_ineg, ax_lneg, ax_i2l, ax_l2i, ax_lcmp, ax_dup, ax_pop1, ax_dupx1, ax_dup2, ax_ifeq, ax_ifne, ax_iflt, ax_ifge, ax_ifgt, ax_ifle, ax_iceq, ax_icne, ax_iclt, ax_icge, ax_icgt, ax_icle, ax_ifnull, ax_ifnn, ax_sw, ax_iret, ax_zret, ax_lret, ax_vret, ax_aret, ax_gf, ax_pfi, ax_pfz, ax_pfl, ax_pfr, ax_iald, ax_zald, ax_lald, ax_aald, ax_iast, ax_zast, ax_last, ax_aast, ax_alen, ax_ialdR, ax_alenR, ax_gst, ax_new, ax_nwi, ax_nwl, ax_nwq, ax_obj, ax_call, ax_calv, ax_nth, ax_p1, ax_p2, ax_k2, ax_nh, Value.category, lg_cmp_ge, lg_cmp_lt, lg_cmp_gt, lg_cmp_le, lg_cmp_eq, List.getElem?_cons_zero, List.getElem?_cons_succ, true_and, and_true, if_true, if_false, reduceIte, Nat.reduceEqDiff, Nat.add_eq_zero_iff, reduceCtorEq, Nat.reduceAdd, not_true_eq_false, not_false_eq_true, ax_pf, ax_popn, fv_in, fv_size, fv_drop, fv_within, fv_part, fv_cut, fv_sq, fv_absI, fv_absJ, fv_maxI, fv_minI, fv_maxJ, fv_minJ, List.map_cons, List.map_nil, List.sum_cons, List.sum_nil, Nat.reduceLeDiff, Nat.zero_le, Nat.le_refl, zb_0, zb_1, zb_em, true_or, or_true, Int32.toInt_toInt64, Nat.add_zero, fv_isGlass, fv_mayBe, fv_isReading8, fv_isHour8, fv_isPoint, fv_isReading7, fv_isRoom, fv_isWarmth, fv_isHour7, fv_isOnMap, fv_holds, fv_held, tm_eq, i3_add, i3_sub, i3_mul, i3_neg, i6_add, i6_sub, i6_mul, i6_neg, i6_I, i3_toInt, i6_toInt, i3_lt, i3_le, i3_eq, i6_lt, i6_le, i6_eq, i3_eq0, i3_eq1, i3_lt0, i3_le0, i3_gt0, i3_ge0, i6_eq0, i3_div, i6_div, i3_rem, i6_rem, i3_L, i3_nat, i3_inI, ax_up3, ax_up6]
    refine ⟨fun _ => ?_, fun q => absurd (by omega) q⟩
    unfold lieZ at fin
    rw [hn, if_neg (by omega)] at fin
    exact fin
  | succ n ih =>
    intro k hk hn
    have g := hG k (by omega) (by omega)
    have cr := cntB_rng (fun s => decide (V 22 s = s)) k
    refine sbX8_line_30 X 0 0 _ _ _ _ _ _ _ ?_
    simp (disch := omega) only [bkX8_line_30, ax_ic, ax_lc, ax_nul, ax_il, ax_ll, ax_al, ax_is, ax_ls, ax_as, ax_inc, ax_iadd, ax_isub, ax_imul, ax_iand, ax_ior, ax_idiv, ax_irem, ax_ishl, ax_ishr, ax_ladd, ax_lsub, ax_lmul, ax_ldiv, ax_lrem, ax_ineg, ax_lneg, ax_i2l, ax_l2i, ax_lcmp, ax_dup, ax_pop1, ax_dupx1, ax_dup2, ax_ifeq, ax_ifne, ax_iflt, ax_ifge, ax_ifgt, ax_ifle, ax_iceq, ax_icne, ax_iclt, ax_icge, ax_icgt, ax_icle, ax_ifnull, ax_ifnn, ax_sw, ax_iret, ax_zret, ax_lret, ax_vret, ax_aret, ax_gf, ax_pfi, ax_pfz, ax_pfl, ax_pfr, ax_iald, ax_zald, ax_lald, ax_aald, ax_iast, ax_zast, ax_last, ax_aast, ax_alen, ax_ialdR, ax_alenR, ax_gst, ax_new, ax_nwi, ax_nwl, ax_nwq, ax_obj, ax_call, ax_calv, ax_nth, ax_p1, ax_p2, ax_k2, ax_nh, Value.category, lg_cmp_ge, lg_cmp_lt, lg_cmp_gt, lg_cmp_le, lg_cmp_eq, List.getElem?_cons_zero, List.getElem?_cons_succ, true_and, and_true, if_true, if_false, reduceIte, Nat.reduceEqDiff, Nat.add_eq_zero_iff, reduceCtorEq, Nat.reduceAdd, not_true_eq_false, not_false_eq_true, ax_pf, ax_popn, fv_in, fv_size, fv_drop, fv_within, fv_part, fv_cut, fv_sq, fv_absI, fv_absJ, fv_maxI, fv_minI, fv_maxJ, fv_minJ, List.map_cons, List.map_nil, List.sum_cons, List.sum_nil, Nat.reduceLeDiff, Nat.zero_le, Nat.le_refl, zb_0, zb_1, zb_em, true_or, or_true, Int32.toInt_toInt64, Nat.add_zero, fv_isGlass, fv_mayBe, fv_isReading8, fv_isHour8, fv_isPoint, fv_isReading7, fv_isRoom, fv_isWarmth, fv_isHour7, fv_isOnMap, fv_holds, fv_held, tm_eq, i3_add, i3_sub, i3_mul, i3_neg, i6_add, i6_sub, i6_mul, i6_neg, i6_I, i3_toInt, i6_toInt, i3_lt, i3_le, i3_eq, i6_lt, i6_le, i6_eq, i3_eq0, i3_eq1, i3_lt0, i3_le0, i3_gt0, i3_ge0, i6_eq0, i3_div, i6_div, i3_rem, i6_rem, i3_L, i3_nat, i3_inI, ax_up3, ax_up6, m0, m22]
    refine ⟨fun q => absurd q (by omega), fun _ => ⟨by omega, fun a => ?_, fun a => ⟨fun b => ?_, fun b => ?_⟩⟩⟩
    · have e := ih (k + 1) (by omega) (by rw [ntB, if_neg (by omega), if_neg (fun c => a (by simpa using c.1))])
      rw [cntB, if_neg (by simpa using a), Int.add_zero] at e
      exact e
    · have e := ih (k + 1) (by omega) (by rw [ntB, if_neg (by omega), if_neg (fun c => b c.2)])
      rw [cntB, if_pos (by simpa using a)] at e
      exact e
    · have e1 : ntB (fun s => decide (V 22 s = s)) i (k + 1) = k := by
        rw [ntB, if_neg (by omega), if_pos ⟨by simpa using a, b⟩]
      have e2 : ntB (fun s => decide (V 22 s = s)) i 128 = k := by
        have := ntB_stay (P := fun s => decide (V 22 s = s)) (i := i) (k := k + 1) (by omega) n
        rw [show k + 1 + n = 128 by omega] at this
        rw [this, e1]
      unfold lieZ at fin
      rw [e2, if_pos (by omega)] at fin
      refine ⟨fun c => ⟨fun d => ?_, fun d => ?_⟩, fun c => ?_⟩
      · rw [if_neg c, if_neg d] at fin
        refine ⟨⟨_, m0⟩, ax_fn (Nat.le_of_ble_eq_true rfl) (Nat.zero_le _) (Nat.zero_le _) (m8_ofLine hM hG (by omega) (by omega) (by omega) (by omega)) ?_⟩
        simp only [ax_ic, ax_lc, ax_nul, ax_il, ax_ll, ax_al, ax_is, ax_ls, ax_as, ax_inc, ax_iadd, ax_isub, ax_imul, ax_iand, ax_ior, ax_idiv, ax_irem, ax_ishl, ax_ishr, ax_ladd, ax_lsub, ax_lmul, ax_ldiv, ax_lrem, ax_ineg, ax_lneg, ax_i2l, ax_l2i, ax_lcmp, ax_dup, ax_pop1, ax_dupx1, ax_dup2, ax_ifeq, ax_ifne, ax_iflt, ax_ifge, ax_ifgt, ax_ifle, ax_iceq, ax_icne, ax_iclt, ax_icge, ax_icgt, ax_icle, ax_ifnull, ax_ifnn, ax_sw, ax_iret, ax_zret, ax_lret, ax_vret, ax_aret, ax_gf, ax_pfi, ax_pfz, ax_pfl, ax_pfr, ax_iald, ax_zald, ax_lald, ax_aald, ax_iast, ax_zast, ax_last, ax_aast, ax_alen, ax_ialdR, ax_alenR, ax_gst, ax_new, ax_nwi, ax_nwl, ax_nwq, ax_obj, ax_call, ax_calv, ax_nth, ax_p1, ax_p2, ax_k2, ax_nh, Value.category, lg_cmp_ge, lg_cmp_lt, lg_cmp_gt, lg_cmp_le, lg_cmp_eq, List.getElem?_cons_zero, List.getElem?_cons_succ, true_and, and_true, if_true, if_false, reduceIte, Nat.reduceEqDiff, Nat.add_eq_zero_iff, reduceCtorEq, Nat.reduceAdd, not_true_eq_false, not_false_eq_true]
        exact fin
      · rw [if_neg c, if_pos d] at fin
        refine ⟨⟨_, m0⟩, ax_fn (Nat.le_of_ble_eq_true rfl) (Nat.zero_le _) (Nat.zero_le _) (m8_ofLine hM hG (by omega) (by omega) (by omega) (by omega)) ?_⟩
        simp only [ax_ic, ax_lc, ax_nul, ax_il, ax_ll, ax_al, ax_is, ax_ls, ax_as, ax_inc, ax_iadd, ax_isub, ax_imul, ax_iand, ax_ior, ax_idiv, ax_irem, ax_ishl, ax_ishr, ax_ladd, ax_lsub, ax_lmul, ax_ldiv, ax_lrem, ax_ineg, ax_lneg, ax_i2l, ax_l2i, ax_lcmp, ax_dup, ax_pop1, ax_dupx1, ax_dup2, ax_ifeq, ax_ifne, ax_iflt, ax_ifge, ax_ifgt, ax_ifle, ax_iceq, ax_icne, ax_iclt, ax_icge, ax_icgt, ax_icle, ax_ifnull, ax_ifnn, ax_sw, ax_iret, ax_zret, ax_lret, ax_vret, ax_aret, ax_gf, ax_pfi, ax_pfz, ax_pfl, ax_pfr, ax_iald, ax_zald, ax_lald, ax_aald, ax_iast, ax_zast, ax_last, ax_aast, ax_alen, ax_ialdR, ax_alenR, ax_gst, ax_new, ax_nwi, ax_nwl, ax_nwq, ax_obj, ax_call, ax_calv, ax_nth, ax_p1, ax_p2, ax_k2, ax_nh, Value.category, lg_cmp_ge, lg_cmp_lt, lg_cmp_gt, lg_cmp_le, lg_cmp_eq, List.getElem?_cons_zero, List.getElem?_cons_succ, true_and, and_true, if_true, if_false, reduceIte, Nat.reduceEqDiff, Nat.add_eq_zero_iff, reduceCtorEq, Nat.reduceAdd, not_true_eq_false, not_false_eq_true]
        exact fin
      · rw [if_pos c] at fin
        exact fin
theorem m8_line {X : ax_X} {o z : Nat} {V : Nat → Int → Int} {f : ax_F} {h v i w : Int} (hM : MH X o V f) (hI : mInv V) (hh : -2147483648 ≤ h) (hh' : h < 2147483648) (hv : -2147483648 ≤ v) (hv' : v < 2147483648) (hi : -2147483648 ≤ i) (hi' : i < 2147483648) (hw : -2147483648 ≤ w) (hw' : w < 2147483648) :
    ax_M X mX8_line 0 0 [.ref o, .int (i3 h), .int (i3 v), .int (i3 i), .int (i3 w)] z f (mqc X o f z (some (.int (i3 (if whyZ V h v w < 0 then whyZ V h v w else lieV V h v i w)))) V) := by
  refine ax_met2 [some (.ref o), some (.int (i3 h)), some (.int (i3 v)), some (.int (i3 i)), some (.int (i3 w)), none, none, none] (by decide) (Nat.le_of_ble_eq_true rfl) rfl ?_
  refine sbX8_line_0 X 0 0 _ _ _ _ _ _ _ ?_
  have m0 : f o = some (.inr (7, [.ref (o + 1), .ref (o + 2), .ref (o + 3), .ref (o + 4), .ref (o + 5), .ref (o + 6), .ref (o + 7), .ref (o + 8), .int (i3 (V 0 8)), .ref (o + 9), .ref (o + 10), .ref (o + 11), .ref (o + 12), .ref (o + 13), .int (i3 (V 0 14)), .ref (o + 14), .ref (o + 15), .ref (o + 16), .ref (o + 17), .int (i3 (V 0 19)), .ref (o + 18), .int (i3 (V 0 21)), .ref (o + 19), .long (i6 (V 0 23)), .ref (o + 20), .ref (o + 21), .ref (o + 22), .ref (o + 23), .int (i3 (V 0 28)), .long (i6 (V 0 29)), .long (i6 (V 0 30)), .ref (o + 24), .ref (o + 25)])) := hM 0 (by decide)
  simp (disch := omega) only [bkX8_line_0, ax_ic, ax_lc, ax_nul, ax_il, ax_ll, ax_al, ax_is, ax_ls, ax_as, ax_inc, ax_iadd, ax_isub, ax_imul, ax_iand, ax_ior, ax_idiv, ax_irem, ax_ishl, ax_ishr, ax_ladd, ax_lsub, ax_lmul, ax_ldiv, ax_lrem, ax_ineg, ax_lneg, ax_i2l, ax_l2i, ax_lcmp, ax_dup, ax_pop1, ax_dupx1, ax_dup2, ax_ifeq, ax_ifne, ax_iflt, ax_ifge, ax_ifgt, ax_ifle, ax_iceq, ax_icne, ax_iclt, ax_icge, ax_icgt, ax_icle, ax_ifnull, ax_ifnn, ax_sw, ax_iret, ax_zret, ax_lret, ax_vret, ax_aret, ax_gf, ax_pfi, ax_pfz, ax_pfl, ax_pfr, ax_iald, ax_zald, ax_lald, ax_aald, ax_iast, ax_zast, ax_last, ax_aast, ax_alen, ax_ialdR, ax_alenR, ax_gst, ax_new, ax_nwi, ax_nwl, ax_nwq, ax_obj, ax_call, ax_calv, ax_nth, ax_p1, ax_p2, ax_k2, ax_nh, Value.category, lg_cmp_ge, lg_cmp_lt, lg_cmp_gt, lg_cmp_le, lg_cmp_eq, List.getElem?_cons_zero, List.getElem?_cons_succ, true_and, and_true, if_true, if_false, reduceIte, Nat.reduceEqDiff, Nat.add_eq_zero_iff, reduceCtorEq, Nat.reduceAdd, not_true_eq_false, not_false_eq_true, ax_pf, ax_popn, fv_in, fv_size, fv_drop, fv_within, fv_part, fv_cut, fv_sq, fv_absI, fv_absJ, fv_maxI, fv_minI, fv_maxJ, fv_minJ, List.map_cons, List.map_nil, List.sum_cons, List.sum_nil, Nat.reduceLeDiff, Nat.zero_le, Nat.le_refl, zb_0, zb_1, zb_em, true_or, or_true, Int32.toInt_toInt64, Nat.add_zero, fv_isGlass, fv_mayBe, fv_isReading8, fv_isHour8, fv_isPoint, fv_isReading7, fv_isRoom, fv_isWarmth, fv_isHour7, fv_isOnMap, fv_holds, fv_held, tm_eq, i3_add, i3_sub, i3_mul, i3_neg, i6_add, i6_sub, i6_mul, i6_neg, i6_I, i3_toInt, i6_toInt, i3_lt, i3_le, i3_eq, i6_lt, i6_le, i6_eq, i3_eq0, i3_eq1, i3_lt0, i3_le0, i3_gt0, i3_ge0, i6_eq0, i3_div, i6_div, i3_rem, i6_rem, i3_L, i3_nat, i3_inI, ax_up3, ax_up6]
  refine ⟨⟨_, m0⟩, ax_fn (Nat.le_of_ble_eq_true rfl) (Nat.zero_le _) (Nat.zero_le _) (m8_whyNot hM hI hh hh' hv hv' hw hw') ?_⟩
  have wr : -3 ≤ whyZ V h v w ∧ whyZ V h v w ≤ 0 := by
    unfold whyZ
    repeat' split
    all_goals omega
  have wi : 0 ≤ whyZ V h v w → ((0 ≤ h ∧ h ≤ 47) ∧ (1 ≤ v ∧ v ≤ 20000) ∧ 0 ≤ w ∧ w ≤ 3) ∧ anyB V h (-1) (V 0 8).toNat = true := fun c => by
    unfold whyZ at c
    by_cases c1 : (0 ≤ h ∧ h ≤ 47) ∧ (1 ≤ v ∧ v ≤ 20000) ∧ 0 ≤ w ∧ w ≤ 3
    · by_cases c2 : anyB V h (-1) (V 0 8).toNat = true
      · exact ⟨c1, c2⟩
      · rw [if_pos c1, if_neg c2] at c
        omega
    · rw [if_neg c1] at c
      omega
  generalize whyZ V h v w = y at *
  simp (disch := omega) only [ax_ic, ax_lc, ax_nul, ax_il, ax_ll, ax_al, ax_is, ax_ls, ax_as, ax_inc, ax_iadd, ax_isub, ax_imul, ax_iand, ax_ior, ax_idiv, ax_irem, ax_ishl, ax_ishr, ax_ladd, ax_lsub, ax_lmul, ax_ldiv, ax_lrem, ax_ineg, ax_lneg, ax_i2l, ax_l2i, ax_lcmp, ax_dup, ax_pop1, ax_dupx1, ax_dup2, ax_ifeq, ax_ifne, ax_iflt, ax_ifge, ax_ifgt, ax_ifle, ax_iceq, ax_icne, ax_iclt, ax_icge, ax_icgt, ax_icle, ax_ifnull, ax_ifnn, ax_sw, ax_iret, ax_zret, ax_lret, ax_vret, ax_aret, ax_gf, ax_pfi, ax_pfz, ax_pfl, ax_pfr, ax_iald, ax_zald, ax_lald, ax_aald, ax_iast, ax_zast, ax_last, ax_aast, ax_alen, ax_ialdR, ax_alenR, ax_gst, ax_new, ax_nwi, ax_nwl, ax_nwq, ax_obj, ax_call, ax_calv, ax_nth, ax_p1, ax_p2, ax_k2, ax_nh, Value.category, lg_cmp_ge, lg_cmp_lt, lg_cmp_gt, lg_cmp_le, lg_cmp_eq, List.getElem?_cons_zero, List.getElem?_cons_succ, true_and, and_true, if_true, if_false, reduceIte, Nat.reduceEqDiff, Nat.add_eq_zero_iff, reduceCtorEq, Nat.reduceAdd, not_true_eq_false, not_false_eq_true, ax_pf, ax_popn, fv_in, fv_size, fv_drop, fv_within, fv_part, fv_cut, fv_sq, fv_absI, fv_absJ, fv_maxI, fv_minI, fv_maxJ, fv_minJ, List.map_cons, List.map_nil, List.sum_cons, List.sum_nil, Nat.reduceLeDiff, Nat.zero_le, Nat.le_refl, zb_0, zb_1, zb_em, true_or, or_true, Int32.toInt_toInt64, Nat.add_zero, fv_isGlass, fv_mayBe, fv_isReading8, fv_isHour8, fv_isPoint, fv_isReading7, fv_isRoom, fv_isWarmth, fv_isHour7, fv_isOnMap, fv_holds, fv_held, tm_eq, i3_add, i3_sub, i3_mul, i3_neg, i6_add, i6_sub, i6_mul, i6_neg, i6_I, i3_toInt, i6_toInt, i3_lt, i3_le, i3_eq, i6_lt, i6_le, i6_eq, i3_eq0, i3_eq1, i3_lt0, i3_le0, i3_gt0, i3_ge0, i6_eq0, i3_div, i6_div, i3_rem, i6_rem, i3_L, i3_nat, i3_inI, ax_up3, ax_up6]
  refine ⟨fun a => ?_, fun a => mqc0 (by rw [if_pos (by omega)]) hM core.rfl MF.rfl⟩
  obtain ⟨w1, w2⟩ := wi a
  refine ⟨⟨_, m0⟩, Nat.le_of_ble_eq_true rfl, 0, 0, _, m8_findLines hM hI (by omega) (by omega) (by omega) (by omega) w2, Nat.zero_le _, Nat.zero_le _, fun v' z' f1 hq => ?_⟩
  obtain ⟨rfl, rfl, hF1, V1, hM1, c1, hs1, hA1⟩ := hq
  simp (disch := omega) only [ax_ic, ax_lc, ax_nul, ax_il, ax_ll, ax_al, ax_is, ax_ls, ax_as, ax_inc, ax_iadd, ax_isub, ax_imul, ax_iand, ax_ior, ax_idiv, ax_irem, ax_ishl, ax_ishr, ax_ladd, ax_lsub, ax_lmul, ax_ldiv, ax_lrem, ax_ineg, ax_lneg, ax_i2l, ax_l2i, ax_lcmp, ax_dup, ax_pop1, ax_dupx1, ax_dup2, ax_ifeq, ax_ifne, ax_iflt, ax_ifge, ax_ifgt, ax_ifle, ax_iceq, ax_icne, ax_iclt, ax_icge, ax_icgt, ax_icle, ax_ifnull, ax_ifnn, ax_sw, ax_iret, ax_zret, ax_lret, ax_vret, ax_aret, ax_gf, ax_pfi, ax_pfz, ax_pfl, ax_pfr, ax_iald, ax_zald, ax_lald, ax_aald, ax_iast, ax_zast, ax_last, ax_aast, ax_alen, ax_ialdR, ax_alenR, ax_gst, ax_new, ax_nwi, ax_nwl, ax_nwq, ax_obj, ax_call, ax_calv, ax_nth, ax_p1, ax_p2, ax_k2, ax_nh, Value.category, lg_cmp_ge, lg_cmp_lt, lg_cmp_gt, lg_cmp_le, lg_cmp_eq, List.getElem?_cons_zero, List.getElem?_cons_succ, true_and, and_true, if_true, if_false, reduceIte, Nat.reduceEqDiff, Nat.add_eq_zero_iff, reduceCtorEq, Nat.reduceAdd, not_true_eq_false, not_false_eq_true, Option.toList, List.nil_append]
  refine m8_li_30 hM1 (agr_grOk hA1) hi hi' (by omega) (by omega) ?_ 128 0 (by omega) rfl
  refine mqc0 ?_ hM1 c1 hF1
  rw [if_neg (by omega), lieV, lieZ_c hA1]
