section DRT
variable {X : ax_X} {r z : Nat} {V T : Nat → Int → Int} {f f0 : ax_F} {s : Int}
abbrev srPost (X : ax_X) (r z : Nat) (V T : Nat → Int → Int) (s : Int) (f0 : ax_F) : Option Value → Nat → ax_F → Prop := fun v z' f' => v = some (.int (zb (0 ≤ (mDr V s).1))) ∧ z' = z ∧ RF r f0 f' ∧ ∃ T' : Nat → Int → Int, RH X r T' f' ∧ tcore T T' ∧ (0 ≤ (mDr V s).1 → (T' 26 3, T' 26 4, T' 26 5) = mDr V s)
theorem sP_0 {M P : Int → Int} {n : Nat} (h : P n ≠ 1) : sP M P (n + 1) = sP M P n := by rw [sP, if_neg h, Int.add_zero]
theorem sP_1 {M P : Int → Int} {n : Nat} (h : P n = 1) : sP M P (n + 1) = sP M P n + M n := by rw [sP, if_pos h]
theorem tryZ_P {M P : Int → Int} {h : Nat} (hh : h ≤ 48) (t : Tr) : tryZ M P h t = if cP P h < 2 ∨ cP P 48 - cP P h < 2 then t else if t.1 < 0 ∨ ((t.2.1).natAbs : Int) * (cP P h * (cP P 48 - cP P h)) < (((sP M P 48 - sP M P h) * cP P h - sP M P h * (cP P 48 - cP P h)).natAbs : Int) * t.2.2 then (h, (sP M P 48 - sP M P h) * cP P h - sP M P h * (cP P 48 - cP P h), cP P h * (cP P 48 - cP P h)) else t := by
  obtain ⟨a1, a2, a3, a4⟩ := (aS_P (M := M) (P := P) (h := h) 48).2 hh
  unfold tryZ
  rw [a1, a2, a3, a4]
theorem m3_sr_36 (hI : mInv V) (hs : 0 ≤ s) (hs' : s < V 0 8) :
    ∀ (m n : Nat) (T' : Nat → Int → Int) (f : ax_F), n + m = 48 → tcore T T' → T' 26 2 = cP (PZ V s) 48 → (∀ h : Nat, h < 48 → PZ V s h = 1 → T' 27 (cP (PZ V s) h) = h ∧ T' 28 (cP (PZ V s) h) = MZ V s h) → (0 ≤ (drZ (MZ V s) (PZ V s) n).1 → (T' 26 3, T' 26 4, T' 26 5) = drZ (MZ V s) (PZ V s) n) → RH X r T' f → RF r f0 f → ax_G X mX3_search 0 0 (srPost X r z V T s f0) 36 [some (.ref (r + 26)), some (.long (i6 (sP (MZ V s) (PZ V s) 48 - sP (MZ V s) (PZ V s) n))), none, some (.long (i6 (sP (MZ V s) (PZ V s) n))), none, some (.int (zb (0 ≤ (drZ (MZ V s) (PZ V s) n).1))), some (.int (i3 (cP (PZ V s) n)))] [] 0 0 z f := by
  have i0 := hI.2.2.1
  have ro := rowOk_Z (s := s) hI hs (by omega)
  have cN : 0 ≤ cP (PZ V s) 48 ∧ cP (PZ V s) 48 ≤ 48 := cntB_rng (fun h => decide (PZ V s h = 1)) 48
  intro m
  induction m with
  | zero =>
    intro n T' f hn c h2 hh ht hR hF
    have hn' : n = 48 := by omega
    subst hn'
    have c26 : f (r + 26) = some (.inr (2, [.ref (r + 27), .ref (r + 28), .int (i3 (T' 26 2)), .int (i3 (T' 26 3)), .long (i6 (T' 26 4)), .long (i6 (T' 26 5))])) := hR 26 (Or.inl (by decide))
    rw [h2] at c26
    refine sbX3_search_36 X 0 0 _ _ _ _ _ _ _ ?_
    simp (disch := omega) only [bkX3_search_36, ax_ic, ax_lc, ax_nul, ax_il, ax_ll, ax_al, ax_is, ax_ls, ax_as, ax_inc, ax_iadd, ax_isub, ax_imul, ax_iand, ax_ior, ax_idiv, ax_irem, ax_ishl, ax_ishr, ax_ladd, ax_lsub, ax_lmul, ax_ldiv, ax_lrem, ax_ineg, ax_lneg, ax_i2l, ax_l2i, ax_lcmp, ax_dup, ax_pop1, ax_dupx1, ax_dup2, ax_ifeq, ax_ifne, ax_iflt, ax_ifge, ax_ifgt, ax_ifle, ax_iceq, ax_icne, ax_iclt, ax_icge, ax_icgt, ax_icle, ax_ifnull, ax_ifnn, ax_sw, ax_iret, ax_zret, ax_lret, ax_vret, ax_aret, ax_gf, ax_pfi, ax_pfz, ax_pfl, ax_pfr, ax_iald, ax_zald, ax_lald, ax_aald, ax_iast, ax_zast, ax_last, ax_aast, ax_alen, ax_ialdR, ax_alenR, ax_gst, ax_new, ax_nwi, ax_nwl, ax_nwq, ax_obj, ax_call, ax_calv, ax_nth, ax_p1, ax_p2, ax_k2, ax_nh, Value.category, lg_cmp_ge, lg_cmp_lt, lg_cmp_gt, lg_cmp_le, lg_cmp_eq, List.getElem?_cons_zero, List.getElem?_cons_succ, true_and, and_true, if_true, if_false, reduceIte, Nat.reduceEqDiff, Nat.add_eq_zero_iff, reduceCtorEq, Nat.reduceAdd, not_true_eq_false, not_false_eq_true, ax_pf, ax_popn, fv_in, fv_size, fv_drop, fv_within, fv_part, fv_cut, fv_sq, fv_absI, fv_absJ, fv_maxI, fv_minI, fv_maxJ, fv_minJ, List.map_cons, List.map_nil, List.sum_cons, List.sum_nil, Nat.reduceLeDiff, Nat.zero_le, Nat.le_refl, zb_0, zb_1, zb_em, true_or, or_true, Int32.toInt_toInt64, Nat.add_zero, fv_isGlass, fv_mayBe, fv_isReading8, fv_isHour8, fv_isPoint, fv_isReading7, fv_isRoom, fv_isWarmth, fv_isHour7, fv_isOnMap, fv_holds, fv_held, tm_eq, i3_add, i3_sub, i3_mul, i3_neg, i6_add, i6_sub, i6_mul, i6_neg, i6_I, i3_toInt, i6_toInt, i3_lt, i3_le, i3_eq, i6_lt, i6_le, i6_eq, i3_eq0, i3_eq1, i3_lt0, i3_le0, i3_gt0, i3_ge0, i6_eq0, i3_div, i6_div, i3_rem, i6_rem, i3_L, i3_nat, i3_inI, ax_up3, ax_up6, c26]
    exact ⟨fun _ => ⟨Nat.le_refl _, Nat.le_refl _, rfl, rfl, hF, T', hR, c, ht⟩, fun q => absurd (by omega) q⟩
  | succ m ih =>
    intro n T' f hn c h2 hh ht hR hF
    by_cases p1 : PZ V s n = 1
    · have cn : 0 ≤ cP (PZ V s) n ∧ cP (PZ V s) n ≤ n := cntB_rng (fun h => decide (PZ V s h = 1)) n
      have le : cP (PZ V s) (n + 1) ≤ cP (PZ V s) 48 := by
        have := cntB_le (P := fun h => decide (PZ V s h = 1)) (a := n + 1) (48 - (n + 1))
        rw [show n + 1 + (48 - (n + 1)) = 48 by omega] at this
        exact this
      have c1 := cP_1 p1
      have h7 := hh n (by omega) p1
      have s48 := sP_rng ro 48 (by omega)
      have sn := sP_rng ro n (by omega)
      have tk := drZ_ok ro n (by omega)
      have mn := (ro n (by omega) (by omega)).2 p1
      have stp := tryZ_P (M := MZ V s) (P := PZ V s) (h := n) (by omega) (drZ (MZ V s) (PZ V s) n)
      have dn : drZ (MZ V s) (PZ V s) (n + 1) = tryZ (MZ V s) (PZ V s) n (drZ (MZ V s) (PZ V s) n) := by rw [drZ, if_pos p1]
      have tk1 := drZ_ok ro (n + 1) (by omega)
      have nx := fun T1 f1 => ih (n + 1) T1 f1 (by omega)
      rw [c1, sP_1 p1] at nx
      have at106 : ∀ (T1 : Nat → Int → Int) (f1 : ax_F) (w : Int32), w = zb (0 ≤ (drZ (MZ V s) (PZ V s) (n + 1)).1) → tcore T T1 → T1 26 2 = cP (PZ V s) 48 → (∀ h : Nat, h < 48 → PZ V s h = 1 → T1 27 (cP (PZ V s) h) = h ∧ T1 28 (cP (PZ V s) h) = MZ V s h) → (0 ≤ (drZ (MZ V s) (PZ V s) (n + 1)).1 → (T1 26 3, T1 26 4, T1 26 5) = drZ (MZ V s) (PZ V s) (n + 1)) → RH X r T1 f1 → RF r f0 f1 → ax_G X mX3_search 0 0 (srPost X r z V T s f0) 106 [some (.ref (r + 26)), some (.long (i6 (sP (MZ V s) (PZ V s) 48 - sP (MZ V s) (PZ V s) n))), none, some (.long (i6 (sP (MZ V s) (PZ V s) n))), none, some (.int w), some (.int (i3 (cP (PZ V s) n)))] [] 0 0 z f1 := fun T1 f1 w hw q1 q2 q3 q4 q5 q6 => by
        have e := nx T1 f1 q1 q2 q3 q4 q5 q6
        have h8 := q3 n (by omega) p1
        have d26 : f1 (r + 26) = some (.inr (2, [.ref (r + 27), .ref (r + 28), .int (i3 (T1 26 2)), .int (i3 (T1 26 3)), .long (i6 (T1 26 4)), .long (i6 (T1 26 5))])) := q5 26 (Or.inl (by decide))
        have d28 : f1 (r + 28) = some (.inl (X.2.2.1 0, 48, .inl (fun j : Nat => i3 (T1 28 (j : Int))))) := q5 28 (Or.inl (by decide))
        refine sbX3_search_106 X 0 0 _ _ _ _ _ _ _ ?_
        simp (disch := omega) only [bkX3_search_106, ax_ic, ax_lc, ax_nul, ax_il, ax_ll, ax_al, ax_is, ax_ls, ax_as, ax_inc, ax_iadd, ax_isub, ax_imul, ax_iand, ax_ior, ax_idiv, ax_irem, ax_ishl, ax_ishr, ax_ladd, ax_lsub, ax_lmul, ax_ldiv, ax_lrem, ax_ineg, ax_lneg, ax_i2l, ax_l2i, ax_lcmp, ax_dup, ax_pop1, ax_dupx1, ax_dup2, ax_ifeq, ax_ifne, ax_iflt, ax_ifge, ax_ifgt, ax_ifle, ax_iceq, ax_icne, ax_iclt, ax_icge, ax_icgt, ax_icle, ax_ifnull, ax_ifnn, ax_sw, ax_iret, ax_zret, ax_lret, ax_vret, ax_aret, ax_gf, ax_pfi, ax_pfz, ax_pfl, ax_pfr, ax_iald, ax_zald, ax_lald, ax_aald, ax_iast, ax_zast, ax_last, ax_aast, ax_alen, ax_ialdR, ax_alenR, ax_gst, ax_new, ax_nwi, ax_nwl, ax_nwq, ax_obj, ax_call, ax_calv, ax_nth, ax_p1, ax_p2, ax_k2, ax_nh, Value.category, lg_cmp_ge, lg_cmp_lt, lg_cmp_gt, lg_cmp_le, lg_cmp_eq, List.getElem?_cons_zero, List.getElem?_cons_succ, true_and, and_true, if_true, if_false, reduceIte, Nat.reduceEqDiff, Nat.add_eq_zero_iff, reduceCtorEq, Nat.reduceAdd, not_true_eq_false, not_false_eq_true, ax_pf, ax_popn, fv_in, fv_size, fv_drop, fv_within, fv_part, fv_cut, fv_sq, fv_absI, fv_absJ, fv_maxI, fv_minI, fv_maxJ, fv_minJ, List.map_cons, List.map_nil, List.sum_cons, List.sum_nil, Nat.reduceLeDiff, Nat.zero_le, Nat.le_refl, zb_0, zb_1, zb_em, true_or, or_true, Int32.toInt_toInt64, Nat.add_zero, fv_isGlass, fv_mayBe, fv_isReading8, fv_isHour8, fv_isPoint, fv_isReading7, fv_isRoom, fv_isWarmth, fv_isHour7, fv_isOnMap, fv_holds, fv_held, tm_eq, i3_add, i3_sub, i3_mul, i3_neg, i6_add, i6_sub, i6_mul, i6_neg, i6_I, i3_toInt, i6_toInt, i3_lt, i3_le, i3_eq, i6_lt, i6_le, i6_eq, i3_eq0, i3_eq1, i3_lt0, i3_le0, i3_gt0, i3_ge0, i6_eq0, i3_div, i6_div, i3_rem, i6_rem, i3_L, i3_nat, i3_inI, ax_up3, ax_up6, d26, d28, h8.2]
        refine ⟨by omega, by omega, ?_⟩
        rw [hw, Int.sub_sub]
        exact e
      have c26 : f (r + 26) = some (.inr (2, [.ref (r + 27), .ref (r + 28), .int (i3 (T' 26 2)), .int (i3 (T' 26 3)), .long (i6 (T' 26 4)), .long (i6 (T' 26 5))])) := hR 26 (Or.inl (by decide))
      have c27 : f (r + 27) = some (.inl (X.2.2.1 0, 48, .inl (fun j : Nat => i3 (T' 27 (j : Int))))) := hR 27 (Or.inl (by decide))
      rw [h2] at c26
      refine sbX3_search_36 X 0 0 _ _ _ _ _ _ _ ?_
      simp (disch := omega) only [bkX3_search_36, ax_ic, ax_lc, ax_nul, ax_il, ax_ll, ax_al, ax_is, ax_ls, ax_as, ax_inc, ax_iadd, ax_isub, ax_imul, ax_iand, ax_ior, ax_idiv, ax_irem, ax_ishl, ax_ishr, ax_ladd, ax_lsub, ax_lmul, ax_ldiv, ax_lrem, ax_ineg, ax_lneg, ax_i2l, ax_l2i, ax_lcmp, ax_dup, ax_pop1, ax_dupx1, ax_dup2, ax_ifeq, ax_ifne, ax_iflt, ax_ifge, ax_ifgt, ax_ifle, ax_iceq, ax_icne, ax_iclt, ax_icge, ax_icgt, ax_icle, ax_ifnull, ax_ifnn, ax_sw, ax_iret, ax_zret, ax_lret, ax_vret, ax_aret, ax_gf, ax_pfi, ax_pfz, ax_pfl, ax_pfr, ax_iald, ax_zald, ax_lald, ax_aald, ax_iast, ax_zast, ax_last, ax_aast, ax_alen, ax_ialdR, ax_alenR, ax_gst, ax_new, ax_nwi, ax_nwl, ax_nwq, ax_obj, ax_call, ax_calv, ax_nth, ax_p1, ax_p2, ax_k2, ax_nh, Value.category, lg_cmp_ge, lg_cmp_lt, lg_cmp_gt, lg_cmp_le, lg_cmp_eq, List.getElem?_cons_zero, List.getElem?_cons_succ, true_and, and_true, if_true, if_false, reduceIte, Nat.reduceEqDiff, Nat.add_eq_zero_iff, reduceCtorEq, Nat.reduceAdd, not_true_eq_false, not_false_eq_true, ax_pf, ax_popn, fv_in, fv_size, fv_drop, fv_within, fv_part, fv_cut, fv_sq, fv_absI, fv_absJ, fv_maxI, fv_minI, fv_maxJ, fv_minJ, List.map_cons, List.map_nil, List.sum_cons, List.sum_nil, Nat.reduceLeDiff, Nat.zero_le, Nat.le_refl, zb_0, zb_1, zb_em, true_or, or_true, Int32.toInt_toInt64, Nat.add_zero, fv_isGlass, fv_mayBe, fv_isReading8, fv_isHour8, fv_isPoint, fv_isReading7, fv_isRoom, fv_isWarmth, fv_isHour7, fv_isOnMap, fv_holds, fv_held, tm_eq, i3_add, i3_sub, i3_mul, i3_neg, i6_add, i6_sub, i6_mul, i6_neg, i6_I, i3_toInt, i6_toInt, i3_lt, i3_le, i3_eq, i6_lt, i6_le, i6_eq, i3_eq0, i3_eq1, i3_lt0, i3_le0, i3_gt0, i3_ge0, i6_eq0, i3_div, i6_div, i3_rem, i6_rem, i3_L, i3_nat, i3_inI, ax_up3, ax_up6, c26, c27, h7.1]
      have skip : (cP (PZ V s) n < 2 ∨ cP (PZ V s) 48 - cP (PZ V s) n < 2) → ax_G X mX3_search 0 0 (srPost X r z V T s f0) 106 [some (.ref (r + 26)), some (.long (i6 (sP (MZ V s) (PZ V s) 48 - sP (MZ V s) (PZ V s) n))), none, some (.long (i6 (sP (MZ V s) (PZ V s) n))), none, some (.int (zb (0 ≤ (drZ (MZ V s) (PZ V s) n).1))), some (.int (i3 (cP (PZ V s) n)))] [] 0 0 z f := fun q => by
        have e : drZ (MZ V s) (PZ V s) (n + 1) = drZ (MZ V s) (PZ V s) n := by rw [dn, stp, if_pos q]
        refine at106 T' f _ (by rw [e]) c h2 hh (by rw [e]; exact ht) hR hF
      have ab := abs_rng (h := (n : Int)) ro 48 (by omega)
      rw [((aS_P (M := MZ V s) (P := PZ V s) (h := n) 48).2 (by omega)).2.2.1] at ab
      have m1 := mul_bd (x := sP (MZ V s) (PZ V s) 48 - sP (MZ V s) (PZ V s) n) (y := cP (PZ V s) n) (A := 960000) (B := 48) (by omega) (by omega) (by omega) (by omega)
      have tb : -100000000 ≤ (sP (MZ V s) (PZ V s) 48 - sP (MZ V s) (PZ V s) n) * cP (PZ V s) n - sP (MZ V s) (PZ V s) n * (cP (PZ V s) 48 - cP (PZ V s) n) ∧ (sP (MZ V s) (PZ V s) 48 - sP (MZ V s) (PZ V s) n) * cP (PZ V s) n - sP (MZ V s) (PZ V s) n * (cP (PZ V s) 48 - cP (PZ V s) n) ≤ 100000000 := by
        have m2 := mul_bd (x := sP (MZ V s) (PZ V s) n) (y := cP (PZ V s) 48 - cP (PZ V s) n) (A := 960000) (B := 48) (by omega) (by omega) (by omega) (by omega)
        omega
      have m2 := mul_bd (x := sP (MZ V s) (PZ V s) n) (y := cP (PZ V s) 48 - cP (PZ V s) n) (A := 960000) (B := 48) (by omega) (by omega) (by omega) (by omega)
      refine ⟨fun q => absurd q (by omega), fun _ => ⟨fun q => skip (Or.inl q), fun q1 => ⟨fun q => skip (Or.inr q), fun q2 => ⟨by omega, ⟨_, c26⟩, Nat.le_of_ble_eq_true rfl, 0, 0, fun v z' f' => v = none ∧ z' = z ∧ RF r f0 f' ∧ ∃ T1 : Nat → Int → Int, RH X r T1 f' ∧ tcore T T1 ∧ T1 26 2 = cP (PZ V s) 48 ∧ (∀ h : Nat, h < 48 → PZ V s h = 1 → T1 27 (cP (PZ V s) h) = h ∧ T1 28 (cP (PZ V s) h) = MZ V s h) ∧ 0 ≤ (drZ (MZ V s) (PZ V s) (n + 1)).1 ∧ (T1 26 3, T1 26 4, T1 26 5) = drZ (MZ V s) (PZ V s) (n + 1), ?_, Nat.zero_le _, Nat.zero_le _, fun v z' f1 hq => ?_⟩⟩⟩⟩
      · have m3 := mul_p (x := cP (PZ V s) n) (y := cP (PZ V s) 48 - cP (PZ V s) n) (A := 48) (B := 48) (by omega) (by omega) (by omega) (by omega)
        rw [if_neg (by omega)] at stp
        rw [← dn] at stp
        generalize cP (PZ V s) n * (cP (PZ V s) 48 - cP (PZ V s) n) = bt at *
        generalize (sP (MZ V s) (PZ V s) 48 - sP (MZ V s) (PZ V s) n) * cP (PZ V s) n - sP (MZ V s) (PZ V s) n * (cP (PZ V s) 48 - cP (PZ V s) n) = tp at *
        refine m3_take hR hF (by omega) (by omega) tb.1 tb.2 m3.1 (by omega) (fun q => ?_) (fun q f' hR' hF' => ?_) (fun q f' hR' hF' => ?_)
        · have := ht q
          rw [← this] at tk
          exact ⟨tk.2.1, tk.2.2⟩
        · have cond : (drZ (MZ V s) (PZ V s) n).1 < 0 ∨ ((drZ (MZ V s) (PZ V s) n).2.1.natAbs : Int) * bt < (tp.natAbs : Int) * (drZ (MZ V s) (PZ V s) n).2.2 := by
            by_cases p : 0 ≤ (drZ (MZ V s) (PZ V s) n).1
            · rcases q with q | q
              · exact absurd p q
              · right
                have e := ht p
                rw [← e]
                exact q
            · left
              omega
          rw [if_pos cond] at stp
          refine ⟨rfl, rfl, hF', mset T' 26 (tk3 (T' 26) n tp bt), hR', c.trans (tcore.row (k := 26) (by omega) (Or.inl (by omega))), h2, hh, by rw [stp]; show (0 : Int) ≤ n; omega, ?_⟩
          rw [stp]
          rfl
        · have p : 0 ≤ (drZ (MZ V s) (PZ V s) n).1 := by
            refine Decidable.byContradiction fun g => q (Or.inl g)
          have e := ht p
          have cond : ¬ ((drZ (MZ V s) (PZ V s) n).1 < 0 ∨ ((drZ (MZ V s) (PZ V s) n).2.1.natAbs : Int) * bt < (tp.natAbs : Int) * (drZ (MZ V s) (PZ V s) n).2.2) := fun d => by
            rcases d with d | d
            · omega
            · refine q (Or.inr ?_)
              rw [← e] at d
              exact d
          rw [if_neg cond] at stp
          exact ⟨rfl, rfl, hF', T', hR', c, h2, hh, by rw [stp]; exact p, by rw [stp]; exact e⟩
      · obtain ⟨rfl, rfl, hF1, T1, hR1, c1', h21, hh1, pos, e⟩ := hq
        simp (disch := omega) only [ax_ic, ax_lc, ax_nul, ax_il, ax_ll, ax_al, ax_is, ax_ls, ax_as, ax_inc, ax_iadd, ax_isub, ax_imul, ax_iand, ax_ior, ax_idiv, ax_irem, ax_ishl, ax_ishr, ax_ladd, ax_lsub, ax_lmul, ax_ldiv, ax_lrem, ax_ineg, ax_lneg, ax_i2l, ax_l2i, ax_lcmp, ax_dup, ax_pop1, ax_dupx1, ax_dup2, ax_ifeq, ax_ifne, ax_iflt, ax_ifge, ax_ifgt, ax_ifle, ax_iceq, ax_icne, ax_iclt, ax_icge, ax_icgt, ax_icle, ax_ifnull, ax_ifnn, ax_sw, ax_iret, ax_zret, ax_lret, ax_vret, ax_aret, ax_gf, ax_pfi, ax_pfz, ax_pfl, ax_pfr, ax_iald, ax_zald, ax_lald, ax_aald, ax_iast, ax_zast, ax_last, ax_aast, ax_alen, ax_ialdR, ax_alenR, ax_gst, ax_new, ax_nwi, ax_nwl, ax_nwq, ax_obj, ax_call, ax_calv, ax_nth, ax_p1, ax_p2, ax_k2, ax_nh, Value.category, lg_cmp_ge, lg_cmp_lt, lg_cmp_gt, lg_cmp_le, lg_cmp_eq, List.getElem?_cons_zero, List.getElem?_cons_succ, true_and, and_true, if_true, if_false, reduceIte, Nat.reduceEqDiff, Nat.add_eq_zero_iff, reduceCtorEq, Nat.reduceAdd, not_true_eq_false, not_false_eq_true, tm_eq, i3_add, i3_sub, i3_mul, i3_neg, i6_add, i6_sub, i6_mul, i6_neg, i6_I, Option.toList, List.nil_append]
        exact at106 T1 f1 _ (zb_t pos) c1' h21 hh1 (fun _ => e) hR1 hF1
    · have e1 : cP (PZ V s) (n + 1) = cP (PZ V s) n := cP_0 p1
      have e2 : sP (MZ V s) (PZ V s) (n + 1) = sP (MZ V s) (PZ V s) n := sP_0 p1
      have e3 : drZ (MZ V s) (PZ V s) (n + 1) = drZ (MZ V s) (PZ V s) n := by rw [drZ, if_neg p1]
      have e := ih (n + 1) T' f (by omega) c h2 hh (by rw [e3]; exact ht) hR hF
      rw [e1, e2, e3] at e
      exact e
theorem m3_sr_4 (hI : mInv V) (hs : 0 ≤ s) (hs' : s < V 0 8) (hR : RH X r T f) (h2 : T 26 2 = cP (PZ V s) 48) (hh : ∀ h : Nat, h < 48 → PZ V s h = 1 → T 27 (cP (PZ V s) h) = h ∧ T 28 (cP (PZ V s) h) = MZ V s h) :
    ∀ (m n : Nat), n + m = 48 → ax_G X mX3_search 0 0 (srPost X r z V T s f) 4 [some (.ref (r + 26)), some (.long (i6 (sP (MZ V s) (PZ V s) n))), none, some (.int (i3 (cP (PZ V s) n))), none, none, none] [] 0 0 z f := by
  have i0 := hI.2.2.1
  have ro := rowOk_Z (s := s) hI hs (by omega)
  have cN : 0 ≤ cP (PZ V s) 48 ∧ cP (PZ V s) 48 ≤ 48 := cntB_rng (fun h => decide (PZ V s h = 1)) 48
  have c26 : f (r + 26) = some (.inr (2, [.ref (r + 27), .ref (r + 28), .int (i3 (T 26 2)), .int (i3 (T 26 3)), .long (i6 (T 26 4)), .long (i6 (T 26 5))])) := hR 26 (Or.inl (by decide))
  have c28 : f (r + 28) = some (.inl (X.2.2.1 0, 48, .inl (fun j : Nat => i3 (T 28 (j : Int))))) := hR 28 (Or.inl (by decide))
  rw [h2] at c26
  intro m
  induction m with
  | zero =>
    intro n hn
    have hn' : n = 48 := by omega
    subst hn'
    refine sbX3_search_4 X 0 0 _ _ _ _ _ _ _ ?_
    simp (disch := omega) only [bkX3_search_4, ax_ic, ax_lc, ax_nul, ax_il, ax_ll, ax_al, ax_is, ax_ls, ax_as, ax_inc, ax_iadd, ax_isub, ax_imul, ax_iand, ax_ior, ax_idiv, ax_irem, ax_ishl, ax_ishr, ax_ladd, ax_lsub, ax_lmul, ax_ldiv, ax_lrem, ax_ineg, ax_lneg, ax_i2l, ax_l2i, ax_lcmp, ax_dup, ax_pop1, ax_dupx1, ax_dup2, ax_ifeq, ax_ifne, ax_iflt, ax_ifge, ax_ifgt, ax_ifle, ax_iceq, ax_icne, ax_iclt, ax_icge, ax_icgt, ax_icle, ax_ifnull, ax_ifnn, ax_sw, ax_iret, ax_zret, ax_lret, ax_vret, ax_aret, ax_gf, ax_pfi, ax_pfz, ax_pfl, ax_pfr, ax_iald, ax_zald, ax_lald, ax_aald, ax_iast, ax_zast, ax_last, ax_aast, ax_alen, ax_ialdR, ax_alenR, ax_gst, ax_new, ax_nwi, ax_nwl, ax_nwq, ax_obj, ax_call, ax_calv, ax_nth, ax_p1, ax_p2, ax_k2, ax_nh, Value.category, lg_cmp_ge, lg_cmp_lt, lg_cmp_gt, lg_cmp_le, lg_cmp_eq, List.getElem?_cons_zero, List.getElem?_cons_succ, true_and, and_true, if_true, if_false, reduceIte, Nat.reduceEqDiff, Nat.add_eq_zero_iff, reduceCtorEq, Nat.reduceAdd, not_true_eq_false, not_false_eq_true, ax_pf, ax_popn, fv_in, fv_size, fv_drop, fv_within, fv_part, fv_cut, fv_sq, fv_absI, fv_absJ, fv_maxI, fv_minI, fv_maxJ, fv_minJ, List.map_cons, List.map_nil, List.sum_cons, List.sum_nil, Nat.reduceLeDiff, Nat.zero_le, Nat.le_refl, zb_0, zb_1, zb_em, true_or, or_true, Int32.toInt_toInt64, Nat.add_zero, fv_isGlass, fv_mayBe, fv_isReading8, fv_isHour8, fv_isPoint, fv_isReading7, fv_isRoom, fv_isWarmth, fv_isHour7, fv_isOnMap, fv_holds, fv_held, tm_eq, i3_add, i3_sub, i3_mul, i3_neg, i6_add, i6_sub, i6_mul, i6_neg, i6_I, i3_toInt, i6_toInt, i3_lt, i3_le, i3_eq, i6_lt, i6_le, i6_eq, i3_eq0, i3_eq1, i3_lt0, i3_le0, i3_gt0, i3_ge0, i6_eq0, i3_div, i6_div, i3_rem, i6_rem, i3_L, i3_nat, i3_inI, ax_up3, ax_up6, c26]
    refine ⟨fun _ => ?_, fun q => absurd (by omega) q⟩
    have e := m3_sr_36 (r := r) (z := z) (T := T) (f0 := f) hI hs hs' 48 0 T f (by omega) tcore.rfl h2 hh (fun q => absurd (show (0 : Int) ≤ -6 from q) (by decide)) hR RF.rfl
    rw [show sP (MZ V s) (PZ V s) 0 = 0 from rfl, Int.sub_zero] at e
    exact e
  | succ m ih =>
    intro n hn
    by_cases p1 : PZ V s n = 1
    · have cn : 0 ≤ cP (PZ V s) n ∧ cP (PZ V s) n ≤ n := cntB_rng (fun h => decide (PZ V s h = 1)) n
      have le : cP (PZ V s) (n + 1) ≤ cP (PZ V s) 48 := by
        have := cntB_le (P := fun h => decide (PZ V s h = 1)) (a := n + 1) (48 - (n + 1))
        rw [show n + 1 + (48 - (n + 1)) = 48 by omega] at this
        exact this
      have c1 := cP_1 p1
      have h7 := hh n (by omega) p1
      have mn := (ro n (by omega) (by omega)).2 p1
      have e := ih (n + 1) (by omega)
      rw [c1, sP_1 p1] at e
      refine sbX3_search_4 X 0 0 _ _ _ _ _ _ _ ?_
      simp (disch := omega) only [bkX3_search_4, ax_ic, ax_lc, ax_nul, ax_il, ax_ll, ax_al, ax_is, ax_ls, ax_as, ax_inc, ax_iadd, ax_isub, ax_imul, ax_iand, ax_ior, ax_idiv, ax_irem, ax_ishl, ax_ishr, ax_ladd, ax_lsub, ax_lmul, ax_ldiv, ax_lrem, ax_ineg, ax_lneg, ax_i2l, ax_l2i, ax_lcmp, ax_dup, ax_pop1, ax_dupx1, ax_dup2, ax_ifeq, ax_ifne, ax_iflt, ax_ifge, ax_ifgt, ax_ifle, ax_iceq, ax_icne, ax_iclt, ax_icge, ax_icgt, ax_icle, ax_ifnull, ax_ifnn, ax_sw, ax_iret, ax_zret, ax_lret, ax_vret, ax_aret, ax_gf, ax_pfi, ax_pfz, ax_pfl, ax_pfr, ax_iald, ax_zald, ax_lald, ax_aald, ax_iast, ax_zast, ax_last, ax_aast, ax_alen, ax_ialdR, ax_alenR, ax_gst, ax_new, ax_nwi, ax_nwl, ax_nwq, ax_obj, ax_call, ax_calv, ax_nth, ax_p1, ax_p2, ax_k2, ax_nh, Value.category, lg_cmp_ge, lg_cmp_lt, lg_cmp_gt, lg_cmp_le, lg_cmp_eq, List.getElem?_cons_zero, List.getElem?_cons_succ, true_and, and_true, if_true, if_false, reduceIte, Nat.reduceEqDiff, Nat.add_eq_zero_iff, reduceCtorEq, Nat.reduceAdd, not_true_eq_false, not_false_eq_true, ax_pf, ax_popn, fv_in, fv_size, fv_drop, fv_within, fv_part, fv_cut, fv_sq, fv_absI, fv_absJ, fv_maxI, fv_minI, fv_maxJ, fv_minJ, List.map_cons, List.map_nil, List.sum_cons, List.sum_nil, Nat.reduceLeDiff, Nat.zero_le, Nat.le_refl, zb_0, zb_1, zb_em, true_or, or_true, Int32.toInt_toInt64, Nat.add_zero, fv_isGlass, fv_mayBe, fv_isReading8, fv_isHour8, fv_isPoint, fv_isReading7, fv_isRoom, fv_isWarmth, fv_isHour7, fv_isOnMap, fv_holds, fv_held, tm_eq, i3_add, i3_sub, i3_mul, i3_neg, i6_add, i6_sub, i6_mul, i6_neg, i6_I, i3_toInt, i6_toInt, i3_lt, i3_le, i3_eq, i6_lt, i6_le, i6_eq, i3_eq0, i3_eq1, i3_lt0, i3_le0, i3_gt0, i3_ge0, i6_eq0, i3_div, i6_div, i3_rem, i6_rem, i3_L, i3_nat, i3_inI, ax_up3, ax_up6, c26, c28, h7.2]
      exact ⟨fun q => absurd q (by omega), fun _ => ⟨by omega, e⟩⟩
    · have e := ih (n + 1) (by omega)
      rw [cP_0 p1, sP_0 p1] at e
      exact e
theorem m3_search (hI : mInv V) (hs : 0 ≤ s) (hs' : s < V 0 8) (hR : RH X r T f) (h2 : T 26 2 = cP (PZ V s) 48) (hh : ∀ h : Nat, h < 48 → PZ V s h = 1 → T 27 (cP (PZ V s) h) = h ∧ T 28 (cP (PZ V s) h) = MZ V s h) : ax_M X mX3_search 0 0 [.ref (r + 26)] z f (srPost X r z V T s f) := by
  refine ax_met2 [some (.ref (r + 26)), none, none, none, none, none, none] (by decide) (Nat.le_of_ble_eq_true rfl) rfl ?_
  refine sbX3_search_0 X 0 0 _ _ _ _ _ _ _ ?_
  simp (disch := omega) only [bkX3_search_0, ax_ic, ax_lc, ax_nul, ax_il, ax_ll, ax_al, ax_is, ax_ls, ax_as, ax_inc, ax_iadd, ax_isub, ax_imul, ax_iand, ax_ior, ax_idiv, ax_irem, ax_ishl, ax_ishr, ax_ladd, ax_lsub, ax_lmul, ax_ldiv, ax_lrem, ax_ineg, ax_lneg, ax_i2l, ax_l2i, ax_lcmp, ax_dup, ax_pop1, ax_dupx1, ax_dup2, ax_ifeq, ax_ifne, ax_iflt, ax_ifge, ax_ifgt, ax_ifle, ax_iceq, ax_icne, ax_iclt, ax_icge, ax_icgt, ax_icle, ax_ifnull, ax_ifnn, ax_sw, ax_iret, ax_zret, ax_lret, ax_vret, ax_aret, ax_gf, ax_pfi, ax_pfz, ax_pfl, ax_pfr, ax_iald, ax_zald, ax_lald, ax_aald, ax_iast, ax_zast, ax_last, ax_aast, ax_alen, ax_ialdR, ax_alenR, ax_gst, ax_new, ax_nwi, ax_nwl, ax_nwq, ax_obj, ax_call, ax_calv, ax_nth, ax_p1, ax_p2, ax_k2, ax_nh, Value.category, lg_cmp_ge, lg_cmp_lt, lg_cmp_gt, lg_cmp_le, lg_cmp_eq, List.getElem?_cons_zero, List.getElem?_cons_succ, true_and, and_true, if_true, if_false, reduceIte, Nat.reduceEqDiff, Nat.add_eq_zero_iff, reduceCtorEq, Nat.reduceAdd, not_true_eq_false, not_false_eq_true, ax_pf, ax_popn, fv_in, fv_size, fv_drop, fv_within, fv_part, fv_cut, fv_sq, fv_absI, fv_absJ, fv_maxI, fv_minI, fv_maxJ, fv_minJ, List.map_cons, List.map_nil, List.sum_cons, List.sum_nil, Nat.reduceLeDiff, Nat.zero_le, Nat.le_refl, zb_0, zb_1, zb_em, true_or, or_true, Int32.toInt_toInt64, Nat.add_zero, fv_isGlass, fv_mayBe, fv_isReading8, fv_isHour8, fv_isPoint, fv_isReading7, fv_isRoom, fv_isWarmth, fv_isHour7, fv_isOnMap, fv_holds, fv_held, tm_eq, i3_add, i3_sub, i3_mul, i3_neg, i6_add, i6_sub, i6_mul, i6_neg, i6_I, i3_toInt, i6_toInt, i3_lt, i3_le, i3_eq, i6_lt, i6_le, i6_eq, i3_eq0, i3_eq1, i3_lt0, i3_le0, i3_gt0, i3_ge0, i6_eq0, i3_div, i6_div, i3_rem, i6_rem, i3_L, i3_nat, i3_inI, ax_up3, ax_up6]
  exact m3_sr_4 hI hs hs' hR h2 hh 48 0 (by omega)
theorem m3_hour (hR : RH X r T f) : ax_M X mX3_hour 0 0 [.ref (r + 26)] z f (ax_pv (.int (i3 (T 26 3))) z f) := by
  have c26 : f (r + 26) = some (.inr (2, [.ref (r + 27), .ref (r + 28), .int (i3 (T 26 2)), .int (i3 (T 26 3)), .long (i6 (T 26 4)), .long (i6 (T 26 5))])) := hR 26 (Or.inl (by decide))
  refine ax_met2 [some (.ref (r + 26))] (by decide) (Nat.le_of_ble_eq_true rfl) rfl ?_
  refine sbX3_hour_0 X 0 0 _ _ _ _ _ _ _ ?_
  simp (disch := omega) only [bkX3_hour_0, ax_ic, ax_lc, ax_nul, ax_il, ax_ll, ax_al, ax_is, ax_ls, ax_as, ax_inc, ax_iadd, ax_isub, ax_imul, ax_iand, ax_ior, ax_idiv, ax_irem, ax_ishl, ax_ishr, ax_ladd, ax_lsub, ax_lmul, ax_ldiv, ax_lrem, ax_ineg, ax_lneg, ax_i2l, ax_l2i, ax_lcmp, ax_dup, ax_pop1, ax_dupx1, ax_dup2, ax_ifeq, ax_ifne, ax_iflt, ax_ifge, ax_ifgt, ax_ifle, ax_iceq, ax_icne, ax_iclt, ax_icge, ax_icgt, ax_icle, ax_ifnull, ax_ifnn, ax_sw, ax_iret, ax_zret, ax_lret, ax_vret, ax_aret, ax_gf, ax_pfi, ax_pfz, ax_pfl, ax_pfr, ax_iald, ax_zald, ax_lald, ax_aald, ax_iast, ax_zast, ax_last, ax_aast, ax_alen, ax_ialdR, ax_alenR, ax_gst, ax_new, ax_nwi, ax_nwl, ax_nwq, ax_obj, ax_call, ax_calv, ax_nth, ax_p1, ax_p2, ax_k2, ax_nh, Value.category, lg_cmp_ge, lg_cmp_lt, lg_cmp_gt, lg_cmp_le, lg_cmp_eq, List.getElem?_cons_zero, List.getElem?_cons_succ, true_and, and_true, if_true, if_false, reduceIte, Nat.reduceEqDiff, Nat.add_eq_zero_iff, reduceCtorEq, Nat.reduceAdd, not_true_eq_false, not_false_eq_true, ax_pf, ax_popn, fv_in, fv_size, fv_drop, fv_within, fv_part, fv_cut, fv_sq, fv_absI, fv_absJ, fv_maxI, fv_minI, fv_maxJ, fv_minJ, List.map_cons, List.map_nil, List.sum_cons, List.sum_nil, Nat.reduceLeDiff, Nat.zero_le, Nat.le_refl, zb_0, zb_1, zb_em, true_or, or_true, Int32.toInt_toInt64, Nat.add_zero, fv_isGlass, fv_mayBe, fv_isReading8, fv_isHour8, fv_isPoint, fv_isReading7, fv_isRoom, fv_isWarmth, fv_isHour7, fv_isOnMap, fv_holds, fv_held, tm_eq, i3_add, i3_sub, i3_mul, i3_neg, i6_add, i6_sub, i6_mul, i6_neg, i6_I, i3_toInt, i6_toInt, i3_lt, i3_le, i3_eq, i6_lt, i6_le, i6_eq, i3_eq0, i3_eq1, i3_lt0, i3_le0, i3_gt0, i3_ge0, i6_eq0, i3_div, i6_div, i3_rem, i6_rem, i3_L, i3_nat, i3_inI, ax_up3, ax_up6, c26]
  exact ax_pv0 rfl
theorem m3_top (hR : RH X r T f) : ax_M X mX3_top 0 0 [.ref (r + 26)] z f (ax_pv (.long (i6 (T 26 4))) z f) := by
  have c26 : f (r + 26) = some (.inr (2, [.ref (r + 27), .ref (r + 28), .int (i3 (T 26 2)), .int (i3 (T 26 3)), .long (i6 (T 26 4)), .long (i6 (T 26 5))])) := hR 26 (Or.inl (by decide))
  refine ax_met2 [some (.ref (r + 26))] (by decide) (Nat.le_of_ble_eq_true rfl) rfl ?_
  refine sbX3_top_0 X 0 0 _ _ _ _ _ _ _ ?_
  simp (disch := omega) only [bkX3_top_0, ax_ic, ax_lc, ax_nul, ax_il, ax_ll, ax_al, ax_is, ax_ls, ax_as, ax_inc, ax_iadd, ax_isub, ax_imul, ax_iand, ax_ior, ax_idiv, ax_irem, ax_ishl, ax_ishr, ax_ladd, ax_lsub, ax_lmul, ax_ldiv, ax_lrem, ax_ineg, ax_lneg, ax_i2l, ax_l2i, ax_lcmp, ax_dup, ax_pop1, ax_dupx1, ax_dup2, ax_ifeq, ax_ifne, ax_iflt, ax_ifge, ax_ifgt, ax_ifle, ax_iceq, ax_icne, ax_iclt, ax_icge, ax_icgt, ax_icle, ax_ifnull, ax_ifnn, ax_sw, ax_iret, ax_zret, ax_lret, ax_vret, ax_aret, ax_gf, ax_pfi, ax_pfz, ax_pfl, ax_pfr, ax_iald, ax_zald, ax_lald, ax_aald, ax_iast, ax_zast, ax_last, ax_aast, ax_alen, ax_ialdR, ax_alenR, ax_gst, ax_new, ax_nwi, ax_nwl, ax_nwq, ax_obj, ax_call, ax_calv, ax_nth, ax_p1, ax_p2, ax_k2, ax_nh, Value.category, lg_cmp_ge, lg_cmp_lt, lg_cmp_gt, lg_cmp_le, lg_cmp_eq, List.getElem?_cons_zero, List.getElem?_cons_succ, true_and, and_true, if_true, if_false, reduceIte, Nat.reduceEqDiff, Nat.add_eq_zero_iff, reduceCtorEq, Nat.reduceAdd, not_true_eq_false, not_false_eq_true, ax_pf, ax_popn, fv_in, fv_size, fv_drop, fv_within, fv_part, fv_cut, fv_sq, fv_absI, fv_absJ, fv_maxI, fv_minI, fv_maxJ, fv_minJ, List.map_cons, List.map_nil, List.sum_cons, List.sum_nil, Nat.reduceLeDiff, Nat.zero_le, Nat.le_refl, zb_0, zb_1, zb_em, true_or, or_true, Int32.toInt_toInt64, Nat.add_zero, fv_isGlass, fv_mayBe, fv_isReading8, fv_isHour8, fv_isPoint, fv_isReading7, fv_isRoom, fv_isWarmth, fv_isHour7, fv_isOnMap, fv_holds, fv_held, tm_eq, i3_add, i3_sub, i3_mul, i3_neg, i6_add, i6_sub, i6_mul, i6_neg, i6_I, i3_toInt, i6_toInt, i3_lt, i3_le, i3_eq, i6_lt, i6_le, i6_eq, i3_eq0, i3_eq1, i3_lt0, i3_le0, i3_gt0, i3_ge0, i6_eq0, i3_div, i6_div, i3_rem, i6_rem, i3_L, i3_nat, i3_inI, ax_up3, ax_up6, c26]
  exact ax_pv0 rfl
theorem m3_bottom (hR : RH X r T f) : ax_M X mX3_bottom 0 0 [.ref (r + 26)] z f (ax_pv (.long (i6 (T 26 5))) z f) := by
  have c26 : f (r + 26) = some (.inr (2, [.ref (r + 27), .ref (r + 28), .int (i3 (T 26 2)), .int (i3 (T 26 3)), .long (i6 (T 26 4)), .long (i6 (T 26 5))])) := hR 26 (Or.inl (by decide))
  refine ax_met2 [some (.ref (r + 26))] (by decide) (Nat.le_of_ble_eq_true rfl) rfl ?_
  refine sbX3_bottom_0 X 0 0 _ _ _ _ _ _ _ ?_
  simp (disch := omega) only [bkX3_bottom_0, ax_ic, ax_lc, ax_nul, ax_il, ax_ll, ax_al, ax_is, ax_ls, ax_as, ax_inc, ax_iadd, ax_isub, ax_imul, ax_iand, ax_ior, ax_idiv, ax_irem, ax_ishl, ax_ishr, ax_ladd, ax_lsub, ax_lmul, ax_ldiv, ax_lrem, ax_ineg, ax_lneg, ax_i2l, ax_l2i, ax_lcmp, ax_dup, ax_pop1, ax_dupx1, ax_dup2, ax_ifeq, ax_ifne, ax_iflt, ax_ifge, ax_ifgt, ax_ifle, ax_iceq, ax_icne, ax_iclt, ax_icge, ax_icgt, ax_icle, ax_ifnull, ax_ifnn, ax_sw, ax_iret, ax_zret, ax_lret, ax_vret, ax_aret, ax_gf, ax_pfi, ax_pfz, ax_pfl, ax_pfr, ax_iald, ax_zald, ax_lald, ax_aald, ax_iast, ax_zast, ax_last, ax_aast, ax_alen, ax_ialdR, ax_alenR, ax_gst, ax_new, ax_nwi, ax_nwl, ax_nwq, ax_obj, ax_call, ax_calv, ax_nth, ax_p1, ax_p2, ax_k2, ax_nh, Value.category, lg_cmp_ge, lg_cmp_lt, lg_cmp_gt, lg_cmp_le, lg_cmp_eq, List.getElem?_cons_zero, List.getElem?_cons_succ, true_and, and_true, if_true, if_false, reduceIte, Nat.reduceEqDiff, Nat.add_eq_zero_iff, reduceCtorEq, Nat.reduceAdd, not_true_eq_false, not_false_eq_true, ax_pf, ax_popn, fv_in, fv_size, fv_drop, fv_within, fv_part, fv_cut, fv_sq, fv_absI, fv_absJ, fv_maxI, fv_minI, fv_maxJ, fv_minJ, List.map_cons, List.map_nil, List.sum_cons, List.sum_nil, Nat.reduceLeDiff, Nat.zero_le, Nat.le_refl, zb_0, zb_1, zb_em, true_or, or_true, Int32.toInt_toInt64, Nat.add_zero, fv_isGlass, fv_mayBe, fv_isReading8, fv_isHour8, fv_isPoint, fv_isReading7, fv_isRoom, fv_isWarmth, fv_isHour7, fv_isOnMap, fv_holds, fv_held, tm_eq, i3_add, i3_sub, i3_mul, i3_neg, i6_add, i6_sub, i6_mul, i6_neg, i6_I, i3_toInt, i6_toInt, i3_lt, i3_le, i3_eq, i6_lt, i6_le, i6_eq, i3_eq0, i3_eq1, i3_lt0, i3_le0, i3_gt0, i3_ge0, i6_eq0, i3_div, i6_div, i3_rem, i6_rem, i3_L, i3_nat, i3_inI, ax_up3, ax_up6, c26]
  exact ax_pv0 rfl
end DRT
