section SLW
variable {X : ax_X} {r z : Nat} {V T : Nat → Int → Int} {f f0 : ax_F}
theorem dtC_Dn (A : Nat → Nat → Int) {n : Nat} (h1 : 1 ≤ n) (h2 : n ≤ 5) : dtC A n n 0 = Dn A n := by
  rw [Dn_tr A h2]
  rcases (show n = 1 ∨ n = 2 ∨ n = 3 ∨ n = 4 ∨ n = 5 by omega) with rfl | rfl | rfl | rfl | rfl
  · exact dc1_0 A
  · exact dc2_0 A
  · exact dc3_0 A
  · exact dc4_0 A
  · exact dc5_0 A
theorem rwA_en {T' : Nat → Int → Int} {m : Nat} {rep col : Int} (hm : (m : Int) = V 0 14 - 1) (hE : ∀ (k : Nat) (j : Int), (k : Int) < V 0 14 - 1 → 0 ≤ j → j ≤ V 0 14 - 1 → T' (20 + k) j = rowZ V k j (V 0 19).toNat) (hc : ∀ c : Nat, (c : Int) = rep ↔ (c : Int) = col) {k c : Nat} (hk : k < m) (hcm : c < m) : rwA T' m rep k c = enZ V col k c := by
  unfold rwA enZ
  by_cases q : (c : Int) = rep
  · rw [if_pos q, if_pos ((hc c).mp q), hE k m (by omega) (by omega) (by omega)]
    unfold rowZ
    rw [if_pos hm]
  · rw [if_neg q, if_neg (fun e => q ((hc c).mpr e)), hE k c (by omega) (by omega) (by omega)]
    unfold rowZ
    rw [if_neg (by omega)]
theorem en_bd (hI : mInv V) (col : Int) (k c : Nat) : (enZ V col k c).natAbs ≤ 108000000 := by
  have i1 := hI.2.2.2.2.2.2.2.1
  have ft := mInv_ft hI
  unfold enZ
  split
  · have := rbS_bd (U := V 16) (k : Int) _ ft (fun j h1 h2 => by have := hI.2.2.2.2.2.2.2.2 j h1 (by omega); omega)
    omega
  · have := eS_bd (k : Int) (c : Int) _ ft
    omega
theorem m6_det (hR : RH X r T f) (hI : mInv V) (hE : ∀ (k : Nat) (j : Int), (k : Int) < V 0 14 - 1 → 0 ≤ j → j ≤ V 0 14 - 1 → T (20 + k) j = rowZ V k j (V 0 19).toNat) {rep col : Int} (hr : -6 ≤ rep) (hr' : rep ≤ 4) (hc : ∀ c : Nat, (c : Int) = rep ↔ (c : Int) = col) :
    ax_M X (mX6_determinant 6) 0 0 [.ref (r + 19), .int (i3 (V 0 14 - 1)), .int (i3 rep), .int (i3 0), .int (i3 0)] z f (ax_pv (.long (i6 (dZ V col))) z f) := by
  have i2 := hI.2.2.2.2.2.2.1
  have hm : (((V 0 14 - 1).toNat : Nat) : Int) = V 0 14 - 1 := by omega
  have e := m6_determinant (z := z) hR (n := (V 0 14 - 1).toNat) (rep := rep) (by omega) hr hr' (fun k c h1 h2 => by rw [rwA_en hm hE hc h1 h2]; exact en_bd hI col k c) (V 0 14 - 1).toNat 5 0 (Nat.le_refl _) (by omega) (by omega)
  rw [Int.sub_self, dtC_Dn _ (by omega) (by omega), Dn_congr (B := enZ V col) (by omega) (fun k c h1 h2 => rwA_en hm hE hc h1 h2), hm] at e
  exact e
abbrev slPost (X : ax_X) (r z : Nat) (V T : Nat → Int → Int) (f0 : ax_F) : Option Value → Nat → ax_F → Prop := fun v z' f' => v = some (.int (zb (jndZ V))) ∧ z' = z ∧ RF r f0 f' ∧ ∃ T' : Nat → Int → Int, RH X r T' f' ∧ Sim V T' ∧ T' 14 9 = 1
/-- all but the survey's own is as it was -/
theorem Sim.sv {T' : Nat → Int → Int} (h : Sim V T) (h2 : T' 2 1 = T 2 1) (h29 : ∀ j : Nat, 29 ≤ j → T' j = T j) (hb : smB V T') : Sim V T' := by
  obtain ⟨hg, hs, _⟩ := h
  refine ⟨fun i hi => ?_, ⟨h2.trans hs.1, fun k hk => ?_⟩, hb⟩
  · rw [h29 (30 + 2 * i) (by omega), h29 (29 + 2 * i) (by omega)]
    exact hg i hi
  · rw [h29 (67 + 5 * k) (by omega), h29 (68 + 5 * k) (by omega), h29 (69 + 5 * k) (by omega), h29 (70 + 5 * k) (by omega), h29 (71 + 5 * k) (by omega)]
    exact hs.2 k hk
theorem m6_sl_44 (hI : mInv V) (hS : Sim V T) :
    ∀ (n k : Nat) (T' : Nat → Int → Int) (f : ax_F), (k : Int) + n = V 0 14 - 1 → (∀ j : Nat, 29 ≤ j → T' j = T j) → T' 2 1 = T 2 1 → (∀ j : Nat, 15 ≤ j → j ≤ 18 → T' j = T j) → T' 14 0 = T 14 0 → T' 14 1 = T 14 1 → T' 14 8 = loZ V → (∀ (k : Nat) (j : Int), (k : Int) < V 0 14 - 1 → 0 ≤ j → j ≤ V 0 14 - 1 → T' (20 + k) j = rowZ V k j (V 0 19).toNat) → (∀ b : Int, 0 ≤ b → b < (k : Int) + 1 → T' 25 b = hiZ V b) → RH X r T' f → RF r f0 f → ax_G X mX6_solve 0 0 (slPost X r z V T f0) 44 [some (.ref (r + 14)), some (.int (i3 (V 0 14 - 1))), some (.int (i3 (k : Int)))] [] 0 0 z f := by
  have i2 := hI.2.2.2.2.2.2.1
  have l := loZ_bd hI
  intro n
  induction n with
  | zero =>
    intro k T' f hk h29 h2 h15 h0 h1 h8 hE hT hR hF
    have c14 : f (r + 14) = some (.inr (5, [.int (i3 (T' 14 0)), .int (i3 (T' 14 1)), .ref (r + 15), .ref (r + 16), .ref (r + 17), .ref (r + 18), .ref (r + 19), .ref (r + 25), .long (i6 (T' 14 8)), .int (i3 (T' 14 9))])) := hR 14 (Or.inl (by decide))
    refine sbX6_solve_44 X 0 0 _ _ _ _ _ _ _ ?_
    simp (disch := omega) only [List.set, bkX6_solve_44, ax_ic, ax_lc, ax_nul, ax_il, ax_ll, ax_al, ax_is, ax_ls, ax_as, ax_inc, ax_iadd, ax_isub, ax_imul, ax_iand, ax_ior, ax_idiv, ax_irem, ax_ishl, ax_ishr, ax_ladd, ax_lsub, ax_lmul, ax_ldiv, ax_lrem, ax_ineg, ax_lneg, ax_i2l, ax_l2i, ax_lcmp, ax_dup, ax_pop1, ax_dupx1, ax_dup2, ax_ifeq, ax_ifne, ax_iflt, ax_ifge, ax_ifgt, ax_ifle, ax_iceq, ax_icne, ax_iclt, ax_icge, ax_icgt, ax_icle, ax_ifnull, ax_ifnn, ax_sw, ax_iret, ax_zret, ax_lret, ax_vret, ax_aret, ax_gf, ax_pfi, ax_pfz, ax_pfl, ax_pfr, ax_iald, ax_zald, ax_lald, ax_aald, ax_iast, ax_zast, ax_last, ax_aast, ax_alen, ax_ialdR, ax_alenR, ax_gst, ax_new, ax_nwi, ax_nwl, ax_nwq, ax_obj, ax_call, ax_calv, ax_nth, ax_p1, ax_p2, ax_k2, ax_nh, Value.category, lg_cmp_ge, lg_cmp_lt, lg_cmp_gt, lg_cmp_le, lg_cmp_eq, List.getElem?_cons_zero, List.getElem?_cons_succ, true_and, and_true, if_true, if_false, reduceIte, Nat.reduceEqDiff, Nat.add_eq_zero_iff, reduceCtorEq, Nat.reduceAdd, not_true_eq_false, not_false_eq_true, ax_pf, ax_popn, fv_in, fv_size, fv_drop, fv_within, fv_part, fv_cut, fv_sq, fv_absI, fv_absJ, fv_maxI, fv_minI, fv_maxJ, fv_minJ, List.map_cons, List.map_nil, List.sum_cons, List.sum_nil, Nat.reduceLeDiff, Nat.zero_le, Nat.le_refl, zb_0, zb_1, zb_em, true_or, or_true, Int32.toInt_toInt64, Nat.add_zero, fv_isGlass, fv_mayBe, fv_isReading8, fv_isHour8, fv_isPoint, fv_isReading7, fv_isRoom, fv_isWarmth, fv_isHour7, fv_isOnMap, fv_holds, fv_held, tm_eq, i3_add, i3_sub, i3_mul, i3_neg, i6_add, i6_sub, i6_mul, i6_neg, i6_I, i3_toInt, i6_toInt, i3_lt, i3_le, i3_eq, i6_lt, i6_le, i6_eq, i3_eq0, i3_eq1, i3_lt0, i3_le0, i3_gt0, i3_ge0, i6_eq0, i3_div, i6_div, i3_rem, i6_rem, i3_L, i3_nat, i3_inI, ax_up3, ax_up6, up_ne, up_0, up_s, up_00, up_0n, c14]
    have fin : ∀ w : Int32, w = zb (jndZ V) → ax_Rt 0 0 (slPost X r z V T f0) (some (.int w)) 0 0 z (va_up f (r + 14) (some (rce X r (T' 2 1).toNat 14 (ax_u (T' 14) 9 1)))) := fun w hw => by
      refine ⟨Nat.le_refl _, Nat.le_refl _, congrArg some (congrArg Value.int hw), rfl, hF.up (by omega), mset T' 14 (ax_u (T' 14) 9 1), hR.set (k := 14) (Or.inl (by omega)) rfl, hS.sv h2 (fun j hj => ?_) ?_, rfl⟩
      · rw [mset_n (by omega)]; exact h29 j hj
      · obtain ⟨s0, s1, s2, _⟩ := hS.2.2
        refine ⟨?_, ?_, fun j a b => ?_, Or.inr ⟨rfl, h8, fun b a c => hT b a (by omega)⟩⟩
        · show T' 14 0 = _
          rw [h0]; exact s0
        · show T' 14 1 = _
          rw [h1]; exact s1
        · show T' 15 j = _ ∧ T' 16 j = _ ∧ T' 17 j = _ ∧ T' 18 j = _
          rw [h15 15 (by omega) (by omega), h15 16 (by omega) (by omega), h15 17 (by omega) (by omega), h15 18 (by omega) (by omega)]
          exact s2 j a b
    refine ⟨fun _ => ⟨Nat.le_of_ble_eq_true rfl, fun a => fin _ (zb_f (fun c => by have := l.2.2.mpr c; omega)), fun a => fin _ (zb_t (l.2.2.mp (by omega)))⟩, fun q => absurd (by omega) q⟩
  | succ n ih =>
    intro k T' f hk h29 h2 h15 h0 h1 h8 hE hT hR hF
    have c14 : f (r + 14) = some (.inr (5, [.int (i3 (T' 14 0)), .int (i3 (T' 14 1)), .ref (r + 15), .ref (r + 16), .ref (r + 17), .ref (r + 18), .ref (r + 19), .ref (r + 25), .long (i6 (T' 14 8)), .int (i3 (T' 14 9))])) := hR 14 (Or.inl (by decide))
    have c25 : f (r + 25) = some (.inl (X.2.2.1 1, 6, .inr (.inl (fun j : Nat => i6 (T' 25 (j : Int)))))) := hR 25 (Or.inl (by decide))
    refine sbX6_solve_44 X 0 0 _ _ _ _ _ _ _ ?_
    simp (disch := omega) only [bkX6_solve_44, ax_ic, ax_lc, ax_nul, ax_il, ax_ll, ax_al, ax_is, ax_ls, ax_as, ax_inc, ax_iadd, ax_isub, ax_imul, ax_iand, ax_ior, ax_idiv, ax_irem, ax_ishl, ax_ishr, ax_ladd, ax_lsub, ax_lmul, ax_ldiv, ax_lrem, ax_ineg, ax_lneg, ax_i2l, ax_l2i, ax_lcmp, ax_dup, ax_pop1, ax_dupx1, ax_dup2, ax_ifeq, ax_ifne, ax_iflt, ax_ifge, ax_ifgt, ax_ifle, ax_iceq, ax_icne, ax_iclt, ax_icge, ax_icgt, ax_icle, ax_ifnull, ax_ifnn, ax_sw, ax_iret, ax_zret, ax_lret, ax_vret, ax_aret, ax_gf, ax_pfi, ax_pfz, ax_pfl, ax_pfr, ax_iald, ax_zald, ax_lald, ax_aald, ax_iast, ax_zast, ax_last, ax_aast, ax_alen, ax_ialdR, ax_alenR, ax_gst, ax_new, ax_nwi, ax_nwl, ax_nwq, ax_obj, ax_call, ax_calv, ax_nth, ax_p1, ax_p2, ax_k2, ax_nh, Value.category, lg_cmp_ge, lg_cmp_lt, lg_cmp_gt, lg_cmp_le, lg_cmp_eq, List.getElem?_cons_zero, List.getElem?_cons_succ, true_and, and_true, if_true, if_false, reduceIte, Nat.reduceEqDiff, Nat.add_eq_zero_iff, reduceCtorEq, Nat.reduceAdd, not_true_eq_false, not_false_eq_true, ax_pf, ax_popn, fv_in, fv_size, fv_drop, fv_within, fv_part, fv_cut, fv_sq, fv_absI, fv_absJ, fv_maxI, fv_minI, fv_maxJ, fv_minJ, List.map_cons, List.map_nil, List.sum_cons, List.sum_nil, Nat.reduceLeDiff, Nat.zero_le, Nat.le_refl, zb_0, zb_1, zb_em, true_or, or_true, Int32.toInt_toInt64, Nat.add_zero, fv_isGlass, fv_mayBe, fv_isReading8, fv_isHour8, fv_isPoint, fv_isReading7, fv_isRoom, fv_isWarmth, fv_isHour7, fv_isOnMap, fv_holds, fv_held, tm_eq, i3_add, i3_sub, i3_mul, i3_neg, i6_add, i6_sub, i6_mul, i6_neg, i6_I, i3_toInt, i6_toInt, i3_lt, i3_le, i3_eq, i6_lt, i6_le, i6_eq, i3_eq0, i3_eq1, i3_lt0, i3_le0, i3_gt0, i3_ge0, i6_eq0, i3_div, i6_div, i3_rem, i6_rem, i3_L, i3_nat, i3_inI, ax_up3, ax_up6, c14]
    refine ⟨fun q => absurd q (by omega), fun _ => ?_⟩
    refine ax_fn (Nat.le_of_ble_eq_true rfl) (Nat.zero_le _) (Nat.zero_le _) (m6_det hR hI hE (rep := (k : Int)) (col := (k : Int)) (by omega) (by omega) (fun c => Iff.rfl)) ?_
    simp (disch := omega) only [ax_ic, ax_lc, ax_nul, ax_il, ax_ll, ax_al, ax_is, ax_ls, ax_as, ax_inc, ax_iadd, ax_isub, ax_imul, ax_iand, ax_ior, ax_idiv, ax_irem, ax_ishl, ax_ishr, ax_ladd, ax_lsub, ax_lmul, ax_ldiv, ax_lrem, ax_ineg, ax_lneg, ax_i2l, ax_l2i, ax_lcmp, ax_dup, ax_pop1, ax_dupx1, ax_dup2, ax_ifeq, ax_ifne, ax_iflt, ax_ifge, ax_ifgt, ax_ifle, ax_iceq, ax_icne, ax_iclt, ax_icge, ax_icgt, ax_icle, ax_ifnull, ax_ifnn, ax_sw, ax_iret, ax_zret, ax_lret, ax_vret, ax_aret, ax_gf, ax_pfi, ax_pfz, ax_pfl, ax_pfr, ax_iald, ax_zald, ax_lald, ax_aald, ax_iast, ax_zast, ax_last, ax_aast, ax_alen, ax_ialdR, ax_alenR, ax_gst, ax_new, ax_nwi, ax_nwl, ax_nwq, ax_obj, ax_call, ax_calv, ax_nth, ax_p1, ax_p2, ax_k2, ax_nh, Value.category, lg_cmp_ge, lg_cmp_lt, lg_cmp_gt, lg_cmp_le, lg_cmp_eq, List.getElem?_cons_zero, List.getElem?_cons_succ, true_and, and_true, if_true, if_false, reduceIte, Nat.reduceEqDiff, Nat.add_eq_zero_iff, reduceCtorEq, Nat.reduceAdd, not_true_eq_false, not_false_eq_true, ax_pf, ax_popn, fv_in, fv_size, fv_drop, fv_within, fv_part, fv_cut, fv_sq, fv_absI, fv_absJ, fv_maxI, fv_minI, fv_maxJ, fv_minJ, List.map_cons, List.map_nil, List.sum_cons, List.sum_nil, Nat.reduceLeDiff, Nat.zero_le, Nat.le_refl, zb_0, zb_1, zb_em, true_or, or_true, Int32.toInt_toInt64, Nat.add_zero, fv_isGlass, fv_mayBe, fv_isReading8, fv_isHour8, fv_isPoint, fv_isReading7, fv_isRoom, fv_isWarmth, fv_isHour7, fv_isOnMap, fv_holds, fv_held, tm_eq, i3_add, i3_sub, i3_mul, i3_neg, i6_add, i6_sub, i6_mul, i6_neg, i6_I, i3_toInt, i6_toInt, i3_lt, i3_le, i3_eq, i6_lt, i6_le, i6_eq, i3_eq0, i3_eq1, i3_lt0, i3_le0, i3_gt0, i3_ge0, i6_eq0, i3_div, i6_div, i3_rem, i6_rem, i3_L, i3_nat, i3_inI, ax_up3, ax_up6, c14, c25]
    refine ⟨by omega, ih (k + 1) (mset T' 25 (ax_u (T' 25) ((k : Int) + 1) (dZ V k))) _ (by omega) (fun j hj => ?_) h2 (fun j a b => ?_) h0 h1 h8 (fun k' j a b c => ?_) (fun b a c => ?_) (hR.set (k := 25) (Or.inl (by omega)) rfl) (hF.up (by omega))⟩
    · rw [mset_n (by omega)]; exact h29 j hj
    · rw [mset_n (by omega)]; exact h15 j a b
    · rw [mset_n (by omega)]; exact hE k' j a b c
    · rw [mset_s]
      unfold ax_u
      split
      · rename_i e
        rw [e]
        unfold hiZ
        rw [if_neg (by omega), show (k : Int) + 1 - 1 = k by omega]
      · exact hT b a (by omega)
theorem m6_solve (hR : RH X r T f) (hI : mInv V) (hS : Sim V T) : ax_M X mX6_solve 0 0 [.ref (r + 14)] z f (slPost X r z V T f) := by
  have i2 := hI.2.2.2.2.2.2.1
  have l := loZ_bd hI
  obtain ⟨s0, s1, s2, s3⟩ := hS.2.2
  have c14 : f (r + 14) = some (.inr (5, [.int (i3 (T 14 0)), .int (i3 (T 14 1)), .ref (r + 15), .ref (r + 16), .ref (r + 17), .ref (r + 18), .ref (r + 19), .ref (r + 25), .long (i6 (T 14 8)), .int (i3 (T 14 9))])) := hR 14 (Or.inl (by decide))
  have r9 : 0 ≤ T 14 9 ∧ T 14 9 ≤ 1 := by rcases s3 with e | e <;> omega
  refine ax_met2 [some (.ref (r + 14)), none, none] (by decide) (Nat.le_of_ble_eq_true rfl) rfl ?_
  refine sbX6_solve_0 X 0 0 _ _ _ _ _ _ _ ?_
  by_cases q9 : T 14 9 = 0
  · rw [s0] at c14
    simp (disch := omega) only [bkX6_solve_0, ax_ic, ax_lc, ax_nul, ax_il, ax_ll, ax_al, ax_is, ax_ls, ax_as, ax_inc, ax_iadd, ax_isub, ax_imul, ax_iand, ax_ior, ax_idiv, ax_irem, ax_ishl, ax_ishr, ax_ladd, ax_lsub, ax_lmul, ax_ldiv, ax_lrem, ax_ineg, ax_lneg, ax_i2l, ax_l2i, ax_lcmp, ax_dup, ax_pop1, ax_dupx1, ax_dup2, ax_ifeq, ax_ifne, ax_iflt, ax_ifge, ax_ifgt, ax_ifle, ax_iceq, ax_icne, ax_iclt, ax_icge, ax_icgt, ax_icle, ax_ifnull, ax_ifnn, ax_sw, ax_iret, ax_zret, ax_lret, ax_vret, ax_aret, ax_gf, ax_pfi, ax_pfz, ax_pfl, ax_pfr, ax_iald, ax_zald, ax_lald, ax_aald, ax_iast, ax_zast, ax_last, ax_aast, ax_alen, ax_ialdR, ax_alenR, ax_gst, ax_new, ax_nwi, ax_nwl, ax_nwq, ax_obj, ax_call, ax_calv, ax_nth, ax_p1, ax_p2, ax_k2, ax_nh, Value.category, lg_cmp_ge, lg_cmp_lt, lg_cmp_gt, lg_cmp_le, lg_cmp_eq, List.getElem?_cons_zero, List.getElem?_cons_succ, true_and, and_true, if_true, if_false, reduceIte, Nat.reduceEqDiff, Nat.add_eq_zero_iff, reduceCtorEq, Nat.reduceAdd, not_true_eq_false, not_false_eq_true, ax_pf, ax_popn, fv_in, fv_size, fv_drop, fv_within, fv_part, fv_cut, fv_sq, fv_absI, fv_absJ, fv_maxI, fv_minI, fv_maxJ, fv_minJ, List.map_cons, List.map_nil, List.sum_cons, List.sum_nil, Nat.reduceLeDiff, Nat.zero_le, Nat.le_refl, zb_0, zb_1, zb_em, true_or, or_true, Int32.toInt_toInt64, Nat.add_zero, fv_isGlass, fv_mayBe, fv_isReading8, fv_isHour8, fv_isPoint, fv_isReading7, fv_isRoom, fv_isWarmth, fv_isHour7, fv_isOnMap, fv_holds, fv_held, tm_eq, i3_add, i3_sub, i3_mul, i3_neg, i6_add, i6_sub, i6_mul, i6_neg, i6_I, i3_toInt, i6_toInt, i3_lt, i3_le, i3_eq, i6_lt, i6_le, i6_eq, i3_eq0, i3_eq1, i3_lt0, i3_le0, i3_gt0, i3_ge0, i6_eq0, i3_div, i6_div, i3_rem, i6_rem, i3_L, i3_nat, i3_inI, ax_up3, ax_up6, c14]
    refine ⟨fun q => absurd q9 q, fun _ => ⟨⟨_, c14⟩, Nat.le_of_ble_eq_true rfl, 0, 0, _, m6_fillRows hR hI hS, Nat.zero_le _, Nat.zero_le _, fun v z' f1 hq => ?_⟩⟩
    obtain ⟨rfl, rfl, hF1, T1, hR1, hO, hE⟩ := hq
    have d14 : f1 (r + 14) = some (.inr (5, [.int (i3 (T1 14 0)), .int (i3 (T1 14 1)), .ref (r + 15), .ref (r + 16), .ref (r + 17), .ref (r + 18), .ref (r + 19), .ref (r + 25), .long (i6 (T1 14 8)), .int (i3 (T1 14 9))])) := hR1 14 (Or.inl (by decide))
    have d25 : f1 (r + 25) = some (.inl (X.2.2.1 1, 6, .inr (.inl (fun j : Nat => i6 (T1 25 (j : Int)))))) := hR1 25 (Or.inl (by decide))
    simp (disch := omega) only [ax_ic, ax_lc, ax_nul, ax_il, ax_ll, ax_al, ax_is, ax_ls, ax_as, ax_inc, ax_iadd, ax_isub, ax_imul, ax_iand, ax_ior, ax_idiv, ax_irem, ax_ishl, ax_ishr, ax_ladd, ax_lsub, ax_lmul, ax_ldiv, ax_lrem, ax_ineg, ax_lneg, ax_i2l, ax_l2i, ax_lcmp, ax_dup, ax_pop1, ax_dupx1, ax_dup2, ax_ifeq, ax_ifne, ax_iflt, ax_ifge, ax_ifgt, ax_ifle, ax_iceq, ax_icne, ax_iclt, ax_icge, ax_icgt, ax_icle, ax_ifnull, ax_ifnn, ax_sw, ax_iret, ax_zret, ax_lret, ax_vret, ax_aret, ax_gf, ax_pfi, ax_pfz, ax_pfl, ax_pfr, ax_iald, ax_zald, ax_lald, ax_aald, ax_iast, ax_zast, ax_last, ax_aast, ax_alen, ax_ialdR, ax_alenR, ax_gst, ax_new, ax_nwi, ax_nwl, ax_nwq, ax_obj, ax_call, ax_calv, ax_nth, ax_p1, ax_p2, ax_k2, ax_nh, Value.category, lg_cmp_ge, lg_cmp_lt, lg_cmp_gt, lg_cmp_le, lg_cmp_eq, List.getElem?_cons_zero, List.getElem?_cons_succ, true_and, and_true, if_true, if_false, reduceIte, Nat.reduceEqDiff, Nat.add_eq_zero_iff, reduceCtorEq, Nat.reduceAdd, not_true_eq_false, not_false_eq_true, ax_pf, ax_popn, fv_in, fv_size, fv_drop, fv_within, fv_part, fv_cut, fv_sq, fv_absI, fv_absJ, fv_maxI, fv_minI, fv_maxJ, fv_minJ, List.map_cons, List.map_nil, List.sum_cons, List.sum_nil, Nat.reduceLeDiff, Nat.zero_le, Nat.le_refl, zb_0, zb_1, zb_em, true_or, or_true, Int32.toInt_toInt64, Nat.add_zero, fv_isGlass, fv_mayBe, fv_isReading8, fv_isHour8, fv_isPoint, fv_isReading7, fv_isRoom, fv_isWarmth, fv_isHour7, fv_isOnMap, fv_holds, fv_held, tm_eq, i3_add, i3_sub, i3_mul, i3_neg, i6_add, i6_sub, i6_mul, i6_neg, i6_I, i3_toInt, i6_toInt, i3_lt, i3_le, i3_eq, i6_lt, i6_le, i6_eq, i3_eq0, i3_eq1, i3_lt0, i3_le0, i3_gt0, i3_ge0, i6_eq0, i3_div, i6_div, i3_rem, i6_rem, i3_L, i3_nat, i3_inI, ax_up3, ax_up6, Option.toList, List.nil_append, d14]
    refine ax_fn (Nat.le_of_ble_eq_true rfl) (Nat.zero_le _) (Nat.zero_le _) (m6_det hR1 hI hE (rep := -6) (col := -1) (by omega) (by omega) (fun c => by omega)) ?_
    simp (disch := omega) only [List.set, ax_ic, ax_lc, ax_nul, ax_il, ax_ll, ax_al, ax_is, ax_ls, ax_as, ax_inc, ax_iadd, ax_isub, ax_imul, ax_iand, ax_ior, ax_idiv, ax_irem, ax_ishl, ax_ishr, ax_ladd, ax_lsub, ax_lmul, ax_ldiv, ax_lrem, ax_ineg, ax_lneg, ax_i2l, ax_l2i, ax_lcmp, ax_dup, ax_pop1, ax_dupx1, ax_dup2, ax_ifeq, ax_ifne, ax_iflt, ax_ifge, ax_ifgt, ax_ifle, ax_iceq, ax_icne, ax_iclt, ax_icge, ax_icgt, ax_icle, ax_ifnull, ax_ifnn, ax_sw, ax_iret, ax_zret, ax_lret, ax_vret, ax_aret, ax_gf, ax_pfi, ax_pfz, ax_pfl, ax_pfr, ax_iald, ax_zald, ax_lald, ax_aald, ax_iast, ax_zast, ax_last, ax_aast, ax_alen, ax_ialdR, ax_alenR, ax_gst, ax_new, ax_nwi, ax_nwl, ax_nwq, ax_obj, ax_call, ax_calv, ax_nth, ax_p1, ax_p2, ax_k2, ax_nh, Value.category, lg_cmp_ge, lg_cmp_lt, lg_cmp_gt, lg_cmp_le, lg_cmp_eq, List.getElem?_cons_zero, List.getElem?_cons_succ, true_and, and_true, if_true, if_false, reduceIte, Nat.reduceEqDiff, Nat.add_eq_zero_iff, reduceCtorEq, Nat.reduceAdd, not_true_eq_false, not_false_eq_true, ax_pf, ax_popn, fv_in, fv_size, fv_drop, fv_within, fv_part, fv_cut, fv_sq, fv_absI, fv_absJ, fv_maxI, fv_minI, fv_maxJ, fv_minJ, List.map_cons, List.map_nil, List.sum_cons, List.sum_nil, Nat.reduceLeDiff, Nat.zero_le, Nat.le_refl, zb_0, zb_1, zb_em, true_or, or_true, Int32.toInt_toInt64, Nat.add_zero, fv_isGlass, fv_mayBe, fv_isReading8, fv_isHour8, fv_isPoint, fv_isReading7, fv_isRoom, fv_isWarmth, fv_isHour7, fv_isOnMap, fv_holds, fv_held, tm_eq, i3_add, i3_sub, i3_mul, i3_neg, i6_add, i6_sub, i6_mul, i6_neg, i6_I, i3_toInt, i6_toInt, i3_lt, i3_le, i3_eq, i6_lt, i6_le, i6_eq, i3_eq0, i3_eq1, i3_lt0, i3_le0, i3_gt0, i3_ge0, i6_eq0, i3_div, i6_div, i3_rem, i6_rem, i3_L, i3_nat, i3_inI, ax_up3, ax_up6, up_ne, up_0, up_s, up_00, up_0n, d14, d25]
    refine ⟨Nat.le_of_ble_eq_true rfl, by omega, ?_⟩
    refine m6_sl_44 hI hS (V 0 14 - 1).toNat 0 (mset (mset T1 14 (ax_u (T1 14) 8 (dZ V (-1)))) 25 (ax_u (T1 25) 0 0)) _ (by omega) (fun j hj => ?_) ?_ (fun j a b => ?_) ?_ ?_ rfl (fun k j a b c => ?_) (fun b a c => ?_) ((hR1.set (k := 14) (g := ax_u (T1 14) 8 (dZ V (-1))) (Or.inl (by omega)) rfl).set (k := 25) (Or.inl (by omega)) rfl) ((hF1.up (by omega)).up (by omega))
    · rw [mset_n (by omega), mset_n (by omega)]; exact hO j (by omega)
    · show T1 2 1 = _
      rw [hO 2 (by omega)]
    · rw [mset_n (by omega), mset_n (by omega)]; exact hO j (by omega)
    · show T1 14 0 = _
      rw [hO 14 (by omega)]
    · show T1 14 1 = _
      rw [hO 14 (by omega)]
    · rw [mset_n (by omega), mset_n (by omega)]; exact hE k j a b c
    · rw [mset_s]
      unfold ax_u hiZ
      rw [if_pos (by omega), if_pos (by omega)]
  · have q91 : T 14 9 = 1 := by omega
    have e := s3.resolve_left q9
    have h8 := e.2.1
    simp (disch := omega) only [bkX6_solve_0, ax_ic, ax_lc, ax_nul, ax_il, ax_ll, ax_al, ax_is, ax_ls, ax_as, ax_inc, ax_iadd, ax_isub, ax_imul, ax_iand, ax_ior, ax_idiv, ax_irem, ax_ishl, ax_ishr, ax_ladd, ax_lsub, ax_lmul, ax_ldiv, ax_lrem, ax_ineg, ax_lneg, ax_i2l, ax_l2i, ax_lcmp, ax_dup, ax_pop1, ax_dupx1, ax_dup2, ax_ifeq, ax_ifne, ax_iflt, ax_ifge, ax_ifgt, ax_ifle, ax_iceq, ax_icne, ax_iclt, ax_icge, ax_icgt, ax_icle, ax_ifnull, ax_ifnn, ax_sw, ax_iret, ax_zret, ax_lret, ax_vret, ax_aret, ax_gf, ax_pfi, ax_pfz, ax_pfl, ax_pfr, ax_iald, ax_zald, ax_lald, ax_aald, ax_iast, ax_zast, ax_last, ax_aast, ax_alen, ax_ialdR, ax_alenR, ax_gst, ax_new, ax_nwi, ax_nwl, ax_nwq, ax_obj, ax_call, ax_calv, ax_nth, ax_p1, ax_p2, ax_k2, ax_nh, Value.category, lg_cmp_ge, lg_cmp_lt, lg_cmp_gt, lg_cmp_le, lg_cmp_eq, List.getElem?_cons_zero, List.getElem?_cons_succ, true_and, and_true, if_true, if_false, reduceIte, Nat.reduceEqDiff, Nat.add_eq_zero_iff, reduceCtorEq, Nat.reduceAdd, not_true_eq_false, not_false_eq_true, ax_pf, ax_popn, fv_in, fv_size, fv_drop, fv_within, fv_part, fv_cut, fv_sq, fv_absI, fv_absJ, fv_maxI, fv_minI, fv_maxJ, fv_minJ, List.map_cons, List.map_nil, List.sum_cons, List.sum_nil, Nat.reduceLeDiff, Nat.zero_le, Nat.le_refl, zb_0, zb_1, zb_em, true_or, or_true, Int32.toInt_toInt64, Nat.add_zero, fv_isGlass, fv_mayBe, fv_isReading8, fv_isHour8, fv_isPoint, fv_isReading7, fv_isRoom, fv_isWarmth, fv_isHour7, fv_isOnMap, fv_holds, fv_held, tm_eq, i3_add, i3_sub, i3_mul, i3_neg, i6_add, i6_sub, i6_mul, i6_neg, i6_I, i3_toInt, i6_toInt, i3_lt, i3_le, i3_eq, i6_lt, i6_le, i6_eq, i3_eq0, i3_eq1, i3_lt0, i3_le0, i3_gt0, i3_ge0, i6_eq0, i3_div, i6_div, i3_rem, i6_rem, i3_L, i3_nat, i3_inI, ax_up3, ax_up6, c14]
    refine ⟨fun _ => ⟨fun a => ⟨Nat.le_refl _, Nat.le_refl _, congrArg some (congrArg Value.int (zb_f (fun c => by have := l.2.2.mpr c; omega))), rfl, RF.rfl, T, hR, hS, q91⟩, fun a => ⟨Nat.le_refl _, Nat.le_refl _, congrArg some (congrArg Value.int (zb_t (l.2.2.mp (by omega)))), rfl, RF.rfl, T, hR, hS, q91⟩⟩, fun q => absurd q q9⟩
theorem m6_heightTop (hR : RH X r T f) (hI : mInv V) (hS : Sim V T) (h9 : T 14 9 = 1) {b : Int} (hb : 0 ≤ b) (hb' : b < V 0 14) : ax_M X mX6_heightTop 0 0 [.ref (r + 14), .int (i3 b)] z f (ax_pv (.long (i6 (hiZ V b))) z f) := by
  have i2 := hI.2.2.2.2.2.2.1
  have e := (hS.2.2.2.2.2.resolve_left (by omega)).2.2 b hb hb'
  have c14 : f (r + 14) = some (.inr (5, [.int (i3 (T 14 0)), .int (i3 (T 14 1)), .ref (r + 15), .ref (r + 16), .ref (r + 17), .ref (r + 18), .ref (r + 19), .ref (r + 25), .long (i6 (T 14 8)), .int (i3 (T 14 9))])) := hR 14 (Or.inl (by decide))
  have c25 : f (r + 25) = some (.inl (X.2.2.1 1, 6, .inr (.inl (fun j : Nat => i6 (T 25 (j : Int)))))) := hR 25 (Or.inl (by decide))
  refine ax_met2 [some (.ref (r + 14)), some (.int (i3 b))] (by decide) (Nat.le_of_ble_eq_true rfl) rfl ?_
  refine sbX6_heightTop_0 X 0 0 _ _ _ _ _ _ _ ?_
  simp (disch := omega) only [bkX6_heightTop_0, ax_ic, ax_lc, ax_nul, ax_il, ax_ll, ax_al, ax_is, ax_ls, ax_as, ax_inc, ax_iadd, ax_isub, ax_imul, ax_iand, ax_ior, ax_idiv, ax_irem, ax_ishl, ax_ishr, ax_ladd, ax_lsub, ax_lmul, ax_ldiv, ax_lrem, ax_ineg, ax_lneg, ax_i2l, ax_l2i, ax_lcmp, ax_dup, ax_pop1, ax_dupx1, ax_dup2, ax_ifeq, ax_ifne, ax_iflt, ax_ifge, ax_ifgt, ax_ifle, ax_iceq, ax_icne, ax_iclt, ax_icge, ax_icgt, ax_icle, ax_ifnull, ax_ifnn, ax_sw, ax_iret, ax_zret, ax_lret, ax_vret, ax_aret, ax_gf, ax_pfi, ax_pfz, ax_pfl, ax_pfr, ax_iald, ax_zald, ax_lald, ax_aald, ax_iast, ax_zast, ax_last, ax_aast, ax_alen, ax_ialdR, ax_alenR, ax_gst, ax_new, ax_nwi, ax_nwl, ax_nwq, ax_obj, ax_call, ax_calv, ax_nth, ax_p1, ax_p2, ax_k2, ax_nh, Value.category, lg_cmp_ge, lg_cmp_lt, lg_cmp_gt, lg_cmp_le, lg_cmp_eq, List.getElem?_cons_zero, List.getElem?_cons_succ, true_and, and_true, if_true, if_false, reduceIte, Nat.reduceEqDiff, Nat.add_eq_zero_iff, reduceCtorEq, Nat.reduceAdd, not_true_eq_false, not_false_eq_true, ax_pf, ax_popn, fv_in, fv_size, fv_drop, fv_within, fv_part, fv_cut, fv_sq, fv_absI, fv_absJ, fv_maxI, fv_minI, fv_maxJ, fv_minJ, List.map_cons, List.map_nil, List.sum_cons, List.sum_nil, Nat.reduceLeDiff, Nat.zero_le, Nat.le_refl, zb_0, zb_1, zb_em, true_or, or_true, Int32.toInt_toInt64, Nat.add_zero, fv_isGlass, fv_mayBe, fv_isReading8, fv_isHour8, fv_isPoint, fv_isReading7, fv_isRoom, fv_isWarmth, fv_isHour7, fv_isOnMap, fv_holds, fv_held, tm_eq, i3_add, i3_sub, i3_mul, i3_neg, i6_add, i6_sub, i6_mul, i6_neg, i6_I, i3_toInt, i6_toInt, i3_lt, i3_le, i3_eq, i6_lt, i6_le, i6_eq, i3_eq0, i3_eq1, i3_lt0, i3_le0, i3_gt0, i3_ge0, i6_eq0, i3_div, i6_div, i3_rem, i6_rem, i3_L, i3_nat, i3_inI, ax_up3, ax_up6, c14, c25, e]
  exact ⟨by omega, ax_pv0 rfl⟩
theorem m6_bottom (hR : RH X r T f) (hS : Sim V T) (h9 : T 14 9 = 1) : ax_M X mX6_bottom 0 0 [.ref (r + 14)] z f (ax_pv (.long (i6 (loZ V))) z f) := by
  have e := (hS.2.2.2.2.2.resolve_left (by omega)).2.1
  have c14 : f (r + 14) = some (.inr (5, [.int (i3 (T 14 0)), .int (i3 (T 14 1)), .ref (r + 15), .ref (r + 16), .ref (r + 17), .ref (r + 18), .ref (r + 19), .ref (r + 25), .long (i6 (T 14 8)), .int (i3 (T 14 9))])) := hR 14 (Or.inl (by decide))
  rw [e] at c14
  refine ax_met2 [some (.ref (r + 14))] (by decide) (Nat.le_of_ble_eq_true rfl) rfl ?_
  refine sbX6_bottom_0 X 0 0 _ _ _ _ _ _ _ ?_
  simp (disch := omega) only [bkX6_bottom_0, ax_ic, ax_lc, ax_nul, ax_il, ax_ll, ax_al, ax_is, ax_ls, ax_as, ax_inc, ax_iadd, ax_isub, ax_imul, ax_iand, ax_ior, ax_idiv, ax_irem, ax_ishl, ax_ishr, ax_ladd, ax_lsub, ax_lmul, ax_ldiv, ax_lrem, ax_ineg, ax_lneg, ax_i2l, ax_l2i, ax_lcmp, ax_dup, ax_pop1, ax_dupx1, ax_dup2, ax_ifeq, ax_ifne, ax_iflt, ax_ifge, ax_ifgt, ax_ifle, ax_iceq, ax_icne, ax_iclt, ax_icge, ax_icgt, ax_icle, ax_ifnull, ax_ifnn, ax_sw, ax_iret, ax_zret, ax_lret, ax_vret, ax_aret, ax_gf, ax_pfi, ax_pfz, ax_pfl, ax_pfr, ax_iald, ax_zald, ax_lald, ax_aald, ax_iast, ax_zast, ax_last, ax_aast, ax_alen, ax_ialdR, ax_alenR, ax_gst, ax_new, ax_nwi, ax_nwl, ax_nwq, ax_obj, ax_call, ax_calv, ax_nth, ax_p1, ax_p2, ax_k2, ax_nh, Value.category, lg_cmp_ge, lg_cmp_lt, lg_cmp_gt, lg_cmp_le, lg_cmp_eq, List.getElem?_cons_zero, List.getElem?_cons_succ, true_and, and_true, if_true, if_false, reduceIte, Nat.reduceEqDiff, Nat.add_eq_zero_iff, reduceCtorEq, Nat.reduceAdd, not_true_eq_false, not_false_eq_true, ax_pf, ax_popn, fv_in, fv_size, fv_drop, fv_within, fv_part, fv_cut, fv_sq, fv_absI, fv_absJ, fv_maxI, fv_minI, fv_maxJ, fv_minJ, List.map_cons, List.map_nil, List.sum_cons, List.sum_nil, Nat.reduceLeDiff, Nat.zero_le, Nat.le_refl, zb_0, zb_1, zb_em, true_or, or_true, Int32.toInt_toInt64, Nat.add_zero, fv_isGlass, fv_mayBe, fv_isReading8, fv_isHour8, fv_isPoint, fv_isReading7, fv_isRoom, fv_isWarmth, fv_isHour7, fv_isOnMap, fv_holds, fv_held, tm_eq, i3_add, i3_sub, i3_mul, i3_neg, i6_add, i6_sub, i6_mul, i6_neg, i6_I, i3_toInt, i6_toInt, i3_lt, i3_le, i3_eq, i6_lt, i6_le, i6_eq, i3_eq0, i3_eq1, i3_lt0, i3_le0, i3_gt0, i3_ge0, i6_eq0, i3_div, i6_div, i3_rem, i6_rem, i3_L, i3_nat, i3_inI, ax_up3, ax_up6, c14]
  exact ax_pv0 rfl
theorem m6_misfitTop (hR : RH X r T f) (hI : mInv V) (hS : Sim V T) (h9 : T 14 9 = 1) {i : Int} (hi : 0 ≤ i) (hi' : i < V 0 19) : ax_M X mX6_misfitTop 0 0 [.ref (r + 14), .int (i3 i)] z f (ax_pv (.long (i6 (ofZ V i))) z f) := by
  have i1 := hI.2.2.2.2.2.2.2.1
  have i2 := hI.2.2.2.2.2.2.1
  have k := hI.2.2.2.2.2.2.2.2 i hi hi'
  have sj := hS.2.2.2.2.1 i hi (by omega)
  have e := hS.2.2.2.2.2.resolve_left (by omega)
  have e1 := e.2.2 (V 15 i) (by omega) (by omega)
  have e2 := e.2.2 (V 14 i) (by omega) (by omega)
  have c14 : f (r + 14) = some (.inr (5, [.int (i3 (T 14 0)), .int (i3 (T 14 1)), .ref (r + 15), .ref (r + 16), .ref (r + 17), .ref (r + 18), .ref (r + 19), .ref (r + 25), .long (i6 (T 14 8)), .int (i3 (T 14 9))])) := hR 14 (Or.inl (by decide))
  have c15 : f (r + 15) = some (.inl (X.2.2.1 0, 12, .inl (fun j : Nat => i3 (T 15 (j : Int))))) := hR 15 (Or.inl (by decide))
  have c16 : f (r + 16) = some (.inl (X.2.2.1 0, 12, .inl (fun j : Nat => i3 (T 16 (j : Int))))) := hR 16 (Or.inl (by decide))
  have c17 : f (r + 17) = some (.inl (X.2.2.1 0, 12, .inl (fun j : Nat => i3 (T 17 (j : Int))))) := hR 17 (Or.inl (by decide))
  have c25 : f (r + 25) = some (.inl (X.2.2.1 1, 6, .inr (.inl (fun j : Nat => i6 (T 25 (j : Int)))))) := hR 25 (Or.inl (by decide))
  rw [e.2.1] at c14
  refine ax_met2 [some (.ref (r + 14)), some (.int (i3 i))] (by decide) (Nat.le_of_ble_eq_true rfl) rfl ?_
  refine sbX6_misfitTop_0 X 0 0 _ _ _ _ _ _ _ ?_
  simp (disch := omega) only [bkX6_misfitTop_0, ax_ic, ax_lc, ax_nul, ax_il, ax_ll, ax_al, ax_is, ax_ls, ax_as, ax_inc, ax_iadd, ax_isub, ax_imul, ax_iand, ax_ior, ax_idiv, ax_irem, ax_ishl, ax_ishr, ax_ladd, ax_lsub, ax_lmul, ax_ldiv, ax_lrem, ax_ineg, ax_lneg, ax_i2l, ax_l2i, ax_lcmp, ax_dup, ax_pop1, ax_dupx1, ax_dup2, ax_ifeq, ax_ifne, ax_iflt, ax_ifge, ax_ifgt, ax_ifle, ax_iceq, ax_icne, ax_iclt, ax_icge, ax_icgt, ax_icle, ax_ifnull, ax_ifnn, ax_sw, ax_iret, ax_zret, ax_lret, ax_vret, ax_aret, ax_gf, ax_pfi, ax_pfz, ax_pfl, ax_pfr, ax_iald, ax_zald, ax_lald, ax_aald, ax_iast, ax_zast, ax_last, ax_aast, ax_alen, ax_ialdR, ax_alenR, ax_gst, ax_new, ax_nwi, ax_nwl, ax_nwq, ax_obj, ax_call, ax_calv, ax_nth, ax_p1, ax_p2, ax_k2, ax_nh, Value.category, lg_cmp_ge, lg_cmp_lt, lg_cmp_gt, lg_cmp_le, lg_cmp_eq, List.getElem?_cons_zero, List.getElem?_cons_succ, true_and, and_true, if_true, if_false, reduceIte, Nat.reduceEqDiff, Nat.add_eq_zero_iff, reduceCtorEq, Nat.reduceAdd, not_true_eq_false, not_false_eq_true, ax_pf, ax_popn, fv_in, fv_size, fv_drop, fv_within, fv_part, fv_cut, fv_sq, fv_absI, fv_absJ, fv_maxI, fv_minI, fv_maxJ, fv_minJ, List.map_cons, List.map_nil, List.sum_cons, List.sum_nil, Nat.reduceLeDiff, Nat.zero_le, Nat.le_refl, zb_0, zb_1, zb_em, true_or, or_true, Int32.toInt_toInt64, Nat.add_zero, fv_isGlass, fv_mayBe, fv_isReading8, fv_isHour8, fv_isPoint, fv_isReading7, fv_isRoom, fv_isWarmth, fv_isHour7, fv_isOnMap, fv_holds, fv_held, tm_eq, i3_add, i3_sub, i3_mul, i3_neg, i6_add, i6_sub, i6_mul, i6_neg, i6_I, i3_toInt, i6_toInt, i3_lt, i3_le, i3_eq, i6_lt, i6_le, i6_eq, i3_eq0, i3_eq1, i3_lt0, i3_le0, i3_gt0, i3_ge0, i6_eq0, i3_div, i6_div, i3_rem, i6_rem, i3_L, i3_nat, i3_inI, ax_up3, ax_up6, c14, c15, c16, c17, c25, sj.1, sj.2.1, sj.2.2.1, e1, e2]
  exact ⟨by omega, by omega, by omega, by omega, by omega, ax_pv0 rfl⟩
theorem m6_gm_4 (hR : RH X r T f) (hI : mInv V) (hS : Sim V T) (h9 : T 14 9 = 1) :
    ∀ (n k : Nat), (k : Int) + 1 + n = V 0 19 → ax_G X mX6_greatestMisfit 0 0 (ax_pv (.int (i3 (wsZ V (V 0 19 - 1).toNat))) z f) 4 [some (.ref (r + 14)), some (.int (i3 (wsZ V k))), some (.int (i3 ((k : Int) + 1)))] [] 0 0 z f := by
  have i1 := hI.2.2.2.2.2.2.2.1
  have c14 : f (r + 14) = some (.inr (5, [.int (i3 (T 14 0)), .int (i3 (T 14 1)), .ref (r + 15), .ref (r + 16), .ref (r + 17), .ref (r + 18), .ref (r + 19), .ref (r + 25), .long (i6 (T 14 8)), .int (i3 (T 14 9))])) := hR 14 (Or.inl (by decide))
  rw [hS.2.2.2.1] at c14
  have na : ∀ q : Int, -9223372036854775807 < q → q < 9223372036854775807 → (if (0 : Int64) < i6 q then i6 q else i6 (-q)) = i6 (q.natAbs : Int) := fun u hu hu' => by
    rw [show (0 : Int64) = i6 0 from rfl]
    by_cases q : 0 < u
    · rw [if_pos ((i6_lt (by omega) (by omega) (by omega) (by omega)).mpr q)]
      congr 1
      omega
    · rw [if_neg (fun r => q ((i6_lt (by omega) (by omega) (by omega) (by omega)).mp r))]
      congr 1
      omega
  intro n
  induction n with
  | zero =>
    intro k hk
    refine sbX6_greatestMisfit_4 X 0 0 _ _ _ _ _ _ _ ?_
    simp (disch := omega) only [bkX6_greatestMisfit_4, ax_ic, ax_lc, ax_nul, ax_il, ax_ll, ax_al, ax_is, ax_ls, ax_as, ax_inc, ax_iadd, ax_isub, ax_imul, ax_iand, ax_ior, ax_idiv, ax_irem, ax_ishl, ax_ishr, ax_ladd, ax_lsub, ax_lmul, ax_ldiv, ax_lrem, ax_ineg, ax_lneg, ax_i2l, ax_l2i, ax_lcmp, ax_dup, ax_pop1, ax_dupx1, ax_dup2, ax_ifeq, ax_ifne, ax_iflt, ax_ifge, ax_ifgt, ax_ifle, ax_iceq, ax_icne, ax_iclt, ax_icge, ax_icgt, ax_icle, ax_ifnull, ax_ifnn, ax_sw, ax_iret, ax_zret, ax_lret, ax_vret, ax_aret, ax_gf, ax_pfi, ax_pfz, ax_pfl, ax_pfr, ax_iald, ax_zald, ax_lald, ax_aald, ax_iast, ax_zast, ax_last, ax_aast, ax_alen, ax_ialdR, ax_alenR, ax_gst, ax_new, ax_nwi, ax_nwl, ax_nwq, ax_obj, ax_call, ax_calv, ax_nth, ax_p1, ax_p2, ax_k2, ax_nh, Value.category, lg_cmp_ge, lg_cmp_lt, lg_cmp_gt, lg_cmp_le, lg_cmp_eq, List.getElem?_cons_zero, List.getElem?_cons_succ, true_and, and_true, if_true, if_false, reduceIte, Nat.reduceEqDiff, Nat.add_eq_zero_iff, reduceCtorEq, Nat.reduceAdd, not_true_eq_false, not_false_eq_true, ax_pf, ax_popn, fv_in, fv_size, fv_drop, fv_within, fv_part, fv_cut, fv_sq, fv_absI, fv_absJ, fv_maxI, fv_minI, fv_maxJ, fv_minJ, List.map_cons, List.map_nil, List.sum_cons, List.sum_nil, Nat.reduceLeDiff, Nat.zero_le, Nat.le_refl, zb_0, zb_1, zb_em, true_or, or_true, Int32.toInt_toInt64, Nat.add_zero, fv_isGlass, fv_mayBe, fv_isReading8, fv_isHour8, fv_isPoint, fv_isReading7, fv_isRoom, fv_isWarmth, fv_isHour7, fv_isOnMap, fv_holds, fv_held, tm_eq, i3_add, i3_sub, i3_mul, i3_neg, i6_add, i6_sub, i6_mul, i6_neg, i6_I, i3_toInt, i6_toInt, i3_lt, i3_le, i3_eq, i6_lt, i6_le, i6_eq, i3_eq0, i3_eq1, i3_lt0, i3_le0, i3_gt0, i3_ge0, i6_eq0, i3_div, i6_div, i3_rem, i6_rem, i3_L, i3_nat, i3_inI, ax_up3, ax_up6, c14]
    refine ⟨fun _ => ax_pv0 (by rw [show (V 0 19 - 1).toNat = k by omega]), fun q => absurd (by omega) q⟩
  | succ n ih =>
    intro k hk
    have w := wsZ_rng V k
    have q1 := ofZ_bd hI (i := (k : Int) + 1) (by omega) (by omega)
    have q2 := ofZ_bd hI (i := wsZ V k) (by omega) (by omega)
    refine sbX6_greatestMisfit_4 X 0 0 _ _ _ _ _ _ _ ?_
    simp (disch := omega) only [bkX6_greatestMisfit_4, ax_ic, ax_lc, ax_nul, ax_il, ax_ll, ax_al, ax_is, ax_ls, ax_as, ax_inc, ax_iadd, ax_isub, ax_imul, ax_iand, ax_ior, ax_idiv, ax_irem, ax_ishl, ax_ishr, ax_ladd, ax_lsub, ax_lmul, ax_ldiv, ax_lrem, ax_ineg, ax_lneg, ax_i2l, ax_l2i, ax_lcmp, ax_dup, ax_pop1, ax_dupx1, ax_dup2, ax_ifeq, ax_ifne, ax_iflt, ax_ifge, ax_ifgt, ax_ifle, ax_iceq, ax_icne, ax_iclt, ax_icge, ax_icgt, ax_icle, ax_ifnull, ax_ifnn, ax_sw, ax_iret, ax_zret, ax_lret, ax_vret, ax_aret, ax_gf, ax_pfi, ax_pfz, ax_pfl, ax_pfr, ax_iald, ax_zald, ax_lald, ax_aald, ax_iast, ax_zast, ax_last, ax_aast, ax_alen, ax_ialdR, ax_alenR, ax_gst, ax_new, ax_nwi, ax_nwl, ax_nwq, ax_obj, ax_call, ax_calv, ax_nth, ax_p1, ax_p2, ax_k2, ax_nh, Value.category, lg_cmp_ge, lg_cmp_lt, lg_cmp_gt, lg_cmp_le, lg_cmp_eq, List.getElem?_cons_zero, List.getElem?_cons_succ, true_and, and_true, if_true, if_false, reduceIte, Nat.reduceEqDiff, Nat.add_eq_zero_iff, reduceCtorEq, Nat.reduceAdd, not_true_eq_false, not_false_eq_true, ax_pf, ax_popn, fv_in, fv_size, fv_drop, fv_within, fv_part, fv_cut, fv_sq, fv_absI, fv_absJ, fv_maxI, fv_minI, fv_maxJ, fv_minJ, List.map_cons, List.map_nil, List.sum_cons, List.sum_nil, Nat.reduceLeDiff, Nat.zero_le, Nat.le_refl, zb_0, zb_1, zb_em, true_or, or_true, Int32.toInt_toInt64, Nat.add_zero, fv_isGlass, fv_mayBe, fv_isReading8, fv_isHour8, fv_isPoint, fv_isReading7, fv_isRoom, fv_isWarmth, fv_isHour7, fv_isOnMap, fv_holds, fv_held, tm_eq, i3_add, i3_sub, i3_mul, i3_neg, i6_add, i6_sub, i6_mul, i6_neg, i6_I, i3_toInt, i6_toInt, i3_lt, i3_le, i3_eq, i6_lt, i6_le, i6_eq, i3_eq0, i3_eq1, i3_lt0, i3_le0, i3_gt0, i3_ge0, i6_eq0, i3_div, i6_div, i3_rem, i6_rem, i3_L, i3_nat, i3_inI, ax_up3, ax_up6, c14]
    refine ⟨fun q => absurd q (by omega), fun _ => ⟨⟨_, c14⟩, ax_fn (Nat.le_of_ble_eq_true rfl) (Nat.zero_le _) (Nat.zero_le _) (m6_misfitTop hR hI hS h9 (by omega) (by omega)) ?_⟩⟩
    simp (disch := omega) only [ax_ic, ax_lc, ax_nul, ax_il, ax_ll, ax_al, ax_is, ax_ls, ax_as, ax_inc, ax_iadd, ax_isub, ax_imul, ax_iand, ax_ior, ax_idiv, ax_irem, ax_ishl, ax_ishr, ax_ladd, ax_lsub, ax_lmul, ax_ldiv, ax_lrem, ax_ineg, ax_lneg, ax_i2l, ax_l2i, ax_lcmp, ax_dup, ax_pop1, ax_dupx1, ax_dup2, ax_ifeq, ax_ifne, ax_iflt, ax_ifge, ax_ifgt, ax_ifle, ax_iceq, ax_icne, ax_iclt, ax_icge, ax_icgt, ax_icle, ax_ifnull, ax_ifnn, ax_sw, ax_iret, ax_zret, ax_lret, ax_vret, ax_aret, ax_gf, ax_pfi, ax_pfz, ax_pfl, ax_pfr, ax_iald, ax_zald, ax_lald, ax_aald, ax_iast, ax_zast, ax_last, ax_aast, ax_alen, ax_ialdR, ax_alenR, ax_gst, ax_new, ax_nwi, ax_nwl, ax_nwq, ax_obj, ax_call, ax_calv, ax_nth, ax_p1, ax_p2, ax_k2, ax_nh, Value.category, lg_cmp_ge, lg_cmp_lt, lg_cmp_gt, lg_cmp_le, lg_cmp_eq, List.getElem?_cons_zero, List.getElem?_cons_succ, true_and, and_true, if_true, if_false, reduceIte, Nat.reduceEqDiff, Nat.add_eq_zero_iff, reduceCtorEq, Nat.reduceAdd, not_true_eq_false, not_false_eq_true, ax_pf, ax_popn, fv_in, fv_size, fv_drop, fv_within, fv_part, fv_cut, fv_sq, fv_absI, fv_absJ, fv_maxI, fv_minI, fv_maxJ, fv_minJ, List.map_cons, List.map_nil, List.sum_cons, List.sum_nil, Nat.reduceLeDiff, Nat.zero_le, Nat.le_refl, zb_0, zb_1, zb_em, true_or, or_true, Int32.toInt_toInt64, Nat.add_zero, fv_isGlass, fv_mayBe, fv_isReading8, fv_isHour8, fv_isPoint, fv_isReading7, fv_isRoom, fv_isWarmth, fv_isHour7, fv_isOnMap, fv_holds, fv_held, tm_eq, i3_add, i3_sub, i3_mul, i3_neg, i6_add, i6_sub, i6_mul, i6_neg, i6_I, i3_toInt, i6_toInt, i3_lt, i3_le, i3_eq, i6_lt, i6_le, i6_eq, i3_eq0, i3_eq1, i3_lt0, i3_le0, i3_gt0, i3_ge0, i6_eq0, i3_div, i6_div, i3_rem, i6_rem, i3_L, i3_nat, i3_inI, ax_up3, ax_up6, c14]
    refine ⟨⟨_, c14⟩, ax_fn (Nat.le_of_ble_eq_true rfl) (Nat.zero_le _) (Nat.zero_le _) (m6_misfitTop hR hI hS h9 (by omega) (by omega)) ?_⟩
    have m1 := na (ofZ V ((k : Int) + 1)) (by omega) (by omega)
    have m2 := na (ofZ V (wsZ V k)) (by omega) (by omega)
    simp (disch := omega) only [ax_ic, ax_lc, ax_nul, ax_il, ax_ll, ax_al, ax_is, ax_ls, ax_as, ax_inc, ax_iadd, ax_isub, ax_imul, ax_iand, ax_ior, ax_idiv, ax_irem, ax_ishl, ax_ishr, ax_ladd, ax_lsub, ax_lmul, ax_ldiv, ax_lrem, ax_ineg, ax_lneg, ax_i2l, ax_l2i, ax_lcmp, ax_dup, ax_pop1, ax_dupx1, ax_dup2, ax_ifeq, ax_ifne, ax_iflt, ax_ifge, ax_ifgt, ax_ifle, ax_iceq, ax_icne, ax_iclt, ax_icge, ax_icgt, ax_icle, ax_ifnull, ax_ifnn, ax_sw, ax_iret, ax_zret, ax_lret, ax_vret, ax_aret, ax_gf, ax_pfi, ax_pfz, ax_pfl, ax_pfr, ax_iald, ax_zald, ax_lald, ax_aald, ax_iast, ax_zast, ax_last, ax_aast, ax_alen, ax_ialdR, ax_alenR, ax_gst, ax_new, ax_nwi, ax_nwl, ax_nwq, ax_obj, ax_call, ax_calv, ax_nth, ax_p1, ax_p2, ax_k2, ax_nh, Value.category, lg_cmp_ge, lg_cmp_lt, lg_cmp_gt, lg_cmp_le, lg_cmp_eq, List.getElem?_cons_zero, List.getElem?_cons_succ, true_and, and_true, if_true, if_false, reduceIte, Nat.reduceEqDiff, Nat.add_eq_zero_iff, reduceCtorEq, Nat.reduceAdd, not_true_eq_false, not_false_eq_true, ax_pf, ax_popn, fv_in, fv_size, fv_drop, fv_within, fv_part, fv_cut, fv_sq, fv_absI, fv_absJ, fv_maxI, fv_minI, fv_maxJ, fv_minJ, List.map_cons, List.map_nil, List.sum_cons, List.sum_nil, Nat.reduceLeDiff, Nat.zero_le, Nat.le_refl, zb_0, zb_1, zb_em, true_or, or_true, Int32.toInt_toInt64, Nat.add_zero, fv_isGlass, fv_mayBe, fv_isReading8, fv_isHour8, fv_isPoint, fv_isReading7, fv_isRoom, fv_isWarmth, fv_isHour7, fv_isOnMap, fv_holds, fv_held, tm_eq, i3_add, i3_sub, i3_mul, i3_neg, i6_add, i6_sub, i6_mul, i6_neg, i6_I, i3_toInt, i6_toInt, i3_lt, i3_le, i3_eq, i6_lt, i6_le, i6_eq, i3_eq0, i3_eq1, i3_lt0, i3_le0, i3_gt0, i3_ge0, i6_eq0, i3_div, i6_div, i3_rem, i6_rem, i3_L, i3_nat, i3_inI, ax_up3, ax_up6, c14, m1, m2]
    have e := ih (k + 1) (by omega)
    refine ⟨fun b => ?_, fun b => ?_⟩
    · rw [show wsZ V (k + 1) = wsZ V k by rw [wsZ, if_neg (by omega)]] at e
      exact e
    · rw [show wsZ V (k + 1) = (k : Int) + 1 by rw [wsZ, if_pos (by omega)]] at e
      exact e
theorem m6_greatestMisfit (hR : RH X r T f) (hI : mInv V) (hS : Sim V T) (h9 : T 14 9 = 1) (h0 : V 0 19 ≠ 0) : ax_M X mX6_greatestMisfit 0 0 [.ref (r + 14)] z f (ax_pv (.int (i3 (wsZ V (V 0 19 - 1).toNat))) z f) := by
  have i1 := hI.2.2.2.2.2.2.2.1
  refine ax_met2 [some (.ref (r + 14)), none, none] (by decide) (Nat.le_of_ble_eq_true rfl) rfl ?_
  refine sbX6_greatestMisfit_0 X 0 0 _ _ _ _ _ _ _ ?_
  simp (disch := omega) only [bkX6_greatestMisfit_0, ax_ic, ax_lc, ax_nul, ax_il, ax_ll, ax_al, ax_is, ax_ls, ax_as, ax_inc, ax_iadd, ax_isub, ax_imul, ax_iand, ax_ior, ax_idiv, ax_irem, ax_ishl, ax_ishr, ax_ladd, ax_lsub, ax_lmul, ax_ldiv, ax_lrem, ax_ineg, ax_lneg, ax_i2l, ax_l2i, ax_lcmp, ax_dup, ax_pop1, ax_dupx1, ax_dup2, ax_ifeq, ax_ifne, ax_iflt, ax_ifge, ax_ifgt, ax_ifle, ax_iceq, ax_icne, ax_iclt, ax_icge, ax_icgt, ax_icle, ax_ifnull, ax_ifnn, ax_sw, ax_iret, ax_zret, ax_lret, ax_vret, ax_aret, ax_gf, ax_pfi, ax_pfz, ax_pfl, ax_pfr, ax_iald, ax_zald, ax_lald, ax_aald, ax_iast, ax_zast, ax_last, ax_aast, ax_alen, ax_ialdR, ax_alenR, ax_gst, ax_new, ax_nwi, ax_nwl, ax_nwq, ax_obj, ax_call, ax_calv, ax_nth, ax_p1, ax_p2, ax_k2, ax_nh, Value.category, lg_cmp_ge, lg_cmp_lt, lg_cmp_gt, lg_cmp_le, lg_cmp_eq, List.getElem?_cons_zero, List.getElem?_cons_succ, true_and, and_true, if_true, if_false, reduceIte, Nat.reduceEqDiff, Nat.add_eq_zero_iff, reduceCtorEq, Nat.reduceAdd, not_true_eq_false, not_false_eq_true, ax_pf, ax_popn, fv_in, fv_size, fv_drop, fv_within, fv_part, fv_cut, fv_sq, fv_absI, fv_absJ, fv_maxI, fv_minI, fv_maxJ, fv_minJ, List.map_cons, List.map_nil, List.sum_cons, List.sum_nil, Nat.reduceLeDiff, Nat.zero_le, Nat.le_refl, zb_0, zb_1, zb_em, true_or, or_true, Int32.toInt_toInt64, Nat.add_zero, fv_isGlass, fv_mayBe, fv_isReading8, fv_isHour8, fv_isPoint, fv_isReading7, fv_isRoom, fv_isWarmth, fv_isHour7, fv_isOnMap, fv_holds, fv_held, tm_eq, i3_add, i3_sub, i3_mul, i3_neg, i6_add, i6_sub, i6_mul, i6_neg, i6_I, i3_toInt, i6_toInt, i3_lt, i3_le, i3_eq, i6_lt, i6_le, i6_eq, i3_eq0, i3_eq1, i3_lt0, i3_le0, i3_gt0, i3_ge0, i6_eq0, i3_div, i6_div, i3_rem, i6_rem, i3_L, i3_nat, i3_inI, ax_up3, ax_up6]
  exact m6_gm_4 hR hI hS h9 (V 0 19 - 1).toNat 0 (by omega)
end SLW
