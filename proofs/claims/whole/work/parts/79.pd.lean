section PUD
variable {X : ax_X} {r z : Nat} {V V' T T' : Nat → Int → Int} {f f0 : ax_F}
theorem sv_eq (h14 : V' 14 = V 14) (h15 : V' 15 = V 15) (h16 : V' 16 = V 16) (h17 : V' 17 = V 17) (a : V' 0 14 = V 0 14) (b : V' 0 19 = V 0 19) : loZ V' = loZ V ∧ ∀ k : Int, hiZ V' k = hiZ V k := by
  have e : ∀ col : Int, dZ V' col = dZ V col := fun col => by
    unfold dZ
    have : enZ V' col = enZ V col := by
      funext i j
      unfold enZ
      rw [h14, h15, h16, h17, b]
    rw [this, a]
  refine ⟨e _, fun k => ?_⟩
  unfold hiZ
  rw [e]
theorem smB_eq (h : smB V T) (h14 : V' 14 = V 14) (h15 : V' 15 = V 15) (h16 : V' 16 = V 16) (h17 : V' 17 = V 17) (a : V' 0 14 = V 0 14) (b : V' 0 19 = V 0 19) (t14 : T' 14 = T 14) (t15 : T' 15 = T 15) (t16 : T' 16 = T 16) (t17 : T' 17 = T 17) (t18 : T' 18 = T 18) (t25 : T' 25 = T 25) : smB V' T' := by
  obtain ⟨e1, e2⟩ := sv_eq h14 h15 h16 h17 a b
  unfold smB at h ⊢
  rw [t14, t15, t16, t17, t18, t25, h14, h15, h16, h17, a, b, e1]
  refine ⟨h.1, h.2.1, h.2.2.1, ?_⟩
  rcases h.2.2.2 with q | q
  · exact Or.inl q
  · exact Or.inr ⟨q.1, q.2.1, fun k h1 h2 => by rw [e2]; exact q.2.2 k h1 h2⟩
theorem smG_eq (h : smG V T) (h2 : V' 2 = V 2) (h3 : V' 3 = V 3) (h4 : V' 4 = V 4) (ht : ∀ j : Nat, 29 ≤ j → j < 41 → T' j = T j) : smG V' T' := by
  intro i hi
  rw [ht (30 + 2 * i) (by omega) (by omega), ht (29 + 2 * i) (by omega) (by omega), h2, h3, h4]
  exact h i hi
theorem smS_eq (h : smS V T) (h0 : V' 0 8 = V 0 8) (h5 : V' 5 = V 5) (h6 : V' 6 = V 6) (h7 : V' 7 = V 7) (h8 : V' 8 = V 8) (h9 : V' 9 = V 9) (h10 : V' 10 = V 10) (h11 : V' 11 = V 11) (h12 : V' 12 = V 12) (h13 : V' 13 = V 13) (t2 : T' 2 1 = T 2 1) (ht : ∀ j : Nat, 67 ≤ j → T' j = T j) : smS V' T' := by
  refine ⟨by rw [t2, h0]; exact h.1, fun k hk => ?_⟩
  rw [h0] at hk
  rw [ht (67 + 5 * k) (by omega), ht (68 + 5 * k) (by omega), ht (69 + 5 * k) (by omega), ht (70 + 5 * k) (by omega), ht (71 + 5 * k) (by omega), h5, h6, h7, h8, h9, h10, h11, h12, h13]
  exact h.2 k hk
theorem sim_ref (h : Sim V T) (c : core V V') : Sim V' T := by
  obtain ⟨hg, hs, hb⟩ := h
  have e := fun k h1 h2 => c.1 k h1 h2
  exact ⟨smG_eq hg (e 2 (by omega) (by omega)) (e 3 (by omega) (by omega)) (e 4 (by omega) (by omega)) (fun _ _ _ => rfl), smS_eq hs c.2.1 (e 5 (by omega) (by omega)) (e 6 (by omega) (by omega)) (e 7 (by omega) (by omega)) (e 8 (by omega) (by omega)) (e 9 (by omega) (by omega)) (e 10 (by omega) (by omega)) (e 11 (by omega) (by omega)) (e 12 (by omega) (by omega)) (e 13 (by omega) (by omega)) rfl (fun _ _ => rfl), smB_eq hb (e 14 (by omega) (by omega)) (e 15 (by omega) (by omega)) (e 16 (by omega) (by omega)) (e 17 (by omega) (by omega)) c.2.2.1 c.2.2.2 rfl rfl rfl rfl rfl rfl⟩
theorem rce_gn {n i : Nat} {g : Int → Int} (h : i < 6) : rce X r n (30 + 2 * i) g = cI X 6 g := by
  unfold rce
  rw [if_neg (by omega), if_pos (by omega), if_neg (by omega)]
theorem rce_gl {n i : Nat} {g : Int → Int} (h : i < 6) : rce X r n (29 + 2 * i) g = cGl (r + 30 + 2 * i) g := by
  unfold rce
  rw [if_neg (by omega), if_pos (by omega), if_pos (by omega), show r + (29 + 2 * i) + 1 = r + 30 + 2 * i by omega]
theorem rce_s0 {n k : Nat} {g : Int → Int} : rce X r n (67 + 5 * k) g = cSt r (r + (67 + 5 * k)) g := by
  unfold rce
  rw [if_neg (by omega), if_neg (by omega), show (67 + 5 * k - 67) % 5 = 0 by omega]
  rfl
theorem rce_s1 {n k : Nat} {g : Int → Int} : rce X r n (68 + 5 * k) g = cI X 48 g := by
  unfold rce
  rw [if_neg (by omega), if_neg (by omega), show (68 + 5 * k - 67) % 5 = 1 by omega]
  rfl
theorem rce_s2 {n k : Nat} {g : Int → Int} : rce X r n (69 + 5 * k) g = cI X 48 g := by
  unfold rce
  rw [if_neg (by omega), if_neg (by omega), show (69 + 5 * k - 67) % 5 = 2 by omega]
  rfl
theorem rce_s3 {n k : Nat} {g : Int → Int} : rce X r n (70 + 5 * k) g = cI X 3 g := by
  unfold rce
  rw [if_neg (by omega), if_neg (by omega), show (70 + 5 * k - 67) % 5 = 3 by omega]
  rfl
theorem rce_s4 {n k : Nat} {g : Int → Int} : rce X r n (71 + 5 * k) g = cL X 3 g := by
  unfold rce
  rw [if_neg (by omega), if_neg (by omega), show (71 + 5 * k - 67) % 5 = 4 by omega]
  rfl
theorem m4_putNumber (hR : RH X r T f) (hF : RF r f0 f) {i : Nat} (hi : i < 6) {w v : Int} (hw : 0 ≤ w) (hw' : w ≤ 5) : ax_M X mX4_putNumber 0 0 [.ref (r + 29 + 2 * i), .int (i3 w), .int (i3 v)] z f (rq X r f0 z none (mset T (30 + 2 * i) (ax_u (T (30 + 2 * i)) w v))) := by
  have c0 := hR.gl hi
  have c1 := hR.gn hi
  refine ax_met2 [some (.ref (r + 29 + 2 * i)), some (.int (i3 w)), some (.int (i3 v))] (by decide) (Nat.le_of_ble_eq_true rfl) rfl ?_
  refine sbX4_putNumber_0 X 0 0 _ _ _ _ _ _ _ ?_
  simp (disch := omega) only [bkX4_putNumber_0, ax_ic, ax_lc, ax_nul, ax_il, ax_ll, ax_al, ax_is, ax_ls, ax_as, ax_inc, ax_iadd, ax_isub, ax_imul, ax_iand, ax_ior, ax_idiv, ax_irem, ax_ishl, ax_ishr, ax_ladd, ax_lsub, ax_lmul, ax_ldiv, ax_lrem, ax_ineg, ax_lneg, ax_i2l, ax_l2i, ax_lcmp, ax_dup, ax_pop1, ax_dupx1, ax_dup2, ax_ifeq, ax_ifne, ax_iflt, ax_ifge, ax_ifgt, ax_ifle, ax_iceq, ax_icne, ax_iclt, ax_icge, ax_icgt, ax_icle, ax_ifnull, ax_ifnn, ax_sw, ax_iret, ax_zret, ax_lret, ax_vret, ax_aret, ax_gf, ax_pfi, ax_pfz, ax_pfl, ax_pfr, ax_iald, ax_zald, ax_lald, ax_aald, ax_iast, ax_zast, ax_last, ax_aast, ax_alen, ax_ialdR, ax_alenR, ax_gst, ax_new, ax_nwi, ax_nwl, ax_nwq, ax_obj, ax_call, ax_calv, ax_nth, ax_p1, ax_p2, ax_k2, ax_nh, Value.category, lg_cmp_ge, lg_cmp_lt, lg_cmp_gt, lg_cmp_le, lg_cmp_eq, List.getElem?_cons_zero, List.getElem?_cons_succ, true_and, and_true, if_true, if_false, reduceIte, Nat.reduceEqDiff, Nat.add_eq_zero_iff, reduceCtorEq, Nat.reduceAdd, not_true_eq_false, not_false_eq_true, ax_pf, ax_popn, fv_in, fv_size, fv_drop, fv_within, fv_part, fv_cut, fv_sq, fv_absI, fv_absJ, fv_maxI, fv_minI, fv_maxJ, fv_minJ, List.map_cons, List.map_nil, List.sum_cons, List.sum_nil, Nat.reduceLeDiff, Nat.zero_le, Nat.le_refl, zb_0, zb_1, zb_em, true_or, or_true, Int32.toInt_toInt64, Nat.add_zero, fv_isGlass, fv_mayBe, fv_isReading8, fv_isHour8, fv_isPoint, fv_isReading7, fv_isRoom, fv_isWarmth, fv_isHour7, fv_isOnMap, fv_holds, fv_held, tm_eq, i3_add, i3_sub, i3_mul, i3_neg, i6_add, i6_sub, i6_mul, i6_neg, i6_I, i3_toInt, i6_toInt, i3_lt, i3_le, i3_eq, i6_lt, i6_le, i6_eq, i3_eq0, i3_eq1, i3_lt0, i3_le0, i3_gt0, i3_ge0, i6_eq0, i3_div, i6_div, i3_rem, i6_rem, i3_L, i3_nat, i3_inI, ax_up3, ax_up6, c0, c1]
  have hR2 := hR.set (k := 30 + 2 * i) (g := ax_u (T (30 + 2 * i)) w v) (e := cI X 6 (ax_u (T (30 + 2 * i)) w v)) (Or.inl (by omega)) (rce_gn hi).symm
  have hF2 := hF.up (k := 30 + 2 * i) (e := some (cI X 6 (ax_u (T (30 + 2 * i)) w v))) (by omega)
  rw [show r + (30 + 2 * i) = r + 30 + 2 * i by omega] at hR2 hF2
  exact ⟨by omega, rq0 rfl hR2 rfl hF2⟩
theorem may_eq {k v : Int} (hk : 0 ≤ k) (hk' : k ≤ 5) : (leaZ k ≤ v ∧ v ≤ mosZ k) ↔ mayP k v := by
  rcases (show k = 0 ∨ k = 1 ∨ k = 2 ∨ k = 3 ∨ k = 4 ∨ k = 5 by omega) with rfl | rfl | rfl | rfl | rfl | rfl
  · show (-50 ≤ v ∧ v ≤ 50) ↔ _
    unfold mayP; omega
  · show (10 ≤ v ∧ v ≤ 1000) ↔ _
    unfold mayP; omega
  · show (6000 ≤ v ∧ v ≤ 8000) ↔ _
    unfold mayP; omega
  · show (1 ≤ v ∧ v ≤ 10) ↔ _
    unfold mayP; omega
  · show (0 ≤ v ∧ v ≤ 30) ↔ _
    unfold mayP; omega
  · show (8000 ≤ v ∧ v ≤ 12000) ↔ _
    unfold mayP; omega
theorem m7_set (hX : stOk X) (hR : RH X r T f) (hS : Sim V T) {g k v : Int} (hg : -2147483648 ≤ g) (hg' : g < 2147483648) (hk : -2147483648 ≤ k) (hk' : k < 2147483648) (hv : -2147483648 ≤ v) (hv' : v < 2147483648) :
    ax_M X mX7_set 0 0 [.ref r, .int (i3 g), .int (i3 k), .int (i3 v)] z f (rsq X r f z (some (.int (i3 (if 0 ≤ g ∧ g ≤ 5 then (if 0 ≤ k ∧ k ≤ 5 ∧ mayP k v then V 2 (6 * g + k) else -102) else -101)))) (if 0 ≤ g ∧ g ≤ 5 ∧ 0 ≤ k ∧ k ≤ 5 ∧ mayP k v then mset V 2 (ax_u (V 2) (6 * g + k) v) else V)) := by
  have c0 : f r = some (.inr (6, [.ref (r + 1), .ref (r + 2), .ref (r + 7), .ref (r + 14), .ref (r + 26)])) := hR 0 (Or.inl (by decide))
  refine ax_met2 [some (.ref r), some (.int (i3 g)), some (.int (i3 k)), some (.int (i3 v)), none, none] (by decide) (Nat.le_of_ble_eq_true rfl) rfl ?_
  refine sbX7_set_0 X 0 0 _ _ _ _ _ _ _ ?_
  simp (disch := omega) only [bkX7_set_0, ax_ic, ax_lc, ax_nul, ax_il, ax_ll, ax_al, ax_is, ax_ls, ax_as, ax_inc, ax_iadd, ax_isub, ax_imul, ax_iand, ax_ior, ax_idiv, ax_irem, ax_ishl, ax_ishr, ax_ladd, ax_lsub, ax_lmul, ax_ldiv, ax_lrem, ax_ineg, ax_lneg, ax_i2l, ax_l2i, ax_lcmp, ax_dup, ax_pop1, ax_dupx1, ax_dup2, ax_ifeq, ax_ifne, ax_iflt, ax_ifge, ax_ifgt, ax_ifle, ax_iceq, ax_icne, ax_iclt, ax_icge, ax_icgt, ax_icle, ax_ifnull, ax_ifnn, ax_sw, ax_iret, ax_zret, ax_lret, ax_vret, ax_aret, ax_gf, ax_pfi, ax_pfz, ax_pfl, ax_pfr, ax_iald, ax_zald, ax_lald, ax_aald, ax_iast, ax_zast, ax_last, ax_aast, ax_alen, ax_ialdR, ax_alenR, ax_gst, ax_new, ax_nwi, ax_nwl, ax_nwq, ax_obj, ax_call, ax_calv, ax_nth, ax_p1, ax_p2, ax_k2, ax_nh, Value.category, lg_cmp_ge, lg_cmp_lt, lg_cmp_gt, lg_cmp_le, lg_cmp_eq, List.getElem?_cons_zero, List.getElem?_cons_succ, true_and, and_true, if_true, if_false, reduceIte, Nat.reduceEqDiff, Nat.add_eq_zero_iff, reduceCtorEq, Nat.reduceAdd, not_true_eq_false, not_false_eq_true, ax_pf, ax_popn, fv_in, fv_size, fv_drop, fv_within, fv_part, fv_cut, fv_sq, fv_absI, fv_absJ, fv_maxI, fv_minI, fv_maxJ, fv_minJ, List.map_cons, List.map_nil, List.sum_cons, List.sum_nil, Nat.reduceLeDiff, Nat.zero_le, Nat.le_refl, zb_0, zb_1, zb_em, true_or, or_true, Int32.toInt_toInt64, Nat.add_zero, fv_isGlass, fv_mayBe, fv_isReading8, fv_isHour8, fv_isPoint, fv_isReading7, fv_isRoom, fv_isWarmth, fv_isHour7, fv_isOnMap, fv_holds, fv_held, tm_eq, i3_add, i3_sub, i3_mul, i3_neg, i6_add, i6_sub, i6_mul, i6_neg, i6_I, i3_toInt, i6_toInt, i3_lt, i3_le, i3_eq, i6_lt, i6_le, i6_eq, i3_eq0, i3_eq1, i3_lt0, i3_le0, i3_gt0, i3_ge0, i6_eq0, i3_div, i6_div, i3_rem, i6_rem, i3_L, i3_nat, i3_inI, ax_up3, ax_up6]
  refine ⟨⟨_, c0⟩, ax_fn (Nat.le_of_ble_eq_true rfl) (Nat.zero_le _) (Nat.zero_le _) (m7_findGlass hR hg hg') ?_⟩
  by_cases b1 : 0 ≤ g ∧ g ≤ 5
  · rw [if_pos b1, if_pos b1]
    simp (disch := omega) only [ax_ic, ax_lc, ax_nul, ax_il, ax_ll, ax_al, ax_is, ax_ls, ax_as, ax_inc, ax_iadd, ax_isub, ax_imul, ax_iand, ax_ior, ax_idiv, ax_irem, ax_ishl, ax_ishr, ax_ladd, ax_lsub, ax_lmul, ax_ldiv, ax_lrem, ax_ineg, ax_lneg, ax_i2l, ax_l2i, ax_lcmp, ax_dup, ax_pop1, ax_dupx1, ax_dup2, ax_ifeq, ax_ifne, ax_iflt, ax_ifge, ax_ifgt, ax_ifle, ax_iceq, ax_icne, ax_iclt, ax_icge, ax_icgt, ax_icle, ax_ifnull, ax_ifnn, ax_sw, ax_iret, ax_zret, ax_lret, ax_vret, ax_aret, ax_gf, ax_pfi, ax_pfz, ax_pfl, ax_pfr, ax_iald, ax_zald, ax_lald, ax_aald, ax_iast, ax_zast, ax_last, ax_aast, ax_alen, ax_ialdR, ax_alenR, ax_gst, ax_new, ax_nwi, ax_nwl, ax_nwq, ax_obj, ax_call, ax_calv, ax_nth, ax_p1, ax_p2, ax_k2, ax_nh, Value.category, lg_cmp_ge, lg_cmp_lt, lg_cmp_gt, lg_cmp_le, lg_cmp_eq, List.getElem?_cons_zero, List.getElem?_cons_succ, true_and, and_true, if_true, if_false, reduceIte, Nat.reduceEqDiff, Nat.add_eq_zero_iff, reduceCtorEq, Nat.reduceAdd, not_true_eq_false, not_false_eq_true, ax_pf, ax_popn, fv_in, fv_size, fv_drop, fv_within, fv_part, fv_cut, fv_sq, fv_absI, fv_absJ, fv_maxI, fv_minI, fv_maxJ, fv_minJ, List.map_cons, List.map_nil, List.sum_cons, List.sum_nil, Nat.reduceLeDiff, Nat.zero_le, Nat.le_refl, zb_0, zb_1, zb_em, true_or, or_true, Int32.toInt_toInt64, Nat.add_zero, fv_isGlass, fv_mayBe, fv_isReading8, fv_isHour8, fv_isPoint, fv_isReading7, fv_isRoom, fv_isWarmth, fv_isHour7, fv_isOnMap, fv_holds, fv_held, tm_eq, i3_add, i3_sub, i3_mul, i3_neg, i6_add, i6_sub, i6_mul, i6_neg, i6_I, i3_toInt, i6_toInt, i3_lt, i3_le, i3_eq, i6_lt, i6_le, i6_eq, i3_eq0, i3_eq1, i3_lt0, i3_le0, i3_gt0, i3_ge0, i6_eq0, i3_div, i6_div, i3_rem, i6_rem, i3_L, i3_nat, i3_inI, ax_up3, ax_up6]
    refine ax_fn (Nat.le_of_ble_eq_true rfl) (Nat.zero_le _) (Nat.zero_le _) (m4_hasNumber hX hk hk') ?_
    simp (disch := omega) only [ax_ic, ax_lc, ax_nul, ax_il, ax_ll, ax_al, ax_is, ax_ls, ax_as, ax_inc, ax_iadd, ax_isub, ax_imul, ax_iand, ax_ior, ax_idiv, ax_irem, ax_ishl, ax_ishr, ax_ladd, ax_lsub, ax_lmul, ax_ldiv, ax_lrem, ax_ineg, ax_lneg, ax_i2l, ax_l2i, ax_lcmp, ax_dup, ax_pop1, ax_dupx1, ax_dup2, ax_ifeq, ax_ifne, ax_iflt, ax_ifge, ax_ifgt, ax_ifle, ax_iceq, ax_icne, ax_iclt, ax_icge, ax_icgt, ax_icle, ax_ifnull, ax_ifnn, ax_sw, ax_iret, ax_zret, ax_lret, ax_vret, ax_aret, ax_gf, ax_pfi, ax_pfz, ax_pfl, ax_pfr, ax_iald, ax_zald, ax_lald, ax_aald, ax_iast, ax_zast, ax_last, ax_aast, ax_alen, ax_ialdR, ax_alenR, ax_gst, ax_new, ax_nwi, ax_nwl, ax_nwq, ax_obj, ax_call, ax_calv, ax_nth, ax_p1, ax_p2, ax_k2, ax_nh, Value.category, lg_cmp_ge, lg_cmp_lt, lg_cmp_gt, lg_cmp_le, lg_cmp_eq, List.getElem?_cons_zero, List.getElem?_cons_succ, true_and, and_true, if_true, if_false, reduceIte, Nat.reduceEqDiff, Nat.add_eq_zero_iff, reduceCtorEq, Nat.reduceAdd, not_true_eq_false, not_false_eq_true, ax_pf, ax_popn, fv_in, fv_size, fv_drop, fv_within, fv_part, fv_cut, fv_sq, fv_absI, fv_absJ, fv_maxI, fv_minI, fv_maxJ, fv_minJ, List.map_cons, List.map_nil, List.sum_cons, List.sum_nil, Nat.reduceLeDiff, Nat.zero_le, Nat.le_refl, zb_0, zb_1, zb_em, true_or, or_true, Int32.toInt_toInt64, Nat.add_zero, fv_isGlass, fv_mayBe, fv_isReading8, fv_isHour8, fv_isPoint, fv_isReading7, fv_isRoom, fv_isWarmth, fv_isHour7, fv_isOnMap, fv_holds, fv_held, tm_eq, i3_add, i3_sub, i3_mul, i3_neg, i6_add, i6_sub, i6_mul, i6_neg, i6_I, i3_toInt, i6_toInt, i3_lt, i3_le, i3_eq, i6_lt, i6_le, i6_eq, i3_eq0, i3_eq1, i3_lt0, i3_le0, i3_gt0, i3_ge0, i6_eq0, i3_div, i6_div, i3_rem, i6_rem, i3_L, i3_nat, i3_inI, ax_up3, ax_up6]
    refine ⟨fun a => rsq0 (by rw [if_neg (fun d => a ⟨d.1, d.2.1⟩)]) hR (by rw [if_neg (fun d => a ⟨d.2.2.1, d.2.2.2.1⟩)]; exact hS) RF.rfl, fun a => ?_⟩
    have a' : 0 ≤ k ∧ k ≤ 5 := by omega
    refine ax_fn (Nat.le_of_ble_eq_true rfl) (Nat.zero_le _) (Nat.zero_le _) (m4_allows hX a'.1 a'.2 hv hv') ?_
    simp (disch := omega) only [ax_ic, ax_lc, ax_nul, ax_il, ax_ll, ax_al, ax_is, ax_ls, ax_as, ax_inc, ax_iadd, ax_isub, ax_imul, ax_iand, ax_ior, ax_idiv, ax_irem, ax_ishl, ax_ishr, ax_ladd, ax_lsub, ax_lmul, ax_ldiv, ax_lrem, ax_ineg, ax_lneg, ax_i2l, ax_l2i, ax_lcmp, ax_dup, ax_pop1, ax_dupx1, ax_dup2, ax_ifeq, ax_ifne, ax_iflt, ax_ifge, ax_ifgt, ax_ifle, ax_iceq, ax_icne, ax_iclt, ax_icge, ax_icgt, ax_icle, ax_ifnull, ax_ifnn, ax_sw, ax_iret, ax_zret, ax_lret, ax_vret, ax_aret, ax_gf, ax_pfi, ax_pfz, ax_pfl, ax_pfr, ax_iald, ax_zald, ax_lald, ax_aald, ax_iast, ax_zast, ax_last, ax_aast, ax_alen, ax_ialdR, ax_alenR, ax_gst, ax_new, ax_nwi, ax_nwl, ax_nwq, ax_obj, ax_call, ax_calv, ax_nth, ax_p1, ax_p2, ax_k2, ax_nh, Value.category, lg_cmp_ge, lg_cmp_lt, lg_cmp_gt, lg_cmp_le, lg_cmp_eq, List.getElem?_cons_zero, List.getElem?_cons_succ, true_and, and_true, if_true, if_false, reduceIte, Nat.reduceEqDiff, Nat.add_eq_zero_iff, reduceCtorEq, Nat.reduceAdd, not_true_eq_false, not_false_eq_true, ax_pf, ax_popn, fv_in, fv_size, fv_drop, fv_within, fv_part, fv_cut, fv_sq, fv_absI, fv_absJ, fv_maxI, fv_minI, fv_maxJ, fv_minJ, List.map_cons, List.map_nil, List.sum_cons, List.sum_nil, Nat.reduceLeDiff, Nat.zero_le, Nat.le_refl, zb_0, zb_1, zb_em, true_or, or_true, Int32.toInt_toInt64, Nat.add_zero, fv_isGlass, fv_mayBe, fv_isReading8, fv_isHour8, fv_isPoint, fv_isReading7, fv_isRoom, fv_isWarmth, fv_isHour7, fv_isOnMap, fv_holds, fv_held, tm_eq, i3_add, i3_sub, i3_mul, i3_neg, i6_add, i6_sub, i6_mul, i6_neg, i6_I, i3_toInt, i6_toInt, i3_lt, i3_le, i3_eq, i6_lt, i6_le, i6_eq, i3_eq0, i3_eq1, i3_lt0, i3_le0, i3_gt0, i3_ge0, i6_eq0, i3_div, i6_div, i3_rem, i6_rem, i3_L, i3_nat, i3_inI, ax_up3, ax_up6]
    have me := may_eq (v := v) a'.1 a'.2
    refine ⟨fun b => ?_, fun b => rsq0 (by rw [if_neg (fun d => b (me.mpr d.2.2))]) hR (by rw [if_neg (fun d => b (me.mpr d.2.2.2.2))]; exact hS) RF.rfl⟩
    have b' : mayP k v := me.mp (Decidable.byContradiction b)
    have sg := (hS.1 g.toNat (by omega)).1 k a'.1 (by omega)
    rw [show ((g.toNat : Nat) : Int) = g by omega] at sg
    rw [if_pos ⟨a'.1, a'.2, b'⟩, if_pos ⟨b1.1, b1.2, a'.1, a'.2, b'⟩]
    refine ⟨⟨_, hR.gl (i := g.toNat) (by omega)⟩, ax_fn (Nat.le_of_ble_eq_true rfl) (Nat.zero_le _) (Nat.zero_le _) (m4_number (hR.gl (i := g.toNat) (by omega)) (hR.gn (i := g.toNat) (by omega)) a'.1 a'.2) ?_⟩
    simp (disch := omega) only [ax_ic, ax_lc, ax_nul, ax_il, ax_ll, ax_al, ax_is, ax_ls, ax_as, ax_inc, ax_iadd, ax_isub, ax_imul, ax_iand, ax_ior, ax_idiv, ax_irem, ax_ishl, ax_ishr, ax_ladd, ax_lsub, ax_lmul, ax_ldiv, ax_lrem, ax_ineg, ax_lneg, ax_i2l, ax_l2i, ax_lcmp, ax_dup, ax_pop1, ax_dupx1, ax_dup2, ax_ifeq, ax_ifne, ax_iflt, ax_ifge, ax_ifgt, ax_ifle, ax_iceq, ax_icne, ax_iclt, ax_icge, ax_icgt, ax_icle, ax_ifnull, ax_ifnn, ax_sw, ax_iret, ax_zret, ax_lret, ax_vret, ax_aret, ax_gf, ax_pfi, ax_pfz, ax_pfl, ax_pfr, ax_iald, ax_zald, ax_lald, ax_aald, ax_iast, ax_zast, ax_last, ax_aast, ax_alen, ax_ialdR, ax_alenR, ax_gst, ax_new, ax_nwi, ax_nwl, ax_nwq, ax_obj, ax_call, ax_calv, ax_nth, ax_p1, ax_p2, ax_k2, ax_nh, Value.category, lg_cmp_ge, lg_cmp_lt, lg_cmp_gt, lg_cmp_le, lg_cmp_eq, List.getElem?_cons_zero, List.getElem?_cons_succ, true_and, and_true, if_true, if_false, reduceIte, Nat.reduceEqDiff, Nat.add_eq_zero_iff, reduceCtorEq, Nat.reduceAdd, not_true_eq_false, not_false_eq_true, ax_pf, ax_popn, fv_in, fv_size, fv_drop, fv_within, fv_part, fv_cut, fv_sq, fv_absI, fv_absJ, fv_maxI, fv_minI, fv_maxJ, fv_minJ, List.map_cons, List.map_nil, List.sum_cons, List.sum_nil, Nat.reduceLeDiff, Nat.zero_le, Nat.le_refl, zb_0, zb_1, zb_em, true_or, or_true, Int32.toInt_toInt64, Nat.add_zero, fv_isGlass, fv_mayBe, fv_isReading8, fv_isHour8, fv_isPoint, fv_isReading7, fv_isRoom, fv_isWarmth, fv_isHour7, fv_isOnMap, fv_holds, fv_held, tm_eq, i3_add, i3_sub, i3_mul, i3_neg, i6_add, i6_sub, i6_mul, i6_neg, i6_I, i3_toInt, i6_toInt, i3_lt, i3_le, i3_eq, i6_lt, i6_le, i6_eq, i3_eq0, i3_eq1, i3_lt0, i3_le0, i3_gt0, i3_ge0, i6_eq0, i3_div, i6_div, i3_rem, i6_rem, i3_L, i3_nat, i3_inI, ax_up3, ax_up6]
    refine ⟨⟨_, hR.gl (i := g.toNat) (by omega)⟩, ax_fr (Nat.le_of_ble_eq_true rfl) (Nat.zero_le _) (Nat.zero_le _) RF.rfl (m4_putNumber hR RF.rfl (by omega) a'.1 a'.2) (fun f1 hR1 hF1 => ?_)⟩
    simp (disch := omega) only [ax_ic, ax_lc, ax_nul, ax_il, ax_ll, ax_al, ax_is, ax_ls, ax_as, ax_inc, ax_iadd, ax_isub, ax_imul, ax_iand, ax_ior, ax_idiv, ax_irem, ax_ishl, ax_ishr, ax_ladd, ax_lsub, ax_lmul, ax_ldiv, ax_lrem, ax_ineg, ax_lneg, ax_i2l, ax_l2i, ax_lcmp, ax_dup, ax_pop1, ax_dupx1, ax_dup2, ax_ifeq, ax_ifne, ax_iflt, ax_ifge, ax_ifgt, ax_ifle, ax_iceq, ax_icne, ax_iclt, ax_icge, ax_icgt, ax_icle, ax_ifnull, ax_ifnn, ax_sw, ax_iret, ax_zret, ax_lret, ax_vret, ax_aret, ax_gf, ax_pfi, ax_pfz, ax_pfl, ax_pfr, ax_iald, ax_zald, ax_lald, ax_aald, ax_iast, ax_zast, ax_last, ax_aast, ax_alen, ax_ialdR, ax_alenR, ax_gst, ax_new, ax_nwi, ax_nwl, ax_nwq, ax_obj, ax_call, ax_calv, ax_nth, ax_p1, ax_p2, ax_k2, ax_nh, Value.category, lg_cmp_ge, lg_cmp_lt, lg_cmp_gt, lg_cmp_le, lg_cmp_eq, List.getElem?_cons_zero, List.getElem?_cons_succ, true_and, and_true, if_true, if_false, reduceIte, Nat.reduceEqDiff, Nat.add_eq_zero_iff, reduceCtorEq, Nat.reduceAdd, not_true_eq_false, not_false_eq_true, Option.toList, List.nil_append]
    rw [sg]
    refine rsq0 rfl hR1 ⟨fun i hi => ?_, ?_, ?_⟩ hF1
    · have s0 := hS.1 i hi
      rw [mset_n (show 29 + 2 * i ≠ 30 + 2 * g.toNat by omega)]
      refine ⟨fun j h1 h2 => ?_, s0.2⟩
      show _ = ax_u (V 2) (6 * g + k) v (6 * i + j)
      by_cases e : i = g.toNat
      · subst e
        rw [mset_s]
        unfold ax_u
        by_cases q : j = k
        · rw [if_pos q, if_pos (by omega)]
        · rw [if_neg q, if_neg (by omega)]
          exact s0.1 j h1 h2
      · rw [mset_n (by omega), ax_u_n (by omega)]
        exact s0.1 j h1 h2
    · exact smS_eq hS.2.1 rfl rfl rfl rfl rfl rfl rfl rfl rfl rfl (by rw [mset_n (by omega)]) (fun j hj => mset_n (by omega))
    · exact smB_eq hS.2.2 rfl rfl rfl rfl rfl rfl (mset_n (by omega)) (mset_n (by omega)) (mset_n (by omega)) (mset_n (by omega)) (mset_n (by omega)) (mset_n (by omega))
  · rw [if_neg b1, if_neg b1, if_neg (fun d => b1 ⟨d.1, d.2.1⟩)]
    simp (disch := omega) only [ax_ic, ax_lc, ax_nul, ax_il, ax_ll, ax_al, ax_is, ax_ls, ax_as, ax_inc, ax_iadd, ax_isub, ax_imul, ax_iand, ax_ior, ax_idiv, ax_irem, ax_ishl, ax_ishr, ax_ladd, ax_lsub, ax_lmul, ax_ldiv, ax_lrem, ax_ineg, ax_lneg, ax_i2l, ax_l2i, ax_lcmp, ax_dup, ax_pop1, ax_dupx1, ax_dup2, ax_ifeq, ax_ifne, ax_iflt, ax_ifge, ax_ifgt, ax_ifle, ax_iceq, ax_icne, ax_iclt, ax_icge, ax_icgt, ax_icle, ax_ifnull, ax_ifnn, ax_sw, ax_iret, ax_zret, ax_lret, ax_vret, ax_aret, ax_gf, ax_pfi, ax_pfz, ax_pfl, ax_pfr, ax_iald, ax_zald, ax_lald, ax_aald, ax_iast, ax_zast, ax_last, ax_aast, ax_alen, ax_ialdR, ax_alenR, ax_gst, ax_new, ax_nwi, ax_nwl, ax_nwq, ax_obj, ax_call, ax_calv, ax_nth, ax_p1, ax_p2, ax_k2, ax_nh, Value.category, lg_cmp_ge, lg_cmp_lt, lg_cmp_gt, lg_cmp_le, lg_cmp_eq, List.getElem?_cons_zero, List.getElem?_cons_succ, true_and, and_true, if_true, if_false, reduceIte, Nat.reduceEqDiff, Nat.add_eq_zero_iff, reduceCtorEq, Nat.reduceAdd, not_true_eq_false, not_false_eq_true, ax_pf, ax_popn, fv_in, fv_size, fv_drop, fv_within, fv_part, fv_cut, fv_sq, fv_absI, fv_absJ, fv_maxI, fv_minI, fv_maxJ, fv_minJ, List.map_cons, List.map_nil, List.sum_cons, List.sum_nil, Nat.reduceLeDiff, Nat.zero_le, Nat.le_refl, zb_0, zb_1, zb_em, true_or, or_true, Int32.toInt_toInt64, Nat.add_zero, fv_isGlass, fv_mayBe, fv_isReading8, fv_isHour8, fv_isPoint, fv_isReading7, fv_isRoom, fv_isWarmth, fv_isHour7, fv_isOnMap, fv_holds, fv_held, tm_eq, i3_add, i3_sub, i3_mul, i3_neg, i6_add, i6_sub, i6_mul, i6_neg, i6_I, i3_toInt, i6_toInt, i3_lt, i3_le, i3_eq, i6_lt, i6_le, i6_eq, i3_eq0, i3_eq1, i3_lt0, i3_le0, i3_gt0, i3_ge0, i6_eq0, i3_div, i6_div, i3_rem, i6_rem, i3_L, i3_nat, i3_inI, ax_up3, ax_up6]
    exact rsq0 rfl hR hS RF.rfl
theorem m4_findAir (hR : RH X r T f) (hF : RF r f0 f) {i : Nat} (hi : i < 6) {a s b t : Int} (hok : sealOk a s b t) : ax_M X mX4_findAir 0 0 [.ref (r + 29 + 2 * i), .int (i3 a), .int (i3 s), .int (i3 b), .int (i3 t)] z f (rq X r f0 z (some (.int (i3 (if sealU a s b t < 0 then -5 else if 0 < sealU a s b t then 1 else 0)))) (if sealU a s b t < 0 then T else mset T (29 + 2 * i) (ax_u (ax_u (T (29 + 2 * i)) 1 (sealU a s b t)) 2 (sealL s t)))) := by
  have c0 := hR.gl hi
  have m1 := mul_bd (x := a - b) (y := s) (A := 12000) (B := 4000) (by omega) (by omega) (by omega) (by omega)
  have m2 := mul_bd (x := (a - b) * s) (y := t) (A := 48000000) (B := 4000) (by omega) (by omega) (by omega) (by omega)
  have c5 : ∀ q : Option Value, ax_G X mX4_findAir 0 0 (rq X r f0 z (some (.int (i3 (if sealU a s b t < 0 then -5 else if 0 < sealU a s b t then 1 else 0)))) (if sealU a s b t < 0 then T else mset T (29 + 2 * i) (ax_u (ax_u (T (29 + 2 * i)) 1 (sealU a s b t)) 2 (sealL s t)))) 24 [some (.ref (r + 29 + 2 * i)), some (.int (i3 a)), some (.int (i3 s)), some (.int (i3 b)), some (.int (i3 t)), some (.long (i6 (sealU a s b t))), none] [] 0 0 z f := fun _ => by
    have ub : -200000000000 ≤ sealU a s b t ∧ sealU a s b t ≤ 200000000000 := by unfold sealU; split <;> omega
    have ab : (if 0 ≤ s - t then i3 (s - t) else 0 - i3 (s - t)) = i3 (sealL s t) := by
      unfold sealL
      by_cases q : s - t < 0
      · rw [if_neg (by omega), if_pos q, show (0 : Int32) = i3 0 from rfl, i3_sub]
        congr 1
        omega
      · rw [if_pos (by omega), if_neg q]
    have lb : 1 ≤ sealL s t ∧ sealL s t ≤ 4000 := by unfold sealL; split <;> omega
    have hR2 := (hR.set (k := 29 + 2 * i) (g := ax_u (T (29 + 2 * i)) 1 (sealU a s b t)) (e := cGl (r + 30 + 2 * i) (ax_u (T (29 + 2 * i)) 1 (sealU a s b t))) (Or.inl (by omega)) (rce_gl hi).symm).set (k := 29 + 2 * i) (g := ax_u (ax_u (T (29 + 2 * i)) 1 (sealU a s b t)) 2 (sealL s t)) (e := cGl (r + 30 + 2 * i) (ax_u (ax_u (T (29 + 2 * i)) 1 (sealU a s b t)) 2 (sealL s t))) (Or.inl (by omega)) (rce_gl hi).symm
    rw [mset_mset, show r + (29 + 2 * i) = r + 29 + 2 * i by omega] at hR2
    have hF2 : ∀ e1 e2 : Option va_E, RF r f0 (va_up (va_up f (r + 29 + 2 * i) e1) (r + 29 + 2 * i) e2) := fun e1 e2 => by
      have := (hF.up (k := 29 + 2 * i) (e := e1) (by omega)).up (k := 29 + 2 * i) (e := e2) (by omega)
      rw [show r + (29 + 2 * i) = r + 29 + 2 * i by omega] at this
      exact this
    refine sbX4_findAir_24 X 0 0 _ _ _ _ _ _ _ ?_
    simp (disch := omega) only [List.set, bkX4_findAir_24, ax_ic, ax_lc, ax_nul, ax_il, ax_ll, ax_al, ax_is, ax_ls, ax_as, ax_inc, ax_iadd, ax_isub, ax_imul, ax_iand, ax_ior, ax_idiv, ax_irem, ax_ishl, ax_ishr, ax_ladd, ax_lsub, ax_lmul, ax_ldiv, ax_lrem, ax_ineg, ax_lneg, ax_i2l, ax_l2i, ax_lcmp, ax_dup, ax_pop1, ax_dupx1, ax_dup2, ax_ifeq, ax_ifne, ax_iflt, ax_ifge, ax_ifgt, ax_ifle, ax_iceq, ax_icne, ax_iclt, ax_icge, ax_icgt, ax_icle, ax_ifnull, ax_ifnn, ax_sw, ax_iret, ax_zret, ax_lret, ax_vret, ax_aret, ax_gf, ax_pfi, ax_pfz, ax_pfl, ax_pfr, ax_iald, ax_zald, ax_lald, ax_aald, ax_iast, ax_zast, ax_last, ax_aast, ax_alen, ax_ialdR, ax_alenR, ax_gst, ax_new, ax_nwi, ax_nwl, ax_nwq, ax_obj, ax_call, ax_calv, ax_nth, ax_p1, ax_p2, ax_k2, ax_nh, Value.category, lg_cmp_ge, lg_cmp_lt, lg_cmp_gt, lg_cmp_le, lg_cmp_eq, List.getElem?_cons_zero, List.getElem?_cons_succ, true_and, and_true, if_true, if_false, reduceIte, Nat.reduceEqDiff, Nat.add_eq_zero_iff, reduceCtorEq, Nat.reduceAdd, not_true_eq_false, not_false_eq_true, ax_pf, ax_popn, fv_in, fv_size, fv_drop, fv_within, fv_part, fv_cut, fv_sq, fv_absI, fv_absJ, fv_maxI, fv_minI, fv_maxJ, fv_minJ, List.map_cons, List.map_nil, List.sum_cons, List.sum_nil, Nat.reduceLeDiff, Nat.zero_le, Nat.le_refl, zb_0, zb_1, zb_em, true_or, or_true, Int32.toInt_toInt64, Nat.add_zero, fv_isGlass, fv_mayBe, fv_isReading8, fv_isHour8, fv_isPoint, fv_isReading7, fv_isRoom, fv_isWarmth, fv_isHour7, fv_isOnMap, fv_holds, fv_held, tm_eq, i3_add, i3_sub, i3_mul, i3_neg, i6_add, i6_sub, i6_mul, i6_neg, i6_I, i3_toInt, i6_toInt, i3_lt, i3_le, i3_eq, i6_lt, i6_le, i6_eq, i3_eq0, i3_eq1, i3_lt0, i3_le0, i3_gt0, i3_ge0, i6_eq0, i3_div, i6_div, i3_rem, i6_rem, i3_L, i3_nat, i3_inI, ax_up3, ax_up6, up_ne, up_0, up_s, up_00, up_0n, c0, ab]
    refine ⟨fun q => ⟨Nat.le_of_ble_eq_true rfl, Nat.le_of_ble_eq_true rfl, fun p => ?_, fun p => ?_⟩, fun q => rq0 (by rw [if_pos (by omega)]) hR (by rw [if_pos (by omega)]) hF⟩
    · exact rq0 (by rw [if_neg (by omega), if_neg (by omega)]) hR2 (by rw [if_neg (by omega)]) (hF2 _ _)
    · exact rq0 (by rw [if_neg (by omega), if_pos (by omega)]) hR2 (by rw [if_neg (by omega)]) (hF2 _ _)
  refine ax_met2 [some (.ref (r + 29 + 2 * i)), some (.int (i3 a)), some (.int (i3 s)), some (.int (i3 b)), some (.int (i3 t)), none, none] (by decide) (Nat.le_of_ble_eq_true rfl) rfl ?_
  refine sbX4_findAir_0 X 0 0 _ _ _ _ _ _ _ ?_
  simp (disch := omega) only [bkX4_findAir_0, ax_ic, ax_lc, ax_nul, ax_il, ax_ll, ax_al, ax_is, ax_ls, ax_as, ax_inc, ax_iadd, ax_isub, ax_imul, ax_iand, ax_ior, ax_idiv, ax_irem, ax_ishl, ax_ishr, ax_ladd, ax_lsub, ax_lmul, ax_ldiv, ax_lrem, ax_ineg, ax_lneg, ax_i2l, ax_l2i, ax_lcmp, ax_dup, ax_pop1, ax_dupx1, ax_dup2, ax_ifeq, ax_ifne, ax_iflt, ax_ifge, ax_ifgt, ax_ifle, ax_iceq, ax_icne, ax_iclt, ax_icge, ax_icgt, ax_icle, ax_ifnull, ax_ifnn, ax_sw, ax_iret, ax_zret, ax_lret, ax_vret, ax_aret, ax_gf, ax_pfi, ax_pfz, ax_pfl, ax_pfr, ax_iald, ax_zald, ax_lald, ax_aald, ax_iast, ax_zast, ax_last, ax_aast, ax_alen, ax_ialdR, ax_alenR, ax_gst, ax_new, ax_nwi, ax_nwl, ax_nwq, ax_obj, ax_call, ax_calv, ax_nth, ax_p1, ax_p2, ax_k2, ax_nh, Value.category, lg_cmp_ge, lg_cmp_lt, lg_cmp_gt, lg_cmp_le, lg_cmp_eq, List.getElem?_cons_zero, List.getElem?_cons_succ, true_and, and_true, if_true, if_false, reduceIte, Nat.reduceEqDiff, Nat.add_eq_zero_iff, reduceCtorEq, Nat.reduceAdd, not_true_eq_false, not_false_eq_true, ax_pf, ax_popn, fv_in, fv_size, fv_drop, fv_within, fv_part, fv_cut, fv_sq, fv_absI, fv_absJ, fv_maxI, fv_minI, fv_maxJ, fv_minJ, List.map_cons, List.map_nil, List.sum_cons, List.sum_nil, Nat.reduceLeDiff, Nat.zero_le, Nat.le_refl, zb_0, zb_1, zb_em, true_or, or_true, Int32.toInt_toInt64, Nat.add_zero, fv_isGlass, fv_mayBe, fv_isReading8, fv_isHour8, fv_isPoint, fv_isReading7, fv_isRoom, fv_isWarmth, fv_isHour7, fv_isOnMap, fv_holds, fv_held, tm_eq, i3_add, i3_sub, i3_mul, i3_neg, i6_add, i6_sub, i6_mul, i6_neg, i6_I, i3_toInt, i6_toInt, i3_lt, i3_le, i3_eq, i6_lt, i6_le, i6_eq, i3_eq0, i3_eq1, i3_lt0, i3_le0, i3_gt0, i3_ge0, i6_eq0, i3_div, i6_div, i3_rem, i6_rem, i3_L, i3_nat, i3_inI, ax_up3, ax_up6]
  have e := c5 none
  refine ⟨fun q => ?_, fun q => ?_⟩
  · rw [show sealU a s b t = (a - b) * s * t by unfold sealU; rw [if_neg (by omega)]] at e ⊢
    exact e
  · rw [show sealU a s b t = -((a - b) * s * t) by unfold sealU; rw [if_pos (by omega)]] at e ⊢
    exact e
theorem m7_seal (hR : RH X r T f) (hS : Sim V T) {g a s b t : Int} (hg : -2147483648 ≤ g) (hg' : g < 2147483648) (ha : -2147483648 ≤ a) (ha' : a < 2147483648) (hs : -2147483648 ≤ s) (hs' : s < 2147483648) (hb : -2147483648 ≤ b) (hb' : b < 2147483648) (ht : -2147483648 ≤ t) (ht' : t < 2147483648) :
    ax_M X mX7_seal 0 0 [.ref r, .int (i3 g), .int (i3 a), .int (i3 s), .int (i3 b), .int (i3 t)] z f (rsq X r f z (some (.int (i3 (if 0 ≤ g ∧ g ≤ 5 then (if sealOk a s b t then (if sealU a s b t < 0 then -5 else if 0 < sealU a s b t then 1 else 0) else -2) else -1)))) (if (0 ≤ g ∧ g ≤ 5) ∧ sealOk a s b t ∧ ¬ sealU a s b t < 0 then mset (mset V 3 (ax_u (V 3) g (lowZ (sealU a s b t) (sealL s t) 0))) 4 (ax_u (V 4) g (lowZ (sealU a s b t) (sealL s t) 1)) else V)) := by
  have c0 : f r = some (.inr (6, [.ref (r + 1), .ref (r + 2), .ref (r + 7), .ref (r + 14), .ref (r + 26)])) := hR 0 (Or.inl (by decide))
  refine ax_met2 [some (.ref r), some (.int (i3 g)), some (.int (i3 a)), some (.int (i3 s)), some (.int (i3 b)), some (.int (i3 t)), none] (by decide) (Nat.le_of_ble_eq_true rfl) rfl ?_
  refine sbX7_seal_0 X 0 0 _ _ _ _ _ _ _ ?_
  simp (disch := omega) only [bkX7_seal_0, ax_ic, ax_lc, ax_nul, ax_il, ax_ll, ax_al, ax_is, ax_ls, ax_as, ax_inc, ax_iadd, ax_isub, ax_imul, ax_iand, ax_ior, ax_idiv, ax_irem, ax_ishl, ax_ishr, ax_ladd, ax_lsub, ax_lmul, ax_ldiv, ax_lrem, ax_ineg, ax_lneg, ax_i2l, ax_l2i, ax_lcmp, ax_dup, ax_pop1, ax_dupx1, ax_dup2, ax_ifeq, ax_ifne, ax_iflt, ax_ifge, ax_ifgt, ax_ifle, ax_iceq, ax_icne, ax_iclt, ax_icge, ax_icgt, ax_icle, ax_ifnull, ax_ifnn, ax_sw, ax_iret, ax_zret, ax_lret, ax_vret, ax_aret, ax_gf, ax_pfi, ax_pfz, ax_pfl, ax_pfr, ax_iald, ax_zald, ax_lald, ax_aald, ax_iast, ax_zast, ax_last, ax_aast, ax_alen, ax_ialdR, ax_alenR, ax_gst, ax_new, ax_nwi, ax_nwl, ax_nwq, ax_obj, ax_call, ax_calv, ax_nth, ax_p1, ax_p2, ax_k2, ax_nh, Value.category, lg_cmp_ge, lg_cmp_lt, lg_cmp_gt, lg_cmp_le, lg_cmp_eq, List.getElem?_cons_zero, List.getElem?_cons_succ, true_and, and_true, if_true, if_false, reduceIte, Nat.reduceEqDiff, Nat.add_eq_zero_iff, reduceCtorEq, Nat.reduceAdd, not_true_eq_false, not_false_eq_true, ax_pf, ax_popn, fv_in, fv_size, fv_drop, fv_within, fv_part, fv_cut, fv_sq, fv_absI, fv_absJ, fv_maxI, fv_minI, fv_maxJ, fv_minJ, List.map_cons, List.map_nil, List.sum_cons, List.sum_nil, Nat.reduceLeDiff, Nat.zero_le, Nat.le_refl, zb_0, zb_1, zb_em, true_or, or_true, Int32.toInt_toInt64, Nat.add_zero, fv_isGlass, fv_mayBe, fv_isReading8, fv_isHour8, fv_isPoint, fv_isReading7, fv_isRoom, fv_isWarmth, fv_isHour7, fv_isOnMap, fv_holds, fv_held, tm_eq, i3_add, i3_sub, i3_mul, i3_neg, i6_add, i6_sub, i6_mul, i6_neg, i6_I, i3_toInt, i6_toInt, i3_lt, i3_le, i3_eq, i6_lt, i6_le, i6_eq, i3_eq0, i3_eq1, i3_lt0, i3_le0, i3_gt0, i3_ge0, i6_eq0, i3_div, i6_div, i3_rem, i6_rem, i3_L, i3_nat, i3_inI, ax_up3, ax_up6]
  refine ⟨⟨_, c0⟩, ax_fn (Nat.le_of_ble_eq_true rfl) (Nat.zero_le _) (Nat.zero_le _) (m7_findGlass hR hg hg') ?_⟩
  by_cases b1 : 0 ≤ g ∧ g ≤ 5
  · rw [if_pos b1, if_pos b1]
    simp (disch := omega) only [ax_ic, ax_lc, ax_nul, ax_il, ax_ll, ax_al, ax_is, ax_ls, ax_as, ax_inc, ax_iadd, ax_isub, ax_imul, ax_iand, ax_ior, ax_idiv, ax_irem, ax_ishl, ax_ishr, ax_ladd, ax_lsub, ax_lmul, ax_ldiv, ax_lrem, ax_ineg, ax_lneg, ax_i2l, ax_l2i, ax_lcmp, ax_dup, ax_pop1, ax_dupx1, ax_dup2, ax_ifeq, ax_ifne, ax_iflt, ax_ifge, ax_ifgt, ax_ifle, ax_iceq, ax_icne, ax_iclt, ax_icge, ax_icgt, ax_icle, ax_ifnull, ax_ifnn, ax_sw, ax_iret, ax_zret, ax_lret, ax_vret, ax_aret, ax_gf, ax_pfi, ax_pfz, ax_pfl, ax_pfr, ax_iald, ax_zald, ax_lald, ax_aald, ax_iast, ax_zast, ax_last, ax_aast, ax_alen, ax_ialdR, ax_alenR, ax_gst, ax_new, ax_nwi, ax_nwl, ax_nwq, ax_obj, ax_call, ax_calv, ax_nth, ax_p1, ax_p2, ax_k2, ax_nh, Value.category, lg_cmp_ge, lg_cmp_lt, lg_cmp_gt, lg_cmp_le, lg_cmp_eq, List.getElem?_cons_zero, List.getElem?_cons_succ, true_and, and_true, if_true, if_false, reduceIte, Nat.reduceEqDiff, Nat.add_eq_zero_iff, reduceCtorEq, Nat.reduceAdd, not_true_eq_false, not_false_eq_true, ax_pf, ax_popn, fv_in, fv_size, fv_drop, fv_within, fv_part, fv_cut, fv_sq, fv_absI, fv_absJ, fv_maxI, fv_minI, fv_maxJ, fv_minJ, List.map_cons, List.map_nil, List.sum_cons, List.sum_nil, Nat.reduceLeDiff, Nat.zero_le, Nat.le_refl, zb_0, zb_1, zb_em, true_or, or_true, Int32.toInt_toInt64, Nat.add_zero, fv_isGlass, fv_mayBe, fv_isReading8, fv_isHour8, fv_isPoint, fv_isReading7, fv_isRoom, fv_isWarmth, fv_isHour7, fv_isOnMap, fv_holds, fv_held, tm_eq, i3_add, i3_sub, i3_mul, i3_neg, i6_add, i6_sub, i6_mul, i6_neg, i6_I, i3_toInt, i6_toInt, i3_lt, i3_le, i3_eq, i6_lt, i6_le, i6_eq, i3_eq0, i3_eq1, i3_lt0, i3_le0, i3_gt0, i3_ge0, i6_eq0, i3_div, i6_div, i3_rem, i6_rem, i3_L, i3_nat, i3_inI, ax_up3, ax_up6]
    have bad : ¬ sealOk a s b t → ax_Rt 0 0 (rsq X r f z (some (.int (i3 (if sealOk a s b t then (if sealU a s b t < 0 then -5 else if 0 < sealU a s b t then 1 else 0) else -2)))) (if (0 ≤ g ∧ g ≤ 5) ∧ sealOk a s b t ∧ ¬ sealU a s b t < 0 then mset (mset V 3 (ax_u (V 3) g (lowZ (sealU a s b t) (sealL s t) 0))) 4 (ax_u (V 4) g (lowZ (sealU a s b t) (sealL s t) 1)) else V)) (some (.int (i3 (-2)))) 0 0 z f := fun q => rsq0 (by rw [if_neg q]) hR (by rw [if_neg (fun d => q d.2.1)]; exact hS) RF.rfl
    refine ⟨fun q => bad (fun d => by omega), fun q1 => ⟨fun q => bad (fun d => by omega), fun q2 => ⟨fun q => bad (fun d => by omega), fun q3 => ⟨fun q => bad (fun d => by omega), fun q4 => ⟨fun q5 => ?_, fun q => bad (fun d => by omega)⟩⟩⟩⟩⟩
    have ok : sealOk a s b t := by unfold sealOk; omega
    rw [if_pos ok]
    refine ⟨⟨_, hR.gl (i := g.toNat) (by omega)⟩, ax_fr (Nat.le_of_ble_eq_true rfl) (Nat.zero_le _) (Nat.zero_le _) RF.rfl (m4_findAir hR RF.rfl (by omega) ok) (fun f1 hR1 hF1 => ?_)⟩
    simp (disch := omega) only [ax_ic, ax_lc, ax_nul, ax_il, ax_ll, ax_al, ax_is, ax_ls, ax_as, ax_inc, ax_iadd, ax_isub, ax_imul, ax_iand, ax_ior, ax_idiv, ax_irem, ax_ishl, ax_ishr, ax_ladd, ax_lsub, ax_lmul, ax_ldiv, ax_lrem, ax_ineg, ax_lneg, ax_i2l, ax_l2i, ax_lcmp, ax_dup, ax_pop1, ax_dupx1, ax_dup2, ax_ifeq, ax_ifne, ax_iflt, ax_ifge, ax_ifgt, ax_ifle, ax_iceq, ax_icne, ax_iclt, ax_icge, ax_icgt, ax_icle, ax_ifnull, ax_ifnn, ax_sw, ax_iret, ax_zret, ax_lret, ax_vret, ax_aret, ax_gf, ax_pfi, ax_pfz, ax_pfl, ax_pfr, ax_iald, ax_zald, ax_lald, ax_aald, ax_iast, ax_zast, ax_last, ax_aast, ax_alen, ax_ialdR, ax_alenR, ax_gst, ax_new, ax_nwi, ax_nwl, ax_nwq, ax_obj, ax_call, ax_calv, ax_nth, ax_p1, ax_p2, ax_k2, ax_nh, Value.category, lg_cmp_ge, lg_cmp_lt, lg_cmp_gt, lg_cmp_le, lg_cmp_eq, List.getElem?_cons_zero, List.getElem?_cons_succ, true_and, and_true, if_true, if_false, reduceIte, Nat.reduceEqDiff, Nat.add_eq_zero_iff, reduceCtorEq, Nat.reduceAdd, not_true_eq_false, not_false_eq_true, Option.toList, List.cons_append, List.nil_append]
    by_cases u : sealU a s b t < 0
    · rw [if_pos u] at hR1
      exact rsq0 rfl hR1 (by rw [if_neg (fun d => d.2.2 u)]; exact hS) hF1
    · rw [if_neg u] at hR1
      rw [if_pos (show (0 ≤ g ∧ g ≤ 5) ∧ sealOk a s b t ∧ ¬ sealU a s b t < 0 from ⟨b1, ok, u⟩)]
      have m1 := mul_bd (x := a - b) (y := s) (A := 12000) (B := 4000) (by omega) (by omega) (by omega) (by omega)
      have m2 := mul_bd (x := (a - b) * s) (y := t) (A := 48000000) (B := 4000) (by omega) (by omega) (by omega) (by omega)
      have ub : -200000000000 ≤ sealU a s b t ∧ sealU a s b t ≤ 200000000000 := by unfold sealU; split <;> omega
      have lb : 1 ≤ sealL s t ∧ sealL s t ≤ 4000 := by unfold sealL; split <;> omega
      refine rsq0 rfl hR1 ⟨fun i hi => ?_, ?_, ?_⟩ hF1
      · have s0 := hS.1 i hi
        rw [mset_n (show 30 + 2 * i ≠ 29 + 2 * g.toNat by omega)]
        refine ⟨s0.1, ?_⟩
        show (0 : Int) ≤ _ ∧ _ ≤ _ ∧ 1 ≤ _ ∧ _ ≤ _ ∧ _ = ax_u (V 3) g (lowZ (sealU a s b t) (sealL s t) 0) i ∧ _ = ax_u (V 4) g (lowZ (sealU a s b t) (sealL s t) 1) i
        by_cases e : i = g.toNat
        · subst e
          rw [mset_s, show ax_u (ax_u (T (29 + 2 * g.toNat)) 1 (sealU a s b t)) 2 (sealL s t) 1 = sealU a s b t from rfl, show ax_u (ax_u (T (29 + 2 * g.toNat)) 1 (sealU a s b t)) 2 (sealL s t) 2 = sealL s t from rfl]
          unfold ax_u
          rw [if_pos (by omega), if_pos (by omega)]
          exact ⟨by omega, by omega, by omega, by omega, rfl, rfl⟩
        · rw [mset_n (by omega), ax_u_n (by omega), ax_u_n (by omega)]
          exact s0.2
      · exact smS_eq hS.2.1 rfl rfl rfl rfl rfl rfl rfl rfl rfl rfl (by rw [mset_n (by omega)]) (fun j hj => mset_n (by omega))
      · exact smB_eq hS.2.2 rfl rfl rfl rfl rfl rfl (mset_n (by omega)) (mset_n (by omega)) (mset_n (by omega)) (mset_n (by omega)) (mset_n (by omega)) (mset_n (by omega))
  · rw [if_neg b1, if_neg b1, if_neg (fun d => b1 d.1)]
    simp (disch := omega) only [ax_ic, ax_lc, ax_nul, ax_il, ax_ll, ax_al, ax_is, ax_ls, ax_as, ax_inc, ax_iadd, ax_isub, ax_imul, ax_iand, ax_ior, ax_idiv, ax_irem, ax_ishl, ax_ishr, ax_ladd, ax_lsub, ax_lmul, ax_ldiv, ax_lrem, ax_ineg, ax_lneg, ax_i2l, ax_l2i, ax_lcmp, ax_dup, ax_pop1, ax_dupx1, ax_dup2, ax_ifeq, ax_ifne, ax_iflt, ax_ifge, ax_ifgt, ax_ifle, ax_iceq, ax_icne, ax_iclt, ax_icge, ax_icgt, ax_icle, ax_ifnull, ax_ifnn, ax_sw, ax_iret, ax_zret, ax_lret, ax_vret, ax_aret, ax_gf, ax_pfi, ax_pfz, ax_pfl, ax_pfr, ax_iald, ax_zald, ax_lald, ax_aald, ax_iast, ax_zast, ax_last, ax_aast, ax_alen, ax_ialdR, ax_alenR, ax_gst, ax_new, ax_nwi, ax_nwl, ax_nwq, ax_obj, ax_call, ax_calv, ax_nth, ax_p1, ax_p2, ax_k2, ax_nh, Value.category, lg_cmp_ge, lg_cmp_lt, lg_cmp_gt, lg_cmp_le, lg_cmp_eq, List.getElem?_cons_zero, List.getElem?_cons_succ, true_and, and_true, if_true, if_false, reduceIte, Nat.reduceEqDiff, Nat.add_eq_zero_iff, reduceCtorEq, Nat.reduceAdd, not_true_eq_false, not_false_eq_true, ax_pf, ax_popn, fv_in, fv_size, fv_drop, fv_within, fv_part, fv_cut, fv_sq, fv_absI, fv_absJ, fv_maxI, fv_minI, fv_maxJ, fv_minJ, List.map_cons, List.map_nil, List.sum_cons, List.sum_nil, Nat.reduceLeDiff, Nat.zero_le, Nat.le_refl, zb_0, zb_1, zb_em, true_or, or_true, Int32.toInt_toInt64, Nat.add_zero, fv_isGlass, fv_mayBe, fv_isReading8, fv_isHour8, fv_isPoint, fv_isReading7, fv_isRoom, fv_isWarmth, fv_isHour7, fv_isOnMap, fv_holds, fv_held, tm_eq, i3_add, i3_sub, i3_mul, i3_neg, i6_add, i6_sub, i6_mul, i6_neg, i6_I, i3_toInt, i6_toInt, i3_lt, i3_le, i3_eq, i6_lt, i6_le, i6_eq, i3_eq0, i3_eq1, i3_lt0, i3_le0, i3_gt0, i3_ge0, i6_eq0, i3_div, i6_div, i3_rem, i6_rem, i3_L, i3_nat, i3_inI, ax_up3, ax_up6]
    exact rsq0 rfl hR hS RF.rfl
end PUD
