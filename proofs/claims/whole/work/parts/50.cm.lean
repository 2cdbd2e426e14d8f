def firZ (j : Int) : Int := [(0 : Int), 100, 7600, 5, 2, 8500].getD j.toNat 0
def leaZ (j : Int) : Int := [(-50 : Int), 10, 6000, 1, 0, 8000].getD j.toNat 0
def mosZ (j : Int) : Int := [(50 : Int), 1000, 8000, 10, 30, 12000].getD j.toNat 0
def droZ (j : Int) : Int := [(40 : Int), 20, 12, 8, 5, 3, 2, 1, 1, 0].getD j.toNat 0
def susZ (j : Int) : Int := sumsT.getD j.toNat 0
/-- the five rows of the statics -/
def stOk (X : ax_X) : Prop := X.2.2.2.2.1 (X.2.2.2.2.2 0) = some (6, fun j : Nat => i3 (firZ (j : Int))) ∧ X.2.2.2.2.1 (X.2.2.2.2.2 1) = some (6, fun j : Nat => i3 (leaZ (j : Int))) ∧ X.2.2.2.2.1 (X.2.2.2.2.2 2) = some (6, fun j : Nat => i3 (mosZ (j : Int))) ∧ X.2.2.2.2.1 (X.2.2.2.2.2 3) = some (10, fun j : Nat => i3 (droZ (j : Int))) ∧ X.2.2.2.2.1 (X.2.2.2.2.2 4) = some (201, fun j : Nat => i3 (susZ (j : Int)))
theorem susZ_stp {b : Int} (h0 : 0 ≤ b) (h1 : b ≤ 200) : susZ b = stp (100 * b.toNat) := (stp_T b.toNat (by omega)).symm
/-! Euclid within so many steps -/
def euc : Nat → Nat → Nat → Nat
  | 0, a, _ => a
  | n + 1, a, b => if b = 0 then a else euc n b (a % b)
def eu2 : Nat → Nat → Nat → Nat
  | 0, _, b => b
  | n + 1, a, b => if b = 0 then 0 else eu2 n b (a % b)
def fibo : Nat → Nat × Nat
  | 0 => (1, 2)
  | n + 1 => ((fibo n).2, (fibo n).1 + (fibo n).2)
theorem euc_gcd : ∀ (n a b : Nat), eu2 n a b = 0 → euc n a b = Nat.gcd a b
  | 0, a, b, h => by
    have h' : b = 0 := h
    rw [h', Nat.gcd_zero_right]
    rfl
  | n + 1, a, b, h => by
    unfold euc
    unfold eu2 at h
    by_cases q : b = 0
    · rw [if_pos q, q, Nat.gcd_zero_right]
    · rw [if_neg q] at h ⊢
      rw [euc_gcd n b (a % b) h, Nat.gcd_comm a b, Nat.gcd_rec b a, Nat.gcd_comm]
theorem eu2_fib : ∀ (n a b : Nat), b < a → eu2 n a b ≠ 0 → (fibo n).1 ≤ b ∧ (fibo n).2 ≤ a
  | 0, a, b, h, q => by
    have q' : b ≠ 0 := q
    show 1 ≤ b ∧ 2 ≤ a
    omega
  | n + 1, a, b, h, q => by
    unfold eu2 at q
    by_cases e : b = 0
    · rw [if_pos e] at q
      exact absurd rfl q
    · rw [if_neg e] at q
      have ih := eu2_fib n b (a % b) (Nat.mod_lt _ (by omega)) q
      have m : b * 1 ≤ b * (a / b) := Nat.mul_le_mul_left _ (Nat.div_pos (by omega) (by omega))
      have d := Nat.div_add_mod a b
      show (fibo n).2 ≤ b ∧ (fibo n).1 + (fibo n).2 ≤ a
      omega
theorem euc_100 {a b : Nat} (hb : b < 9223372036854775808) : euc 100 a b = Nat.gcd a b := by
  refine euc_gcd 100 a b ?_
  refine Classical.byContradiction fun q => ?_
  unfold eu2 at q
  by_cases e : b = 0
  · rw [if_pos e] at q
    exact q rfl
  · rw [if_neg e] at q
    have := (eu2_fib 99 b (a % b) (Nat.mod_lt _ (by omega)) q).2
    have f : 9223372036854775808 ≤ (fibo 99).2 := by decide +kernel
    omega
theorem m7_cm_3 {X : ax_X} {z : Nat} {f : ax_F} : ∀ (n k x y : Nat) (q : Option Value), k + n = 100 → x < 9223372036854775808 → y < 9223372036854775808 → ax_G X mX7_commonMeasure 0 0 (ax_pv (.long (i6 (euc n x y : Nat))) z f) 3 [some (.long (i6 (x : Int))), none, some (.long (i6 (y : Int))), none, some (.int (i3 (k : Int))), q, none] [] 0 0 z f := by
  intro n
  induction n with
  | zero =>
    intro k x y q hk hx hy
    refine sbX7_commonMeasure_3 X 0 0 _ _ _ _ _ _ _ ?_
    simp (disch := omega) only [bkX7_commonMeasure_3, ax_ic, ax_lc, ax_nul, ax_il, ax_ll, ax_al, ax_is, ax_ls, ax_as, ax_inc, ax_iadd, ax_isub, ax_imul, ax_iand, ax_ior, ax_idiv, ax_irem, ax_ishl, ax_ishr, ax_ladd, ax_lsub, ax_lmul, ax_ldiv, ax_lrem, ax_ineg, ax_lneg, ax_i2l, ax_l2i, ax_lcmp, ax_dup, ax_pop1, ax_dupx1, ax_dup2, ax_ifeq, ax_ifne, ax_iflt, ax_ifge, ax_ifgt, ax_ifle, ax_iceq, ax_icne, ax_iclt, ax_icge, ax_icgt, ax_icle, ax_ifnull, ax_ifnn, ax_sw, ax_iret, ax_zret, ax_lret, ax_vret, ax_aret, ax_gf, ax_pfi, ax_pfz, ax_pfl, ax_pfr, ax_iald, ax_zald, ax_lald, ax_aald, ax_iast, ax_zast, ax_last, ax_aast, ax_alen, ax_ialdR, ax_alenR, ax_gst, ax_new, ax_nwi, ax_nwl, ax_nwq, ax_obj, ax_call, ax_calv, ax_nth, ax_p1, ax_p2, ax_k2, ax_nh, Value.category, lg_cmp_ge, lg_cmp_lt, lg_cmp_gt, lg_cmp_le, lg_cmp_eq, List.getElem?_cons_zero, List.getElem?_cons_succ, true_and, and_true, if_true, if_false, reduceIte, Nat.reduceEqDiff, Nat.add_eq_zero_iff, reduceCtorEq, Nat.reduceAdd, not_true_eq_false, not_false_eq_true, ax_pf, ax_popn, fv_in, fv_size, fv_drop, fv_within, fv_part, fv_cut, fv_sq, fv_absI, fv_absJ, fv_maxI, fv_minI, fv_maxJ, fv_minJ, List.map_cons, List.map_nil, List.sum_cons, List.sum_nil, Nat.reduceLeDiff, Nat.zero_le, Nat.le_refl, zb_0, zb_1, zb_em, true_or, or_true, Int32.toInt_toInt64, Nat.add_zero, fv_isGlass, fv_mayBe, fv_isReading8, fv_isHour8, fv_isPoint, fv_isReading7, fv_isRoom, fv_isWarmth, fv_isHour7, fv_isOnMap, fv_holds, fv_held, tm_eq, i3_add, i3_sub, i3_mul, i3_neg, i6_add, i6_sub, i6_mul, i6_neg, i6_I, i3_toInt, i6_toInt, i3_lt, i3_le, i3_eq, i6_lt, i6_le, i6_eq, i3_eq0, i3_eq1, i3_lt0, i3_le0, i3_gt0, i3_ge0, i6_eq0, i3_div, i6_div, i3_rem, i6_rem, i3_L, i3_nat, i3_inI, ax_up3, ax_up6]
    exact ⟨fun _ => ax_pv0 rfl, fun q => absurd (by omega) q⟩
  | succ n ih =>
    intro k x y q hk hx hy
    refine sbX7_commonMeasure_3 X 0 0 _ _ _ _ _ _ _ ?_
    simp (disch := omega) only [bkX7_commonMeasure_3, ax_ic, ax_lc, ax_nul, ax_il, ax_ll, ax_al, ax_is, ax_ls, ax_as, ax_inc, ax_iadd, ax_isub, ax_imul, ax_iand, ax_ior, ax_idiv, ax_irem, ax_ishl, ax_ishr, ax_ladd, ax_lsub, ax_lmul, ax_ldiv, ax_lrem, ax_ineg, ax_lneg, ax_i2l, ax_l2i, ax_lcmp, ax_dup, ax_pop1, ax_dupx1, ax_dup2, ax_ifeq, ax_ifne, ax_iflt, ax_ifge, ax_ifgt, ax_ifle, ax_iceq, ax_icne, ax_iclt, ax_icge, ax_icgt, ax_icle, ax_ifnull, ax_ifnn, ax_sw, ax_iret, ax_zret, ax_lret, ax_vret, ax_aret, ax_gf, ax_pfi, ax_pfz, ax_pfl, ax_pfr, ax_iald, ax_zald, ax_lald, ax_aald, ax_iast, ax_zast, ax_last, ax_aast, ax_alen, ax_ialdR, ax_alenR, ax_gst, ax_new, ax_nwi, ax_nwl, ax_nwq, ax_obj, ax_call, ax_calv, ax_nth, ax_p1, ax_p2, ax_k2, ax_nh, Value.category, lg_cmp_ge, lg_cmp_lt, lg_cmp_gt, lg_cmp_le, lg_cmp_eq, List.getElem?_cons_zero, List.getElem?_cons_succ, true_and, and_true, if_true, if_false, reduceIte, Nat.reduceEqDiff, Nat.add_eq_zero_iff, reduceCtorEq, Nat.reduceAdd, not_true_eq_false, not_false_eq_true, ax_pf, ax_popn, fv_in, fv_size, fv_drop, fv_within, fv_part, fv_cut, fv_sq, fv_absI, fv_absJ, fv_maxI, fv_minI, fv_maxJ, fv_minJ, List.map_cons, List.map_nil, List.sum_cons, List.sum_nil, Nat.reduceLeDiff, Nat.zero_le, Nat.le_refl, zb_0, zb_1, zb_em, true_or, or_true, Int32.toInt_toInt64, Nat.add_zero, fv_isGlass, fv_mayBe, fv_isReading8, fv_isHour8, fv_isPoint, fv_isReading7, fv_isRoom, fv_isWarmth, fv_isHour7, fv_isOnMap, fv_holds, fv_held, tm_eq, i3_add, i3_sub, i3_mul, i3_neg, i6_add, i6_sub, i6_mul, i6_neg, i6_I, i3_toInt, i6_toInt, i3_lt, i3_le, i3_eq, i6_lt, i6_le, i6_eq, i3_eq0, i3_eq1, i3_lt0, i3_le0, i3_gt0, i3_ge0, i6_eq0, i3_div, i6_div, i3_rem, i6_rem, i3_L, i3_nat, i3_inI, ax_up3, ax_up6]
    refine ⟨fun q => absurd q (by omega), fun _ => ⟨fun h => ax_pv0 ?_, fun h => ⟨h, ?_⟩⟩⟩
    · unfold euc
      rw [if_pos (by omega)]
    · have hlt : x % y < y := Nat.mod_lt _ (by omega)
      have e := ih (k + 1) y (x % y) (some (.long (i6 ((x % y : Nat) : Int)))) (by omega) hy (by omega)
      have e1 : ((x : Int).tmod (y : Int)) = ((x % y : Nat) : Int) := by
        rw [Int.tmod_eq_emod_of_nonneg (by omega)]
        exact (Int.natCast_emod x y).symm
      rw [e1, show euc (n + 1) x y = euc n y (x % y) by unfold euc; rw [if_neg (by omega)]; cases n <;> rfl]
      exact e
theorem m7_commonMeasure {X : ax_X} {z : Nat} {f : ax_F} {a b : Nat} (ha : a < 9223372036854775808) (hb : b < 9223372036854775808) : ax_M X mX7_commonMeasure 0 0 [.long (i6 (a : Int)), .long (i6 (b : Int))] z f (ax_pv (.long (i6 (Nat.gcd a b : Nat))) z f) := by
  refine ax_met2 [some (.long (i6 (a : Int))), none, some (.long (i6 (b : Int))), none, none, none, none] (by decide) (Nat.le_of_ble_eq_true rfl) rfl ?_
  refine sbX7_commonMeasure_0 X 0 0 _ _ _ _ _ _ _ ?_
  simp (disch := omega) only [bkX7_commonMeasure_0, ax_ic, ax_lc, ax_nul, ax_il, ax_ll, ax_al, ax_is, ax_ls, ax_as, ax_inc, ax_iadd, ax_isub, ax_imul, ax_iand, ax_ior, ax_idiv, ax_irem, ax_ishl, ax_ishr, ax_ladd, ax_lsub, ax_lmul, ax_ldiv, ax_lrem, ax_ineg, ax_lneg, ax_i2l, ax_l2i, ax_lcmp, ax_dup, ax_pop1, ax_dupx1, ax_dup2, ax_ifeq, ax_ifne, ax_iflt, ax_ifge, ax_ifgt, ax_ifle, ax_iceq, ax_icne, ax_iclt, ax_icge, ax_icgt, ax_icle, ax_ifnull, ax_ifnn, ax_sw, ax_iret, ax_zret, ax_lret, ax_vret, ax_aret, ax_gf, ax_pfi, ax_pfz, ax_pfl, ax_pfr, ax_iald, ax_zald, ax_lald, ax_aald, ax_iast, ax_zast, ax_last, ax_aast, ax_alen, ax_ialdR, ax_alenR, ax_gst, ax_new, ax_nwi, ax_nwl, ax_nwq, ax_obj, ax_call, ax_calv, ax_nth, ax_p1, ax_p2, ax_k2, ax_nh, Value.category, lg_cmp_ge, lg_cmp_lt, lg_cmp_gt, lg_cmp_le, lg_cmp_eq, List.getElem?_cons_zero, List.getElem?_cons_succ, true_and, and_true, if_true, if_false, reduceIte, Nat.reduceEqDiff, Nat.add_eq_zero_iff, reduceCtorEq, Nat.reduceAdd, not_true_eq_false, not_false_eq_true, ax_pf, ax_popn, fv_in, fv_size, fv_drop, fv_within, fv_part, fv_cut, fv_sq, fv_absI, fv_absJ, fv_maxI, fv_minI, fv_maxJ, fv_minJ, List.map_cons, List.map_nil, List.sum_cons, List.sum_nil, Nat.reduceLeDiff, Nat.zero_le, Nat.le_refl, zb_0, zb_1, zb_em, true_or, or_true, Int32.toInt_toInt64, Nat.add_zero, fv_isGlass, fv_mayBe, fv_isReading8, fv_isHour8, fv_isPoint, fv_isReading7, fv_isRoom, fv_isWarmth, fv_isHour7, fv_isOnMap, fv_holds, fv_held, tm_eq, i3_add, i3_sub, i3_mul, i3_neg, i6_add, i6_sub, i6_mul, i6_neg, i6_I, i3_toInt, i6_toInt, i3_lt, i3_le, i3_eq, i6_lt, i6_le, i6_eq, i3_eq0, i3_eq1, i3_lt0, i3_le0, i3_gt0, i3_ge0, i6_eq0, i3_div, i6_div, i3_rem, i6_rem, i3_L, i3_nat, i3_inI, ax_up3, ax_up6]
  rw [← euc_100 hb]
  exact m7_cm_3 100 0 a b none (by omega) ha hb
theorem m7_fractionPart {X : ax_X} {z : Nat} {f : ax_F} {u l p : Int} (hu : -9223372036854775807 < u) (hu' : u < 9223372036854775807) (hl : 1 ≤ l) (hl' : l < 9223372036854775807) (hp : -2147483648 ≤ p) (hp' : p < 2147483648) : ax_M X mX7_fractionPart 0 0 [.long (i6 u), .long (i6 l), .int (i3 p)] z f (ax_pv (.long (i6 (lowZ u l p))) z f) := by
  refine ax_met2 [some (.long (i6 u)), none, some (.long (i6 l)), none, some (.int (i3 p)), none, none] (by decide) (Nat.le_of_ble_eq_true rfl) rfl ?_
  refine sbX7_fractionPart_0 X 0 0 _ _ _ _ _ _ _ ?_
  simp (disch := omega) only [bkX7_fractionPart_0, ax_ic, ax_lc, ax_nul, ax_il, ax_ll, ax_al, ax_is, ax_ls, ax_as, ax_inc, ax_iadd, ax_isub, ax_imul, ax_iand, ax_ior, ax_idiv, ax_irem, ax_ishl, ax_ishr, ax_ladd, ax_lsub, ax_lmul, ax_ldiv, ax_lrem, ax_ineg, ax_lneg, ax_i2l, ax_l2i, ax_lcmp, ax_dup, ax_pop1, ax_dupx1, ax_dup2, ax_ifeq, ax_ifne, ax_iflt, ax_ifge, ax_ifgt, ax_ifle, ax_iceq, ax_icne, ax_iclt, ax_icge, ax_icgt, ax_icle, ax_ifnull, ax_ifnn, ax_sw, ax_iret, ax_zret, ax_lret, ax_vret, ax_aret, ax_gf, ax_pfi, ax_pfz, ax_pfl, ax_pfr, ax_iald, ax_zald, ax_lald, ax_aald, ax_iast, ax_zast, ax_last, ax_aast, ax_alen, ax_ialdR, ax_alenR, ax_gst, ax_new, ax_nwi, ax_nwl, ax_nwq, ax_obj, ax_call, ax_calv, ax_nth, ax_p1, ax_p2, ax_k2, ax_nh, Value.category, lg_cmp_ge, lg_cmp_lt, lg_cmp_gt, lg_cmp_le, lg_cmp_eq, List.getElem?_cons_zero, List.getElem?_cons_succ, true_and, and_true, if_true, if_false, reduceIte, Nat.reduceEqDiff, Nat.add_eq_zero_iff, reduceCtorEq, Nat.reduceAdd, not_true_eq_false, not_false_eq_true, ax_pf, ax_popn, fv_in, fv_size, fv_drop, fv_within, fv_part, fv_cut, fv_sq, fv_absI, fv_absJ, fv_maxI, fv_minI, fv_maxJ, fv_minJ, List.map_cons, List.map_nil, List.sum_cons, List.sum_nil, Nat.reduceLeDiff, Nat.zero_le, Nat.le_refl, zb_0, zb_1, zb_em, true_or, or_true, Int32.toInt_toInt64, Nat.add_zero, fv_isGlass, fv_mayBe, fv_isReading8, fv_isHour8, fv_isPoint, fv_isReading7, fv_isRoom, fv_isWarmth, fv_isHour7, fv_isOnMap, fv_holds, fv_held, tm_eq, i3_add, i3_sub, i3_mul, i3_neg, i6_add, i6_sub, i6_mul, i6_neg, i6_I, i3_toInt, i6_toInt, i3_lt, i3_le, i3_eq, i6_lt, i6_le, i6_eq, i3_eq0, i3_eq1, i3_lt0, i3_le0, i3_gt0, i3_ge0, i6_eq0, i3_div, i6_div, i3_rem, i6_rem, i3_L, i3_nat, i3_inI, ax_up3, ax_up6]
  have e : (if (0 : Int64) < i6 u then i6 u else i6 (-u)) = i6 (u.natAbs : Int) := by
    rw [show (0 : Int64) = i6 0 from rfl]
    by_cases q : 0 < u
    · rw [if_pos ((i6_lt (by omega) (by omega) (by omega) (by omega)).mpr q)]
      congr 1
      omega
    · rw [if_neg (fun r => q ((i6_lt (by omega) (by omega) (by omega) (by omega)).mp r))]
      congr 1
      omega
  rw [e]
  obtain ⟨m, rfl⟩ : ∃ m : Nat, l = (m : Int) := ⟨l.toNat, by omega⟩
  refine ax_fn (Nat.le_of_ble_eq_true rfl) (Nat.zero_le _) (Nat.zero_le _) (m7_commonMeasure (a := u.natAbs) (b := m) (by omega) (by omega)) ?_
  have hg : Nat.gcd u.natAbs m ≠ 0 := by
    intro q
    have := Nat.eq_zero_of_gcd_eq_zero_right q
    omega
  have hg2 : Nat.gcd u.natAbs m ≤ m := Nat.le_of_dvd (by omega) (Nat.gcd_dvd_right _ _)
  simp (disch := omega) only [ax_ic, ax_lc, ax_nul, ax_il, ax_ll, ax_al, ax_is, ax_ls, ax_as, ax_inc, ax_iadd, ax_isub, ax_imul, ax_iand, ax_ior, ax_idiv, ax_irem, ax_ishl, ax_ishr, ax_ladd, ax_lsub, ax_lmul, ax_ldiv, ax_lrem, ax_ineg, ax_lneg, ax_i2l, ax_l2i, ax_lcmp, ax_dup, ax_pop1, ax_dupx1, ax_dup2, ax_ifeq, ax_ifne, ax_iflt, ax_ifge, ax_ifgt, ax_ifle, ax_iceq, ax_icne, ax_iclt, ax_icge, ax_icgt, ax_icle, ax_ifnull, ax_ifnn, ax_sw, ax_iret, ax_zret, ax_lret, ax_vret, ax_aret, ax_gf, ax_pfi, ax_pfz, ax_pfl, ax_pfr, ax_iald, ax_zald, ax_lald, ax_aald, ax_iast, ax_zast, ax_last, ax_aast, ax_alen, ax_ialdR, ax_alenR, ax_gst, ax_new, ax_nwi, ax_nwl, ax_nwq, ax_obj, ax_call, ax_calv, ax_nth, ax_p1, ax_p2, ax_k2, ax_nh, Value.category, lg_cmp_ge, lg_cmp_lt, lg_cmp_gt, lg_cmp_le, lg_cmp_eq, List.getElem?_cons_zero, List.getElem?_cons_succ, true_and, and_true, if_true, if_false, reduceIte, Nat.reduceEqDiff, Nat.add_eq_zero_iff, reduceCtorEq, Nat.reduceAdd, not_true_eq_false, not_false_eq_true, ax_pf, ax_popn, fv_in, fv_size, fv_drop, fv_within, fv_part, fv_cut, fv_sq, fv_absI, fv_absJ, fv_maxI, fv_minI, fv_maxJ, fv_minJ, List.map_cons, List.map_nil, List.sum_cons, List.sum_nil, Nat.reduceLeDiff, Nat.zero_le, Nat.le_refl, zb_0, zb_1, zb_em, true_or, or_true, Int32.toInt_toInt64, Nat.add_zero, fv_isGlass, fv_mayBe, fv_isReading8, fv_isHour8, fv_isPoint, fv_isReading7, fv_isRoom, fv_isWarmth, fv_isHour7, fv_isOnMap, fv_holds, fv_held, tm_eq, i3_add, i3_sub, i3_mul, i3_neg, i6_add, i6_sub, i6_mul, i6_neg, i6_I, i3_toInt, i6_toInt, i3_lt, i3_le, i3_eq, i6_lt, i6_le, i6_eq, i3_eq0, i3_eq1, i3_lt0, i3_le0, i3_gt0, i3_ge0, i6_eq0, i3_div, i6_div, i3_rem, i6_rem, i3_L, i3_nat, i3_inI, ax_up3, ax_up6]
  unfold lowZ
  have hgg : Int.gcd u (m : Int) = Nat.gcd u.natAbs m := by rw [Int.gcd_eq_natAbs_gcd_natAbs, Int.natAbs_natCast]
  rw [hgg]
  refine ⟨fun h => ax_pv0 ?_, fun h => ax_pv0 ?_⟩
  · rw [if_neg h, if_neg (by omega)]
  · rw [if_pos h, if_neg (by omega)]
