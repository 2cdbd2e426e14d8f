def pcT (u : Nat) : Nat := (if u.testBit 0 then 1 else 0) + (if u.testBit 1 then 1 else 0) + (if u.testBit 2 then 1 else 0) + (if u.testBit 3 then 1 else 0) + (if u.testBit 4 then 1 else 0)
/-- the column that stands behind so many that are not used -/
def pkZ (u : Nat) : Nat → Nat → Nat → Nat
  | 0, _, c => c
  | n + 1, sk, c => if u.testBit c then pkZ u n sk (c + 1) else if sk = 0 then c else pkZ u n (sk - 1) (c + 1)
def pkOk (u : Nat) : Nat → Nat → Nat → Bool
  | 0, _, _ => false
  | n + 1, sk, c => if u.testBit c then pkOk u n sk (c + 1) else if sk = 0 then decide (c < 5) else pkOk u n (sk - 1) (c + 1)
theorem pk_all : ∀ w : Fin 6, ∀ u : Fin 32, ∀ sk : Fin 5, u.val < 2 ^ w.val → sk.val + pcT u.val < w.val → pkOk u.val 6 sk.val 0 = true ∧ pkZ u.val 6 sk.val 0 < w.val ∧ u.val.testBit (pkZ u.val 6 sk.val 0) = false ∧ pcT (u.val ||| 2 ^ pkZ u.val 6 sk.val 0) = pcT u.val + 1 ∧ (u.val ||| 2 ^ pkZ u.val 6 sk.val 0) < 2 ^ w.val := by decide
/-- one way through the rows -/
def tmR (g : Int → Int) : Nat → Nat → Nat → Nat → Int → Int
  | 0, _, _, _, p => p
  | n + 1, r, l, u, p => tmR g n (r + 1) (l / (n + 1)) (u ||| 2 ^ pkZ u 6 (l % (n + 1)) 0) ((if l % (n + 1) % 2 = 0 then p else -p) * g (5 * r + pkZ u 6 (l % (n + 1)) 0))
def dtS (g : Int → Int) (w : Nat) : Nat → Int
  | 0 => 0
  | i + 1 => dtS g w i + tmR g w 0 i 0 1
def facT : Nat → Nat
  | 0 => 1
  | 1 => 1
  | n + 2 => facT (n + 1) * (n + 2)
def dtR (g : Int → Int) (w : Nat) : Int := dtS g w (facT w)
/-- the while within: at column c with so many to pass over -/
theorem m8_dt_99 {X : ax_X} {o z : Nat} {V : Nat → Int → Int} {f : ax_F} {R : Option Value → Nat → ax_F → Prop} (hM : MH X o V f) {u r : Nat} {x1 x4 x5 : Int32} {x2 : Int64} {p : Int} (hu : u < 32) (hr : r < 5) {C : Nat}
    (hk : ∀ b c : Option Value, ax_G X mX8_determinant 0 0 R 46 [some (.ref o), some (.int x1), some (.long x2), none, some (.int x4), some (.int x5), some (.int (i3 ((u ||| 2 ^ C : Nat) : Int))), some (.long (i6 (p * V 18 (5 * r + C)))), none, some (.int (i3 ((r : Int) + 1))), b, c] [] 0 0 z f) :
    ∀ (n sk c : Nat), c + n = 6 → sk ≤ 5 → pkOk u n sk c = true → pkZ u n sk c = C → ax_G X mX8_determinant 0 0 R 99 [some (.ref o), some (.int x1), some (.long x2), none, some (.int x4), some (.int x5), some (.int (i3 (u : Int))), some (.long (i6 p)), none, some (.int (i3 (r : Int))), some (.int (i3 (sk : Int))), some (.int (i3 (c : Int)))] [] 0 0 z f := by
  have m0 : f o = some (.inr (7, [.ref (o + 1), .ref (o + 2), .ref (o + 3), .ref (o + 4), .ref (o + 5), .ref (o + 6), .ref (o + 7), .ref (o + 8), .int (i3 (V 0 8)), .ref (o + 9), .ref (o + 10), .ref (o + 11), .ref (o + 12), .ref (o + 13), .int (i3 (V 0 14)), .ref (o + 14), .ref (o + 15), .ref (o + 16), .ref (o + 17), .int (i3 (V 0 19)), .ref (o + 18), .int (i3 (V 0 21)), .ref (o + 19), .long (i6 (V 0 23)), .ref (o + 20), .ref (o + 21), .ref (o + 22), .ref (o + 23), .int (i3 (V 0 28)), .long (i6 (V 0 29)), .long (i6 (V 0 30)), .ref (o + 24), .ref (o + 25)])) := hM 0 (by decide)
  have m18 : f (o + 18) = some (.inl (X.2.2.1 1, 25, .inr (.inl (fun j : Nat => i6 (V 18 (j : Int)))))) := hM 18 (by decide)
  intro n
  induction n with
  | zero => intro sk c hc hs ho; exact absurd ho (by simp [pkOk])
  | succ n ih =>
    intro sk c hc hs ho he
    unfold pkOk at ho
    unfold pkZ at he
    generalize hB : u.testBit c = B at ho he
    have at115 : B = true ∨ 0 < sk → ax_G X mX8_determinant 0 0 R 115 [some (.ref o), some (.int x1), some (.long x2), none, some (.int x4), some (.int x5), some (.int (i3 (u : Int))), some (.long (i6 p)), none, some (.int (i3 (r : Int))), some (.int (i3 (sk : Int))), some (.int (i3 (c : Int)))] [] 0 0 z f := by
      intro hq
      refine sbX8_determinant_115 X 0 0 _ _ _ _ _ _ _ ?_
      simp (disch := omega) only [bkX8_determinant_115, ax_ic, ax_lc, ax_nul, ax_il, ax_ll, ax_al, ax_is, ax_ls, ax_as, ax_inc, ax_iadd, ax_isub, ax_imul, ax_iand, ax_ior, ax_idiv, ax_irem, ax_ishl, ax_ishr, ax_ladd, ax_lsub, ax_lmul, ax_ldiv, ax_lrem, ax_ineg, ax_lneg, ax_i2l, ax_l2i, ax_lcmp, ax_dup, ax_pop1, ax_dupx1, ax_dup2, ax_ifeq, ax_ifne, ax_iflt, ax_ifge, ax_ifgt, ax_ifle, ax_iceq, ax_icne, ax_iclt, ax_icge, ax_icgt, ax_icle, ax_ifnull, ax_ifnn, ax_sw, ax_iret, ax_zret, ax_lret, ax_vret, ax_aret, ax_gf, ax_pfi, ax_pfz, ax_pfl, ax_pfr, ax_iald, ax_zald, ax_lald, ax_aald, ax_iast, ax_zast, ax_last, ax_aast, ax_alen, ax_ialdR, ax_alenR, ax_gst, ax_new, ax_nwi, ax_nwl, ax_nwq, ax_obj, ax_call, ax_calv, ax_nth, ax_p1, ax_p2, ax_k2, ax_nh, Value.category, lg_cmp_ge, lg_cmp_lt, lg_cmp_gt, lg_cmp_le, lg_cmp_eq, List.getElem?_cons_zero, List.getElem?_cons_succ, true_and, and_true, if_true, if_false, reduceIte, Nat.reduceEqDiff, Nat.add_eq_zero_iff, reduceCtorEq, Nat.reduceAdd, not_true_eq_false, not_false_eq_true, ax_pf, ax_popn, fv_in, fv_size, fv_drop, fv_within, fv_part, fv_cut, fv_sq, fv_absI, fv_absJ, fv_maxI, fv_minI, fv_maxJ, fv_minJ, List.map_cons, List.map_nil, List.sum_cons, List.sum_nil, Nat.reduceLeDiff, Nat.zero_le, Nat.le_refl, zb_0, zb_1, zb_em, true_or, or_true, Int32.toInt_toInt64, Nat.add_zero, fv_isGlass, fv_mayBe, fv_isReading8, fv_isHour8, fv_isPoint, fv_isReading7, fv_isRoom, fv_isWarmth, fv_isHour7, fv_isOnMap, fv_holds, fv_held, tm_eq, i3_add, i3_sub, i3_mul, i3_neg, i6_add, i6_sub, i6_mul, i6_neg, i6_I, i3_toInt, i6_toInt, i3_lt, i3_le, i3_eq, i6_lt, i6_le, i6_eq, i3_eq0, i3_eq1, i3_lt0, i3_le0, i3_gt0, i3_ge0, i6_eq0, i3_div, i6_div, i3_rem, i6_rem, i3_L, i3_nat, i3_inI, ax_up3, ax_up6, m0, bt_bit, Int.toNat_natCast, hB]
      cases B with
      | false =>
        simp only [Bool.false_eq_true, if_false] at ho he
        have hs0 : 0 < sk := by rcases hq with q | q; exact absurd q (by decide); exact q
        rw [if_neg (by omega)] at ho he
        refine ⟨fun _ => ?_, fun q => absurd q (by decide)⟩
        rw [show (sk : Int) - 1 = ((sk - 1 : Nat) : Int) by omega]
        exact ih (sk - 1) (c + 1) (by omega) (by omega) ho he
      | true =>
        rw [if_pos rfl] at ho he
        refine ⟨fun q => absurd rfl q, fun _ => ?_⟩
        rw [Int.sub_zero]
        exact ih sk (c + 1) (by omega) hs ho he
    refine sbX8_determinant_99 X 0 0 _ _ _ _ _ _ _ ?_
    simp (disch := omega) only [bkX8_determinant_99, ax_ic, ax_lc, ax_nul, ax_il, ax_ll, ax_al, ax_is, ax_ls, ax_as, ax_inc, ax_iadd, ax_isub, ax_imul, ax_iand, ax_ior, ax_idiv, ax_irem, ax_ishl, ax_ishr, ax_ladd, ax_lsub, ax_lmul, ax_ldiv, ax_lrem, ax_ineg, ax_lneg, ax_i2l, ax_l2i, ax_lcmp, ax_dup, ax_pop1, ax_dupx1, ax_dup2, ax_ifeq, ax_ifne, ax_iflt, ax_ifge, ax_ifgt, ax_ifle, ax_iceq, ax_icne, ax_iclt, ax_icge, ax_icgt, ax_icle, ax_ifnull, ax_ifnn, ax_sw, ax_iret, ax_zret, ax_lret, ax_vret, ax_aret, ax_gf, ax_pfi, ax_pfz, ax_pfl, ax_pfr, ax_iald, ax_zald, ax_lald, ax_aald, ax_iast, ax_zast, ax_last, ax_aast, ax_alen, ax_ialdR, ax_alenR, ax_gst, ax_new, ax_nwi, ax_nwl, ax_nwq, ax_obj, ax_call, ax_calv, ax_nth, ax_p1, ax_p2, ax_k2, ax_nh, Value.category, lg_cmp_ge, lg_cmp_lt, lg_cmp_gt, lg_cmp_le, lg_cmp_eq, List.getElem?_cons_zero, List.getElem?_cons_succ, true_and, and_true, if_true, if_false, reduceIte, Nat.reduceEqDiff, Nat.add_eq_zero_iff, reduceCtorEq, Nat.reduceAdd, not_true_eq_false, not_false_eq_true, ax_pf, ax_popn, fv_in, fv_size, fv_drop, fv_within, fv_part, fv_cut, fv_sq, fv_absI, fv_absJ, fv_maxI, fv_minI, fv_maxJ, fv_minJ, List.map_cons, List.map_nil, List.sum_cons, List.sum_nil, Nat.reduceLeDiff, Nat.zero_le, Nat.le_refl, zb_0, zb_1, zb_em, true_or, or_true, Int32.toInt_toInt64, Nat.add_zero, fv_isGlass, fv_mayBe, fv_isReading8, fv_isHour8, fv_isPoint, fv_isReading7, fv_isRoom, fv_isWarmth, fv_isHour7, fv_isOnMap, fv_holds, fv_held, tm_eq, i3_add, i3_sub, i3_mul, i3_neg, i6_add, i6_sub, i6_mul, i6_neg, i6_I, i3_toInt, i6_toInt, i3_lt, i3_le, i3_eq, i6_lt, i6_le, i6_eq, i3_eq0, i3_eq1, i3_lt0, i3_le0, i3_gt0, i3_ge0, i6_eq0, i3_div, i6_div, i3_rem, i6_rem, i3_L, i3_nat, i3_inI, ax_up3, ax_up6, m0, bt_bit, bt_set, Int.toNat_natCast, hB]
    refine ⟨fun q => at115 (Or.inl ?_), fun q => ⟨fun q2 => ?_, fun q2 => at115 (Or.inr (by omega))⟩⟩
    · cases B with
      | false => exact absurd q (by decide)
      | true => rfl
    · cases B with
      | true => exact absurd rfl q
      | false =>
        simp only [Bool.false_eq_true, if_false] at ho he
        rw [if_pos (by omega)] at ho he
        have hc5 : c < 5 := of_decide_eq_true ho
        subst he
        simp (disch := omega) only [ax_ic, ax_lc, ax_nul, ax_il, ax_ll, ax_al, ax_is, ax_ls, ax_as, ax_inc, ax_iadd, ax_isub, ax_imul, ax_iand, ax_ior, ax_idiv, ax_irem, ax_ishl, ax_ishr, ax_ladd, ax_lsub, ax_lmul, ax_ldiv, ax_lrem, ax_ineg, ax_lneg, ax_i2l, ax_l2i, ax_lcmp, ax_dup, ax_pop1, ax_dupx1, ax_dup2, ax_ifeq, ax_ifne, ax_iflt, ax_ifge, ax_ifgt, ax_ifle, ax_iceq, ax_icne, ax_iclt, ax_icge, ax_icgt, ax_icle, ax_ifnull, ax_ifnn, ax_sw, ax_iret, ax_zret, ax_lret, ax_vret, ax_aret, ax_gf, ax_pfi, ax_pfz, ax_pfl, ax_pfr, ax_iald, ax_zald, ax_lald, ax_aald, ax_iast, ax_zast, ax_last, ax_aast, ax_alen, ax_ialdR, ax_alenR, ax_gst, ax_new, ax_nwi, ax_nwl, ax_nwq, ax_obj, ax_call, ax_calv, ax_nth, ax_p1, ax_p2, ax_k2, ax_nh, Value.category, lg_cmp_ge, lg_cmp_lt, lg_cmp_gt, lg_cmp_le, lg_cmp_eq, List.getElem?_cons_zero, List.getElem?_cons_succ, true_and, and_true, if_true, if_false, reduceIte, Nat.reduceEqDiff, Nat.add_eq_zero_iff, reduceCtorEq, Nat.reduceAdd, not_true_eq_false, not_false_eq_true, ax_pf, ax_popn, fv_in, fv_size, fv_drop, fv_within, fv_part, fv_cut, fv_sq, fv_absI, fv_absJ, fv_maxI, fv_minI, fv_maxJ, fv_minJ, List.map_cons, List.map_nil, List.sum_cons, List.sum_nil, Nat.reduceLeDiff, Nat.zero_le, Nat.le_refl, zb_0, zb_1, zb_em, true_or, or_true, Int32.toInt_toInt64, Nat.add_zero, fv_isGlass, fv_mayBe, fv_isReading8, fv_isHour8, fv_isPoint, fv_isReading7, fv_isRoom, fv_isWarmth, fv_isHour7, fv_isOnMap, fv_holds, fv_held, tm_eq, i3_add, i3_sub, i3_mul, i3_neg, i6_add, i6_sub, i6_mul, i6_neg, i6_I, i3_toInt, i6_toInt, i3_lt, i3_le, i3_eq, i6_lt, i6_le, i6_eq, i3_eq0, i3_eq1, i3_lt0, i3_le0, i3_gt0, i3_ge0, i6_eq0, i3_div, i6_div, i3_rem, i6_rem, i3_L, i3_nat, i3_inI, ax_up3, ax_up6, m18]
        exact ⟨⟨by omega, by omega⟩, hk _ _⟩
theorem m8_dt_46 {X : ax_X} {o z : Nat} {V : Nat → Int → Int} {f : ax_F} {R : Option Value → Nat → ax_F → Prop} (hM : MH X o V f) {w : Nat} (hw : 1 ≤ w) (hw' : w ≤ 5) (h21 : V 0 21 = (w : Int)) {i : Nat} {x1 : Int32} {s : Int} {T : Int}
    (hk : ∀ a b c d e g : Option Value, ax_G X mX8_determinant 0 0 R 27 [some (.ref o), some (.int x1), some (.long (i6 (s + T))), none, some (.int (i3 ((i : Int) + 1))), a, b, c, none, d, e, g] [] 0 0 z f) :
    ∀ (n r l u : Nat) (p : Int) (b c : Option Value), r + n = w → l < 120 → pcT u = r → u < 2 ^ w → tmR (V 18) n r l u p = T → ax_G X mX8_determinant 0 0 R 46 [some (.ref o), some (.int x1), some (.long (i6 s)), none, some (.int (i3 (i : Int))), some (.int (i3 (l : Int))), some (.int (i3 (u : Int))), some (.long (i6 p)), none, some (.int (i3 (r : Int))), b, c] [] 0 0 z f := by
  have m0 : f o = some (.inr (7, [.ref (o + 1), .ref (o + 2), .ref (o + 3), .ref (o + 4), .ref (o + 5), .ref (o + 6), .ref (o + 7), .ref (o + 8), .int (i3 (V 0 8)), .ref (o + 9), .ref (o + 10), .ref (o + 11), .ref (o + 12), .ref (o + 13), .int (i3 (V 0 14)), .ref (o + 14), .ref (o + 15), .ref (o + 16), .ref (o + 17), .int (i3 (V 0 19)), .ref (o + 18), .int (i3 (V 0 21)), .ref (o + 19), .long (i6 (V 0 23)), .ref (o + 20), .ref (o + 21), .ref (o + 22), .ref (o + 23), .int (i3 (V 0 28)), .long (i6 (V 0 29)), .long (i6 (V 0 30)), .ref (o + 24), .ref (o + 25)])) := hM 0 (by decide)
  intro n
  induction n with
  | zero =>
    intro r l u p b c hn hl hp hu ht
    unfold tmR at ht
    subst ht
    refine sbX8_determinant_46 X 0 0 _ _ _ _ _ _ _ ?_
    simp (disch := omega) only [bkX8_determinant_46, ax_ic, ax_lc, ax_nul, ax_il, ax_ll, ax_al, ax_is, ax_ls, ax_as, ax_inc, ax_iadd, ax_isub, ax_imul, ax_iand, ax_ior, ax_idiv, ax_irem, ax_ishl, ax_ishr, ax_ladd, ax_lsub, ax_lmul, ax_ldiv, ax_lrem, ax_ineg, ax_lneg, ax_i2l, ax_l2i, ax_lcmp, ax_dup, ax_pop1, ax_dupx1, ax_dup2, ax_ifeq, ax_ifne, ax_iflt, ax_ifge, ax_ifgt, ax_ifle, ax_iceq, ax_icne, ax_iclt, ax_icge, ax_icgt, ax_icle, ax_ifnull, ax_ifnn, ax_sw, ax_iret, ax_zret, ax_lret, ax_vret, ax_aret, ax_gf, ax_pfi, ax_pfz, ax_pfl, ax_pfr, ax_iald, ax_zald, ax_lald, ax_aald, ax_iast, ax_zast, ax_last, ax_aast, ax_alen, ax_ialdR, ax_alenR, ax_gst, ax_new, ax_nwi, ax_nwl, ax_nwq, ax_obj, ax_call, ax_calv, ax_nth, ax_p1, ax_p2, ax_k2, ax_nh, Value.category, lg_cmp_ge, lg_cmp_lt, lg_cmp_gt, lg_cmp_le, lg_cmp_eq, List.getElem?_cons_zero, List.getElem?_cons_succ, true_and, and_true, if_true, if_false, reduceIte, Nat.reduceEqDiff, Nat.add_eq_zero_iff, reduceCtorEq, Nat.reduceAdd, not_true_eq_false, not_false_eq_true, ax_pf, ax_popn, fv_in, fv_size, fv_drop, fv_within, fv_part, fv_cut, fv_sq, fv_absI, fv_absJ, fv_maxI, fv_minI, fv_maxJ, fv_minJ, List.map_cons, List.map_nil, List.sum_cons, List.sum_nil, Nat.reduceLeDiff, Nat.zero_le, Nat.le_refl, zb_0, zb_1, zb_em, true_or, or_true, Int32.toInt_toInt64, Nat.add_zero, fv_isGlass, fv_mayBe, fv_isReading8, fv_isHour8, fv_isPoint, fv_isReading7, fv_isRoom, fv_isWarmth, fv_isHour7, fv_isOnMap, fv_holds, fv_held, tm_eq, i3_add, i3_sub, i3_mul, i3_neg, i6_add, i6_sub, i6_mul, i6_neg, i6_I, i3_toInt, i6_toInt, i3_lt, i3_le, i3_eq, i6_lt, i6_le, i6_eq, i3_eq0, i3_eq1, i3_lt0, i3_le0, i3_gt0, i3_ge0, i6_eq0, i3_div, i6_div, i3_rem, i6_rem, i3_L, i3_nat, i3_inI, ax_up3, ax_up6, m0]
    exact ⟨fun _ => hk _ _ _ _ _ _, fun q => absurd (by omega) q⟩
  | succ n ih =>
    intro r l u p b c hn hl hp hu ht
    have h32 : u < 32 := Nat.lt_of_lt_of_le hu (Nat.pow_le_pow_right (n := 2) (by omega) (show w ≤ 5 from hw'))
    have hsk : l % (n + 1) < n + 1 := Nat.mod_lt _ (by omega)
    have hld : l / (n + 1) ≤ l := Nat.div_le_self _ _
    obtain ⟨k1, k2, k3, k4, k5⟩ := pk_all ⟨w, by omega⟩ ⟨u, h32⟩ ⟨l % (n + 1), by omega⟩ hu (by simp only; omega)
    simp only at k1 k2 k3 k4 k5
    rw [show tmR (V 18) (n + 1) r l u p = tmR (V 18) n (r + 1) (l / (n + 1)) (u ||| 2 ^ pkZ u 6 (l % (n + 1)) 0) ((if l % (n + 1) % 2 = 0 then p else -p) * V 18 (5 * r + pkZ u 6 (l % (n + 1)) 0)) from rfl] at ht
    have e0 : V 0 21 - (r : Int) = ((n + 1 : Nat) : Int) := by omega
    have e1 : (l : Int).tmod ((n + 1 : Nat) : Int) = ((l % (n + 1) : Nat) : Int) := rfl
    have e2 : (l : Int).tdiv ((n + 1 : Nat) : Int) = ((l / (n + 1) : Nat) : Int) := rfl
    have e3 : ((l % (n + 1) : Nat) : Int).tmod 2 = ((l % (n + 1) % 2 : Nat) : Int) := rfl
    have e4 : (l : Int) - ((l / (n + 1) : Nat) : Int) * ((n + 1 : Nat) : Int) = ((l % (n + 1) : Nat) : Int) := by
      rw [← e2, tm_eq, e1]
    refine sbX8_determinant_46 X 0 0 _ _ _ _ _ _ _ ?_
    simp (disch := omega) only [bkX8_determinant_46, ax_ic, ax_lc, ax_nul, ax_il, ax_ll, ax_al, ax_is, ax_ls, ax_as, ax_inc, ax_iadd, ax_isub, ax_imul, ax_iand, ax_ior, ax_idiv, ax_irem, ax_ishl, ax_ishr, ax_ladd, ax_lsub, ax_lmul, ax_ldiv, ax_lrem, ax_ineg, ax_lneg, ax_i2l, ax_l2i, ax_lcmp, ax_dup, ax_pop1, ax_dupx1, ax_dup2, ax_ifeq, ax_ifne, ax_iflt, ax_ifge, ax_ifgt, ax_ifle, ax_iceq, ax_icne, ax_iclt, ax_icge, ax_icgt, ax_icle, ax_ifnull, ax_ifnn, ax_sw, ax_iret, ax_zret, ax_lret, ax_vret, ax_aret, ax_gf, ax_pfi, ax_pfz, ax_pfl, ax_pfr, ax_iald, ax_zald, ax_lald, ax_aald, ax_iast, ax_zast, ax_last, ax_aast, ax_alen, ax_ialdR, ax_alenR, ax_gst, ax_new, ax_nwi, ax_nwl, ax_nwq, ax_obj, ax_call, ax_calv, ax_nth, ax_p1, ax_p2, ax_k2, ax_nh, Value.category, lg_cmp_ge, lg_cmp_lt, lg_cmp_gt, lg_cmp_le, lg_cmp_eq, List.getElem?_cons_zero, List.getElem?_cons_succ, true_and, and_true, if_true, if_false, reduceIte, Nat.reduceEqDiff, Nat.add_eq_zero_iff, reduceCtorEq, Nat.reduceAdd, not_true_eq_false, not_false_eq_true, ax_pf, ax_popn, fv_in, fv_size, fv_drop, fv_within, fv_part, fv_cut, fv_sq, fv_absI, fv_absJ, fv_maxI, fv_minI, fv_maxJ, fv_minJ, List.map_cons, List.map_nil, List.sum_cons, List.sum_nil, Nat.reduceLeDiff, Nat.zero_le, Nat.le_refl, zb_0, zb_1, zb_em, true_or, or_true, Int32.toInt_toInt64, Nat.add_zero, fv_isGlass, fv_mayBe, fv_isReading8, fv_isHour8, fv_isPoint, fv_isReading7, fv_isRoom, fv_isWarmth, fv_isHour7, fv_isOnMap, fv_holds, fv_held, tm_eq, i3_add, i3_sub, i3_mul, i3_neg, i6_add, i6_sub, i6_mul, i6_neg, i6_I, i3_toInt, i6_toInt, i3_lt, i3_le, i3_eq, i6_lt, i6_le, i6_eq, i3_eq0, i3_eq1, i3_lt0, i3_le0, i3_gt0, i3_ge0, i6_eq0, i3_div, i6_div, i3_rem, i6_rem, i3_L, i3_nat, i3_inI, ax_up3, ax_up6, m0, e0, e1, e2, e3, e4]
    have nx := fun p b c => ih (r + 1) (l / (n + 1)) (u ||| 2 ^ pkZ u 6 (l % (n + 1)) 0) p b c (by omega) (by omega) (by omega) k5
    refine ⟨fun q => absurd q (by omega), fun _ => ⟨by omega, by omega, by omega, fun q => ?_, fun q => ?_⟩⟩
    · rw [if_neg (by omega)] at ht
      exact m8_dt_99 hM h32 (by omega) (fun b c => nx _ b c ht) 6 (l % (n + 1)) 0 (by omega) (by omega) k1 rfl
    · rw [if_pos (by omega)] at ht
      exact m8_dt_99 hM h32 (by omega) (fun b c => nx _ b c ht) 6 (l % (n + 1)) 0 (by omega) (by omega) k1 rfl
theorem facT_le : ∀ w : Fin 6, 1 ≤ facT w.val ∧ facT w.val ≤ 120 := by decide
theorem m8_dt_27 {X : ax_X} {o z : Nat} {V : Nat → Int → Int} {f : ax_F} (hM : MH X o V f) {w : Nat} (hw : 1 ≤ w) (hw' : w ≤ 5) (h21 : V 0 21 = (w : Int)) :
    ∀ (n i : Nat) (a b c d e g : Option Value), i + n = facT w → ax_G X mX8_determinant 0 0 (ax_pv (.long (i6 (dtR (V 18) w))) z f) 27 [some (.ref o), some (.int (i3 (facT w : Int))), some (.long (i6 (dtS (V 18) w i))), none, some (.int (i3 (i : Int))), a, b, c, none, d, e, g] [] 0 0 z f := by
  have hf := facT_le ⟨w, by omega⟩
  simp only at hf
  have m0 : f o = some (.inr (7, [.ref (o + 1), .ref (o + 2), .ref (o + 3), .ref (o + 4), .ref (o + 5), .ref (o + 6), .ref (o + 7), .ref (o + 8), .int (i3 (V 0 8)), .ref (o + 9), .ref (o + 10), .ref (o + 11), .ref (o + 12), .ref (o + 13), .int (i3 (V 0 14)), .ref (o + 14), .ref (o + 15), .ref (o + 16), .ref (o + 17), .int (i3 (V 0 19)), .ref (o + 18), .int (i3 (V 0 21)), .ref (o + 19), .long (i6 (V 0 23)), .ref (o + 20), .ref (o + 21), .ref (o + 22), .ref (o + 23), .int (i3 (V 0 28)), .long (i6 (V 0 29)), .long (i6 (V 0 30)), .ref (o + 24), .ref (o + 25)])) := hM 0 (by decide)
  intro n
  induction n with
  | zero =>
    intro i a b c d e g hi
    refine sbX8_determinant_27 X 0 0 _ _ _ _ _ _ _ ?_
    simp (disch := omega) only [bkX8_determinant_27, ax_ic, ax_lc, ax_nul, ax_il, ax_ll, ax_al, ax_is, ax_ls, ax_as, ax_inc, ax_iadd, ax_isub, ax_imul, ax_iand, ax_ior, ax_idiv, ax_irem, ax_ishl, ax_ishr, ax_ladd, ax_lsub, ax_lmul, ax_ldiv, ax_lrem, ax_ineg, ax_lneg, ax_i2l, ax_l2i, ax_lcmp, ax_dup, ax_pop1, ax_dupx1, ax_dup2, ax_ifeq, ax_ifne, ax_iflt, ax_ifge, ax_ifgt, ax_ifle, ax_iceq, ax_icne, ax_iclt, ax_icge, ax_icgt, ax_icle, ax_ifnull, ax_ifnn, ax_sw, ax_iret, ax_zret, ax_lret, ax_vret, ax_aret, ax_gf, ax_pfi, ax_pfz, ax_pfl, ax_pfr, ax_iald, ax_zald, ax_lald, ax_aald, ax_iast, ax_zast, ax_last, ax_aast, ax_alen, ax_ialdR, ax_alenR, ax_gst, ax_new, ax_nwi, ax_nwl, ax_nwq, ax_obj, ax_call, ax_calv, ax_nth, ax_p1, ax_p2, ax_k2, ax_nh, Value.category, lg_cmp_ge, lg_cmp_lt, lg_cmp_gt, lg_cmp_le, lg_cmp_eq, List.getElem?_cons_zero, List.getElem?_cons_succ, true_and, and_true, if_true, if_false, reduceIte, Nat.reduceEqDiff, Nat.add_eq_zero_iff, reduceCtorEq, Nat.reduceAdd, not_true_eq_false, not_false_eq_true, ax_pf, ax_popn, fv_in, fv_size, fv_drop, fv_within, fv_part, fv_cut, fv_sq, fv_absI, fv_absJ, fv_maxI, fv_minI, fv_maxJ, fv_minJ, List.map_cons, List.map_nil, List.sum_cons, List.sum_nil, Nat.reduceLeDiff, Nat.zero_le, Nat.le_refl, zb_0, zb_1, zb_em, true_or, or_true, Int32.toInt_toInt64, Nat.add_zero, fv_isGlass, fv_mayBe, fv_isReading8, fv_isHour8, fv_isPoint, fv_isReading7, fv_isRoom, fv_isWarmth, fv_isHour7, fv_isOnMap, fv_holds, fv_held, tm_eq, i3_add, i3_sub, i3_mul, i3_neg, i6_add, i6_sub, i6_mul, i6_neg, i6_I, i3_toInt, i6_toInt, i3_lt, i3_le, i3_eq, i6_lt, i6_le, i6_eq, i3_eq0, i3_eq1, i3_lt0, i3_le0, i3_gt0, i3_ge0, i6_eq0, i3_div, i6_div, i3_rem, i6_rem, i3_L, i3_nat, i3_inI, ax_up3, ax_up6, m0]
    refine ⟨fun _ => ax_pv0 ?_, fun q => absurd (by omega) q⟩
    unfold dtR
    rw [show facT w = i by omega]
  | succ n ih =>
    intro i a b c d e g hi
    refine sbX8_determinant_27 X 0 0 _ _ _ _ _ _ _ ?_
    simp (disch := omega) only [bkX8_determinant_27, ax_ic, ax_lc, ax_nul, ax_il, ax_ll, ax_al, ax_is, ax_ls, ax_as, ax_inc, ax_iadd, ax_isub, ax_imul, ax_iand, ax_ior, ax_idiv, ax_irem, ax_ishl, ax_ishr, ax_ladd, ax_lsub, ax_lmul, ax_ldiv, ax_lrem, ax_ineg, ax_lneg, ax_i2l, ax_l2i, ax_lcmp, ax_dup, ax_pop1, ax_dupx1, ax_dup2, ax_ifeq, ax_ifne, ax_iflt, ax_ifge, ax_ifgt, ax_ifle, ax_iceq, ax_icne, ax_iclt, ax_icge, ax_icgt, ax_icle, ax_ifnull, ax_ifnn, ax_sw, ax_iret, ax_zret, ax_lret, ax_vret, ax_aret, ax_gf, ax_pfi, ax_pfz, ax_pfl, ax_pfr, ax_iald, ax_zald, ax_lald, ax_aald, ax_iast, ax_zast, ax_last, ax_aast, ax_alen, ax_ialdR, ax_alenR, ax_gst, ax_new, ax_nwi, ax_nwl, ax_nwq, ax_obj, ax_call, ax_calv, ax_nth, ax_p1, ax_p2, ax_k2, ax_nh, Value.category, lg_cmp_ge, lg_cmp_lt, lg_cmp_gt, lg_cmp_le, lg_cmp_eq, List.getElem?_cons_zero, List.getElem?_cons_succ, true_and, and_true, if_true, if_false, reduceIte, Nat.reduceEqDiff, Nat.add_eq_zero_iff, reduceCtorEq, Nat.reduceAdd, not_true_eq_false, not_false_eq_true, ax_pf, ax_popn, fv_in, fv_size, fv_drop, fv_within, fv_part, fv_cut, fv_sq, fv_absI, fv_absJ, fv_maxI, fv_minI, fv_maxJ, fv_minJ, List.map_cons, List.map_nil, List.sum_cons, List.sum_nil, Nat.reduceLeDiff, Nat.zero_le, Nat.le_refl, zb_0, zb_1, zb_em, true_or, or_true, Int32.toInt_toInt64, Nat.add_zero, fv_isGlass, fv_mayBe, fv_isReading8, fv_isHour8, fv_isPoint, fv_isReading7, fv_isRoom, fv_isWarmth, fv_isHour7, fv_isOnMap, fv_holds, fv_held, tm_eq, i3_add, i3_sub, i3_mul, i3_neg, i6_add, i6_sub, i6_mul, i6_neg, i6_I, i3_toInt, i6_toInt, i3_lt, i3_le, i3_eq, i6_lt, i6_le, i6_eq, i3_eq0, i3_eq1, i3_lt0, i3_le0, i3_gt0, i3_ge0, i6_eq0, i3_div, i6_div, i3_rem, i6_rem, i3_L, i3_nat, i3_inI, ax_up3, ax_up6, m0]
    refine ⟨fun q => absurd q (by omega), fun _ => ?_⟩
    exact m8_dt_46 hM hw hw' h21 (T := tmR (V 18) w 0 i 0 1) (fun a b c d e g => ih (i + 1) a b c d e g (by omega)) w 0 i 0 1 e g (by omega) (by omega) rfl (Nat.two_pow_pos _) rfl
theorem m8_dt_4 {X : ax_X} {o z : Nat} {V : Nat → Int → Int} {f : ax_F} (hM : MH X o V f) {w : Nat} (hw : 1 ≤ w) (hw' : w ≤ 5) (h21 : V 0 21 = (w : Int)) :
    ∀ (n k : Nat), k + n = w → 1 ≤ k → ax_G X mX8_determinant 0 0 (ax_pv (.long (i6 (dtR (V 18) w))) z f) 4 [some (.ref o), some (.int (i3 (facT k : Int))), some (.int (i3 ((k : Int) + 1))), none, none, none, none, none, none, none, none, none] [] 0 0 z f := by
  have m0 : f o = some (.inr (7, [.ref (o + 1), .ref (o + 2), .ref (o + 3), .ref (o + 4), .ref (o + 5), .ref (o + 6), .ref (o + 7), .ref (o + 8), .int (i3 (V 0 8)), .ref (o + 9), .ref (o + 10), .ref (o + 11), .ref (o + 12), .ref (o + 13), .int (i3 (V 0 14)), .ref (o + 14), .ref (o + 15), .ref (o + 16), .ref (o + 17), .int (i3 (V 0 19)), .ref (o + 18), .int (i3 (V 0 21)), .ref (o + 19), .long (i6 (V 0 23)), .ref (o + 20), .ref (o + 21), .ref (o + 22), .ref (o + 23), .int (i3 (V 0 28)), .long (i6 (V 0 29)), .long (i6 (V 0 30)), .ref (o + 24), .ref (o + 25)])) := hM 0 (by decide)
  intro n
  induction n with
  | zero =>
    intro k hk h1
    have hk' : k = w := by omega
    subst hk'
    refine sbX8_determinant_4 X 0 0 _ _ _ _ _ _ _ ?_
    simp (disch := omega) only [bkX8_determinant_4, ax_ic, ax_lc, ax_nul, ax_il, ax_ll, ax_al, ax_is, ax_ls, ax_as, ax_inc, ax_iadd, ax_isub, ax_imul, ax_iand, ax_ior, ax_idiv, ax_irem, ax_ishl, ax_ishr, ax_ladd, ax_lsub, ax_lmul, ax_ldiv, ax_lrem, ax_ineg, ax_lneg, ax_i2l, ax_l2i, ax_lcmp, ax_dup, ax_pop1, ax_dupx1, ax_dup2, ax_ifeq, ax_ifne, ax_iflt, ax_ifge, ax_ifgt, ax_ifle, ax_iceq, ax_icne, ax_iclt, ax_icge, ax_icgt, ax_icle, ax_ifnull, ax_ifnn, ax_sw, ax_iret, ax_zret, ax_lret, ax_vret, ax_aret, ax_gf, ax_pfi, ax_pfz, ax_pfl, ax_pfr, ax_iald, ax_zald, ax_lald, ax_aald, ax_iast, ax_zast, ax_last, ax_aast, ax_alen, ax_ialdR, ax_alenR, ax_gst, ax_new, ax_nwi, ax_nwl, ax_nwq, ax_obj, ax_call, ax_calv, ax_nth, ax_p1, ax_p2, ax_k2, ax_nh, Value.category, lg_cmp_ge, lg_cmp_lt, lg_cmp_gt, lg_cmp_le, lg_cmp_eq, List.getElem?_cons_zero, List.getElem?_cons_succ, true_and, and_true, if_true, if_false, reduceIte, Nat.reduceEqDiff, Nat.add_eq_zero_iff, reduceCtorEq, Nat.reduceAdd, not_true_eq_false, not_false_eq_true, ax_pf, ax_popn, fv_in, fv_size, fv_drop, fv_within, fv_part, fv_cut, fv_sq, fv_absI, fv_absJ, fv_maxI, fv_minI, fv_maxJ, fv_minJ, List.map_cons, List.map_nil, List.sum_cons, List.sum_nil, Nat.reduceLeDiff, Nat.zero_le, Nat.le_refl, zb_0, zb_1, zb_em, true_or, or_true, Int32.toInt_toInt64, Nat.add_zero, fv_isGlass, fv_mayBe, fv_isReading8, fv_isHour8, fv_isPoint, fv_isReading7, fv_isRoom, fv_isWarmth, fv_isHour7, fv_isOnMap, fv_holds, fv_held, tm_eq, i3_add, i3_sub, i3_mul, i3_neg, i6_add, i6_sub, i6_mul, i6_neg, i6_I, i3_toInt, i6_toInt, i3_lt, i3_le, i3_eq, i6_lt, i6_le, i6_eq, i3_eq0, i3_eq1, i3_lt0, i3_le0, i3_gt0, i3_ge0, i6_eq0, i3_div, i6_div, i3_rem, i6_rem, i3_L, i3_nat, i3_inI, ax_up3, ax_up6, m0]
    exact ⟨fun _ => m8_dt_27 hM hw hw' h21 (facT k) 0 _ _ _ _ _ _ (by omega), fun q => absurd (by omega) q⟩
  | succ n ih =>
    intro k hk h1
    refine sbX8_determinant_4 X 0 0 _ _ _ _ _ _ _ ?_
    simp (disch := omega) only [bkX8_determinant_4, ax_ic, ax_lc, ax_nul, ax_il, ax_ll, ax_al, ax_is, ax_ls, ax_as, ax_inc, ax_iadd, ax_isub, ax_imul, ax_iand, ax_ior, ax_idiv, ax_irem, ax_ishl, ax_ishr, ax_ladd, ax_lsub, ax_lmul, ax_ldiv, ax_lrem, ax_ineg, ax_lneg, ax_i2l, ax_l2i, ax_lcmp, ax_dup, ax_pop1, ax_dupx1, ax_dup2, ax_ifeq, ax_ifne, ax_iflt, ax_ifge, ax_ifgt, ax_ifle, ax_iceq, ax_icne, ax_iclt, ax_icge, ax_icgt, ax_icle, ax_ifnull, ax_ifnn, ax_sw, ax_iret, ax_zret, ax_lret, ax_vret, ax_aret, ax_gf, ax_pfi, ax_pfz, ax_pfl, ax_pfr, ax_iald, ax_zald, ax_lald, ax_aald, ax_iast, ax_zast, ax_last, ax_aast, ax_alen, ax_ialdR, ax_alenR, ax_gst, ax_new, ax_nwi, ax_nwl, ax_nwq, ax_obj, ax_call, ax_calv, ax_nth, ax_p1, ax_p2, ax_k2, ax_nh, Value.category, lg_cmp_ge, lg_cmp_lt, lg_cmp_gt, lg_cmp_le, lg_cmp_eq, List.getElem?_cons_zero, List.getElem?_cons_succ, true_and, and_true, if_true, if_false, reduceIte, Nat.reduceEqDiff, Nat.add_eq_zero_iff, reduceCtorEq, Nat.reduceAdd, not_true_eq_false, not_false_eq_true, ax_pf, ax_popn, fv_in, fv_size, fv_drop, fv_within, fv_part, fv_cut, fv_sq, fv_absI, fv_absJ, fv_maxI, fv_minI, fv_maxJ, fv_minJ, List.map_cons, List.map_nil, List.sum_cons, List.sum_nil, Nat.reduceLeDiff, Nat.zero_le, Nat.le_refl, zb_0, zb_1, zb_em, true_or, or_true, Int32.toInt_toInt64, Nat.add_zero, fv_isGlass, fv_mayBe, fv_isReading8, fv_isHour8, fv_isPoint, fv_isReading7, fv_isRoom, fv_isWarmth, fv_isHour7, fv_isOnMap, fv_holds, fv_held, tm_eq, i3_add, i3_sub, i3_mul, i3_neg, i6_add, i6_sub, i6_mul, i6_neg, i6_I, i3_toInt, i6_toInt, i3_lt, i3_le, i3_eq, i6_lt, i6_le, i6_eq, i3_eq0, i3_eq1, i3_lt0, i3_le0, i3_gt0, i3_ge0, i6_eq0, i3_div, i6_div, i3_rem, i6_rem, i3_L, i3_nat, i3_inI, ax_up3, ax_up6, m0]
    refine ⟨fun q => absurd q (by omega), fun _ => ?_⟩
    have nx := ih (k + 1) (by omega) (by omega)
    rw [show facT (k + 1) = facT k * (k + 1) by obtain ⟨j, rfl⟩ : ∃ j, k = j + 1 := ⟨k - 1, by omega⟩; rfl, Int.natCast_mul] at nx
    exact nx
theorem m8_determinant {X : ax_X} {o z : Nat} {V : Nat → Int → Int} {f : ax_F} (hM : MH X o V f) {w : Nat} (hw : 1 ≤ w) (hw' : w ≤ 5) (h21 : V 0 21 = (w : Int)) :
    ax_M X mX8_determinant 0 0 [.ref o] z f (ax_pv (.long (i6 (dtR (V 18) w))) z f) := by
  refine ax_met2 [some (.ref o), none, none, none, none, none, none, none, none, none, none, none] (by decide) (Nat.le_of_ble_eq_true rfl) rfl ?_
  refine sbX8_determinant_0 X 0 0 _ _ _ _ _ _ _ ?_
  simp (disch := omega) only [bkX8_determinant_0, ax_ic, ax_lc, ax_nul, ax_il, ax_ll, ax_al, ax_is, ax_ls, ax_as, ax_inc, ax_iadd, ax_isub, ax_imul, ax_iand, ax_ior, ax_idiv, ax_irem, ax_ishl, ax_ishr, ax_ladd, ax_lsub, ax_lmul, ax_ldiv, ax_lrem, ax_ineg, ax_lneg, ax_i2l, ax_l2i, ax_lcmp, ax_dup, ax_pop1, ax_dupx1, ax_dup2, ax_ifeq, ax_ifne, ax_iflt, ax_ifge, ax_ifgt, ax_ifle, ax_iceq, ax_icne, ax_iclt, ax_icge, ax_icgt, ax_icle, ax_ifnull, ax_ifnn, ax_sw, ax_iret, ax_zret, ax_lret, ax_vret, ax_aret, ax_gf, ax_pfi, ax_pfz, ax_pfl, ax_pfr, ax_iald, ax_zald, ax_lald, ax_aald, ax_iast, ax_zast, ax_last, ax_aast, ax_alen, ax_ialdR, ax_alenR, ax_gst, ax_new, ax_nwi, ax_nwl, ax_nwq, ax_obj, ax_call, ax_calv, ax_nth, ax_p1, ax_p2, ax_k2, ax_nh, Value.category, lg_cmp_ge, lg_cmp_lt, lg_cmp_gt, lg_cmp_le, lg_cmp_eq, List.getElem?_cons_zero, List.getElem?_cons_succ, true_and, and_true, if_true, if_false, reduceIte, Nat.reduceEqDiff, Nat.add_eq_zero_iff, reduceCtorEq, Nat.reduceAdd, not_true_eq_false, not_false_eq_true, ax_pf, ax_popn, fv_in, fv_size, fv_drop, fv_within, fv_part, fv_cut, fv_sq, fv_absI, fv_absJ, fv_maxI, fv_minI, fv_maxJ, fv_minJ, List.map_cons, List.map_nil, List.sum_cons, List.sum_nil, Nat.reduceLeDiff, Nat.zero_le, Nat.le_refl, zb_0, zb_1, zb_em, true_or, or_true, Int32.toInt_toInt64, Nat.add_zero, fv_isGlass, fv_mayBe, fv_isReading8, fv_isHour8, fv_isPoint, fv_isReading7, fv_isRoom, fv_isWarmth, fv_isHour7, fv_isOnMap, fv_holds, fv_held, tm_eq, i3_add, i3_sub, i3_mul, i3_neg, i6_add, i6_sub, i6_mul, i6_neg, i6_I, i3_toInt, i6_toInt, i3_lt, i3_le, i3_eq, i6_lt, i6_le, i6_eq, i3_eq0, i3_eq1, i3_lt0, i3_le0, i3_gt0, i3_ge0, i6_eq0, i3_div, i6_div, i3_rem, i6_rem, i3_L, i3_nat, i3_inI, ax_up3, ax_up6]
  exact m8_dt_4 hM hw hw' h21 (w - 1) 1 (by omega) (by omega)
