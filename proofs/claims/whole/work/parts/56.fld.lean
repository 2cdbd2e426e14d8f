theorem lvO_1 {V : Nat → Int → Int} {s h : Int} : 0 < V 9 (48 * s + h) ↔ lvO V s h ≠ 0 := by
  have p := heldZ_rng (mMnd V s h)
  have l := lvZ_rng (H := V 7 s) (t := V 10 (48 * s + h)) p.1 p.2
  unfold lvO mLvl
  split <;> omega
theorem anyB_neg {V : Nat → Int → Int} {h a b : Int} (ha : a < 0) (hb : b < 0) : ∀ k : Nat, anyB V h a k = anyB V h b k
  | 0 => rfl
  | k + 1 => by
    unfold anyB
    rw [anyB_neg ha hb k, decide_eq_true (show (k : Int) ≠ a by omega), decide_eq_true (show (k : Int) ≠ b by omega)]
theorem fS_neg {V : Nat → Int → Int} {L : Int → Int} {h x y a b : Int} (ha : a < 0) (hb : b < 0) : ∀ k : Nat, fS V L h x y a k = fS V L h x y b k ∧ fW V h x y a k = fW V h x y b k
  | 0 => ⟨rfl, rfl⟩
  | k + 1 => by
    obtain ⟨e1, e2⟩ := fS_neg (V := V) (L := L) (h := h) (x := x) (y := y) ha hb k
    unfold fS fW
    rw [e1, e2]
    by_cases q : 0 < V 9 (48 * k + h)
    · rw [if_pos ⟨by omega, q⟩, if_pos ⟨by omega, q⟩, if_pos ⟨by omega, q⟩, if_pos ⟨by omega, q⟩]
      exact ⟨rfl, rfl⟩
    · rw [if_neg (fun c => q c.2), if_neg (fun c => q c.2), if_neg (fun c => q c.2), if_neg (fun c => q c.2)]
      exact ⟨rfl, rfl⟩
theorem mFld_neg {V : Nat → Int → Int} {h x y a b : Int} (ha : a < 0) (hb : b < 0) : mFld V h x y a = mFld V h x y b := by
  unfold mFld fldZ
  rw [(fS_neg ha hb _).1, (fS_neg (L := fun _ => 0) ha hb _).2]
theorem fS_ge {V : Nat → Int → Int} {h x y wo : Int} (hI : mInv V) (hx : 0 ≤ x) (hx' : x ≤ 7) (hy : 0 ≤ y) (hy' : y ≤ 7) : ∀ k : Nat, k ≤ 8 → fW V h x y wo k ≤ fS V (fun s => lvO V s h) h x y wo k ∧ (anyB V h wo k = false → fW V h x y wo k = 0)
  | 0, _ => by simp [fS, fW]
  | k + 1, hk => by
    have ih := fS_ge (h := h) (wo := wo) hI hx hx' hy hy' k (by omega)
    have i := hI.2.2.2.1 k (by omega) (by omega)
    have w := (wZ_rng (dx := x - V 5 k) (dy := y - V 6 k) (by omega) (by omega) (by omega) (by omega)).2
    unfold fS fW anyB
    by_cases q : (k : Int) ≠ wo ∧ 0 < V 9 (48 * k + h)
    · rw [if_pos q, if_pos q]
      have l1 := lvO_1.mp q.2
      have l2 := lvO_rng V k h
      have m : 1 * wZ (x - V 5 k) (y - V 6 k) ≤ lvO V k h * wZ (x - V 5 k) (y - V 6 k) := Int.mul_le_mul_of_nonneg_right (by omega) (by omega)
      refine ⟨by omega, fun e => ?_⟩
      simp only [Bool.or_eq_false_iff, Bool.and_eq_false_iff, decide_eq_false_iff_not] at e
      rcases e.2 with c | c
      · exact absurd q.1 c
      · exact absurd q.2 c
    · rw [if_neg q, if_neg q]
      refine ⟨by omega, fun e => ?_⟩
      simp only [Bool.or_eq_false_iff] at e
      have := ih.2 e.1
      omega
theorem mFld_1 {V : Nat → Int → Int} {h x y wo : Int} (hI : mInv V) (hx : 0 ≤ x) (hx' : x ≤ 7) (hy : 0 ≤ y) (hy' : y ≤ 7) : mFld V h x y wo ≠ 0 ↔ anyB V h wo (V 0 8).toNat = true := by
  have i0 := hI.2.2.1
  have a := fS_ge (h := h) (wo := wo) hI hx hx' hy hy' (V 0 8).toNat (by omega)
  have b := fW_rng (h := h) (wo := wo) hI hx hx' hy hy' (V 0 8).toNat (by omega)
  unfold mFld fldZ
  generalize fS V (fun s => lvO V s h) h x y wo (V 0 8).toNat = u at a
  generalize fW V h x y wo (V 0 8).toNat = w at a b
  cases c : anyB V h wo (V 0 8).toNat with
  | true =>
    have b3 := b.2.2 c
    refine ⟨fun _ => rfl, fun _ => ?_⟩
    rw [Int.tdiv_eq_ediv_of_nonneg (by omega)]
    have := (Int.le_ediv_iff_mul_le (a := 1) (b := u) (c := w) (by omega)).mpr (by omega)
    omega
  | false =>
    rw [a.2 c, Int.tdiv_zero]
    exact ⟨fun q => absurd rfl q, fun q => by cases q⟩
section FLD
variable {X : ax_X} {r z : Nat} {V T : Nat → Int → Int} {f f0 : ax_F} {h : Int}
abbrev rlPost (X : ax_X) (r z : Nat) (V T : Nat → Int → Int) (h : Int) (f0 : ax_F) : Option Value → Nat → ax_F → Prop := fun v z' f' => v = some (.int (zb (anyB V h (-1) (V 0 8).toNat = true))) ∧ z' = z ∧ RF r f0 f' ∧ ∃ g : Int → Int, RH X r (mset T 4 g) f' ∧ ∀ k : Int, 0 ≤ k → k < V 0 8 → g k = lvO V k h
theorem zb_b {P : Prop} [Decidable P] {b : Int} (h : b = if P then 1 else 0) : i3 b = zb P := by
  rw [h]
  by_cases q : P
  · rw [if_pos q]; exact zb_t q
  · rw [if_neg q]; exact zb_f q
theorem m0_rl_4 (hX : stOk X) (hI : mInv V) (hS : Sim V T) (hh : 0 ≤ h) (hh' : h < 48) :
    ∀ (n k : Nat) (g : Int → Int) (f : ax_F) (q : Option Value), (k : Int) + n = V 0 8 → (∀ j : Int, 0 ≤ j → j < k → g j = lvO V j h) → RH X r (mset T 4 g) f → RF r f0 f → ax_G X mX0_readLevels 0 0 (rlPost X r z V T h f0) 4 [some (.ref (r + 2)), some (.int (i3 h)), some (.int (zb (anyB V h (-1) k = true))), some (.int (i3 (k : Int))), q] [] 0 0 z f := by
  have i0 := hI.2.2.1
  intro n
  induction n with
  | zero =>
    intro k g f q hk hg hR hF
    have hS' := hS.core (tcore.row (T := T) (k := 4) (g := g) (by omega) (Or.inl (by omega)))
    have c2 : f (r + 2) = some (.inr (0, [.ref (r + 3), .int (i3 ((mset T 4 g) 2 1)), .ref (r + 4), .ref (r + 5), .ref (r + 6), .int (i3 ((mset T 4 g) 2 5))])) := hR 2 (Or.inl (by decide))
    rw [hS'.2.1.1] at c2
    refine sbX0_readLevels_4 X 0 0 _ _ _ _ _ _ _ ?_
    simp (disch := omega) only [bkX0_readLevels_4, ax_ic, ax_lc, ax_nul, ax_il, ax_ll, ax_al, ax_is, ax_ls, ax_as, ax_inc, ax_iadd, ax_isub, ax_imul, ax_iand, ax_ior, ax_idiv, ax_irem, ax_ishl, ax_ishr, ax_ladd, ax_lsub, ax_lmul, ax_ldiv, ax_lrem, ax_ineg, ax_lneg, ax_i2l, ax_l2i, ax_lcmp, ax_dup, ax_pop1, ax_dupx1, ax_dup2, ax_ifeq, ax_ifne, ax_iflt, ax_ifge, ax_ifgt, ax_ifle, ax_iceq, ax_icne, ax_iclt, ax_icge, ax_icgt, ax_icle, ax_ifnull, ax_ifnn, ax_sw, ax_iret, ax_zret, ax_lret, ax_vret, ax_aret, ax_gf, ax_pfi, ax_pfz, ax_pfl, ax_pfr, ax_iald, ax_zald, ax_lald, ax_aald, ax_iast, ax_zast, ax_last, ax_aast, ax_alen, ax_ialdR, ax_alenR, ax_gst, ax_new, ax_nwi, ax_nwl, ax_nwq, ax_obj, ax_call, ax_calv, ax_nth, ax_p1, ax_p2, ax_k2, ax_nh, Value.category, lg_cmp_ge, lg_cmp_lt, lg_cmp_gt, lg_cmp_le, lg_cmp_eq, List.getElem?_cons_zero, List.getElem?_cons_succ, true_and, and_true, if_true, if_false, reduceIte, Nat.reduceEqDiff, Nat.add_eq_zero_iff, reduceCtorEq, Nat.reduceAdd, not_true_eq_false, not_false_eq_true, ax_pf, ax_popn, fv_in, fv_size, fv_drop, fv_within, fv_part, fv_cut, fv_sq, fv_absI, fv_absJ, fv_maxI, fv_minI, fv_maxJ, fv_minJ, List.map_cons, List.map_nil, List.sum_cons, List.sum_nil, Nat.reduceLeDiff, Nat.zero_le, Nat.le_refl, zb_0, zb_1, zb_em, true_or, or_true, Int32.toInt_toInt64, Nat.add_zero, fv_isGlass, fv_mayBe, fv_isReading8, fv_isHour8, fv_isPoint, fv_isReading7, fv_isRoom, fv_isWarmth, fv_isHour7, fv_isOnMap, fv_holds, fv_held, tm_eq, i3_add, i3_sub, i3_mul, i3_neg, i6_add, i6_sub, i6_mul, i6_neg, i6_I, i3_toInt, i6_toInt, i3_lt, i3_le, i3_eq, i6_lt, i6_le, i6_eq, i3_eq0, i3_eq1, i3_lt0, i3_le0, i3_gt0, i3_ge0, i6_eq0, i3_div, i6_div, i3_rem, i6_rem, i3_L, i3_nat, i3_inI, ax_up3, ax_up6, c2]
    refine ⟨fun _ => ⟨Nat.le_refl _, Nat.le_refl _, ?_, rfl, hF, g, hR, fun j h1 h2 => hg j h1 (by omega)⟩, fun q => absurd (by omega) q⟩
    rw [show (V 0 8).toNat = k by omega]
  | succ n ih =>
    intro k g f q hk hg hR hF
    have hS' := hS.core (tcore.row (T := T) (k := 4) (g := g) (by omega) (Or.inl (by omega)))
    have c2 : f (r + 2) = some (.inr (0, [.ref (r + 3), .int (i3 ((mset T 4 g) 2 1)), .ref (r + 4), .ref (r + 5), .ref (r + 6), .int (i3 ((mset T 4 g) 2 5))])) := hR 2 (Or.inl (by decide))
    have c4 : f (r + 4) = some (.inl (X.2.2.1 0, 8, .inl (fun j : Nat => i3 ((mset T 4 g) 4 (j : Int))))) := hR 4 (Or.inl (by decide))
    rw [hS'.2.1.1] at c2
    rw [mset_s] at c4
    have lr := lvO_rng V k h
    have at48 : ∀ (u : Int) (q : Option Value), u = lvO V k h → ax_G X mX0_readLevels 0 0 (rlPost X r z V T h f0) 48 [some (.ref (r + 2)), some (.int (i3 h)), some (.int (zb (anyB V h (-1) k = true))), some (.int (i3 (k : Int))), q] [.int (i3 u), .int (i3 (k : Int)), .ref (r + 4)] 0 0 z f := fun u q hu => by
      have hR2 := hR.set (k := 4) (g := ax_u g k u) (Or.inl (by omega)) rfl
      rw [mset_mset] at hR2
      have nx : ∀ b : Int, b = (if anyB V h (-1) (k + 1) = true then 1 else 0) → ax_G X mX0_readLevels 0 0 (rlPost X r z V T h f0) 4 [some (.ref (r + 2)), some (.int (i3 h)), some (.int (i3 b)), some (.int (i3 ((k : Int) + 1))), q] [] 0 0 z (va_up f (r + 4) (some (rce X r (mset T 4 g 2 1).toNat 4 (ax_u g k u)))) := fun b hb => by
        rw [zb_b hb]
        refine ih (k + 1) (ax_u g k u) _ q (by omega) (fun j h1 h2 => ?_) hR2 (hF.up (by omega))
        unfold ax_u
        split
        · rename_i e; rw [e, hu]
        · exact hg j h1 (by omega)
      have an : anyB V h (-1) (k + 1) = true ↔ (anyB V h (-1) k = true ∨ lvO V k h ≠ 0) := by
        rw [anyB]
        simp only [Bool.or_eq_true, Bool.and_eq_true, decide_eq_true_eq]
        rw [lvO_1 (s := (k : Int))]
        exact ⟨fun c => by rcases c with c | c; exact Or.inl c; exact Or.inr c.2, fun c => by rcases c with c | c; exact Or.inl c; exact Or.inr ⟨by omega, c⟩⟩
      refine sbX0_readLevels_48 X 0 0 _ _ _ _ _ _ _ ?_
      simp (disch := omega) only [bkX0_readLevels_48, ax_ic, ax_lc, ax_nul, ax_il, ax_ll, ax_al, ax_is, ax_ls, ax_as, ax_inc, ax_iadd, ax_isub, ax_imul, ax_iand, ax_ior, ax_idiv, ax_irem, ax_ishl, ax_ishr, ax_ladd, ax_lsub, ax_lmul, ax_ldiv, ax_lrem, ax_ineg, ax_lneg, ax_i2l, ax_l2i, ax_lcmp, ax_dup, ax_pop1, ax_dupx1, ax_dup2, ax_ifeq, ax_ifne, ax_iflt, ax_ifge, ax_ifgt, ax_ifle, ax_iceq, ax_icne, ax_iclt, ax_icge, ax_icgt, ax_icle, ax_ifnull, ax_ifnn, ax_sw, ax_iret, ax_zret, ax_lret, ax_vret, ax_aret, ax_gf, ax_pfi, ax_pfz, ax_pfl, ax_pfr, ax_iald, ax_zald, ax_lald, ax_aald, ax_iast, ax_zast, ax_last, ax_aast, ax_alen, ax_ialdR, ax_alenR, ax_gst, ax_new, ax_nwi, ax_nwl, ax_nwq, ax_obj, ax_call, ax_calv, ax_nth, ax_p1, ax_p2, ax_k2, ax_nh, Value.category, lg_cmp_ge, lg_cmp_lt, lg_cmp_gt, lg_cmp_le, lg_cmp_eq, List.getElem?_cons_zero, List.getElem?_cons_succ, true_and, and_true, if_true, if_false, reduceIte, Nat.reduceEqDiff, Nat.add_eq_zero_iff, reduceCtorEq, Nat.reduceAdd, not_true_eq_false, not_false_eq_true, ax_pf, ax_popn, fv_in, fv_size, fv_drop, fv_within, fv_part, fv_cut, fv_sq, fv_absI, fv_absJ, fv_maxI, fv_minI, fv_maxJ, fv_minJ, List.map_cons, List.map_nil, List.sum_cons, List.sum_nil, Nat.reduceLeDiff, Nat.zero_le, Nat.le_refl, zb_0, zb_1, zb_em, true_or, or_true, Int32.toInt_toInt64, Nat.add_zero, fv_isGlass, fv_mayBe, fv_isReading8, fv_isHour8, fv_isPoint, fv_isReading7, fv_isRoom, fv_isWarmth, fv_isHour7, fv_isOnMap, fv_holds, fv_held, tm_eq, i3_add, i3_sub, i3_mul, i3_neg, i6_add, i6_sub, i6_mul, i6_neg, i6_I, i3_toInt, i6_toInt, i3_lt, i3_le, i3_eq, i6_lt, i6_le, i6_eq, i3_eq0, i3_eq1, i3_lt0, i3_le0, i3_gt0, i3_ge0, i6_eq0, i3_div, i6_div, i3_rem, i6_rem, i3_L, i3_nat, i3_inI, ax_up3, ax_up6, up_ne, up_0, up_s, up_00, up_0n, c2, c4, ax_u_s]
      refine ⟨by omega, fun a => nx 1 ?_, fun a => ⟨by omega, fun b => nx 0 ?_, fun b => nx 1 ?_⟩⟩
      · rw [if_pos (an.mpr (Or.inl (Decidable.byContradiction a)))]
      · rw [if_neg (fun c => by rcases an.mp c with c | c; exact a c; exact c (by omega))]
      · rw [if_pos (an.mpr (Or.inr (by omega)))]
    refine sbX0_readLevels_4 X 0 0 _ _ _ _ _ _ _ ?_
    simp (disch := omega) only [bkX0_readLevels_4, ax_ic, ax_lc, ax_nul, ax_il, ax_ll, ax_al, ax_is, ax_ls, ax_as, ax_inc, ax_iadd, ax_isub, ax_imul, ax_iand, ax_ior, ax_idiv, ax_irem, ax_ishl, ax_ishr, ax_ladd, ax_lsub, ax_lmul, ax_ldiv, ax_lrem, ax_ineg, ax_lneg, ax_i2l, ax_l2i, ax_lcmp, ax_dup, ax_pop1, ax_dupx1, ax_dup2, ax_ifeq, ax_ifne, ax_iflt, ax_ifge, ax_ifgt, ax_ifle, ax_iceq, ax_icne, ax_iclt, ax_icge, ax_icgt, ax_icle, ax_ifnull, ax_ifnn, ax_sw, ax_iret, ax_zret, ax_lret, ax_vret, ax_aret, ax_gf, ax_pfi, ax_pfz, ax_pfl, ax_pfr, ax_iald, ax_zald, ax_lald, ax_aald, ax_iast, ax_zast, ax_last, ax_aast, ax_alen, ax_ialdR, ax_alenR, ax_gst, ax_new, ax_nwi, ax_nwl, ax_nwq, ax_obj, ax_call, ax_calv, ax_nth, ax_p1, ax_p2, ax_k2, ax_nh, Value.category, lg_cmp_ge, lg_cmp_lt, lg_cmp_gt, lg_cmp_le, lg_cmp_eq, List.getElem?_cons_zero, List.getElem?_cons_succ, true_and, and_true, if_true, if_false, reduceIte, Nat.reduceEqDiff, Nat.add_eq_zero_iff, reduceCtorEq, Nat.reduceAdd, not_true_eq_false, not_false_eq_true, ax_pf, ax_popn, fv_in, fv_size, fv_drop, fv_within, fv_part, fv_cut, fv_sq, fv_absI, fv_absJ, fv_maxI, fv_minI, fv_maxJ, fv_minJ, List.map_cons, List.map_nil, List.sum_cons, List.sum_nil, Nat.reduceLeDiff, Nat.zero_le, Nat.le_refl, zb_0, zb_1, zb_em, true_or, or_true, Int32.toInt_toInt64, Nat.add_zero, fv_isGlass, fv_mayBe, fv_isReading8, fv_isHour8, fv_isPoint, fv_isReading7, fv_isRoom, fv_isWarmth, fv_isHour7, fv_isOnMap, fv_holds, fv_held, tm_eq, i3_add, i3_sub, i3_mul, i3_neg, i6_add, i6_sub, i6_mul, i6_neg, i6_I, i3_toInt, i6_toInt, i3_lt, i3_le, i3_eq, i6_lt, i6_le, i6_eq, i3_eq0, i3_eq1, i3_lt0, i3_le0, i3_gt0, i3_ge0, i6_eq0, i3_div, i6_div, i3_rem, i6_rem, i3_L, i3_nat, i3_inI, ax_up3, ax_up6, c2]
    refine ⟨fun q => absurd q (by omega), fun _ => ⟨⟨_, c2⟩, ax_fn (Nat.le_of_ble_eq_true rfl) (Nat.zero_le _) (Nat.zero_le _) (m0_findI hR hI hS' (by omega) (by omega)) ?_⟩⟩
    simp (disch := omega) only [ax_ic, ax_lc, ax_nul, ax_il, ax_ll, ax_al, ax_is, ax_ls, ax_as, ax_inc, ax_iadd, ax_isub, ax_imul, ax_iand, ax_ior, ax_idiv, ax_irem, ax_ishl, ax_ishr, ax_ladd, ax_lsub, ax_lmul, ax_ldiv, ax_lrem, ax_ineg, ax_lneg, ax_i2l, ax_l2i, ax_lcmp, ax_dup, ax_pop1, ax_dupx1, ax_dup2, ax_ifeq, ax_ifne, ax_iflt, ax_ifge, ax_ifgt, ax_ifle, ax_iceq, ax_icne, ax_iclt, ax_icge, ax_icgt, ax_icle, ax_ifnull, ax_ifnn, ax_sw, ax_iret, ax_zret, ax_lret, ax_vret, ax_aret, ax_gf, ax_pfi, ax_pfz, ax_pfl, ax_pfr, ax_iald, ax_zald, ax_lald, ax_aald, ax_iast, ax_zast, ax_last, ax_aast, ax_alen, ax_ialdR, ax_alenR, ax_gst, ax_new, ax_nwi, ax_nwl, ax_nwq, ax_obj, ax_call, ax_calv, ax_nth, ax_p1, ax_p2, ax_k2, ax_nh, Value.category, lg_cmp_ge, lg_cmp_lt, lg_cmp_gt, lg_cmp_le, lg_cmp_eq, List.getElem?_cons_zero, List.getElem?_cons_succ, true_and, and_true, if_true, if_false, reduceIte, Nat.reduceEqDiff, Nat.add_eq_zero_iff, reduceCtorEq, Nat.reduceAdd, not_true_eq_false, not_false_eq_true, ax_pf, ax_popn, fv_in, fv_size, fv_drop, fv_within, fv_part, fv_cut, fv_sq, fv_absI, fv_absJ, fv_maxI, fv_minI, fv_maxJ, fv_minJ, List.map_cons, List.map_nil, List.sum_cons, List.sum_nil, Nat.reduceLeDiff, Nat.zero_le, Nat.le_refl, zb_0, zb_1, zb_em, true_or, or_true, Int32.toInt_toInt64, Nat.add_zero, fv_isGlass, fv_mayBe, fv_isReading8, fv_isHour8, fv_isPoint, fv_isReading7, fv_isRoom, fv_isWarmth, fv_isHour7, fv_isOnMap, fv_holds, fv_held, tm_eq, i3_add, i3_sub, i3_mul, i3_neg, i6_add, i6_sub, i6_mul, i6_neg, i6_I, i3_toInt, i6_toInt, i3_lt, i3_le, i3_eq, i6_lt, i6_le, i6_eq, i3_eq0, i3_eq1, i3_lt0, i3_le0, i3_gt0, i3_ge0, i6_eq0, i3_div, i6_div, i3_rem, i6_rem, i3_L, i3_nat, i3_inI, ax_up3, ax_up6, c2]
    refine ⟨⟨_, hR.st (k := (k : Int).toNat) (by rw [hS'.2.1.1]; omega)⟩, ax_fn (Nat.le_of_ble_eq_true rfl) (Nat.zero_le _) (Nat.zero_le _) (m5_hasReading hR hI hS' (by omega) (by omega) hh hh') ?_⟩
    simp (disch := omega) only [ax_ic, ax_lc, ax_nul, ax_il, ax_ll, ax_al, ax_is, ax_ls, ax_as, ax_inc, ax_iadd, ax_isub, ax_imul, ax_iand, ax_ior, ax_idiv, ax_irem, ax_ishl, ax_ishr, ax_ladd, ax_lsub, ax_lmul, ax_ldiv, ax_lrem, ax_ineg, ax_lneg, ax_i2l, ax_l2i, ax_lcmp, ax_dup, ax_pop1, ax_dupx1, ax_dup2, ax_ifeq, ax_ifne, ax_iflt, ax_ifge, ax_ifgt, ax_ifle, ax_iceq, ax_icne, ax_iclt, ax_icge, ax_icgt, ax_icle, ax_ifnull, ax_ifnn, ax_sw, ax_iret, ax_zret, ax_lret, ax_vret, ax_aret, ax_gf, ax_pfi, ax_pfz, ax_pfl, ax_pfr, ax_iald, ax_zald, ax_lald, ax_aald, ax_iast, ax_zast, ax_last, ax_aast, ax_alen, ax_ialdR, ax_alenR, ax_gst, ax_new, ax_nwi, ax_nwl, ax_nwq, ax_obj, ax_call, ax_calv, ax_nth, ax_p1, ax_p2, ax_k2, ax_nh, Value.category, lg_cmp_ge, lg_cmp_lt, lg_cmp_gt, lg_cmp_le, lg_cmp_eq, List.getElem?_cons_zero, List.getElem?_cons_succ, true_and, and_true, if_true, if_false, reduceIte, Nat.reduceEqDiff, Nat.add_eq_zero_iff, reduceCtorEq, Nat.reduceAdd, not_true_eq_false, not_false_eq_true, ax_pf, ax_popn, fv_in, fv_size, fv_drop, fv_within, fv_part, fv_cut, fv_sq, fv_absI, fv_absJ, fv_maxI, fv_minI, fv_maxJ, fv_minJ, List.map_cons, List.map_nil, List.sum_cons, List.sum_nil, Nat.reduceLeDiff, Nat.zero_le, Nat.le_refl, zb_0, zb_1, zb_em, true_or, or_true, Int32.toInt_toInt64, Nat.add_zero, fv_isGlass, fv_mayBe, fv_isReading8, fv_isHour8, fv_isPoint, fv_isReading7, fv_isRoom, fv_isWarmth, fv_isHour7, fv_isOnMap, fv_holds, fv_held, tm_eq, i3_add, i3_sub, i3_mul, i3_neg, i6_add, i6_sub, i6_mul, i6_neg, i6_I, i3_toInt, i6_toInt, i3_lt, i3_le, i3_eq, i6_lt, i6_le, i6_eq, i3_eq0, i3_eq1, i3_lt0, i3_le0, i3_gt0, i3_ge0, i6_eq0, i3_div, i6_div, i3_rem, i6_rem, i3_L, i3_nat, i3_inI, ax_up3, ax_up6, c2]
    refine ⟨fun a => at48 0 _ (by unfold lvO; rw [if_neg a]), fun a => ⟨⟨_, hR.st (k := (k : Int).toNat) (by rw [hS'.2.1.1]; omega)⟩, ax_fn (Nat.le_of_ble_eq_true rfl) (Nat.zero_le _) (Nat.zero_le _) (m5_levelAt hX hR hI hS' (by omega) (by omega) hh hh') ?_⟩⟩
    exact at48 (mLvl V k h) _ (by unfold lvO; rw [if_pos (Decidable.byContradiction a)])
theorem m0_readLevels (hX : stOk X) (hR : RH X r T f) (hI : mInv V) (hS : Sim V T) (hh : 0 ≤ h) (hh' : h < 48) : ax_M X mX0_readLevels 0 0 [.ref (r + 2), .int (i3 h)] z f (rlPost X r z V T h f) := by
  have i0 := hI.2.2.1
  refine ax_met2 [some (.ref (r + 2)), some (.int (i3 h)), none, none, none] (by decide) (Nat.le_of_ble_eq_true rfl) rfl ?_
  refine sbX0_readLevels_0 X 0 0 _ _ _ _ _ _ _ ?_
  simp (disch := omega) only [bkX0_readLevels_0, ax_ic, ax_lc, ax_nul, ax_il, ax_ll, ax_al, ax_is, ax_ls, ax_as, ax_inc, ax_iadd, ax_isub, ax_imul, ax_iand, ax_ior, ax_idiv, ax_irem, ax_ishl, ax_ishr, ax_ladd, ax_lsub, ax_lmul, ax_ldiv, ax_lrem, ax_ineg, ax_lneg, ax_i2l, ax_l2i, ax_lcmp, ax_dup, ax_pop1, ax_dupx1, ax_dup2, ax_ifeq, ax_ifne, ax_iflt, ax_ifge, ax_ifgt, ax_ifle, ax_iceq, ax_icne, ax_iclt, ax_icge, ax_icgt, ax_icle, ax_ifnull, ax_ifnn, ax_sw, ax_iret, ax_zret, ax_lret, ax_vret, ax_aret, ax_gf, ax_pfi, ax_pfz, ax_pfl, ax_pfr, ax_iald, ax_zald, ax_lald, ax_aald, ax_iast, ax_zast, ax_last, ax_aast, ax_alen, ax_ialdR, ax_alenR, ax_gst, ax_new, ax_nwi, ax_nwl, ax_nwq, ax_obj, ax_call, ax_calv, ax_nth, ax_p1, ax_p2, ax_k2, ax_nh, Value.category, lg_cmp_ge, lg_cmp_lt, lg_cmp_gt, lg_cmp_le, lg_cmp_eq, List.getElem?_cons_zero, List.getElem?_cons_succ, true_and, and_true, if_true, if_false, reduceIte, Nat.reduceEqDiff, Nat.add_eq_zero_iff, reduceCtorEq, Nat.reduceAdd, not_true_eq_false, not_false_eq_true, ax_pf, ax_popn, fv_in, fv_size, fv_drop, fv_within, fv_part, fv_cut, fv_sq, fv_absI, fv_absJ, fv_maxI, fv_minI, fv_maxJ, fv_minJ, List.map_cons, List.map_nil, List.sum_cons, List.sum_nil, Nat.reduceLeDiff, Nat.zero_le, Nat.le_refl, zb_0, zb_1, zb_em, true_or, or_true, Int32.toInt_toInt64, Nat.add_zero, fv_isGlass, fv_mayBe, fv_isReading8, fv_isHour8, fv_isPoint, fv_isReading7, fv_isRoom, fv_isWarmth, fv_isHour7, fv_isOnMap, fv_holds, fv_held, tm_eq, i3_add, i3_sub, i3_mul, i3_neg, i6_add, i6_sub, i6_mul, i6_neg, i6_I, i3_toInt, i6_toInt, i3_lt, i3_le, i3_eq, i6_lt, i6_le, i6_eq, i3_eq0, i3_eq1, i3_lt0, i3_le0, i3_gt0, i3_ge0, i6_eq0, i3_div, i6_div, i3_rem, i6_rem, i3_L, i3_nat, i3_inI, ax_up3, ax_up6]
  have e := m0_rl_4 (r := r) (z := z) (f0 := f) hX hI hS hh hh' (V 0 8).toNat 0 (T 4) f none (by omega) (fun j h1 h2 => by omega) (by rw [show mset T 4 (T 4) = T by funext k; unfold mset; split; rename_i e; rw [e]; rfl]; exact hR) RF.rfl
  exact e
theorem m0_fa_9 (hR : RH X r T f) (hI : mInv V) (hS : Sim V T) (hL : ∀ k : Int, 0 ≤ k → k < V 0 8 → T 4 k = lvO V k h) {x y wo : Int} (hh : 0 ≤ h) (hh' : h < 48) (hx : 0 ≤ x) (hx' : x ≤ 7) (hy : 0 ≤ y) (hy' : y ≤ 7) (hw : -2147483648 ≤ wo) (hw' : wo < 2147483648) :
    ∀ (n k : Nat) (q9 q10 : Option Value), (k : Int) + n = V 0 8 → ax_k2 q9 = q9 → ax_G X mX0_fieldAt 0 0 (ax_pv (.int (i3 (mFld V h x y wo))) z f) 9 [some (.ref (r + 2)), some (.int (i3 x)), some (.int (i3 y)), some (.int (i3 wo)), some (.long (i6 (fS V (fun s => lvO V s h) h x y wo k))), none, some (.long (i6 (fW V h x y wo k))), none, some (.int (i3 (k : Int))), q9, q10] [] 0 0 z f := by
  have i0 := hI.2.2.1
  have c2 : f (r + 2) = some (.inr (0, [.ref (r + 3), .int (i3 (T 2 1)), .ref (r + 4), .ref (r + 5), .ref (r + 6), .int (i3 (T 2 5))])) := hR 2 (Or.inl (by decide))
  have c4 : f (r + 4) = some (.inl (X.2.2.1 0, 8, .inl (fun j : Nat => i3 (T 4 (j : Int))))) := hR 4 (Or.inl (by decide))
  rw [hS.2.1.1] at c2
  intro n
  induction n with
  | zero =>
    intro k q9 q10 hk e9
    have r1 := fW_rng (h := h) (wo := wo) hI hx hx' hy hy' k (by omega)
    have r2 := fS_rng (L := fun s => lvO V s h) (h := h) (wo := wo) hI (fun j _ _ => lvO_rng V j h) hx hx' hy hy' k (by omega)
    refine sbX0_fieldAt_9 X 0 0 _ _ _ _ _ _ _ ?_
    simp (disch := omega) only [bkX0_fieldAt_9, ax_ic, ax_lc, ax_nul, ax_il, ax_ll, ax_al, ax_is, ax_ls, ax_as, ax_inc, ax_iadd, ax_isub, ax_imul, ax_iand, ax_ior, ax_idiv, ax_irem, ax_ishl, ax_ishr, ax_ladd, ax_lsub, ax_lmul, ax_ldiv, ax_lrem, ax_ineg, ax_lneg, ax_i2l, ax_l2i, ax_lcmp, ax_dup, ax_pop1, ax_dupx1, ax_dup2, ax_ifeq, ax_ifne, ax_iflt, ax_ifge, ax_ifgt, ax_ifle, ax_iceq, ax_icne, ax_iclt, ax_icge, ax_icgt, ax_icle, ax_ifnull, ax_ifnn, ax_sw, ax_iret, ax_zret, ax_lret, ax_vret, ax_aret, ax_gf, ax_pfi, ax_pfz, ax_pfl, ax_pfr, ax_iald, ax_zald, ax_lald, ax_aald, ax_iast, ax_zast, ax_last, ax_aast, ax_alen, ax_ialdR, ax_alenR, ax_gst, ax_new, ax_nwi, ax_nwl, ax_nwq, ax_obj, ax_call, ax_calv, ax_nth, ax_p1, ax_p2, ax_k2, ax_nh, Value.category, lg_cmp_ge, lg_cmp_lt, lg_cmp_gt, lg_cmp_le, lg_cmp_eq, List.getElem?_cons_zero, List.getElem?_cons_succ, true_and, and_true, if_true, if_false, reduceIte, Nat.reduceEqDiff, Nat.add_eq_zero_iff, reduceCtorEq, Nat.reduceAdd, not_true_eq_false, not_false_eq_true, ax_pf, ax_popn, fv_in, fv_size, fv_drop, fv_within, fv_part, fv_cut, fv_sq, fv_absI, fv_absJ, fv_maxI, fv_minI, fv_maxJ, fv_minJ, List.map_cons, List.map_nil, List.sum_cons, List.sum_nil, Nat.reduceLeDiff, Nat.zero_le, Nat.le_refl, zb_0, zb_1, zb_em, true_or, or_true, Int32.toInt_toInt64, Nat.add_zero, fv_isGlass, fv_mayBe, fv_isReading8, fv_isHour8, fv_isPoint, fv_isReading7, fv_isRoom, fv_isWarmth, fv_isHour7, fv_isOnMap, fv_holds, fv_held, tm_eq, i3_add, i3_sub, i3_mul, i3_neg, i6_add, i6_sub, i6_mul, i6_neg, i6_I, i3_toInt, i6_toInt, i3_lt, i3_le, i3_eq, i6_lt, i6_le, i6_eq, i3_eq0, i3_eq1, i3_lt0, i3_le0, i3_gt0, i3_ge0, i6_eq0, i3_div, i6_div, i3_rem, i6_rem, i3_L, i3_nat, i3_inI, ax_up3, ax_up6, c2]
    refine ⟨fun _ => ax_pv0 ?_, fun q => absurd (by omega) q⟩
    unfold mFld fldZ
    rw [show (V 0 8).toNat = k by omega]
    by_cases q : fW V h x y wo k = 0
    · rw [if_pos q, q, Int.tdiv_zero]
      rfl
    · rw [if_neg q, i6_I]
  | succ n ih =>
    intro k q9 q10 hk e9
    have i := hI.2.2.2.1 k (by omega) (by omega)
    have w := wZ_rng (dx := x - V 5 k) (dy := y - V 6 k) (by omega) (by omega) (by omega) (by omega)
    have r1 := fW_rng (h := h) (wo := wo) hI hx hx' hy hy' k (by omega)
    have r2 := fS_rng (L := fun s => lvO V s h) (h := h) (wo := wo) hI (fun j _ _ => lvO_rng V j h) hx hx' hy hy' k (by omega)
    have l := lvO_rng V k h
    have l1 := lvO_1 (V := V) (s := (k : Int)) (h := h)
    have lk := hL k (by omega) (by omega)
    have ss := hS.2.1.2 ((k : Int).toNat) (by omega)
    rw [show (((k : Int).toNat : Nat) : Int) = k by omega] at ss
    have cs := hR.st (k := (k : Int).toNat) (by rw [hS.2.1.1]; omega)
    rw [ss.1, ss.2.1] at cs
    have skip : ∀ q9 q10 : Option Value, ax_k2 q9 = q9 → ¬ ((k : Int) ≠ wo ∧ 0 < V 9 (48 * k + h)) → ax_G X mX0_fieldAt 0 0 (ax_pv (.int (i3 (mFld V h x y wo))) z f) 9 [some (.ref (r + 2)), some (.int (i3 x)), some (.int (i3 y)), some (.int (i3 wo)), some (.long (i6 (fS V (fun s => lvO V s h) h x y wo k))), none, some (.long (i6 (fW V h x y wo k))), none, some (.int (i3 ((k : Int) + 1))), q9, q10] [] 0 0 z f := fun q9 q10 e9 hn => by
      have e := ih (k + 1) q9 q10 (by omega) e9
      rw [show fS V (fun s => lvO V s h) h x y wo (k + 1) = fS V (fun s => lvO V s h) h x y wo k by rw [fS, if_neg hn]; omega, show fW V h x y wo (k + 1) = fW V h x y wo k by rw [fW, if_neg hn]; omega] at e
      exact e
    have a := mul_bd (x := x - V 5 k) (y := x - V 5 k) (A := 7) (B := 7) (by omega) (by omega) (by omega) (by omega)
    have b := mul_bd (x := y - V 6 k) (y := y - V 6 k) (A := 7) (B := 7) (by omega) (by omega) (by omega) (by omega)
    have hwz : (1000 : Int).tdiv (1 + ((x - V 5 k) * (x - V 5 k) + (y - V 6 k) * (y - V 6 k))) = wZ (x - V 5 k) (y - V 6 k) := by
      unfold wZ
      rw [Int.add_assoc]
    have m1 := mul_nn (x := lvO V k h) (y := wZ (x - V 5 k) (y - V 6 k)) (A := 20000) (B := 1000) l.1 l.2 (by omega) (by omega)
    refine sbX0_fieldAt_9 X 0 0 _ _ _ _ _ _ _ ?_
    simp (disch := omega) only [bkX0_fieldAt_9, ax_ic, ax_lc, ax_nul, ax_il, ax_ll, ax_al, ax_is, ax_ls, ax_as, ax_inc, ax_iadd, ax_isub, ax_imul, ax_iand, ax_ior, ax_idiv, ax_irem, ax_ishl, ax_ishr, ax_ladd, ax_lsub, ax_lmul, ax_ldiv, ax_lrem, ax_ineg, ax_lneg, ax_i2l, ax_l2i, ax_lcmp, ax_dup, ax_pop1, ax_dupx1, ax_dup2, ax_ifeq, ax_ifne, ax_iflt, ax_ifge, ax_ifgt, ax_ifle, ax_iceq, ax_icne, ax_iclt, ax_icge, ax_icgt, ax_icle, ax_ifnull, ax_ifnn, ax_sw, ax_iret, ax_zret, ax_lret, ax_vret, ax_aret, ax_gf, ax_pfi, ax_pfz, ax_pfl, ax_pfr, ax_iald, ax_zald, ax_lald, ax_aald, ax_iast, ax_zast, ax_last, ax_aast, ax_alen, ax_ialdR, ax_alenR, ax_gst, ax_new, ax_nwi, ax_nwl, ax_nwq, ax_obj, ax_call, ax_calv, ax_nth, ax_p1, ax_p2, ax_k2, ax_nh, Value.category, lg_cmp_ge, lg_cmp_lt, lg_cmp_gt, lg_cmp_le, lg_cmp_eq, List.getElem?_cons_zero, List.getElem?_cons_succ, true_and, and_true, if_true, if_false, reduceIte, Nat.reduceEqDiff, Nat.add_eq_zero_iff, reduceCtorEq, Nat.reduceAdd, not_true_eq_false, not_false_eq_true, ax_pf, ax_popn, fv_in, fv_size, fv_drop, fv_within, fv_part, fv_cut, fv_sq, fv_absI, fv_absJ, fv_maxI, fv_minI, fv_maxJ, fv_minJ, List.map_cons, List.map_nil, List.sum_cons, List.sum_nil, Nat.reduceLeDiff, Nat.zero_le, Nat.le_refl, zb_0, zb_1, zb_em, true_or, or_true, Int32.toInt_toInt64, Nat.add_zero, fv_isGlass, fv_mayBe, fv_isReading8, fv_isHour8, fv_isPoint, fv_isReading7, fv_isRoom, fv_isWarmth, fv_isHour7, fv_isOnMap, fv_holds, fv_held, tm_eq, i3_add, i3_sub, i3_mul, i3_neg, i6_add, i6_sub, i6_mul, i6_neg, i6_I, i3_toInt, i6_toInt, i3_lt, i3_le, i3_eq, i6_lt, i6_le, i6_eq, i3_eq0, i3_eq1, i3_lt0, i3_le0, i3_gt0, i3_ge0, i6_eq0, i3_div, i6_div, i3_rem, i6_rem, i3_L, i3_nat, i3_inI, ax_up3, ax_up6, c2]
    refine ⟨fun q => absurd q (by omega), fun _ => ⟨⟨_, c2⟩, ax_fn (Nat.le_of_ble_eq_true rfl) (Nat.zero_le _) (Nat.zero_le _) (m0_findI hR hI hS (by omega) (by omega)) ?_⟩⟩
    simp (disch := omega) only [ax_ic, ax_lc, ax_nul, ax_il, ax_ll, ax_al, ax_is, ax_ls, ax_as, ax_inc, ax_iadd, ax_isub, ax_imul, ax_iand, ax_ior, ax_idiv, ax_irem, ax_ishl, ax_ishr, ax_ladd, ax_lsub, ax_lmul, ax_ldiv, ax_lrem, ax_ineg, ax_lneg, ax_i2l, ax_l2i, ax_lcmp, ax_dup, ax_pop1, ax_dupx1, ax_dup2, ax_ifeq, ax_ifne, ax_iflt, ax_ifge, ax_ifgt, ax_ifle, ax_iceq, ax_icne, ax_iclt, ax_icge, ax_icgt, ax_icle, ax_ifnull, ax_ifnn, ax_sw, ax_iret, ax_zret, ax_lret, ax_vret, ax_aret, ax_gf, ax_pfi, ax_pfz, ax_pfl, ax_pfr, ax_iald, ax_zald, ax_lald, ax_aald, ax_iast, ax_zast, ax_last, ax_aast, ax_alen, ax_ialdR, ax_alenR, ax_gst, ax_new, ax_nwi, ax_nwl, ax_nwq, ax_obj, ax_call, ax_calv, ax_nth, ax_p1, ax_p2, ax_k2, ax_nh, Value.category, lg_cmp_ge, lg_cmp_lt, lg_cmp_gt, lg_cmp_le, lg_cmp_eq, List.getElem?_cons_zero, List.getElem?_cons_succ, true_and, and_true, if_true, if_false, reduceIte, Nat.reduceEqDiff, Nat.add_eq_zero_iff, reduceCtorEq, Nat.reduceAdd, not_true_eq_false, not_false_eq_true, ax_pf, ax_popn, fv_in, fv_size, fv_drop, fv_within, fv_part, fv_cut, fv_sq, fv_absI, fv_absJ, fv_maxI, fv_minI, fv_maxJ, fv_minJ, List.map_cons, List.map_nil, List.sum_cons, List.sum_nil, Nat.reduceLeDiff, Nat.zero_le, Nat.le_refl, zb_0, zb_1, zb_em, true_or, or_true, Int32.toInt_toInt64, Nat.add_zero, fv_isGlass, fv_mayBe, fv_isReading8, fv_isHour8, fv_isPoint, fv_isReading7, fv_isRoom, fv_isWarmth, fv_isHour7, fv_isOnMap, fv_holds, fv_held, tm_eq, i3_add, i3_sub, i3_mul, i3_neg, i6_add, i6_sub, i6_mul, i6_neg, i6_I, i3_toInt, i6_toInt, i3_lt, i3_le, i3_eq, i6_lt, i6_le, i6_eq, i3_eq0, i3_eq1, i3_lt0, i3_le0, i3_gt0, i3_ge0, i6_eq0, i3_div, i6_div, i3_rem, i6_rem, i3_L, i3_nat, i3_inI, ax_up3, ax_up6, c2, c4, cs, lk, hwz]
    refine ⟨by omega, fun c => skip _ _ rfl (fun d => by have := l1.mp d.2; omega), fun c => ⟨fun d => skip _ _ rfl (fun e => e.1 d), fun d => ⟨by omega, by omega, ?_⟩⟩⟩
    have e := ih (k + 1) (some (.ref (r + 67 + 5 * (k : Int).toNat))) (some (.int (i3 (wZ (x - V 5 k) (y - V 6 k))))) (by omega) rfl
    rw [show fS V (fun s => lvO V s h) h x y wo (k + 1) = fS V (fun s => lvO V s h) h x y wo k + lvO V k h * wZ (x - V 5 k) (y - V 6 k) by rw [fS, if_pos ⟨d, l1.mpr c⟩], show fW V h x y wo (k + 1) = fW V h x y wo k + wZ (x - V 5 k) (y - V 6 k) by rw [fW, if_pos ⟨d, l1.mpr c⟩]] at e
    exact e
theorem m0_fieldAt (hR : RH X r T f) (hI : mInv V) (hS : Sim V T) (hL : ∀ k : Int, 0 ≤ k → k < V 0 8 → T 4 k = lvO V k h) {x y wo : Int} (hh : 0 ≤ h) (hh' : h < 48) (hx : 0 ≤ x) (hx' : x ≤ 7) (hy : 0 ≤ y) (hy' : y ≤ 7) (hw : -2147483648 ≤ wo) (hw' : wo < 2147483648) :
    ax_M X mX0_fieldAt 0 0 [.ref (r + 2), .int (i3 x), .int (i3 y), .int (i3 wo)] z f (ax_pv (.int (i3 (mFld V h x y wo))) z f) := by
  have i0 := hI.2.2.1
  refine ax_met2 [some (.ref (r + 2)), some (.int (i3 x)), some (.int (i3 y)), some (.int (i3 wo)), none, none, none, none, none, none, none] (by decide) (Nat.le_of_ble_eq_true rfl) rfl ?_
  refine sbX0_fieldAt_0 X 0 0 _ _ _ _ _ _ _ ?_
  simp (disch := omega) only [bkX0_fieldAt_0, ax_ic, ax_lc, ax_nul, ax_il, ax_ll, ax_al, ax_is, ax_ls, ax_as, ax_inc, ax_iadd, ax_isub, ax_imul, ax_iand, ax_ior, ax_idiv, ax_irem, ax_ishl, ax_ishr, ax_ladd, ax_lsub, ax_lmul, ax_ldiv, ax_lrem, ax_ineg, ax_lneg, ax_i2l, ax_l2i, ax_lcmp, ax_dup, ax_pop1, ax_dupx1, ax_dup2, ax_ifeq, ax_ifne, ax_iflt, ax_ifge, ax_ifgt, ax_ifle, ax_iceq, ax_icne, ax_iclt, ax_icge, ax_icgt, ax_icle, ax_ifnull, ax_ifnn, ax_sw, ax_iret, ax_zret, ax_lret, ax_vret, ax_aret, ax_gf, ax_pfi, ax_pfz, ax_pfl, ax_pfr, ax_iald, ax_zald, ax_lald, ax_aald, ax_iast, ax_zast, ax_last, ax_aast, ax_alen, ax_ialdR, ax_alenR, ax_gst, ax_new, ax_nwi, ax_nwl, ax_nwq, ax_obj, ax_call, ax_calv, ax_nth, ax_p1, ax_p2, ax_k2, ax_nh, Value.category, lg_cmp_ge, lg_cmp_lt, lg_cmp_gt, lg_cmp_le, lg_cmp_eq, List.getElem?_cons_zero, List.getElem?_cons_succ, true_and, and_true, if_true, if_false, reduceIte, Nat.reduceEqDiff, Nat.add_eq_zero_iff, reduceCtorEq, Nat.reduceAdd, not_true_eq_false, not_false_eq_true, ax_pf, ax_popn, fv_in, fv_size, fv_drop, fv_within, fv_part, fv_cut, fv_sq, fv_absI, fv_absJ, fv_maxI, fv_minI, fv_maxJ, fv_minJ, List.map_cons, List.map_nil, List.sum_cons, List.sum_nil, Nat.reduceLeDiff, Nat.zero_le, Nat.le_refl, zb_0, zb_1, zb_em, true_or, or_true, Int32.toInt_toInt64, Nat.add_zero, fv_isGlass, fv_mayBe, fv_isReading8, fv_isHour8, fv_isPoint, fv_isReading7, fv_isRoom, fv_isWarmth, fv_isHour7, fv_isOnMap, fv_holds, fv_held, tm_eq, i3_add, i3_sub, i3_mul, i3_neg, i6_add, i6_sub, i6_mul, i6_neg, i6_I, i3_toInt, i6_toInt, i3_lt, i3_le, i3_eq, i6_lt, i6_le, i6_eq, i3_eq0, i3_eq1, i3_lt0, i3_le0, i3_gt0, i3_ge0, i6_eq0, i3_div, i6_div, i3_rem, i6_rem, i3_L, i3_nat, i3_inI, ax_up3, ax_up6]
  exact m0_fa_9 hR hI hS hL hh hh' hx hx' hy hy' hw hw' (V 0 8).toNat 0 none none (by omega) rfl
def exZ (V : Nat → Int → Int) (s h : Int) : Int := if hmZ V s h then msZ V s h else -1000000
theorem m0_excess (hR : RH X r T f) (hI : mInv V) (hS : Sim V T) (hL : ∀ k : Int, 0 ≤ k → k < V 0 8 → T 4 k = lvO V k h) {s : Int} (hh : 0 ≤ h) (hh' : h < 48) (hs : 0 ≤ s) (hs' : s < V 0 8) :
    ax_M X mX0_excess 0 0 [.ref (r + 2), .int (i3 s)] z f (ax_pv (.int (i3 (exZ V s h))) z f) := by
  have i0 := hI.2.2.1
  have i := hI.2.2.2.1 s hs (by omega)
  have c2 : f (r + 2) = some (.inr (0, [.ref (r + 3), .int (i3 (T 2 1)), .ref (r + 4), .ref (r + 5), .ref (r + 6), .int (i3 (T 2 5))])) := hR 2 (Or.inl (by decide))
  have c4 : f (r + 4) = some (.inl (X.2.2.1 0, 8, .inl (fun j : Nat => i3 (T 4 (j : Int))))) := hR 4 (Or.inl (by decide))
  rw [hS.2.1.1] at c2
  have lk := hL s hs hs'
  have l := lvO_rng V s h
  have l1 := lvO_1 (V := V) (s := s) (h := h)
  have ss := hS.2.1.2 s.toNat (by omega)
  rw [show ((s.toNat : Nat) : Int) = s by omega] at ss
  have cs := hR.st (k := s.toNat) (by rw [hS.2.1.1]; omega)
  rw [ss.1, ss.2.1] at cs
  have mr := mFld_rng (h := h) (wo := s) hI (x := V 5 s) (y := V 6 s) (by omega) (by omega) (by omega) (by omega)
  have m1 := mFld_1 (h := h) (wo := s) hI (x := V 5 s) (y := V 6 s) (by omega) (by omega) (by omega) (by omega)
  refine ax_met2 [some (.ref (r + 2)), some (.int (i3 s)), none, none] (by decide) (Nat.le_of_ble_eq_true rfl) rfl ?_
  refine sbX0_excess_0 X 0 0 _ _ _ _ _ _ _ ?_
  simp (disch := omega) only [bkX0_excess_0, ax_ic, ax_lc, ax_nul, ax_il, ax_ll, ax_al, ax_is, ax_ls, ax_as, ax_inc, ax_iadd, ax_isub, ax_imul, ax_iand, ax_ior, ax_idiv, ax_irem, ax_ishl, ax_ishr, ax_ladd, ax_lsub, ax_lmul, ax_ldiv, ax_lrem, ax_ineg, ax_lneg, ax_i2l, ax_l2i, ax_lcmp, ax_dup, ax_pop1, ax_dupx1, ax_dup2, ax_ifeq, ax_ifne, ax_iflt, ax_ifge, ax_ifgt, ax_ifle, ax_iceq, ax_icne, ax_iclt, ax_icge, ax_icgt, ax_icle, ax_ifnull, ax_ifnn, ax_sw, ax_iret, ax_zret, ax_lret, ax_vret, ax_aret, ax_gf, ax_pfi, ax_pfz, ax_pfl, ax_pfr, ax_iald, ax_zald, ax_lald, ax_aald, ax_iast, ax_zast, ax_last, ax_aast, ax_alen, ax_ialdR, ax_alenR, ax_gst, ax_new, ax_nwi, ax_nwl, ax_nwq, ax_obj, ax_call, ax_calv, ax_nth, ax_p1, ax_p2, ax_k2, ax_nh, Value.category, lg_cmp_ge, lg_cmp_lt, lg_cmp_gt, lg_cmp_le, lg_cmp_eq, List.getElem?_cons_zero, List.getElem?_cons_succ, true_and, and_true, if_true, if_false, reduceIte, Nat.reduceEqDiff, Nat.add_eq_zero_iff, reduceCtorEq, Nat.reduceAdd, not_true_eq_false, not_false_eq_true, ax_pf, ax_popn, fv_in, fv_size, fv_drop, fv_within, fv_part, fv_cut, fv_sq, fv_absI, fv_absJ, fv_maxI, fv_minI, fv_maxJ, fv_minJ, List.map_cons, List.map_nil, List.sum_cons, List.sum_nil, Nat.reduceLeDiff, Nat.zero_le, Nat.le_refl, zb_0, zb_1, zb_em, true_or, or_true, Int32.toInt_toInt64, Nat.add_zero, fv_isGlass, fv_mayBe, fv_isReading8, fv_isHour8, fv_isPoint, fv_isReading7, fv_isRoom, fv_isWarmth, fv_isHour7, fv_isOnMap, fv_holds, fv_held, tm_eq, i3_add, i3_sub, i3_mul, i3_neg, i6_add, i6_sub, i6_mul, i6_neg, i6_I, i3_toInt, i6_toInt, i3_lt, i3_le, i3_eq, i6_lt, i6_le, i6_eq, i3_eq0, i3_eq1, i3_lt0, i3_le0, i3_gt0, i3_ge0, i6_eq0, i3_div, i6_div, i3_rem, i6_rem, i3_L, i3_nat, i3_inI, ax_up3, ax_up6, c2]
  refine ⟨⟨_, c2⟩, ax_fn (Nat.le_of_ble_eq_true rfl) (Nat.zero_le _) (Nat.zero_le _) (m0_findI hR hI hS (by omega) (by omega)) ?_⟩
  simp (disch := omega) only [ax_ic, ax_lc, ax_nul, ax_il, ax_ll, ax_al, ax_is, ax_ls, ax_as, ax_inc, ax_iadd, ax_isub, ax_imul, ax_iand, ax_ior, ax_idiv, ax_irem, ax_ishl, ax_ishr, ax_ladd, ax_lsub, ax_lmul, ax_ldiv, ax_lrem, ax_ineg, ax_lneg, ax_i2l, ax_l2i, ax_lcmp, ax_dup, ax_pop1, ax_dupx1, ax_dup2, ax_ifeq, ax_ifne, ax_iflt, ax_ifge, ax_ifgt, ax_ifle, ax_iceq, ax_icne, ax_iclt, ax_icge, ax_icgt, ax_icle, ax_ifnull, ax_ifnn, ax_sw, ax_iret, ax_zret, ax_lret, ax_vret, ax_aret, ax_gf, ax_pfi, ax_pfz, ax_pfl, ax_pfr, ax_iald, ax_zald, ax_lald, ax_aald, ax_iast, ax_zast, ax_last, ax_aast, ax_alen, ax_ialdR, ax_alenR, ax_gst, ax_new, ax_nwi, ax_nwl, ax_nwq, ax_obj, ax_call, ax_calv, ax_nth, ax_p1, ax_p2, ax_k2, ax_nh, Value.category, lg_cmp_ge, lg_cmp_lt, lg_cmp_gt, lg_cmp_le, lg_cmp_eq, List.getElem?_cons_zero, List.getElem?_cons_succ, true_and, and_true, if_true, if_false, reduceIte, Nat.reduceEqDiff, Nat.add_eq_zero_iff, reduceCtorEq, Nat.reduceAdd, not_true_eq_false, not_false_eq_true, ax_pf, ax_popn, fv_in, fv_size, fv_drop, fv_within, fv_part, fv_cut, fv_sq, fv_absI, fv_absJ, fv_maxI, fv_minI, fv_maxJ, fv_minJ, List.map_cons, List.map_nil, List.sum_cons, List.sum_nil, Nat.reduceLeDiff, Nat.zero_le, Nat.le_refl, zb_0, zb_1, zb_em, true_or, or_true, Int32.toInt_toInt64, Nat.add_zero, fv_isGlass, fv_mayBe, fv_isReading8, fv_isHour8, fv_isPoint, fv_isReading7, fv_isRoom, fv_isWarmth, fv_isHour7, fv_isOnMap, fv_holds, fv_held, tm_eq, i3_add, i3_sub, i3_mul, i3_neg, i6_add, i6_sub, i6_mul, i6_neg, i6_I, i3_toInt, i6_toInt, i3_lt, i3_le, i3_eq, i6_lt, i6_le, i6_eq, i3_eq0, i3_eq1, i3_lt0, i3_le0, i3_gt0, i3_ge0, i6_eq0, i3_div, i6_div, i3_rem, i6_rem, i3_L, i3_nat, i3_inI, ax_up3, ax_up6, c2, c4, cs, lk]
  refine ⟨by omega, fun a => ?_, fun a => ax_pv0 (by unfold exZ; rw [if_neg (fun c => by have := l1.mp c.1; omega)])⟩
  refine ⟨⟨_, c2⟩, ax_fn (Nat.le_of_ble_eq_true rfl) (Nat.zero_le _) (Nat.zero_le _) (m0_fieldAt hR hI hS hL hh hh' (by omega) (by omega) (by omega) (by omega) (by omega) (by omega)) ?_⟩
  simp (disch := omega) only [ax_ic, ax_lc, ax_nul, ax_il, ax_ll, ax_al, ax_is, ax_ls, ax_as, ax_inc, ax_iadd, ax_isub, ax_imul, ax_iand, ax_ior, ax_idiv, ax_irem, ax_ishl, ax_ishr, ax_ladd, ax_lsub, ax_lmul, ax_ldiv, ax_lrem, ax_ineg, ax_lneg, ax_i2l, ax_l2i, ax_lcmp, ax_dup, ax_pop1, ax_dupx1, ax_dup2, ax_ifeq, ax_ifne, ax_iflt, ax_ifge, ax_ifgt, ax_ifle, ax_iceq, ax_icne, ax_iclt, ax_icge, ax_icgt, ax_icle, ax_ifnull, ax_ifnn, ax_sw, ax_iret, ax_zret, ax_lret, ax_vret, ax_aret, ax_gf, ax_pfi, ax_pfz, ax_pfl, ax_pfr, ax_iald, ax_zald, ax_lald, ax_aald, ax_iast, ax_zast, ax_last, ax_aast, ax_alen, ax_ialdR, ax_alenR, ax_gst, ax_new, ax_nwi, ax_nwl, ax_nwq, ax_obj, ax_call, ax_calv, ax_nth, ax_p1, ax_p2, ax_k2, ax_nh, Value.category, lg_cmp_ge, lg_cmp_lt, lg_cmp_gt, lg_cmp_le, lg_cmp_eq, List.getElem?_cons_zero, List.getElem?_cons_succ, true_and, and_true, if_true, if_false, reduceIte, Nat.reduceEqDiff, Nat.add_eq_zero_iff, reduceCtorEq, Nat.reduceAdd, not_true_eq_false, not_false_eq_true, ax_pf, ax_popn, fv_in, fv_size, fv_drop, fv_within, fv_part, fv_cut, fv_sq, fv_absI, fv_absJ, fv_maxI, fv_minI, fv_maxJ, fv_minJ, List.map_cons, List.map_nil, List.sum_cons, List.sum_nil, Nat.reduceLeDiff, Nat.zero_le, Nat.le_refl, zb_0, zb_1, zb_em, true_or, or_true, Int32.toInt_toInt64, Nat.add_zero, fv_isGlass, fv_mayBe, fv_isReading8, fv_isHour8, fv_isPoint, fv_isReading7, fv_isRoom, fv_isWarmth, fv_isHour7, fv_isOnMap, fv_holds, fv_held, tm_eq, i3_add, i3_sub, i3_mul, i3_neg, i6_add, i6_sub, i6_mul, i6_neg, i6_I, i3_toInt, i6_toInt, i3_lt, i3_le, i3_eq, i6_lt, i6_le, i6_eq, i3_eq0, i3_eq1, i3_lt0, i3_le0, i3_gt0, i3_ge0, i6_eq0, i3_div, i6_div, i3_rem, i6_rem, i3_L, i3_nat, i3_inI, ax_up3, ax_up6, c2, c4, cs, lk]
  refine ⟨fun b => ⟨by omega, ax_pv0 ?_⟩, fun b => ax_pv0 ?_⟩
  · unfold exZ
    rw [if_pos ⟨l1.mpr a, m1.mp b⟩]
    rfl
  · unfold exZ
    rw [if_neg (fun c => m1.mpr c.2 b)]
theorem m0_fieldOf (hR : RH X r T f) {p : Int} (hp : 0 ≤ p) (hp' : p < 64) : ax_M X mX0_fieldOf 0 0 [.ref (r + 2), .int (i3 p)] z f (ax_pv (.int (i3 (T 5 p))) z f) := by
  have c2 : f (r + 2) = some (.inr (0, [.ref (r + 3), .int (i3 (T 2 1)), .ref (r + 4), .ref (r + 5), .ref (r + 6), .int (i3 (T 2 5))])) := hR 2 (Or.inl (by decide))
  have c5 : f (r + 5) = some (.inl (X.2.2.1 0, 64, .inl (fun j : Nat => i3 (T 5 (j : Int))))) := hR 5 (Or.inl (by decide))
  refine ax_met2 [some (.ref (r + 2)), some (.int (i3 p))] (by decide) (Nat.le_of_ble_eq_true rfl) rfl ?_
  refine sbX0_fieldOf_0 X 0 0 _ _ _ _ _ _ _ ?_
  simp (disch := omega) only [bkX0_fieldOf_0, ax_ic, ax_lc, ax_nul, ax_il, ax_ll, ax_al, ax_is, ax_ls, ax_as, ax_inc, ax_iadd, ax_isub, ax_imul, ax_iand, ax_ior, ax_idiv, ax_irem, ax_ishl, ax_ishr, ax_ladd, ax_lsub, ax_lmul, ax_ldiv, ax_lrem, ax_ineg, ax_lneg, ax_i2l, ax_l2i, ax_lcmp, ax_dup, ax_pop1, ax_dupx1, ax_dup2, ax_ifeq, ax_ifne, ax_iflt, ax_ifge, ax_ifgt, ax_ifle, ax_iceq, ax_icne, ax_iclt, ax_icge, ax_icgt, ax_icle, ax_ifnull, ax_ifnn, ax_sw, ax_iret, ax_zret, ax_lret, ax_vret, ax_aret, ax_gf, ax_pfi, ax_pfz, ax_pfl, ax_pfr, ax_iald, ax_zald, ax_lald, ax_aald, ax_iast, ax_zast, ax_last, ax_aast, ax_alen, ax_ialdR, ax_alenR, ax_gst, ax_new, ax_nwi, ax_nwl, ax_nwq, ax_obj, ax_call, ax_calv, ax_nth, ax_p1, ax_p2, ax_k2, ax_nh, Value.category, lg_cmp_ge, lg_cmp_lt, lg_cmp_gt, lg_cmp_le, lg_cmp_eq, List.getElem?_cons_zero, List.getElem?_cons_succ, true_and, and_true, if_true, if_false, reduceIte, Nat.reduceEqDiff, Nat.add_eq_zero_iff, reduceCtorEq, Nat.reduceAdd, not_true_eq_false, not_false_eq_true, ax_pf, ax_popn, fv_in, fv_size, fv_drop, fv_within, fv_part, fv_cut, fv_sq, fv_absI, fv_absJ, fv_maxI, fv_minI, fv_maxJ, fv_minJ, List.map_cons, List.map_nil, List.sum_cons, List.sum_nil, Nat.reduceLeDiff, Nat.zero_le, Nat.le_refl, zb_0, zb_1, zb_em, true_or, or_true, Int32.toInt_toInt64, Nat.add_zero, fv_isGlass, fv_mayBe, fv_isReading8, fv_isHour8, fv_isPoint, fv_isReading7, fv_isRoom, fv_isWarmth, fv_isHour7, fv_isOnMap, fv_holds, fv_held, tm_eq, i3_add, i3_sub, i3_mul, i3_neg, i6_add, i6_sub, i6_mul, i6_neg, i6_I, i3_toInt, i6_toInt, i3_lt, i3_le, i3_eq, i6_lt, i6_le, i6_eq, i3_eq0, i3_eq1, i3_lt0, i3_le0, i3_gt0, i3_ge0, i6_eq0, i3_div, i6_div, i3_rem, i6_rem, i3_L, i3_nat, i3_inI, ax_up3, ax_up6, c2, c5]
  exact ⟨by omega, ax_pv0 rfl⟩
/-! a low, by the class's own loops -/
abbrev bdC (S : Int → Int) (p y x : Int) : Prop := S (8 * y + x) < S p ∨ (8 * y + x < p ∧ S (8 * y + x) = S p)
theorem lowP_C {S : Int → Int} {p : Int} (h0 : 0 ≤ p) (h1 : p < 64) : lowP S p ↔ ∀ y x : Int, 0 ≤ y → y ≤ 7 → 0 ≤ x → x ≤ 7 → p / 8 - 1 ≤ y → y ≤ p / 8 + 1 → p % 8 - 1 ≤ x → x ≤ p % 8 + 1 → ¬ bdC S p y x := by
  have e1 : p.tmod 8 = p % 8 := Int.tmod_eq_emod_of_nonneg h0
  have e2 : p.tdiv 8 = p / 8 := Int.tdiv_eq_ediv_of_nonneg h0
  unfold lowP badZ
  rw [e1, e2]
  constructor
  · intro h y x a1 a2 a3 a4 a5 a6 a7 a8 c
    refine h (y - p / 8) (x - p % 8) (by omega) (by omega) (by omega) (by omega) ⟨by omega, ?_, ?_⟩
    · intro e
      rw [show p / 8 + (y - p / 8) = y by omega, show p % 8 + (x - p % 8) = x by omega] at e
      rcases c with c | c
      · rw [e] at c; omega
      · omega
    · rw [show p / 8 + (y - p / 8) = y by omega, show p % 8 + (x - p % 8) = x by omega]
      rcases c with c | c
      · exact Or.inl c
      · exact Or.inr ⟨c.2, c.1⟩
  · intro h dy dx a1 a2 a3 a4 c
    refine h (p / 8 + dy) (p % 8 + dx) (by omega) (by omega) (by omega) (by omega) (by omega) (by omega) (by omega) (by omega) ?_
    rcases c.2.2 with d | d
    · exact Or.inl d
    · exact Or.inr ⟨d.2, d.1⟩
end FLD
