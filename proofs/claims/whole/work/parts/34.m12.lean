theorem ax_G_mono {X : ax_X} {mi : ax_MI} {mc ms : Nat} {Q Q' : Option Value → Nat → ax_F → Prop} {pc : Nat} {ls : List (Option Value)} {st : List Value} {c n z : Nat} {f : ax_F} (hQ : ∀ v z f, Q v z f → Q' v z f) (e : ax_G X mi mc ms Q pc ls st c n z f) : ax_G X mi mc ms Q' pc ls st c n z f := by
  intro p e1 s m args below meth co C HH locs la hl hR hL hz
  intro T hT Xs
  obtain ⟨t, a1, oo, b1, b2, ⟨v, z', f', r1, r2, r3⟩, b4⟩ := e p e1 s m args below meth co C HH locs la hl hR hL hz T hT Xs
  exact ⟨t, a1, oo, b1, b2, ⟨v, z', f', r1, hQ _ _ _ r2, r3⟩, b4⟩
/-- sums and counts of the hours ahead of h, and from it on, of the first k hours -/
def aS (M P : Int → Int) (h : Int) : Nat → Int
  | 0 => 0
  | k + 1 => aS M P h k + (if P k = 1 ∧ (k : Int) < h then M k else 0)
def aN (P : Int → Int) (h : Int) : Nat → Int
  | 0 => 0
  | k + 1 => aN P h k + (if P k = 1 ∧ (k : Int) < h then 1 else 0)
def bS (M P : Int → Int) (h : Int) : Nat → Int
  | 0 => 0
  | k + 1 => bS M P h k + (if P k = 1 ∧ ¬ (k : Int) < h then M k else 0)
def bN (P : Int → Int) (h : Int) : Nat → Int
  | 0 => 0
  | k + 1 => bN P h k + (if P k = 1 ∧ ¬ (k : Int) < h then 1 else 0)
/-- a row of yes and no, and of numbers that are small where it says yes -/
abbrev rowOk (M P : Int → Int) : Prop := ∀ j : Int, 0 ≤ j → j < 48 → (P j = 0 ∨ P j = 1) ∧ (P j = 1 → -20000 ≤ M j ∧ M j ≤ 20000)
theorem abs_rng {M P : Int → Int} {h : Int} (hr : rowOk M P) : ∀ k : Nat, k ≤ 48 → (-(20000 * (k : Int)) ≤ aS M P h k ∧ aS M P h k ≤ 20000 * k) ∧ (0 ≤ aN P h k ∧ aN P h k ≤ k) ∧ (-(20000 * (k : Int)) ≤ bS M P h k ∧ bS M P h k ≤ 20000 * k) ∧ (0 ≤ bN P h k ∧ bN P h k ≤ k)
  | 0, _ => by simp [aS, aN, bS, bN]
  | k + 1, hk => by
    have ih := abs_rng (h := h) hr k (by omega)
    have r := hr k (by omega) (by omega)
    unfold aS aN bS bN
    refine ⟨?_, ?_, ?_, ?_⟩ <;> split
    all_goals first | omega | (rename_i q; have := r.2 q.1; omega)
abbrev Tr : Type := Int × Int × Int
/-- an hour tried: kept, if it is the first or its change is greater -/
def tryZ (M P : Int → Int) (h : Int) (t : Tr) : Tr :=
  if aN P h 48 < 2 ∨ bN P h 48 < 2 then t
  else if t.1 < 0 ∨ ((t.2.1).natAbs : Int) * (aN P h 48 * bN P h 48) < ((bS M P h 48 * aN P h 48 - aS M P h 48 * bN P h 48).natAbs : Int) * t.2.2 then (h, bS M P h 48 * aN P h 48 - aS M P h 48 * bN P h 48, aN P h 48 * bN P h 48) else t
abbrev trOk (t : Tr) : Prop := (-6 ≤ t.1 ∧ t.1 ≤ 47) ∧ (-100000000 ≤ t.2.1 ∧ t.2.1 ≤ 100000000) ∧ (1 ≤ t.2.2 ∧ t.2.2 ≤ 2304)
theorem tryZ_ok {M P : Int → Int} {h : Int} {t : Tr} (hr : rowOk M P) (h0 : 0 ≤ h) (h1 : h ≤ 47) (ht : trOk t) : trOk (tryZ M P h t) := by
  have r := abs_rng (h := h) hr 48 (by omega)
  unfold tryZ
  split
  · exact ht
  · rename_i q
    split
    · have a := mul_bd (x := bS M P h 48) (y := aN P h 48) (A := 960000) (B := 48) (by omega) (by omega) (by omega) (by omega)
      have b := mul_bd (x := aS M P h 48) (y := bN P h 48) (A := 960000) (B := 48) (by omega) (by omega) (by omega) (by omega)
      have c := mul_p (x := aN P h 48) (y := bN P h 48) (A := 48) (B := 48) (by omega) (by omega) (by omega) (by omega)
      refine ⟨?_, ?_, ?_⟩ <;> dsimp only <;> omega
    · exact ht
theorem m8_try_loop {X : ax_X} {o z : Nat} {V : Nat → Int → Int} {f : ax_F} {h : Int} (hM : MH X o V f) (hr : rowOk (V 24) (V 25)) (ht : trOk (V 0 28, V 0 29, V 0 30)) (h0 : 0 ≤ h) (h1 : h ≤ 47) :
    ∀ (n k : Nat), k + n = 48 → ax_G X mX8_tryHour 0 0 (fun v z' f' => v = none ∧ z' = z ∧ MF o f f' ∧ ∃ V' : Nat → Int → Int, MH X o V' f' ∧ (∀ j : Nat, 1 ≤ j → V' j = V j) ∧ (V' 0 28, V' 0 29, V' 0 30) = tryZ (V 24) (V 25) h (V 0 28, V 0 29, V 0 30) ∧ core V V') 14 [some (.ref o), some (.int (i3 h)), some (.long (i6 (aS (V 24) (V 25) h k))), none, some (.long (i6 (bS (V 24) (V 25) h k))), none, some (.long (i6 (aN (V 25) h k))), none, some (.long (i6 (bN (V 25) h k))), none, some (.int (i3 k)), none, none, none] [] 0 0 z f := by
  have m0 : f o = some (.inr (7, [.ref (o + 1), .ref (o + 2), .ref (o + 3), .ref (o + 4), .ref (o + 5), .ref (o + 6), .ref (o + 7), .ref (o + 8), .int (i3 (V 0 8)), .ref (o + 9), .ref (o + 10), .ref (o + 11), .ref (o + 12), .ref (o + 13), .int (i3 (V 0 14)), .ref (o + 14), .ref (o + 15), .ref (o + 16), .ref (o + 17), .int (i3 (V 0 19)), .ref (o + 18), .int (i3 (V 0 21)), .ref (o + 19), .long (i6 (V 0 23)), .ref (o + 20), .ref (o + 21), .ref (o + 22), .ref (o + 23), .int (i3 (V 0 28)), .long (i6 (V 0 29)), .long (i6 (V 0 30)), .ref (o + 24), .ref (o + 25)])) := hM 0 (by decide)
  have m24 : f (o + 24) = some (.inl (X.2.2.1 1, 48, .inr (.inl (fun j : Nat => i6 (V 24 (j : Int)))))) := hM 24 (by decide)
  have m25 : f (o + 25) = some (.inl (X.2.2.1 2, 48, .inl (fun j : Nat => i3 (V 25 (j : Int))))) := hM 25 (by decide)
  obtain ⟨t1, t2, t3⟩ : (-6 ≤ V 0 28 ∧ V 0 28 ≤ 47) ∧ (-100000000 ≤ V 0 29 ∧ V 0 29 ≤ 100000000) ∧ (1 ≤ V 0 30 ∧ V 0 30 ≤ 2304) := ht
  intro n
  induction n with
  | zero =>
    intro k hk
    have hk' : k = 48 := by omega
    subst hk'
    have r := abs_rng (h := h) hr 48 (by omega)
    have a := mul_bd (x := bS (V 24) (V 25) h 48) (y := aN (V 25) h 48) (A := 960000) (B := 48) (by omega) (by omega) (by omega) (by omega)
    have b := mul_bd (x := aS (V 24) (V 25) h 48) (y := bN (V 25) h 48) (A := 960000) (B := 48) (by omega) (by omega) (by omega) (by omega)
    have c := mul_nn (x := aN (V 25) h 48) (y := bN (V 25) h 48) (A := 48) (B := 48) (by omega) (by omega) (by omega) (by omega)
    have keep : tryZ (V 24) (V 25) h (V 0 28, V 0 29, V 0 30) = (V 0 28, V 0 29, V 0 30) → ax_Rt 0 0 (fun v z' f' => v = none ∧ z' = z ∧ MF o f f' ∧ ∃ V' : Nat → Int → Int, MH X o V' f' ∧ (∀ j : Nat, 1 ≤ j → V' j = V j) ∧ (V' 0 28, V' 0 29, V' 0 30) = tryZ (V 24) (V 25) h (V 0 28, V 0 29, V 0 30) ∧ core V V') none 0 0 z f := fun e => ⟨by omega, by omega, rfl, rfl, MF.rfl, V, hM, fun _ _ => rfl, e.symm, core.rfl⟩
    refine sbX8_tryHour_14 X 0 0 _ _ _ _ _ _ _ ?_
    simp (disch := omega) only [bkX8_tryHour_14, ax_ic, ax_lc, ax_nul, ax_il, ax_ll, ax_al, ax_is, ax_ls, ax_as, ax_inc, ax_iadd, ax_isub, ax_imul, ax_iand, ax_ior, ax_idiv, ax_irem, ax_ishl, ax_ishr, ax_ladd, ax_lsub, ax_lmul, ax_ldiv, ax_lrem, ax_ineg, ax_lneg, ax_i2l, ax_l2i, ax_lcmp, ax_dup, ax_pop1, ax_dupx1, ax_dup2, ax_ifeq, ax_ifne, ax_iflt, ax_ifge, ax_ifgt, ax_ifle, ax_iceq, ax_icne, ax_iclt, ax_icge, ax_icgt, ax_icle, ax_ifnull, ax_ifnn, ax_sw, ax_iret, ax_zret, ax_lret, ax_vret, ax_aret, ax_gf, ax_pfi, ax_pfz, ax_pfl, ax_pfr, ax_iald, ax_zald, ax_lald, ax_aald, ax_iast, ax_zast, ax_last, ax_aast, ax_alen, ax_ialdR, ax_alenR, ax_gst, ax_new, ax_nwi, ax_nwl, ax_nwq, ax_obj, ax_call, ax_calv, ax_nth, ax_p1, ax_p2, ax_k2, ax_nh, Value.category, lg_cmp_ge, lg_cmp_lt, lg_cmp_gt, lg_cmp_le, lg_cmp_eq, List.getElem?_cons_zero, List.getElem?_cons_succ, true_and, and_true, if_true, if_false, reduceIte, Nat.reduceEqDiff, Nat.add_eq_zero_iff, reduceCtorEq, Nat.reduceAdd, not_true_eq_false, not_false_eq_true, ax_pf, ax_popn, fv_in, fv_size, fv_drop, fv_within, fv_part, fv_cut, fv_sq, fv_absI, fv_absJ, fv_maxI, fv_minI, fv_maxJ, fv_minJ, List.map_cons, List.map_nil, List.sum_cons, List.sum_nil, Nat.reduceLeDiff, Nat.zero_le, Nat.le_refl, zb_0, zb_1, zb_em, true_or, or_true, Int32.toInt_toInt64, Nat.add_zero, fv_isGlass, fv_mayBe, fv_isReading8, fv_isHour8, fv_isPoint, fv_isReading7, fv_isRoom, fv_isWarmth, fv_isHour7, fv_isOnMap, fv_holds, fv_held, tm_eq, i3_add, i3_sub, i3_mul, i3_neg, i6_add, i6_sub, i6_mul, i6_neg, i6_I, i3_toInt, i6_toInt, i3_lt, i3_le, i3_eq, i6_lt, i6_le, i6_eq, i3_eq0, i3_eq1, i3_lt0, i3_le0, i3_gt0, i3_ge0, i6_eq0, i3_div, i6_div, i3_rem, i6_rem, i3_L, i3_nat, i3_inI, ax_up3, ax_up6, up_ne, up_0, up_s, up_00, up_0n, m0]
    refine ⟨fun _ => ⟨fun c1 => keep (by unfold tryZ; rw [if_pos (Or.inl c1)]), fun c1 => ⟨fun c2 => ?_, fun c2 => keep (by unfold tryZ; rw [if_pos (Or.inr (by omega))])⟩⟩, fun q => absurd (by omega) q⟩
    have nn : ¬ (aN (V 25) h 48 < 2 ∨ bN (V 25) h 48 < 2) := by omega
    have yes : (V 0 28 < 0 ∨ ((V 0 29).natAbs : Int) * (aN (V 25) h 48 * bN (V 25) h 48) < ((bS (V 24) (V 25) h 48 * aN (V 25) h 48 - aS (V 24) (V 25) h 48 * bN (V 25) h 48).natAbs : Int) * V 0 30) → tryZ (V 24) (V 25) h (V 0 28, V 0 29, V 0 30) = (h, bS (V 24) (V 25) h 48 * aN (V 25) h 48 - aS (V 24) (V 25) h 48 * bN (V 25) h 48, aN (V 25) h 48 * bN (V 25) h 48) := fun q => by
      unfold tryZ
      rw [if_neg nn, if_pos q]
    have no : ¬ (V 0 28 < 0 ∨ ((V 0 29).natAbs : Int) * (aN (V 25) h 48 * bN (V 25) h 48) < ((bS (V 24) (V 25) h 48 * aN (V 25) h 48 - aS (V 24) (V 25) h 48 * bN (V 25) h 48).natAbs : Int) * V 0 30) → tryZ (V 24) (V 25) h (V 0 28, V 0 29, V 0 30) = (V 0 28, V 0 29, V 0 30) := fun q => by
      unfold tryZ
      rw [if_neg nn, if_neg q]
    have put : (V 0 28 < 0 ∨ ((V 0 29).natAbs : Int) * (aN (V 25) h 48 * bN (V 25) h 48) < ((bS (V 24) (V 25) h 48 * aN (V 25) h 48 - aS (V 24) (V 25) h 48 * bN (V 25) h 48).natAbs : Int) * V 0 30) → ∀ f1 : ax_F, MH X o (mset (mset (mset V 0 (ax_u (V 0) 28 h)) 0 (ax_u (ax_u (V 0) 28 h) 29 (bS (V 24) (V 25) h 48 * aN (V 25) h 48 - aS (V 24) (V 25) h 48 * bN (V 25) h 48))) 0 (ax_u (ax_u (ax_u (V 0) 28 h) 29 (bS (V 24) (V 25) h 48 * aN (V 25) h 48 - aS (V 24) (V 25) h 48 * bN (V 25) h 48)) 30 (aN (V 25) h 48 * bN (V 25) h 48))) f1 → MF o f f1 → ax_Rt 0 0 (fun v z' f' => v = none ∧ z' = z ∧ MF o f f' ∧ ∃ V' : Nat → Int → Int, MH X o V' f' ∧ (∀ j : Nat, 1 ≤ j → V' j = V j) ∧ (V' 0 28, V' 0 29, V' 0 30) = tryZ (V 24) (V 25) h (V 0 28, V 0 29, V 0 30) ∧ core V V') none 0 0 z f1 := fun q f1 hM1 hF1 => ⟨by omega, by omega, rfl, rfl, hF1, _, hM1, fun j hj => by rw [mset_n (by omega), mset_n (by omega), mset_n (by omega)], by rw [yes q]; rfl, ⟨fun j h1 _ => by rw [mset_n (by omega), mset_n (by omega), mset_n (by omega)], rfl, rfl, rfl⟩⟩
    clear yes
    generalize bS (V 24) (V 25) h 48 * aN (V 25) h 48 = x1 at *
    generalize aS (V 24) (V 25) h 48 * bN (V 25) h 48 = x2 at *
    generalize hx3 : aN (V 25) h 48 * bN (V 25) h 48 = x3 at *
    have na : ∀ q : Int, (if q < 0 then i6 (-q) else i6 q) = i6 (q.natAbs : Int) := fun q => by
      split
      · congr 1; omega
      · congr 1; omega
    rw [na, na]
    have p1 := mul_nn (x := ((x1 - x2).natAbs : Int)) (y := V 0 30) (A := 100000000) (B := 2304) (by omega) (by omega) (by omega) (by omega)
    have p2 := mul_nn (x := ((V 0 29).natAbs : Int)) (y := x3) (A := 100000000) (B := 2304) (by omega) (by omega) (by omega) (by omega)
    simp (disch := omega) only [tm_eq, i3_add, i3_sub, i3_mul, i3_neg, i6_add, i6_sub, i6_mul, i6_neg, i6_I, i3_toInt, i6_toInt, i3_lt, i3_le, i3_eq, i6_lt, i6_le, i6_eq, i3_eq0, i3_eq1, i3_lt0, i3_le0, i3_gt0, i3_ge0, i6_eq0, i3_div, i6_div, i3_rem, i6_rem, i3_L, i3_nat, i3_inI, ax_up3, ax_up6]
    have mf : ∀ e1 e2 e3 : Option va_E, MF o f (va_up (va_up (va_up f o e1) o e2) o e3) := fun e1 e2 e3 => ((MF.rfl.up (k := 0) (by decide)).up (k := 0) (by decide)).up (k := 0) (by decide)
    refine ⟨fun d1 => ⟨Nat.le_of_ble_eq_true rfl, Nat.le_of_ble_eq_true rfl, Nat.le_of_ble_eq_true rfl, put (Or.inl d1) _ (((hM.set (k := 0) (g := ax_u (V 0) 28 h) rfl).set (k := 0) (g := ax_u (ax_u (V 0) 28 h) 29 (x1 - x2)) rfl).set (k := 0) (g := ax_u (ax_u (ax_u (V 0) 28 h) 29 (x1 - x2)) 30 x3) rfl) (mf _ _ _)⟩, fun d1 => ⟨fun d2 => keep (no (by omega)), fun d2 => ⟨Nat.le_of_ble_eq_true rfl, Nat.le_of_ble_eq_true rfl, Nat.le_of_ble_eq_true rfl, put (Or.inr (by omega)) _ (((hM.set (k := 0) (g := ax_u (V 0) 28 h) rfl).set (k := 0) (g := ax_u (ax_u (V 0) 28 h) 29 (x1 - x2)) rfl).set (k := 0) (g := ax_u (ax_u (ax_u (V 0) 28 h) 29 (x1 - x2)) 30 x3) rfl) (mf _ _ _)⟩⟩⟩
  | succ n ih =>
    intro k hk
    have r := abs_rng (h := h) hr k (by omega)
    have rk := hr k (by omega) (by omega)
    have nx := ih (k + 1) (by omega)
    have stay : ∀ (x1 x2 x3 x4 : Int), aS (V 24) (V 25) h (k + 1) = x1 → bS (V 24) (V 25) h (k + 1) = x2 → aN (V 25) h (k + 1) = x3 → bN (V 25) h (k + 1) = x4 → ax_G X mX8_tryHour 0 0 (fun v z' f' => v = none ∧ z' = z ∧ MF o f f' ∧ ∃ V' : Nat → Int → Int, MH X o V' f' ∧ (∀ j : Nat, 1 ≤ j → V' j = V j) ∧ (V' 0 28, V' 0 29, V' 0 30) = tryZ (V 24) (V 25) h (V 0 28, V 0 29, V 0 30) ∧ core V V') 14 [some (.ref o), some (.int (i3 h)), some (.long (i6 x1)), none, some (.long (i6 x2)), none, some (.long (i6 x3)), none, some (.long (i6 x4)), none, some (.int (i3 ((k : Int) + 1))), none, none, none] [] 0 0 z f := fun x1 x2 x3 x4 e1 e2 e3 e4 => by
      rw [← e1, ← e2, ← e3, ← e4]
      exact nx
    have at56 : ¬ (V 25 k = 1 ∧ (k : Int) < h) → ax_G X mX8_tryHour 0 0 (fun v z' f' => v = none ∧ z' = z ∧ MF o f f' ∧ ∃ V' : Nat → Int → Int, MH X o V' f' ∧ (∀ j : Nat, 1 ≤ j → V' j = V j) ∧ (V' 0 28, V' 0 29, V' 0 30) = tryZ (V 24) (V 25) h (V 0 28, V 0 29, V 0 30) ∧ core V V') 56 [some (.ref o), some (.int (i3 h)), some (.long (i6 (aS (V 24) (V 25) h k))), none, some (.long (i6 (bS (V 24) (V 25) h k))), none, some (.long (i6 (aN (V 25) h k))), none, some (.long (i6 (bN (V 25) h k))), none, some (.int (i3 k)), none, none, none] [] 0 0 z f := by
      intro hn
      refine sbX8_tryHour_56 X 0 0 _ _ _ _ _ _ _ ?_
      simp (disch := omega) only [bkX8_tryHour_56, ax_ic, ax_lc, ax_nul, ax_il, ax_ll, ax_al, ax_is, ax_ls, ax_as, ax_inc, ax_iadd, ax_isub, ax_imul, ax_iand, ax_ior, ax_idiv, ax_irem, ax_ishl, ax_ishr, ax_ladd, ax_lsub, ax_lmul, ax_ldiv, ax_lrem, ax_ineg, ax_lneg, ax_i2l, ax_l2i, ax_lcmp, ax_dup, ax_pop1, ax_dupx1, ax_dup2, ax_ifeq, ax_ifne, ax_iflt, ax_ifge, ax_ifgt, ax_ifle, ax_iceq, ax_icne, ax_iclt, ax_icge, ax_icgt, ax_icle, ax_ifnull, ax_ifnn, ax_sw, ax_iret, ax_zret, ax_lret, ax_vret, ax_aret, ax_gf, ax_pfi, ax_pfz, ax_pfl, ax_pfr, ax_iald, ax_zald, ax_lald, ax_aald, ax_iast, ax_zast, ax_last, ax_aast, ax_alen, ax_ialdR, ax_alenR, ax_gst, ax_new, ax_nwi, ax_nwl, ax_nwq, ax_obj, ax_call, ax_calv, ax_nth, ax_p1, ax_p2, ax_k2, ax_nh, Value.category, lg_cmp_ge, lg_cmp_lt, lg_cmp_gt, lg_cmp_le, lg_cmp_eq, List.getElem?_cons_zero, List.getElem?_cons_succ, true_and, and_true, if_true, if_false, reduceIte, Nat.reduceEqDiff, Nat.add_eq_zero_iff, reduceCtorEq, Nat.reduceAdd, not_true_eq_false, not_false_eq_true, ax_pf, ax_popn, fv_in, fv_size, fv_drop, fv_within, fv_part, fv_cut, fv_sq, fv_absI, fv_absJ, fv_maxI, fv_minI, fv_maxJ, fv_minJ, List.map_cons, List.map_nil, List.sum_cons, List.sum_nil, Nat.reduceLeDiff, Nat.zero_le, Nat.le_refl, zb_0, zb_1, zb_em, true_or, or_true, Int32.toInt_toInt64, Nat.add_zero, fv_isGlass, fv_mayBe, fv_isReading8, fv_isHour8, fv_isPoint, fv_isReading7, fv_isRoom, fv_isWarmth, fv_isHour7, fv_isOnMap, fv_holds, fv_held, tm_eq, i3_add, i3_sub, i3_mul, i3_neg, i6_add, i6_sub, i6_mul, i6_neg, i6_I, i3_toInt, i6_toInt, i3_lt, i3_le, i3_eq, i6_lt, i6_le, i6_eq, i3_eq0, i3_eq1, i3_lt0, i3_le0, i3_gt0, i3_ge0, i6_eq0, i3_div, i6_div, i3_rem, i6_rem, i3_L, i3_nat, i3_inI, ax_up3, ax_up6, m0, m24, m25]
      refine ⟨by omega, fun b1 => stay _ _ _ _ ?_ ?_ ?_ ?_, fun b1 => ⟨by omega, stay _ _ _ _ ?_ ?_ ?_ ?_⟩⟩
      · rw [aS, if_neg hn]; omega
      · rw [bS, if_neg (by omega)]; omega
      · rw [aN, if_neg hn]; omega
      · rw [bN, if_neg (by omega)]; omega
      · rw [aS, if_neg hn]; omega
      · rw [bS, if_pos (by omega)]
      · rw [aN, if_neg hn]; omega
      · rw [bN, if_pos (by omega)]
    refine sbX8_tryHour_14 X 0 0 _ _ _ _ _ _ _ ?_
    simp (disch := omega) only [bkX8_tryHour_14, ax_ic, ax_lc, ax_nul, ax_il, ax_ll, ax_al, ax_is, ax_ls, ax_as, ax_inc, ax_iadd, ax_isub, ax_imul, ax_iand, ax_ior, ax_idiv, ax_irem, ax_ishl, ax_ishr, ax_ladd, ax_lsub, ax_lmul, ax_ldiv, ax_lrem, ax_ineg, ax_lneg, ax_i2l, ax_l2i, ax_lcmp, ax_dup, ax_pop1, ax_dupx1, ax_dup2, ax_ifeq, ax_ifne, ax_iflt, ax_ifge, ax_ifgt, ax_ifle, ax_iceq, ax_icne, ax_iclt, ax_icge, ax_icgt, ax_icle, ax_ifnull, ax_ifnn, ax_sw, ax_iret, ax_zret, ax_lret, ax_vret, ax_aret, ax_gf, ax_pfi, ax_pfz, ax_pfl, ax_pfr, ax_iald, ax_zald, ax_lald, ax_aald, ax_iast, ax_zast, ax_last, ax_aast, ax_alen, ax_ialdR, ax_alenR, ax_gst, ax_new, ax_nwi, ax_nwl, ax_nwq, ax_obj, ax_call, ax_calv, ax_nth, ax_p1, ax_p2, ax_k2, ax_nh, Value.category, lg_cmp_ge, lg_cmp_lt, lg_cmp_gt, lg_cmp_le, lg_cmp_eq, List.getElem?_cons_zero, List.getElem?_cons_succ, true_and, and_true, if_true, if_false, reduceIte, Nat.reduceEqDiff, Nat.add_eq_zero_iff, reduceCtorEq, Nat.reduceAdd, not_true_eq_false, not_false_eq_true, ax_pf, ax_popn, fv_in, fv_size, fv_drop, fv_within, fv_part, fv_cut, fv_sq, fv_absI, fv_absJ, fv_maxI, fv_minI, fv_maxJ, fv_minJ, List.map_cons, List.map_nil, List.sum_cons, List.sum_nil, Nat.reduceLeDiff, Nat.zero_le, Nat.le_refl, zb_0, zb_1, zb_em, true_or, or_true, Int32.toInt_toInt64, Nat.add_zero, fv_isGlass, fv_mayBe, fv_isReading8, fv_isHour8, fv_isPoint, fv_isReading7, fv_isRoom, fv_isWarmth, fv_isHour7, fv_isOnMap, fv_holds, fv_held, tm_eq, i3_add, i3_sub, i3_mul, i3_neg, i6_add, i6_sub, i6_mul, i6_neg, i6_I, i3_toInt, i6_toInt, i3_lt, i3_le, i3_eq, i6_lt, i6_le, i6_eq, i3_eq0, i3_eq1, i3_lt0, i3_le0, i3_gt0, i3_ge0, i6_eq0, i3_div, i6_div, i3_rem, i6_rem, i3_L, i3_nat, i3_inI, ax_up3, ax_up6, m0, m24, m25]
    refine ⟨fun q => absurd q (by omega), fun _ => ⟨by omega, fun b1 => at56 (by omega), fun b1 => ⟨fun b2 => at56 (by omega), fun b2 => ⟨by omega, stay _ _ _ _ ?_ ?_ ?_ ?_⟩⟩⟩⟩
    · rw [aS, if_pos (by omega)]
    · rw [bS, if_neg (by omega)]; omega
    · rw [aN, if_pos (by omega)]
    · rw [bN, if_neg (by omega)]; omega
