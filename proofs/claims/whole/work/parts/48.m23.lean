def agr (p q : GL) : Prop := ∀ s : Int, 0 ≤ s → s < 128 → p.1 s = q.1 s ∧ p.2 s = q.2 s
abbrev glOk (p : GL) (m : Int) : Prop := ∀ s : Int, 0 ≤ s → s < 128 → (-1 ≤ p.1 s ∧ p.1 s ≤ 127) ∧ 0 ≤ p.2 s ∧ p.2 s ≤ m
theorem lnk_c {p q : GL} {a b : Int} (h : agr p q) (ha : 0 ≤ a) (ha' : a < 128) (hb : 0 ≤ b) (hb' : b < 128) : agr (lnk p a b) (lnk q a b) := by
  intro s h1 h2
  have ga := h a ha ha'
  have gb := h b hb hb'
  have gs := h s h1 h2
  unfold lnk
  refine ⟨?_, ?_⟩
  · dsimp only
    unfold rlG hiG loG
    rw [ga.1, gb.1, gs.1]
  · dsimp only
    unfold lkL ax_u
    rw [ga.2, gb.2, gs.2]
theorem cuZ_c {p q : GL} {s : Int} (h : agr p q) (h1 : 0 ≤ s) (h2 : s < 128) : cuZ p.1 s = cuZ q.1 s := by
  unfold cuZ
  rw [(h s h1 h2).1]
theorem goS_c {S S' : Int → Int} {v x y : Int} {p q : GL} (h : agr p q) (hS : ∀ t : Int, 0 ≤ t → t < 64 → S t = S' t) (hx : 0 ≤ x) (hx' : x ≤ 6) (hy : 0 ≤ y) (hy' : y ≤ 6) : agr (goS S v x y p) (goS S' v x y q) := by
  have m : manyZ p.1 (16 * y + 2 * x) = manyZ q.1 (16 * y + 2 * x) := by
    unfold manyZ
    rw [cuZ_c h (by omega) (by omega), cuZ_c h (by omega) (by omega), cuZ_c h (by omega) (by omega), cuZ_c h (by omega) (by omega)]
  have o1 : oneZ p.1 (16 * y + 2 * x) = oneZ q.1 (16 * y + 2 * x) ∧ 0 ≤ oneZ q.1 (16 * y + 2 * x) ∧ oneZ q.1 (16 * y + 2 * x) < 128 := by
    unfold oneZ
    rw [(h (16 * y + 2 * x) (by omega) (by omega)).1, (h (16 * y + 2 * x + 1) (by omega) (by omega)).1]
    refine ⟨rfl, ?_, ?_⟩ <;> repeat' split
    all_goals omega
  have o2 : othZ p.1 (16 * y + 2 * x) = othZ q.1 (16 * y + 2 * x) ∧ 0 ≤ othZ q.1 (16 * y + 2 * x) ∧ othZ q.1 (16 * y + 2 * x) < 128 := by
    unfold othZ
    rw [(h (16 * y + 2 * x + 3) (by omega) (by omega)).1, (h (16 * y + 2 * x + 16) (by omega) (by omega)).1]
    refine ⟨rfl, ?_, ?_⟩ <;> repeat' split
    all_goals omega
  have al : allS S x y = allS S' x y := by
    unfold allS
    rw [hS _ (by omega) (by omega), hS (8 * y + x + 1) (by omega) (by omega), hS (8 * y + x + 8) (by omega) (by omega), hS (8 * y + x + 9) (by omega) (by omega)]
  unfold goS
  rw [m, o1.1, o2.1, al, hS (8 * y + x) (by omega) (by omega)]
  split
  · split
    · exact lnk_c (lnk_c h (by omega) (by omega) (by omega) (by omega)) (by omega) (by omega) (by omega) (by omega)
    · exact lnk_c (lnk_c h (by omega) (by omega) (by omega) (by omega)) (by omega) (by omega) (by omega) (by omega)
  · split
    · exact lnk_c h o1.2.1 o1.2.2 o2.2.1 o2.2.2
    · exact h
theorem lnk_ok2 {p : GL} {a b m : Int} (h : glOk p m) (ha : 0 ≤ a) (ha' : a < 128) (hb : 0 ≤ b) (hb' : b < 128) : glOk (lnk p a b) (m + 2) :=
  lnk_ok (V := fun k => if k = 22 then p.1 else p.2) h ha ha' hb hb'
theorem glOk.mono {p : GL} {m m' : Int} (h : glOk p m) (e : m ≤ m') : glOk p m' := fun s h1 h2 => by have := h s h1 h2; omega
theorem goS_ok {S : Int → Int} {v x y m : Int} {p : GL} (h : glOk p m) (hx : 0 ≤ x) (hx' : x ≤ 6) (hy : 0 ≤ y) (hy' : y ≤ 6) : glOk (goS S v x y p) (m + 4) := by
  have o1 : 0 ≤ oneZ p.1 (16 * y + 2 * x) ∧ oneZ p.1 (16 * y + 2 * x) < 128 := by
    unfold oneZ
    refine ⟨?_, ?_⟩ <;> repeat' split
    all_goals omega
  have o2 : 0 ≤ othZ p.1 (16 * y + 2 * x) ∧ othZ p.1 (16 * y + 2 * x) < 128 := by
    unfold othZ
    refine ⟨?_, ?_⟩ <;> repeat' split
    all_goals omega
  unfold goS
  split
  · split
    · exact (lnk_ok2 (lnk_ok2 h (by omega) (by omega) (by omega) (by omega)) (by omega) (by omega) (by omega) (by omega)).mono (by omega)
    · exact (lnk_ok2 (lnk_ok2 h (by omega) (by omega) (by omega) (by omega)) (by omega) (by omega) (by omega) (by omega)).mono (by omega)
  · split
    · exact (lnk_ok2 h o1.1 o1.2 o2.1 o2.2).mono (by omega)
    · exact h.mono (by omega)
def x2Z (s : Int) : Int := if s.tmod 2 = 0 then (s.tmod 16).tdiv 2 + 1 else (s.tmod 16).tdiv 2
def y2Z (s : Int) : Int := if s.tmod 2 = 0 then s.tdiv 16 else s.tdiv 16 + 1
abbrev cutP (S : Int → Int) (v s : Int) : Prop := ((0 ≤ x2Z s ∧ x2Z s ≤ 7) ∧ 0 ≤ y2Z s ∧ y2Z s ≤ 7) ∧ ¬ (v ≤ S (8 * s.tdiv 16 + (s.tmod 16).tdiv 2) ↔ v ≤ S (8 * y2Z s + x2Z s))
def g0Z (S : Int → Int) (v s : Int) : Int := if cutP S v s then s else -1
/-- the lines after so many squares -/
def goA (S : Int → Int) (v : Int) : Nat → GL
  | 0 => (g0Z S v, fun _ => 0)
  | n + 1 => goS S v ((n % 7 : Nat) : Int) ((n / 7 : Nat) : Int) (goA S v n)
theorem goA_ok (S : Int → Int) (v : Int) : ∀ n : Nat, n ≤ 49 → glOk (goA S v n) (4 * n)
  | 0, _ => fun s h1 h2 => by
    show (-1 ≤ g0Z S v s ∧ g0Z S v s ≤ 127) ∧ (0 : Int) ≤ 0 ∧ (0 : Int) ≤ _
    unfold g0Z
    split <;> omega
  | n + 1, h => (goS_ok (goA_ok S v n (by omega)) (by omega) (by omega) (by omega) (by omega)).mono (by omega)
theorem side_rng {s : Int} (h0 : 0 ≤ s) (h1 : s < 128) : (0 ≤ (s.tmod 16).tdiv 2 ∧ (s.tmod 16).tdiv 2 ≤ 7) ∧ 0 ≤ s.tdiv 16 ∧ s.tdiv 16 ≤ 7 := by
  have e1 : s.tmod 16 = s % 16 := Int.tmod_eq_emod_of_nonneg h0
  have e2 : (s % 16).tdiv 2 = s % 16 / 2 := Int.tdiv_eq_ediv_of_nonneg (by omega)
  have e3 : s.tdiv 16 = s / 16 := Int.tdiv_eq_ediv_of_nonneg h0
  rw [e1, e2, e3]
  omega
abbrev flPost (X : ax_X) (o z : Nat) (V : Nat → Int → Int) (h v : Int) (f0 : ax_F) : Option Value → Nat → ax_F → Prop := fun w z' f' => w = none ∧ z' = z ∧ MF o f0 f' ∧ ∃ V' : Nat → Int → Int, MH X o V' f' ∧ core V V' ∧ (∀ t : Int, 0 ≤ t → t < 64 → V' 21 t = shZ V h t) ∧ agr (V' 22, V' 23) (goA (shZ V h) v 49)
theorem m8_fl_140 {X : ax_X} {o z : Nat} {V : Nat → Int → Int} {f0 : ax_F} {h v : Int} (hI : mInv V) (hv : 1 ≤ v) (hv' : v ≤ 20000) {y : Nat} (hy : y ≤ 6)
    (nx : ∀ (V' : Nat → Int → Int) (f : ax_F) (a b c d e : Option Value), core V V' → (∀ t : Int, 0 ≤ t → t < 64 → V' 21 t = shZ V h t) → agr (V' 22, V' 23) (goA (shZ V h) v (7 * (y + 1))) → MH X o V' f → MF o f0 f → ax_G X mX8_findLines 0 0 (flPost X o z V h v f0) 131 [some (.ref o), some (.int (i3 h)), some (.int (i3 v)), some (.int (i3 ((y : Int) + 1))), a, b, c, d, e] [] 0 0 z f) :
    ∀ (n x : Nat) (V' : Nat → Int → Int) (f : ax_F) (b c d e : Option Value), x + n = 7 → core V V' → (∀ t : Int, 0 ≤ t → t < 64 → V' 21 t = shZ V h t) → agr (V' 22, V' 23) (goA (shZ V h) v (7 * y + x)) → MH X o V' f → MF o f0 f → ax_G X mX8_findLines 0 0 (flPost X o z V h v f0) 140 [some (.ref o), some (.int (i3 h)), some (.int (i3 v)), some (.int (i3 (y : Int))), some (.int (i3 (x : Int))), b, c, d, e] [] 0 0 z f := by
  intro n
  induction n with
  | zero =>
    intro x V' f b c d e hx cV hS hA hM hF
    refine sbX8_findLines_140 X 0 0 _ _ _ _ _ _ _ ?_
    simp (disch := omega) only [bkX8_findLines_140, ax_ic, ax_lc, ax_nul, ax_il, ax_ll, ax_al, ax_is, ax_ls, ax_as, ax_inc, ax_iadd, ax_isub, ax_imul, ax_iand, ax_ior, ax_idiv, ax_irem, ax_ishl, ax_ishr, ax_ladd, ax_lsub, ax_lmul, ax_ldiv, ax_lrem, ax_ineg, ax_lneg, ax_i2l, ax_l2i, ax_lcmp, ax_dup, ax_pop1, ax_dupx1, ax_dup2, ax_ifeq, ax_ifne, ax_iflt, ax_ifge, ax_ifgt, ax_ifle, ax_iceq, ax_icne, ax_iclt, ax_icge, ax_icgt, ax_icle, ax_ifnull, ax_ifnn, ax_sw, ax_iret, ax_zret, ax_lret, ax_vret, ax_aret, ax_gf, ax_pfi, ax_pfz, ax_pfl, ax_pfr, ax_iald, ax_zald, ax_lald, ax_aald, ax_iast, ax_zast, ax_last, ax_aast, ax_alen, ax_ialdR, ax_alenR, ax_gst, ax_new, ax_nwi, ax_nwl, ax_nwq, ax_obj, ax_call, ax_calv, ax_nth, ax_p1, ax_p2, ax_k2, ax_nh, Value.category, lg_cmp_ge, lg_cmp_lt, lg_cmp_gt, lg_cmp_le, lg_cmp_eq, List.getElem?_cons_zero, List.getElem?_cons_succ, true_and, and_true, if_true, if_false, reduceIte, Nat.reduceEqDiff, Nat.add_eq_zero_iff, reduceCtorEq, Nat.reduceAdd, not_true_eq_false, not_false_eq_true, ax_pf, ax_popn, fv_in, fv_size, fv_drop, fv_within, fv_part, fv_cut, fv_sq, fv_absI, fv_absJ, fv_maxI, fv_minI, fv_maxJ, fv_minJ, List.map_cons, List.map_nil, List.sum_cons, List.sum_nil, Nat.reduceLeDiff, Nat.zero_le, Nat.le_refl, zb_0, zb_1, zb_em, true_or, or_true, Int32.toInt_toInt64, Nat.add_zero, fv_isGlass, fv_mayBe, fv_isReading8, fv_isHour8, fv_isPoint, fv_isReading7, fv_isRoom, fv_isWarmth, fv_isHour7, fv_isOnMap, fv_holds, fv_held, tm_eq, i3_add, i3_sub, i3_mul, i3_neg, i6_add, i6_sub, i6_mul, i6_neg, i6_I, i3_toInt, i6_toInt, i3_lt, i3_le, i3_eq, i6_lt, i6_le, i6_eq, i3_eq0, i3_eq1, i3_lt0, i3_le0, i3_gt0, i3_ge0, i6_eq0, i3_div, i6_div, i3_rem, i6_rem, i3_L, i3_nat, i3_inI, ax_up3, ax_up6]
    refine ⟨fun _ => nx V' f _ b c d e cV hS ?_ hM hF, fun q => absurd (by omega) q⟩
    rw [show 7 * (y + 1) = 7 * y + x by omega]
    exact hA
  | succ n ih =>
    intro x V' f b c d e hx cV hS hA hM hF
    have m0 : f o = some (mce X o 0 (V' 0)) := hM 0 (by decide)
    have ok := goA_ok (shZ V h) v (7 * y + x) (by omega)
    refine sbX8_findLines_140 X 0 0 _ _ _ _ _ _ _ ?_
    simp (disch := omega) only [bkX8_findLines_140, ax_ic, ax_lc, ax_nul, ax_il, ax_ll, ax_al, ax_is, ax_ls, ax_as, ax_inc, ax_iadd, ax_isub, ax_imul, ax_iand, ax_ior, ax_idiv, ax_irem, ax_ishl, ax_ishr, ax_ladd, ax_lsub, ax_lmul, ax_ldiv, ax_lrem, ax_ineg, ax_lneg, ax_i2l, ax_l2i, ax_lcmp, ax_dup, ax_pop1, ax_dupx1, ax_dup2, ax_ifeq, ax_ifne, ax_iflt, ax_ifge, ax_ifgt, ax_ifle, ax_iceq, ax_icne, ax_iclt, ax_icge, ax_icgt, ax_icle, ax_ifnull, ax_ifnn, ax_sw, ax_iret, ax_zret, ax_lret, ax_vret, ax_aret, ax_gf, ax_pfi, ax_pfz, ax_pfl, ax_pfr, ax_iald, ax_zald, ax_lald, ax_aald, ax_iast, ax_zast, ax_last, ax_aast, ax_alen, ax_ialdR, ax_alenR, ax_gst, ax_new, ax_nwi, ax_nwl, ax_nwq, ax_obj, ax_call, ax_calv, ax_nth, ax_p1, ax_p2, ax_k2, ax_nh, Value.category, lg_cmp_ge, lg_cmp_lt, lg_cmp_gt, lg_cmp_le, lg_cmp_eq, List.getElem?_cons_zero, List.getElem?_cons_succ, true_and, and_true, if_true, if_false, reduceIte, Nat.reduceEqDiff, Nat.add_eq_zero_iff, reduceCtorEq, Nat.reduceAdd, not_true_eq_false, not_false_eq_true, ax_pf, ax_popn, fv_in, fv_size, fv_drop, fv_within, fv_part, fv_cut, fv_sq, fv_absI, fv_absJ, fv_maxI, fv_minI, fv_maxJ, fv_minJ, List.map_cons, List.map_nil, List.sum_cons, List.sum_nil, Nat.reduceLeDiff, Nat.zero_le, Nat.le_refl, zb_0, zb_1, zb_em, true_or, or_true, Int32.toInt_toInt64, Nat.add_zero, fv_isGlass, fv_mayBe, fv_isReading8, fv_isHour8, fv_isPoint, fv_isReading7, fv_isRoom, fv_isWarmth, fv_isHour7, fv_isOnMap, fv_holds, fv_held, tm_eq, i3_add, i3_sub, i3_mul, i3_neg, i6_add, i6_sub, i6_mul, i6_neg, i6_I, i3_toInt, i6_toInt, i3_lt, i3_le, i3_eq, i6_lt, i6_le, i6_eq, i3_eq0, i3_eq1, i3_lt0, i3_le0, i3_gt0, i3_ge0, i6_eq0, i3_div, i6_div, i3_rem, i6_rem, i3_L, i3_nat, i3_inI, ax_up3, ax_up6]
    refine ⟨fun q => absurd q (by omega), fun _ => ⟨⟨_, m0⟩, ?_⟩⟩
    refine ax_fm (Nat.le_of_ble_eq_true rfl) (Nat.zero_le _) (Nat.zero_le _) hF (m8_goThrough hM (fun t h1 h2 => by rw [hS t h1 h2]; exact shZ_rng hI h1 h2) (fun s h1 h2 => by have a := hA s h1 h2; have b := ok s h1 h2; dsimp only at a; rw [a.1, a.2]; omega) (by omega) (by omega) (by omega) (by omega) hv hv') (fun f1 hM1 hF1 => ?_)
    simp (disch := omega) only [ax_ic, ax_lc, ax_nul, ax_il, ax_ll, ax_al, ax_is, ax_ls, ax_as, ax_inc, ax_iadd, ax_isub, ax_imul, ax_iand, ax_ior, ax_idiv, ax_irem, ax_ishl, ax_ishr, ax_ladd, ax_lsub, ax_lmul, ax_ldiv, ax_lrem, ax_ineg, ax_lneg, ax_i2l, ax_l2i, ax_lcmp, ax_dup, ax_pop1, ax_dupx1, ax_dup2, ax_ifeq, ax_ifne, ax_iflt, ax_ifge, ax_ifgt, ax_ifle, ax_iceq, ax_icne, ax_iclt, ax_icge, ax_icgt, ax_icle, ax_ifnull, ax_ifnn, ax_sw, ax_iret, ax_zret, ax_lret, ax_vret, ax_aret, ax_gf, ax_pfi, ax_pfz, ax_pfl, ax_pfr, ax_iald, ax_zald, ax_lald, ax_aald, ax_iast, ax_zast, ax_last, ax_aast, ax_alen, ax_ialdR, ax_alenR, ax_gst, ax_new, ax_nwi, ax_nwl, ax_nwq, ax_obj, ax_call, ax_calv, ax_nth, ax_p1, ax_p2, ax_k2, ax_nh, Value.category, lg_cmp_ge, lg_cmp_lt, lg_cmp_gt, lg_cmp_le, lg_cmp_eq, List.getElem?_cons_zero, List.getElem?_cons_succ, true_and, and_true, if_true, if_false, reduceIte, Nat.reduceEqDiff, Nat.add_eq_zero_iff, reduceCtorEq, Nat.reduceAdd, not_true_eq_false, not_false_eq_true, tm_eq, i3_add, i3_sub, i3_mul, i3_neg, i6_add, i6_sub, i6_mul, i6_neg, i6_I, Option.toList, List.nil_append]
    refine ih (x + 1) _ f1 b c d e (by omega) (cV.trans ((core.row (k := 23) (by decide)).trans (core.row (k := 22) (by decide)))) (fun t h1 h2 => hS t h1 h2) ?_ hM1 hF1
    have step := goS_c (v := v) (x := (x : Int)) (y := (y : Int)) hA hS (by omega) (by omega) (by omega) (by omega)
    rw [show 7 * y + (x + 1) = (7 * y + x) + 1 by omega]
    unfold goA
    rw [show (7 * y + x) % 7 = x by omega, show (7 * y + x) / 7 = y by omega]
    exact step
