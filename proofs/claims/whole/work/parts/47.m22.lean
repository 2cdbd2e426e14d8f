def cuZ (G : Int → Int) (s : Int) : Int := if 0 ≤ G s then 1 else 0
def oneZ (G : Int → Int) (b : Int) : Int := if 0 ≤ G b then b else if 0 ≤ G (b + 1) then b + 1 else b + 16
def othZ (G : Int → Int) (b : Int) : Int := if 0 ≤ G (b + 3) then b + 3 else if 0 ≤ G (b + 16) then b + 16 else b + 1
def manyZ (G : Int → Int) (b : Int) : Int := cuZ G b + cuZ G (b + 16) + cuZ G (b + 1) + cuZ G (b + 3)
def allS (S : Int → Int) (x y : Int) : Int := S (8 * y + x) + S (8 * y + x + 1) + S (8 * y + x + 8) + S (8 * y + x + 9)
/-- a square: its sides that are cut are linked -/
def goS (S : Int → Int) (v x y : Int) (p : GL) : GL :=
  if manyZ p.1 (16 * y + 2 * x) = 4 then (if v ≤ S (8 * y + x) ↔ allS S x y < 4 * v then lnk (lnk p (16 * y + 2 * x) (16 * y + 2 * x + 1)) (16 * y + 2 * x + 16) (16 * y + 2 * x + 3) else lnk (lnk p (16 * y + 2 * x) (16 * y + 2 * x + 3)) (16 * y + 2 * x + 16) (16 * y + 2 * x + 1))
  else if manyZ p.1 (16 * y + 2 * x) = 2 then lnk p (oneZ p.1 (16 * y + 2 * x)) (othZ p.1 (16 * y + 2 * x)) else p
abbrev put2 (V : Nat → Int → Int) (p : GL) : Nat → Int → Int := mset (mset V 23 p.2) 22 p.1
theorem put2_put2 (V : Nat → Int → Int) (p q : GL) : put2 (put2 V p) q = put2 V q := by
  funext k
  unfold put2 mset
  split
  · rfl
  · split
    · rfl
    · rfl
theorem put2_id (V : Nat → Int → Int) : put2 V (V 22, V 23) = V := by
  funext k
  unfold put2 mset
  split
  · rename_i e; rw [e]
  · split
    · rename_i e; rw [e]
    · rfl
theorem lnk_ok {V : Nat → Int → Int} {a b : Int} {m : Int} (hG : ∀ s : Int, 0 ≤ s → s < 128 → (-1 ≤ V 22 s ∧ V 22 s ≤ 127) ∧ 0 ≤ V 23 s ∧ V 23 s ≤ m) (ha : 0 ≤ a) (ha' : a < 128) (hb : 0 ≤ b) (hb' : b < 128) :
    ∀ s : Int, 0 ≤ s → s < 128 → (-1 ≤ (lnk (V 22, V 23) a b).1 s ∧ (lnk (V 22, V 23) a b).1 s ≤ 127) ∧ 0 ≤ (lnk (V 22, V 23) a b).2 s ∧ (lnk (V 22, V 23) a b).2 s ≤ m + 2 := by
  intro s h1 h2
  have ga := hG a ha ha'
  have gb := hG b hb hb'
  have gs := hG s h1 h2
  unfold lnk
  refine ⟨?_, ?_⟩
  · dsimp only
    unfold rlG loG
    split
    · split <;> omega
    · omega
  · dsimp only
    unfold lkL ax_u
    repeat' split
    all_goals omega
theorem m8_go_264 {X : ax_X} {o z : Nat} {V : Nat → Int → Int} {f : ax_F} {x y v m a : Int} {p9 p10 p11 : Option Value} (hM : MH X o V f) (hG : grOk V) (hx : 0 ≤ x) (hx' : x ≤ 6) (hy : 0 ≤ y) (hy' : y ≤ 6) (ha : 0 ≤ a) (ha' : a < 128) :
    ax_G X mX8_goThrough 0 0 (mq X o f z none (put2 V (lnk (V 22, V 23) a (othZ (V 22) (16 * y + 2 * x))))) 264 [some (.ref o), some (.int (i3 x)), some (.int (i3 y)), some (.int (i3 v)), some (.int (i3 (16 * y + 2 * x))), some (.int (i3 (16 * y + 2 * x + 16))), some (.int (i3 (16 * y + 2 * x + 1))), some (.int (i3 (16 * y + 2 * x + 3))), some (.int (i3 m)), p9, p10, p11] [.int (i3 a)] 0 0 z f := by
  have g1 := hG (16 * y + 2 * x + 3) (by omega) (by omega)
  have g2 := hG (16 * y + 2 * x + 16) (by omega) (by omega)
  refine sbX8_goThrough_264 X 0 0 _ _ _ _ _ _ _ ?_
  have m0 : f o = some (.inr (7, [.ref (o + 1), .ref (o + 2), .ref (o + 3), .ref (o + 4), .ref (o + 5), .ref (o + 6), .ref (o + 7), .ref (o + 8), .int (i3 (V 0 8)), .ref (o + 9), .ref (o + 10), .ref (o + 11), .ref (o + 12), .ref (o + 13), .int (i3 (V 0 14)), .ref (o + 14), .ref (o + 15), .ref (o + 16), .ref (o + 17), .int (i3 (V 0 19)), .ref (o + 18), .int (i3 (V 0 21)), .ref (o + 19), .long (i6 (V 0 23)), .ref (o + 20), .ref (o + 21), .ref (o + 22), .ref (o + 23), .int (i3 (V 0 28)), .long (i6 (V 0 29)), .long (i6 (V 0 30)), .ref (o + 24), .ref (o + 25)])) := hM 0 (by decide)
  have m22 : f (o + 22) = some (.inl (X.2.2.1 0, 128, .inl (fun j : Nat => i3 (V 22 (j : Int))))) := hM 22 (by decide)
  simp (disch := omega) only [bkX8_goThrough_264, ax_ic, ax_lc, ax_nul, ax_il, ax_ll, ax_al, ax_is, ax_ls, ax_as, ax_inc, ax_iadd, ax_isub, ax_imul, ax_iand, ax_ior, ax_idiv, ax_irem, ax_ishl, ax_ishr, ax_ladd, ax_lsub, ax_lmul, ax_ldiv, ax_lrem, ax_ineg, ax_lneg, ax_i2l, ax_l2i, ax_lcmp, ax_dup, ax_pop1, ax_dupx1, ax_dup2, ax_ifeq, ax_ifne, ax_iflt, ax_ifge, ax_ifgt, ax_ifle, ax_iceq, ax_icne, ax_iclt, ax_icge, ax_icgt, ax_icle, ax_ifnull, ax_ifnn, ax_sw, ax_iret, ax_zret, ax_lret, ax_vret, ax_aret, ax_gf, ax_pfi, ax_pfz, ax_pfl, ax_pfr, ax_iald, ax_zald, ax_lald, ax_aald, ax_iast, ax_zast, ax_last, ax_aast, ax_alen, ax_ialdR, ax_alenR, ax_gst, ax_new, ax_nwi, ax_nwl, ax_nwq, ax_obj, ax_call, ax_calv, ax_nth, ax_p1, ax_p2, ax_k2, ax_nh, Value.category, lg_cmp_ge, lg_cmp_lt, lg_cmp_gt, lg_cmp_le, lg_cmp_eq, List.getElem?_cons_zero, List.getElem?_cons_succ, true_and, and_true, if_true, if_false, reduceIte, Nat.reduceEqDiff, Nat.add_eq_zero_iff, reduceCtorEq, Nat.reduceAdd, not_true_eq_false, not_false_eq_true, ax_pf, ax_popn, fv_in, fv_size, fv_drop, fv_within, fv_part, fv_cut, fv_sq, fv_absI, fv_absJ, fv_maxI, fv_minI, fv_maxJ, fv_minJ, List.map_cons, List.map_nil, List.sum_cons, List.sum_nil, Nat.reduceLeDiff, Nat.zero_le, Nat.le_refl, zb_0, zb_1, zb_em, true_or, or_true, Int32.toInt_toInt64, Nat.add_zero, fv_isGlass, fv_mayBe, fv_isReading8, fv_isHour8, fv_isPoint, fv_isReading7, fv_isRoom, fv_isWarmth, fv_isHour7, fv_isOnMap, fv_holds, fv_held, tm_eq, i3_add, i3_sub, i3_mul, i3_neg, i6_add, i6_sub, i6_mul, i6_neg, i6_I, i3_toInt, i6_toInt, i3_lt, i3_le, i3_eq, i6_lt, i6_le, i6_eq, i3_eq0, i3_eq1, i3_lt0, i3_le0, i3_gt0, i3_ge0, i6_eq0, i3_div, i6_div, i3_rem, i6_rem, i3_L, i3_nat, i3_inI, ax_up3, ax_up6, m0, m22]
  have fin : ∀ (b : Int) (ls : List (Option Value)), b = othZ (V 22) (16 * y + 2 * x) → 0 ≤ b → b < 128 → ax_cont X mX8_link 0 0 (ax_vret (ax_Rt 0 0 (mq X o f z none (put2 V (lnk (V 22, V 23) a (othZ (V 22) (16 * y + 2 * x))))))) ls [.ref o, .int (i3 a), .int (i3 b)] [] 0 0 z f := fun b ls h h1 h2 => by
    rw [← h]
    refine ax_fm (Nat.le_of_ble_eq_true rfl) (Nat.zero_le _) (Nat.zero_le _) MF.rfl (m8_link hM hG ha ha' h1 h2) (fun f1 hM1 hF1 => ?_)
    exact mq0 rfl hM1 rfl hF1
  refine ⟨by omega, fun q1 => ⟨by omega, fun q2 => ⟨⟨_, m0⟩, fin _ _ ?_ (by omega) (by omega)⟩, fun q2 => ⟨⟨_, m0⟩, fin _ _ ?_ (by omega) (by omega)⟩⟩, fun q1 => ⟨⟨_, m0⟩, fin _ _ ?_ (by omega) (by omega)⟩⟩
  · unfold othZ
    rw [if_neg (by omega), if_neg (by omega)]
  · unfold othZ
    rw [if_neg (by omega), if_pos (by omega)]
  · unfold othZ
    rw [if_pos (by omega)]
theorem m8_go_2 {X : ax_X} {o z : Nat} {V : Nat → Int → Int} {f : ax_F} {a b c d : Int} {ls : List (Option Value)} (hM : MH X o V f) (hG : ∀ s : Int, 0 ≤ s → s < 128 → (-1 ≤ V 22 s ∧ V 22 s ≤ 127) ∧ 0 ≤ V 23 s ∧ V 23 s ≤ 998) (hl : ax_nth ls 0 = some (.ref o)) (hl1 : ax_nth ls 5 = some (.int (i3 c))) {k : Nat} (hl2 : ax_nth ls k = some (.int (i3 d))) (ha : 0 ≤ a) (ha' : a < 128) (hb : 0 ≤ b) (hb' : b < 128) (hc : 0 ≤ c) (hc' : c < 128) (hd : 0 ≤ d) (hd' : d < 128) :
    ax_isO f 7 (.ref o) ∧ ax_cont X mX8_link 0 0 (ax_al 0 (ax_il 5 (ax_il k (ax_calv X mX8_link 7 (2 + 1) 0 0 (ax_vret (ax_Rt 0 0 (mq X o f z none (put2 V (lnk (lnk (V 22, V 23) a b) c d))))))))) ls [.ref o, .int (i3 a), .int (i3 b)] [] 0 0 z f := by
  have m0 : f o = some (mce X o 0 (V 0)) := hM 0 (by decide)
  have ok := lnk_ok (m := 998) hG ha ha' hb hb'
  refine ⟨⟨_, m0⟩, ax_fm (Nat.le_of_ble_eq_true rfl) (Nat.zero_le _) (Nat.zero_le _) MF.rfl (m8_link hM (fun s h1 h2 => by have := hG s h1 h2; omega) ha ha' hb hb') (fun f1 hM1 hF1 => ?_)⟩
  have n0 : f1 o = some (mce X o 0 (V 0)) := hM1 0 (by decide)
  simp only [ax_al, ax_il, hl, hl1, hl2, Option.toList, List.nil_append, ax_calv, ax_popn]
  refine ⟨⟨_, n0⟩, ax_fm (Nat.le_of_ble_eq_true rfl) (Nat.zero_le _) (Nat.zero_le _) hF1 (m8_link hM1 (fun s h1 h2 => by have := ok s h1 h2; exact ⟨this.1, this.2.1, by show (lnk (V 22, V 23) a b).2 s ≤ 1000; omega⟩) hc hc' hd hd') (fun f2 hM2 hF2 => ?_)⟩
  refine mq0 rfl hM2 ?_ hF2
  exact put2_put2 _ _ _
theorem m8_go_174 {X : ax_X} {o z : Nat} {V : Nat → Int → Int} {f : ax_F} {x y v m : Int} {p9 : Option Value} (hM : MH X o V f) (hS : shOk V) (hG : ∀ s : Int, 0 ≤ s → s < 128 → (-1 ≤ V 22 s ∧ V 22 s ≤ 127) ∧ 0 ≤ V 23 s ∧ V 23 s ≤ 998) (hx : 0 ≤ x) (hx' : x ≤ 6) (hy : 0 ≤ y) (hy' : y ≤ 6) (hv : 1 ≤ v) (hv' : v ≤ 20000) (h4 : manyZ (V 22) (16 * y + 2 * x) = 4) (P : Prop) [Decidable P] (hP : P ↔ allS (V 21) x y < 4 * v) :
    ax_G X mX8_goThrough 0 0 (mq X o f z none (put2 V (goS (V 21) v x y (V 22, V 23)))) 174 [some (.ref o), some (.int (i3 x)), some (.int (i3 y)), some (.int (i3 v)), some (.int (i3 (16 * y + 2 * x))), some (.int (i3 (16 * y + 2 * x + 16))), some (.int (i3 (16 * y + 2 * x + 1))), some (.int (i3 (16 * y + 2 * x + 3))), some (.int (i3 m)), p9, none, none] [.int (zb P)] 0 0 z f := by
  have e : goS (V 21) v x y (V 22, V 23) = (if v ≤ V 21 (8 * y + x) ↔ allS (V 21) x y < 4 * v then lnk (lnk (V 22, V 23) (16 * y + 2 * x) (16 * y + 2 * x + 1)) (16 * y + 2 * x + 16) (16 * y + 2 * x + 3) else lnk (lnk (V 22, V 23) (16 * y + 2 * x) (16 * y + 2 * x + 3)) (16 * y + 2 * x + 16) (16 * y + 2 * x + 1)) := by
    unfold goS
    rw [if_pos h4]
  rw [e]
  refine sbX8_goThrough_174 X 0 0 _ _ _ _ _ _ _ ?_
  have m0 : f o = some (.inr (7, [.ref (o + 1), .ref (o + 2), .ref (o + 3), .ref (o + 4), .ref (o + 5), .ref (o + 6), .ref (o + 7), .ref (o + 8), .int (i3 (V 0 8)), .ref (o + 9), .ref (o + 10), .ref (o + 11), .ref (o + 12), .ref (o + 13), .int (i3 (V 0 14)), .ref (o + 14), .ref (o + 15), .ref (o + 16), .ref (o + 17), .int (i3 (V 0 19)), .ref (o + 18), .int (i3 (V 0 21)), .ref (o + 19), .long (i6 (V 0 23)), .ref (o + 20), .ref (o + 21), .ref (o + 22), .ref (o + 23), .int (i3 (V 0 28)), .long (i6 (V 0 29)), .long (i6 (V 0 30)), .ref (o + 24), .ref (o + 25)])) := hM 0 (by decide)
  simp (disch := omega) only [bkX8_goThrough_174, ax_ic, ax_lc, ax_nul, ax_il, ax_ll, ax_al, ax_is, ax_ls, ax_as, ax_inc, ax_iadd, ax_isub, ax_imul, ax_iand, ax_ior, ax_idiv, ax_irem, ax_ishl, ax_ishr, ax_ladd, ax_lsub, ax_lmul, ax_ldiv, ax_lrem, ax_ineg, ax_lneg, ax_i2l, ax_l2i, ax_lcmp, ax_dup, ax_pop1, ax_dupx1, ax_dup2, ax_ifeq, ax_ifne, ax_iflt, ax_ifge, ax_ifgt, ax_ifle, ax_iceq, ax_icne, ax_iclt, ax_icge, ax_icgt, ax_icle, ax_ifnull, ax_ifnn, ax_sw, ax_iret, ax_zret, ax_lret, ax_vret, ax_aret, ax_gf, ax_pfi, ax_pfz, ax_pfl, ax_pfr, ax_iald, ax_zald, ax_lald, ax_aald, ax_iast, ax_zast, ax_last, ax_aast, ax_alen, ax_ialdR, ax_alenR, ax_gst, ax_new, ax_nwi, ax_nwl, ax_nwq, ax_obj, ax_call, ax_calv, ax_nth, ax_p1, ax_p2, ax_k2, ax_nh, Value.category, lg_cmp_ge, lg_cmp_lt, lg_cmp_gt, lg_cmp_le, lg_cmp_eq, List.getElem?_cons_zero, List.getElem?_cons_succ, true_and, and_true, if_true, if_false, reduceIte, Nat.reduceEqDiff, Nat.add_eq_zero_iff, reduceCtorEq, Nat.reduceAdd, not_true_eq_false, not_false_eq_true, ax_pf, ax_popn, fv_in, fv_size, fv_drop, fv_within, fv_part, fv_cut, fv_sq, fv_absI, fv_absJ, fv_maxI, fv_minI, fv_maxJ, fv_minJ, List.map_cons, List.map_nil, List.sum_cons, List.sum_nil, Nat.reduceLeDiff, Nat.zero_le, Nat.le_refl, zb_0, zb_1, zb_em, true_or, or_true, Int32.toInt_toInt64, Nat.add_zero, fv_isGlass, fv_mayBe, fv_isReading8, fv_isHour8, fv_isPoint, fv_isReading7, fv_isRoom, fv_isWarmth, fv_isHour7, fv_isOnMap, fv_holds, fv_held, tm_eq, i3_add, i3_sub, i3_mul, i3_neg, i6_add, i6_sub, i6_mul, i6_neg, i6_I, i3_toInt, i6_toInt, i3_lt, i3_le, i3_eq, i6_lt, i6_le, i6_eq, i3_eq0, i3_eq1, i3_lt0, i3_le0, i3_gt0, i3_ge0, i6_eq0, i3_div, i6_div, i3_rem, i6_rem, i3_L, i3_nat, i3_inI, ax_up3, ax_up6]
  refine ⟨⟨_, m0⟩, ax_fn (Nat.le_of_ble_eq_true rfl) (Nat.zero_le _) (Nat.zero_le _) (m8_isHigh hM hS hx (by omega) hy (by omega) hv hv') ?_⟩
  have zz : ∀ (A B : Prop) [Decidable A] [Decidable B], (zb A = zb B ↔ (A ↔ B)) := fun A B _ _ => by
    unfold zb
    by_cases a : A <;> by_cases b : B <;> simp [a, b]
  simp only [ax_il, ax_al, ax_icne, ax_nth, Option.toList, List.cons_append, List.nil_append, ax_calv, ax_popn, zz]
  refine ⟨fun q => ?_, fun q => ?_⟩
  · rw [if_neg (by rw [← hP]; exact q)]
    exact m8_go_2 hM hG rfl rfl rfl (by omega) (by omega) (by omega) (by omega) (by omega) (by omega) (by omega) (by omega)
  · rw [if_pos (by rw [← hP]; exact q)]
    exact m8_go_2 hM hG rfl rfl rfl (by omega) (by omega) (by omega) (by omega) (by omega) (by omega) (by omega) (by omega)
theorem m8_go_91 {X : ax_X} {o z : Nat} {V : Nat → Int → Int} {f : ax_F} {x y v c d : Int} (hM : MH X o V f) (hS : shOk V) (hG : ∀ s : Int, 0 ≤ s → s < 128 → (-1 ≤ V 22 s ∧ V 22 s ≤ 127) ∧ 0 ≤ V 23 s ∧ V 23 s ≤ 998) (hx : 0 ≤ x) (hx' : x ≤ 6) (hy : 0 ≤ y) (hy' : y ≤ 6) (hv : 1 ≤ v) (hv' : v ≤ 20000) (hm : c + d = manyZ (V 22) (16 * y + 2 * x)) :
    ax_G X mX8_goThrough 0 0 (mq X o f z none (put2 V (goS (V 21) v x y (V 22, V 23)))) 91 [some (.ref o), some (.int (i3 x)), some (.int (i3 y)), some (.int (i3 v)), some (.int (i3 (16 * y + 2 * x))), some (.int (i3 (16 * y + 2 * x + 16))), some (.int (i3 (16 * y + 2 * x + 1))), some (.int (i3 (16 * y + 2 * x + 3))), none, none, none, none] [.int (i3 d), .int (i3 c)] 0 0 z f := by
  have rm : 0 ≤ manyZ (V 22) (16 * y + 2 * x) ∧ manyZ (V 22) (16 * y + 2 * x) ≤ 4 := by
    unfold manyZ cuZ
    repeat' split
    all_goals omega
  have s0 := hS (8 * y + x) (by omega) (by omega)
  have s1 := hS (8 * y + x + 1) (by omega) (by omega)
  have s2 := hS (8 * y + x + 8) (by omega) (by omega)
  have s3 := hS (8 * y + x + 9) (by omega) (by omega)
  have g0 := hG (16 * y + 2 * x) (by omega) (by omega)
  have g1 := hG (16 * y + 2 * x + 1) (by omega) (by omega)
  refine sbX8_goThrough_91 X 0 0 _ _ _ _ _ _ _ ?_
  have m0 : f o = some (.inr (7, [.ref (o + 1), .ref (o + 2), .ref (o + 3), .ref (o + 4), .ref (o + 5), .ref (o + 6), .ref (o + 7), .ref (o + 8), .int (i3 (V 0 8)), .ref (o + 9), .ref (o + 10), .ref (o + 11), .ref (o + 12), .ref (o + 13), .int (i3 (V 0 14)), .ref (o + 14), .ref (o + 15), .ref (o + 16), .ref (o + 17), .int (i3 (V 0 19)), .ref (o + 18), .int (i3 (V 0 21)), .ref (o + 19), .long (i6 (V 0 23)), .ref (o + 20), .ref (o + 21), .ref (o + 22), .ref (o + 23), .int (i3 (V 0 28)), .long (i6 (V 0 29)), .long (i6 (V 0 30)), .ref (o + 24), .ref (o + 25)])) := hM 0 (by decide)
  have m21 : f (o + 21) = some (.inl (X.2.2.1 1, 64, .inr (.inl (fun j : Nat => i6 (V 21 (j : Int)))))) := hM 21 (by decide)
  have m22 : f (o + 22) = some (.inl (X.2.2.1 0, 128, .inl (fun j : Nat => i3 (V 22 (j : Int))))) := hM 22 (by decide)
  simp (disch := omega) only [bkX8_goThrough_91, ax_ic, ax_lc, ax_nul, ax_il, ax_ll, ax_al, ax_is, ax_ls, ax_as, ax_inc, ax_iadd, ax_isub, ax_imul, ax_iand, ax_ior, ax_idiv, ax_irem, ax_ishl, ax_ishr, ax_ladd, ax_lsub, ax_lmul, ax_ldiv, ax_lrem, ax_ineg, ax_lneg, ax_i2l, ax_l2i, ax_lcmp, ax_dup, ax_pop1, ax_dupx1, ax_dup2, ax_ifeq, ax_ifne, ax_iflt, ax_ifge, ax_ifgt, ax_ifle, ax_iceq, ax_icne, ax_iclt, ax_icge, ax_icgt, ax_icle, ax_ifnull, ax_ifnn, ax_sw, ax_iret, ax_zret, ax_lret, ax_vret, ax_aret, ax_gf, ax_pfi, ax_pfz, ax_pfl, ax_pfr, ax_iald, ax_zald, ax_lald, ax_aald, ax_iast, ax_zast, ax_last, ax_aast, ax_alen, ax_ialdR, ax_alenR, ax_gst, ax_new, ax_nwi, ax_nwl, ax_nwq, ax_obj, ax_call, ax_calv, ax_nth, ax_p1, ax_p2, ax_k2, ax_nh, Value.category, lg_cmp_ge, lg_cmp_lt, lg_cmp_gt, lg_cmp_le, lg_cmp_eq, List.getElem?_cons_zero, List.getElem?_cons_succ, true_and, and_true, if_true, if_false, reduceIte, Nat.reduceEqDiff, Nat.add_eq_zero_iff, reduceCtorEq, Nat.reduceAdd, not_true_eq_false, not_false_eq_true, ax_pf, ax_popn, fv_in, fv_size, fv_drop, fv_within, fv_part, fv_cut, fv_sq, fv_absI, fv_absJ, fv_maxI, fv_minI, fv_maxJ, fv_minJ, List.map_cons, List.map_nil, List.sum_cons, List.sum_nil, Nat.reduceLeDiff, Nat.zero_le, Nat.le_refl, zb_0, zb_1, zb_em, true_or, or_true, Int32.toInt_toInt64, Nat.add_zero, fv_isGlass, fv_mayBe, fv_isReading8, fv_isHour8, fv_isPoint, fv_isReading7, fv_isRoom, fv_isWarmth, fv_isHour7, fv_isOnMap, fv_holds, fv_held, tm_eq, i3_add, i3_sub, i3_mul, i3_neg, i6_add, i6_sub, i6_mul, i6_neg, i6_I, i3_toInt, i6_toInt, i3_lt, i3_le, i3_eq, i6_lt, i6_le, i6_eq, i3_eq0, i3_eq1, i3_lt0, i3_le0, i3_gt0, i3_ge0, i6_eq0, i3_div, i6_div, i3_rem, i6_rem, i3_L, i3_nat, i3_inI, ax_up3, ax_up6, m0, m21, m22, hm]
  have two : manyZ (V 22) (16 * y + 2 * x) = 2 → goS (V 21) v x y (V 22, V 23) = lnk (V 22, V 23) (oneZ (V 22) (16 * y + 2 * x)) (othZ (V 22) (16 * y + 2 * x)) := fun h => by
    unfold goS
    rw [if_neg (show ¬ manyZ (V 22) (16 * y + 2 * x) = 4 by omega), if_pos h]
  have at264 : manyZ (V 22) (16 * y + 2 * x) = 2 → ∀ a : Int, a = oneZ (V 22) (16 * y + 2 * x) → 0 ≤ a → a < 128 → ax_G X mX8_goThrough 0 0 (mq X o f z none (put2 V (goS (V 21) v x y (V 22, V 23)))) 264 [some (.ref o), some (.int (i3 x)), some (.int (i3 y)), some (.int (i3 v)), some (.int (i3 (16 * y + 2 * x))), some (.int (i3 (16 * y + 2 * x + 16))), some (.int (i3 (16 * y + 2 * x + 1))), some (.int (i3 (16 * y + 2 * x + 3))), some (.int (i3 (manyZ (V 22) (16 * y + 2 * x)))), none, none, none] [.int (i3 a)] 0 0 z f := fun h a ha h1 h2 => by
    rw [two h, ← ha]
    exact m8_go_264 hM (fun s h1 h2 => by have := hG s h1 h2; omega) hx hx' hy hy' h1 h2
  refine ⟨fun q4 => ⟨fun q2 => mq0 rfl hM ?_ MF.rfl, fun q2 => ⟨by omega, fun b1 => ⟨by omega, fun b2 => at264 q2 _ ?_ (by omega) (by omega), fun b2 => at264 q2 _ ?_ (by omega) (by omega)⟩, fun b1 => at264 q2 _ ?_ (by omega) (by omega)⟩⟩, fun q4 => ⟨by omega, by omega, by omega, by omega, fun b => ?_, fun b => ?_⟩⟩
  · rw [show goS (V 21) v x y (V 22, V 23) = (V 22, V 23) by unfold goS; rw [if_neg (show ¬ manyZ (V 22) (16 * y + 2 * x) = 4 from q4), if_neg (show ¬ manyZ (V 22) (16 * y + 2 * x) = 2 from q2)], put2_id]
  · unfold oneZ
    rw [if_neg (by omega), if_neg (by omega)]
  · unfold oneZ
    rw [if_neg (by omega), if_pos (by omega)]
  · unfold oneZ
    rw [if_pos (by omega)]
  · have e := m8_go_174 (z := z) (m := manyZ (V 22) (16 * y + 2 * x)) (p9 := some (.long (i6 (V 21 (8 * y + x) + V 21 (8 * y + x + 1) + V 21 (8 * y + x + 8) + V 21 (8 * y + x + 9))))) hM hS hG hx hx' hy hy' hv hv' q4 (allS (V 21) x y < 4 * v) Iff.rfl
    rw [← zb_f (show ¬ allS (V 21) x y < 4 * v by unfold allS; omega)] at e
    exact e
  · have e := m8_go_174 (z := z) (m := manyZ (V 22) (16 * y + 2 * x)) (p9 := some (.long (i6 (V 21 (8 * y + x) + V 21 (8 * y + x + 1) + V 21 (8 * y + x + 8) + V 21 (8 * y + x + 9))))) hM hS hG hx hx' hy hy' hv hv' q4 (allS (V 21) x y < 4 * v) Iff.rfl
    rw [← zb_t (show allS (V 21) x y < 4 * v by unfold allS; omega)] at e
    exact e
theorem m8_go_59 {X : ax_X} {o z : Nat} {V : Nat → Int → Int} {f : ax_F} {x y v c d : Int} (hM : MH X o V f) (hS : shOk V) (hG : ∀ s : Int, 0 ≤ s → s < 128 → (-1 ≤ V 22 s ∧ V 22 s ≤ 127) ∧ 0 ≤ V 23 s ∧ V 23 s ≤ 998) (hx : 0 ≤ x) (hx' : x ≤ 6) (hy : 0 ≤ y) (hy' : y ≤ 6) (hv : 1 ≤ v) (hv' : v ≤ 20000) (hm : c + d = cuZ (V 22) (16 * y + 2 * x) + cuZ (V 22) (16 * y + 2 * x + 16)) :
    ax_G X mX8_goThrough 0 0 (mq X o f z none (put2 V (goS (V 21) v x y (V 22, V 23)))) 59 [some (.ref o), some (.int (i3 x)), some (.int (i3 y)), some (.int (i3 v)), some (.int (i3 (16 * y + 2 * x))), some (.int (i3 (16 * y + 2 * x + 16))), some (.int (i3 (16 * y + 2 * x + 1))), some (.int (i3 (16 * y + 2 * x + 3))), none, none, none, none] [.int (i3 d), .int (i3 c)] 0 0 z f := by
  have g0 := hG (16 * y + 2 * x + 3) (by omega) (by omega)
  have g1 := hG (16 * y + 2 * x + 1) (by omega) (by omega)
  refine sbX8_goThrough_59 X 0 0 _ _ _ _ _ _ _ ?_
  have m0 : f o = some (.inr (7, [.ref (o + 1), .ref (o + 2), .ref (o + 3), .ref (o + 4), .ref (o + 5), .ref (o + 6), .ref (o + 7), .ref (o + 8), .int (i3 (V 0 8)), .ref (o + 9), .ref (o + 10), .ref (o + 11), .ref (o + 12), .ref (o + 13), .int (i3 (V 0 14)), .ref (o + 14), .ref (o + 15), .ref (o + 16), .ref (o + 17), .int (i3 (V 0 19)), .ref (o + 18), .int (i3 (V 0 21)), .ref (o + 19), .long (i6 (V 0 23)), .ref (o + 20), .ref (o + 21), .ref (o + 22), .ref (o + 23), .int (i3 (V 0 28)), .long (i6 (V 0 29)), .long (i6 (V 0 30)), .ref (o + 24), .ref (o + 25)])) := hM 0 (by decide)
  have m22 : f (o + 22) = some (.inl (X.2.2.1 0, 128, .inl (fun j : Nat => i3 (V 22 (j : Int))))) := hM 22 (by decide)
  simp (disch := omega) only [bkX8_goThrough_59, ax_ic, ax_lc, ax_nul, ax_il, ax_ll, ax_al, ax_is, ax_ls, ax_as, ax_inc, ax_iadd, ax_isub, ax_imul, ax_iand, ax_ior, ax_idiv, ax_irem, ax_ishl, ax_ishr, ax_ladd, ax_lsub, ax_lmul, ax_ldiv, ax_lrem, ax_ineg, ax_lneg, ax_i2l, ax_l2i, ax_lcmp, ax_dup, ax_pop1, ax_dupx1, ax_dup2, ax_ifeq, ax_ifne, ax_iflt, ax_ifge, ax_ifgt, ax_ifle, ax_iceq, ax_icne, ax_iclt, ax_icge, ax_icgt, ax_icle, ax_ifnull, ax_ifnn, ax_sw, ax_iret, ax_zret, ax_lret, ax_vret, ax_aret, ax_gf, ax_pfi, ax_pfz, ax_pfl, ax_pfr, ax_iald, ax_zald, ax_lald, ax_aald, ax_iast, ax_zast, ax_last, ax_aast, ax_alen, ax_ialdR, ax_alenR, ax_gst, ax_new, ax_nwi, ax_nwl, ax_nwq, ax_obj, ax_call, ax_calv, ax_nth, ax_p1, ax_p2, ax_k2, ax_nh, Value.category, lg_cmp_ge, lg_cmp_lt, lg_cmp_gt, lg_cmp_le, lg_cmp_eq, List.getElem?_cons_zero, List.getElem?_cons_succ, true_and, and_true, if_true, if_false, reduceIte, Nat.reduceEqDiff, Nat.add_eq_zero_iff, reduceCtorEq, Nat.reduceAdd, not_true_eq_false, not_false_eq_true, ax_pf, ax_popn, fv_in, fv_size, fv_drop, fv_within, fv_part, fv_cut, fv_sq, fv_absI, fv_absJ, fv_maxI, fv_minI, fv_maxJ, fv_minJ, List.map_cons, List.map_nil, List.sum_cons, List.sum_nil, Nat.reduceLeDiff, Nat.zero_le, Nat.le_refl, zb_0, zb_1, zb_em, true_or, or_true, Int32.toInt_toInt64, Nat.add_zero, fv_isGlass, fv_mayBe, fv_isReading8, fv_isHour8, fv_isPoint, fv_isReading7, fv_isRoom, fv_isWarmth, fv_isHour7, fv_isOnMap, fv_holds, fv_held, tm_eq, i3_add, i3_sub, i3_mul, i3_neg, i6_add, i6_sub, i6_mul, i6_neg, i6_I, i3_toInt, i6_toInt, i3_lt, i3_le, i3_eq, i6_lt, i6_le, i6_eq, i3_eq0, i3_eq1, i3_lt0, i3_le0, i3_gt0, i3_ge0, i6_eq0, i3_div, i6_div, i3_rem, i6_rem, i3_L, i3_nat, i3_inI, ax_up3, ax_up6, m0, m22, hm]
  have c0 : ∀ s : Int, V 22 s < 0 → cuZ (V 22) s = 0 := fun s h => by unfold cuZ; rw [if_neg (by omega)]
  have c1 : ∀ s : Int, ¬ V 22 s < 0 → cuZ (V 22) s = 1 := fun s h => by unfold cuZ; rw [if_pos (by omega)]
  refine ⟨by omega, fun b1 => ⟨by omega, fun b2 => ?_, fun b2 => ?_⟩, fun b1 => ⟨by omega, fun b2 => ?_, fun b2 => ?_⟩⟩
  · exact m8_go_91 hM hS hG hx hx' hy hy' hv hv' (by unfold manyZ; rw [c0 _ b1, c0 _ b2])
  · exact m8_go_91 hM hS hG hx hx' hy hy' hv hv' (by unfold manyZ; rw [c0 _ b1, c1 _ b2])
  · exact m8_go_91 hM hS hG hx hx' hy hy' hv hv' (by unfold manyZ; rw [c1 _ b1, c0 _ b2])
  · exact m8_go_91 hM hS hG hx hx' hy hy' hv hv' (by unfold manyZ; rw [c1 _ b1, c1 _ b2])
theorem m8_goThrough {X : ax_X} {o z : Nat} {V : Nat → Int → Int} {f : ax_F} {x y v : Int} (hM : MH X o V f) (hS : shOk V) (hG : ∀ s : Int, 0 ≤ s → s < 128 → (-1 ≤ V 22 s ∧ V 22 s ≤ 127) ∧ 0 ≤ V 23 s ∧ V 23 s ≤ 998) (hx : 0 ≤ x) (hx' : x ≤ 6) (hy : 0 ≤ y) (hy' : y ≤ 6) (hv : 1 ≤ v) (hv' : v ≤ 20000) :
    ax_M X mX8_goThrough 0 0 [.ref o, .int (i3 x), .int (i3 y), .int (i3 v)] z f (mq X o f z none (put2 V (goS (V 21) v x y (V 22, V 23)))) := by
  have g0 := hG (16 * y + 2 * x) (by omega) (by omega)
  have g1 := hG (16 * y + 2 * x + 16) (by omega) (by omega)
  refine ax_met2 [some (.ref o), some (.int (i3 x)), some (.int (i3 y)), some (.int (i3 v)), none, none, none, none, none, none, none, none] (by decide) (Nat.le_of_ble_eq_true rfl) rfl ?_
  refine sbX8_goThrough_0 X 0 0 _ _ _ _ _ _ _ ?_
  have m0 : f o = some (.inr (7, [.ref (o + 1), .ref (o + 2), .ref (o + 3), .ref (o + 4), .ref (o + 5), .ref (o + 6), .ref (o + 7), .ref (o + 8), .int (i3 (V 0 8)), .ref (o + 9), .ref (o + 10), .ref (o + 11), .ref (o + 12), .ref (o + 13), .int (i3 (V 0 14)), .ref (o + 14), .ref (o + 15), .ref (o + 16), .ref (o + 17), .int (i3 (V 0 19)), .ref (o + 18), .int (i3 (V 0 21)), .ref (o + 19), .long (i6 (V 0 23)), .ref (o + 20), .ref (o + 21), .ref (o + 22), .ref (o + 23), .int (i3 (V 0 28)), .long (i6 (V 0 29)), .long (i6 (V 0 30)), .ref (o + 24), .ref (o + 25)])) := hM 0 (by decide)
  have m22 : f (o + 22) = some (.inl (X.2.2.1 0, 128, .inl (fun j : Nat => i3 (V 22 (j : Int))))) := hM 22 (by decide)
  simp (disch := omega) only [bkX8_goThrough_0, ax_ic, ax_lc, ax_nul, ax_il, ax_ll, ax_al, ax_is, ax_ls, ax_as, ax_inc, ax_iadd, ax_isub, ax_imul, ax_iand, ax_ior, ax_idiv, ax_irem, ax_ishl, ax_ishr, ax_ladd, ax_lsub, ax_lmul, ax_ldiv, ax_lrem, ax_ineg, ax_lneg, ax_i2l, ax_l2i, ax_lcmp, ax_dup, ax_pop1, ax_dupx1, ax_dup2, ax_ifeq, ax_ifne, ax_iflt, ax_ifge, ax_ifgt, ax_ifle, ax_iceq, ax_icne, ax_iclt, ax_icge, ax_icgt, ax_icle, ax_ifnull, ax_ifnn, ax_sw, ax_iret, ax_zret, ax_lret, ax_vret, ax_aret, ax_gf, ax_pfi, ax_pfz, ax_pfl, ax_pfr, ax_iald, ax_zald, ax_lald, ax_aald, ax_iast, ax_zast, ax_last, ax_aast, ax_alen, ax_ialdR, ax_alenR, ax_gst, ax_new, ax_nwi, ax_nwl, ax_nwq, ax_obj, ax_call, ax_calv, ax_nth, ax_p1, ax_p2, ax_k2, ax_nh, Value.category, lg_cmp_ge, lg_cmp_lt, lg_cmp_gt, lg_cmp_le, lg_cmp_eq, List.getElem?_cons_zero, List.getElem?_cons_succ, true_and, and_true, if_true, if_false, reduceIte, Nat.reduceEqDiff, Nat.add_eq_zero_iff, reduceCtorEq, Nat.reduceAdd, not_true_eq_false, not_false_eq_true, ax_pf, ax_popn, fv_in, fv_size, fv_drop, fv_within, fv_part, fv_cut, fv_sq, fv_absI, fv_absJ, fv_maxI, fv_minI, fv_maxJ, fv_minJ, List.map_cons, List.map_nil, List.sum_cons, List.sum_nil, Nat.reduceLeDiff, Nat.zero_le, Nat.le_refl, zb_0, zb_1, zb_em, true_or, or_true, Int32.toInt_toInt64, Nat.add_zero, fv_isGlass, fv_mayBe, fv_isReading8, fv_isHour8, fv_isPoint, fv_isReading7, fv_isRoom, fv_isWarmth, fv_isHour7, fv_isOnMap, fv_holds, fv_held, tm_eq, i3_add, i3_sub, i3_mul, i3_neg, i6_add, i6_sub, i6_mul, i6_neg, i6_I, i3_toInt, i6_toInt, i3_lt, i3_le, i3_eq, i6_lt, i6_le, i6_eq, i3_eq0, i3_eq1, i3_lt0, i3_le0, i3_gt0, i3_ge0, i6_eq0, i3_div, i6_div, i3_rem, i6_rem, i3_L, i3_nat, i3_inI, ax_up3, ax_up6, m0, m22]
  have c0 : ∀ s : Int, V 22 s < 0 → cuZ (V 22) s = 0 := fun s h => by unfold cuZ; rw [if_neg (by omega)]
  have c1 : ∀ s : Int, ¬ V 22 s < 0 → cuZ (V 22) s = 1 := fun s h => by unfold cuZ; rw [if_pos (by omega)]
  refine ⟨by omega, fun b1 => ⟨by omega, fun b2 => ?_, fun b2 => ?_⟩, fun b1 => ⟨by omega, fun b2 => ?_, fun b2 => ?_⟩⟩
  · exact m8_go_59 hM hS hG hx hx' hy hy' hv hv' (by rw [c0 _ b1, c0 _ b2])
  · exact m8_go_59 hM hS hG hx hx' hy hy' hv hv' (by rw [c0 _ b1, c1 _ b2])
  · exact m8_go_59 hM hS hG hx hx' hy hy' hv hv' (by rw [c1 _ b1, c0 _ b2])
  · exact m8_go_59 hM hS hG hx hx' hy hy' hv hv' (by rw [c1 _ b1, c1 _ b2])
