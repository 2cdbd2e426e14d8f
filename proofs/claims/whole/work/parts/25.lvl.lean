def srch (P : Int → Prop) [DecidablePred P] (a : Int) : Nat → Int
  | 0 => a
  | n + 1 => if P a then a else srch P (a + 1) n
def srchD (P : Int → Prop) [DecidablePred P] (a : Int) : Nat → Int
  | 0 => a
  | n + 1 => if P a then a else srchD P (a - 1) n
theorem srch_spec {P : Int → Prop} [DecidablePred P] : ∀ (n : Nat) (a : Int), a ≤ srch P a n ∧ srch P a n ≤ a + n ∧ (srch P a n = a + n ∨ P (srch P a n)) ∧ ∀ q, a ≤ q → q < srch P a n → ¬ P q
  | 0, a => ⟨Int.le_refl _, by simp [srch], Or.inl (by simp [srch]), fun q h1 h2 => absurd h2 (by simp only [srch]; omega)⟩
  | n + 1, a => by
    unfold srch
    by_cases h : P a
    · rw [if_pos h]
      exact ⟨Int.le_refl _, by omega, Or.inr h, fun q h1 h2 => absurd h2 (by omega)⟩
    · rw [if_neg h]
      obtain ⟨h1, h2, h3, h4⟩ := srch_spec (P := P) n (a + 1)
      refine ⟨by omega, by omega, ?_, fun q q1 q2 => ?_⟩
      · rcases h3 with h3 | h3
        · exact Or.inl (by omega)
        · exact Or.inr h3
      · by_cases e : q = a
        · rw [e]; exact h
        · exact h4 q (by omega) q2
theorem srchD_spec {P : Int → Prop} [DecidablePred P] : ∀ (n : Nat) (a : Int), srchD P a n ≤ a ∧ a - n ≤ srchD P a n ∧ (srchD P a n = a - n ∨ P (srchD P a n)) ∧ ∀ q, q ≤ a → srchD P a n < q → ¬ P q
  | 0, a => ⟨Int.le_refl _, by simp [srchD], Or.inl (by simp [srchD]), fun q h1 h2 => absurd h2 (by simp only [srchD]; omega)⟩
  | n + 1, a => by
    unfold srchD
    by_cases h : P a
    · rw [if_pos h]
      exact ⟨Int.le_refl _, by omega, Or.inr h, fun q h1 h2 => absurd h2 (by omega)⟩
    · rw [if_neg h]
      obtain ⟨h1, h2, h3, h4⟩ := srchD_spec (P := P) n (a - 1)
      refine ⟨by omega, by omega, ?_, fun q q1 q2 => ?_⟩
      · rcases h3 with h3 | h3
        · exact Or.inl (by omega)
        · exact Or.inr h3
      · by_cases e : q = a
        · rw [e]; exact h
        · exact h4 q (by omega) q2
def riseZ (a t : Int) : Int := (a * (2730 + 10 * t)).tdiv 2730
theorem riseZ_mono {a b t : Int} (ha : 0 ≤ a) (h : a ≤ b) (ht : -30 ≤ t) : riseZ a t ≤ riseZ b t := by
  unfold riseZ
  have h1 : a * (2730 + 10 * t) ≤ b * (2730 + 10 * t) := Int.mul_le_mul_of_nonneg_right h (by omega)
  have h2 : 0 ≤ a * (2730 + 10 * t) := Int.mul_nonneg ha (by omega)
  rw [Int.tdiv_eq_ediv_of_nonneg h2, Int.tdiv_eq_ediv_of_nonneg (by omega)]
  exact Int.ediv_le_ediv (by omega) h1
theorem stp_mono : ∀ (n k : Nat), stp k ≤ stp (k + n)
  | 0, k => Int.le_refl _
  | n + 1, k => by
    have h := stp_mono n k
    have a := Int.ediv_nonneg (show (0 : Int) ≤ 800000 by omega) (show (0 : Int) ≤ ((k + n : Nat) : Int) + 1 by omega)
    show stp k ≤ stp (k + n) + 800000 / (((k + n : Nat) : Int) + 1)
    omega
theorem stp_le {a b : Nat} (h : a ≤ b) : stp a ≤ stp b := by
  have := stp_mono (b - a) a
  rwa [show a + (b - a) = b by omega] at this
def sumsT : List Int := [0, 4149860, 4702337, 5025992, 5255754, 5434020, 5579693, 5702867, 5809571, 5903688, 5987883, 6064045, 6133574, 6197531, 6256745, 6311870, 6363434, 6411869, 6457532, 6500724, 6541700, 6580674, 6617831, 6653334, 6687324, 6719926, 6751244, 6781380, 6810419, 6838437, 6865504, 6891682, 6917028, 6941590, 6965419, 6988556, 7011040, 7032905, 7054185, 7074914, 7095117, 7114818, 7134042, 7152817, 7171155, 7189081, 7206613, 7223766, 7240555, 7257000, 7273113, 7288902, 7304385, 7319574, 7334476, 7349102, 7363468, 7377574, 7391440, 7405061, 7418456, 7431631, 7444590, 7457340, 7469889, 7482240, 7494401, 7506378, 7518179, 7529812, 7541268, 7552564, 7563706, 7574685, 7585524, 7596207, 7606754, 7617165, 7627431, 7637574, 7647594, 7657474, 7667237, 7676884, 7686417, 7695838, 7705148, 7714345, 7723436, 7732424, 7741312, 7750102, 7758797, 7767397, 7775899, 7784310, 7792633, 7800871, 7809027, 7817103, 7825103, 7833003, 7840829, 7848585, 7856274, 7863874, 7871400, 7878866, 7886266, 7893576, 7900834, 7908034, 7915145, 7922212, 7929212, 7936140, 7943034, 7949834, 7956598, 7963298, 7969938, 7976538, 7983059, 7989559, 7995966, 8002366, 8008666, 8014964, 8021164, 8027364, 8033467, 8039567, 8045581, 8051581, 8057514, 8063414, 8069273, 8075073, 8080866, 8086566, 8092266, 8097901, 8103501, 8109086, 8114586, 8120086, 8125531, 8130931, 8136331, 8141645, 8146945, 8152239, 8157439, 8162639, 8167823, 8172923, 8178023, 8183109, 8188109, 8193109, 8198109, 8203009, 8207909, 8212809, 8217635, 8222435, 8227235, 8232001, 8236701, 8241401, 8246101, 8250722, 8255322, 8259922, 8264513, 8269013, 8273513, 8278013, 8282490, 8286890, 8291290, 8295690, 8300071, 8304371, 8308671, 8312971, 8317271, 8321475, 8325675, 8329875, 8334075, 8338222, 8342322, 8346422, 8350522, 8354622, 8358634, 8362634, 8366634, 8370634, 8374634]
def blkS (k : Nat) : Nat → Int
  | 0 => 0
  | n + 1 => blkS k n + 800000 / ((k : Int) + n + 1)
theorem stp_blk (k : Nat) : ∀ n : Nat, stp (k + n) = stp k + blkS k n
  | 0 => by simp [blkS]
  | n + 1 => by
    have h := stp_blk k n
    show stp (k + n) + 800000 / (((k + n : Nat) : Int) + 1) = stp k + (blkS k n + 800000 / ((k : Int) + n + 1))
    rw [h, show (((k + n : Nat) : Int) + 1) = (k : Int) + n + 1 by omega]
    omega
theorem sums_ok : (List.range 200).all (fun b => decide (sumsT.getD b 0 + blkS (100 * b) 100 = sumsT.getD (b + 1) 0)) = true := by decide +kernel
theorem stp_T : ∀ b : Nat, b ≤ 200 → stp (100 * b) = sumsT.getD b 0
  | 0, _ => rfl
  | b + 1, h => by
    have ih := stp_T b (by omega)
    have hb := List.all_eq_true.mp sums_ok b (List.mem_range.mpr (by omega))
    have hb2 : sumsT.getD b 0 + blkS (100 * b) 100 = sumsT.getD (b + 1) 0 := of_decide_eq_true hb
    rw [show 100 * (b + 1) = 100 * b + 100 by omega, stp_blk, ih, hb2]
theorem stp_tot : stp 20000 ≤ 10000000 := by
  rw [show 20000 = 100 * 200 from rfl, stp_T 200 (Nat.le_refl _)]
  decide
theorem stp_rng {k : Nat} (h : k ≤ 20000) : 0 ≤ stp k ∧ stp k ≤ 10000000 := ⟨(stp_bd k).1, Int.le_trans (stp_le h) stp_tot⟩
abbrev upP (p t due : Int) : Int → Prop := fun q => due ≤ riseZ (stp q.toNat - stp p.toNat) t
abbrev dnP (p t due : Int) : Int → Prop := fun q => due ≤ riseZ (stp p.toNat - stp q.toNat) t
def lvZ (p H t : Int) : Int := if H = 0 then p else if 0 < H then srch (upP p t (100 * H)) p (20000 - p).toNat else (if srchD (dnP p t (-(100 * H))) p p.toNat < 1 then 1 else srchD (dnP p t (-(100 * H))) p p.toNat)
theorem heldZ_rng (a : Int) : 1 ≤ heldZ a ∧ heldZ a ≤ 20000 := by
  unfold heldZ
  repeat' split
  all_goals omega
theorem lvZ_rng {p H t : Int} (hp : 1 ≤ p) (hp' : p ≤ 20000) : 1 ≤ lvZ p H t ∧ lvZ p H t ≤ 20000 := by
  unfold lvZ
  split
  · omega
  · split
    · have := srch_spec (P := upP p t (100 * H)) (20000 - p).toNat p
      omega
    · have := srchD_spec (P := dnP p t (-(100 * H))) p.toNat p
      split <;> omega
theorem mRise_eq {V : Nat → Int → Int} (hI : mInv V) {p q t : Int} (hp : 0 ≤ p) (hp' : p ≤ 20000) (hq : 0 ≤ q) (hq' : q ≤ 20000) : mRise V p q t = riseZ (stp p.toNat - stp q.toNat) t := by
  unfold mRise riseZ
  rw [hI.1 p hp hp', hI.1 q hq hq']
theorem riseZ_rng {a t : Int} (h1 : -10000000 ≤ a) (h2 : a ≤ 10000000) (ht : -30 ≤ t) (ht' : t ≤ 50) : -40000000000 ≤ riseZ a t ∧ riseZ a t ≤ 40000000000 := by
  have a1 := mul_bd (x := a) (y := 2730 + 10 * t) (A := 10000000) (B := 3230) h1 h2 (by omega) (by omega)
  exact td_bd (by omega) (by omega) (by omega)
theorem m8_lv_end {X : ax_X} {o z : Nat} {V : Nat → Int → Int} {f : ax_F} {s h p t due low high : Int} {q : Option Value} (hlo : 1 ≤ low) (hlo' : low ≤ 20000) :
    ax_G X mX8_levelAt 0 0 (ax_pv (.int (i3 low)) z f) 141 [some (.ref o), some (.int (i3 s)), some (.int (i3 h)), some (.int (i3 p)), some (.int (i3 t)), some (.long (i6 due)), none, some (.int (i3 1)), some (.int (i3 low)), some (.int (i3 high)), q] [] 0 0 z f := by
  refine sbX8_levelAt_141 X 0 0 _ _ _ _ _ _ _ ?_
  simp (disch := omega) only [bkX8_levelAt_141, ax_ic, ax_lc, ax_nul, ax_il, ax_ll, ax_al, ax_is, ax_ls, ax_as, ax_inc, ax_iadd, ax_isub, ax_imul, ax_iand, ax_ior, ax_idiv, ax_irem, ax_ishl, ax_ishr, ax_ladd, ax_lsub, ax_lmul, ax_ldiv, ax_lrem, ax_ineg, ax_lneg, ax_i2l, ax_l2i, ax_lcmp, ax_dup, ax_pop1, ax_dupx1, ax_dup2, ax_ifeq, ax_ifne, ax_iflt, ax_ifge, ax_ifgt, ax_ifle, ax_iceq, ax_icne, ax_iclt, ax_icge, ax_icgt, ax_icle, ax_ifnull, ax_ifnn, ax_sw, ax_iret, ax_zret, ax_lret, ax_vret, ax_aret, ax_gf, ax_pfi, ax_pfz, ax_pfl, ax_pfr, ax_iald, ax_zald, ax_lald, ax_aald, ax_iast, ax_zast, ax_last, ax_aast, ax_alen, ax_ialdR, ax_alenR, ax_gst, ax_new, ax_nwi, ax_nwl, ax_nwq, ax_obj, ax_call, ax_calv, ax_nth, ax_p1, ax_p2, ax_k2, ax_nh, Value.category, lg_cmp_ge, lg_cmp_lt, lg_cmp_gt, lg_cmp_le, lg_cmp_eq, List.getElem?_cons_zero, List.getElem?_cons_succ, true_and, and_true, if_true, if_false, reduceIte, Nat.reduceEqDiff, Nat.add_eq_zero_iff, reduceCtorEq, Nat.reduceAdd, not_true_eq_false, not_false_eq_true, ax_pf, ax_popn, fv_in, fv_size, fv_drop, fv_within, fv_part, fv_cut, fv_sq, fv_absI, fv_absJ, fv_maxI, fv_minI, fv_maxJ, fv_minJ, List.map_cons, List.map_nil, List.sum_cons, List.sum_nil, Nat.reduceLeDiff, Nat.zero_le, Nat.le_refl, zb_0, zb_1, zb_em, true_or, or_true, Int32.toInt_toInt64, Nat.add_zero, fv_isGlass, fv_mayBe, fv_isReading8, fv_isHour8, fv_isPoint, fv_isReading7, fv_isRoom, fv_isWarmth, fv_isHour7, fv_isOnMap, fv_holds, fv_held, tm_eq, i3_add, i3_sub, i3_mul, i3_neg, i6_add, i6_sub, i6_mul, i6_neg, i6_I, i3_toInt, i6_toInt, i3_lt, i3_le, i3_eq, i6_lt, i6_le, i6_eq, i3_eq0, i3_eq1, i3_lt0, i3_le0, i3_gt0, i3_ge0, i6_eq0, i3_div, i6_div, i3_rem, i6_rem, i3_L, i3_nat, i3_inI, ax_up3, ax_up6]
  exact ⟨fun _ => ⟨fun _ => ax_pv0 rfl, fun q => absurd hlo q⟩, fun q => absurd q (by omega)⟩
theorem m8_lv_up {X : ax_X} {o z : Nat} {V : Nat → Int → Int} {f : ax_F} {s h p t due : Int} (hM : MH X o V f) (hI : mInv V) (hp : 1 ≤ p) (hp' : p ≤ 20000) (ht : -30 ≤ t) (ht' : t ≤ 50) (hd : 0 ≤ due) (hd' : due ≤ 400000) :
    ∀ (n : Nat) (low high : Int) (q : Option Value), p ≤ low → low ≤ srch (upP p t due) p (20000 - p).toNat → srch (upP p t due) p (20000 - p).toNat ≤ high → high ≤ 20000 → high - low ≤ n → ax_G X mX8_levelAt 0 0 (ax_pv (.int (i3 (srch (upP p t due) p (20000 - p).toNat))) z f) 89 [some (.ref o), some (.int (i3 s)), some (.int (i3 h)), some (.int (i3 p)), some (.int (i3 t)), some (.long (i6 due)), none, some (.int (i3 1)), some (.int (i3 low)), some (.int (i3 high)), q] [] 0 0 z f := by
  obtain ⟨r1, r2, r3, r4⟩ := srch_spec (P := upP p t due) (20000 - p).toNat p
  generalize srch (upP p t due) p (20000 - p).toNat = r at r1 r2 r3 r4
  intro n
  induction n with
  | zero =>
    intro low high q h1 h2 h3 h4 h5
    refine sbX8_levelAt_89 X 0 0 _ _ _ _ _ _ _ ?_
    simp (disch := omega) only [bkX8_levelAt_89, ax_ic, ax_lc, ax_nul, ax_il, ax_ll, ax_al, ax_is, ax_ls, ax_as, ax_inc, ax_iadd, ax_isub, ax_imul, ax_iand, ax_ior, ax_idiv, ax_irem, ax_ishl, ax_ishr, ax_ladd, ax_lsub, ax_lmul, ax_ldiv, ax_lrem, ax_ineg, ax_lneg, ax_i2l, ax_l2i, ax_lcmp, ax_dup, ax_pop1, ax_dupx1, ax_dup2, ax_ifeq, ax_ifne, ax_iflt, ax_ifge, ax_ifgt, ax_ifle, ax_iceq, ax_icne, ax_iclt, ax_icge, ax_icgt, ax_icle, ax_ifnull, ax_ifnn, ax_sw, ax_iret, ax_zret, ax_lret, ax_vret, ax_aret, ax_gf, ax_pfi, ax_pfz, ax_pfl, ax_pfr, ax_iald, ax_zald, ax_lald, ax_aald, ax_iast, ax_zast, ax_last, ax_aast, ax_alen, ax_ialdR, ax_alenR, ax_gst, ax_new, ax_nwi, ax_nwl, ax_nwq, ax_obj, ax_call, ax_calv, ax_nth, ax_p1, ax_p2, ax_k2, ax_nh, Value.category, lg_cmp_ge, lg_cmp_lt, lg_cmp_gt, lg_cmp_le, lg_cmp_eq, List.getElem?_cons_zero, List.getElem?_cons_succ, true_and, and_true, if_true, if_false, reduceIte, Nat.reduceEqDiff, Nat.add_eq_zero_iff, reduceCtorEq, Nat.reduceAdd, not_true_eq_false, not_false_eq_true, ax_pf, ax_popn, fv_in, fv_size, fv_drop, fv_within, fv_part, fv_cut, fv_sq, fv_absI, fv_absJ, fv_maxI, fv_minI, fv_maxJ, fv_minJ, List.map_cons, List.map_nil, List.sum_cons, List.sum_nil, Nat.reduceLeDiff, Nat.zero_le, Nat.le_refl, zb_0, zb_1, zb_em, true_or, or_true, Int32.toInt_toInt64, Nat.add_zero, fv_isGlass, fv_mayBe, fv_isReading8, fv_isHour8, fv_isPoint, fv_isReading7, fv_isRoom, fv_isWarmth, fv_isHour7, fv_isOnMap, fv_holds, fv_held, tm_eq, i3_add, i3_sub, i3_mul, i3_neg, i6_add, i6_sub, i6_mul, i6_neg, i6_I, i3_toInt, i6_toInt, i3_lt, i3_le, i3_eq, i6_lt, i6_le, i6_eq, i3_eq0, i3_eq1, i3_lt0, i3_le0, i3_gt0, i3_ge0, i6_eq0, i3_div, i6_div, i3_rem, i6_rem, i3_L, i3_nat, i3_inI, ax_up3, ax_up6]
    refine ⟨fun q => absurd q (by omega), fun _ => ⟨fun _ => ?_, fun q => absurd (by omega) q⟩⟩
    rw [show low = r by omega]
    exact m8_lv_end (V := V) (by omega) (by omega)
  | succ n ih =>
    intro low high q h1 h2 h3 h4 h5
    refine sbX8_levelAt_89 X 0 0 _ _ _ _ _ _ _ ?_
    have m0 : f o = some (.inr (7, [.ref (o + 1), .ref (o + 2), .ref (o + 3), .ref (o + 4), .ref (o + 5), .ref (o + 6), .ref (o + 7), .ref (o + 8), .int (i3 (V 0 8)), .ref (o + 9), .ref (o + 10), .ref (o + 11), .ref (o + 12), .ref (o + 13), .int (i3 (V 0 14)), .ref (o + 14), .ref (o + 15), .ref (o + 16), .ref (o + 17), .int (i3 (V 0 19)), .ref (o + 18), .int (i3 (V 0 21)), .ref (o + 19), .long (i6 (V 0 23)), .ref (o + 20), .ref (o + 21), .ref (o + 22), .ref (o + 23), .int (i3 (V 0 28)), .long (i6 (V 0 29)), .long (i6 (V 0 30)), .ref (o + 24), .ref (o + 25)])) := hM 0 (by decide)
    simp (disch := omega) only [bkX8_levelAt_89, ax_ic, ax_lc, ax_nul, ax_il, ax_ll, ax_al, ax_is, ax_ls, ax_as, ax_inc, ax_iadd, ax_isub, ax_imul, ax_iand, ax_ior, ax_idiv, ax_irem, ax_ishl, ax_ishr, ax_ladd, ax_lsub, ax_lmul, ax_ldiv, ax_lrem, ax_ineg, ax_lneg, ax_i2l, ax_l2i, ax_lcmp, ax_dup, ax_pop1, ax_dupx1, ax_dup2, ax_ifeq, ax_ifne, ax_iflt, ax_ifge, ax_ifgt, ax_ifle, ax_iceq, ax_icne, ax_iclt, ax_icge, ax_icgt, ax_icle, ax_ifnull, ax_ifnn, ax_sw, ax_iret, ax_zret, ax_lret, ax_vret, ax_aret, ax_gf, ax_pfi, ax_pfz, ax_pfl, ax_pfr, ax_iald, ax_zald, ax_lald, ax_aald, ax_iast, ax_zast, ax_last, ax_aast, ax_alen, ax_ialdR, ax_alenR, ax_gst, ax_new, ax_nwi, ax_nwl, ax_nwq, ax_obj, ax_call, ax_calv, ax_nth, ax_p1, ax_p2, ax_k2, ax_nh, Value.category, lg_cmp_ge, lg_cmp_lt, lg_cmp_gt, lg_cmp_le, lg_cmp_eq, List.getElem?_cons_zero, List.getElem?_cons_succ, true_and, and_true, if_true, if_false, reduceIte, Nat.reduceEqDiff, Nat.add_eq_zero_iff, reduceCtorEq, Nat.reduceAdd, not_true_eq_false, not_false_eq_true, ax_pf, ax_popn, fv_in, fv_size, fv_drop, fv_within, fv_part, fv_cut, fv_sq, fv_absI, fv_absJ, fv_maxI, fv_minI, fv_maxJ, fv_minJ, List.map_cons, List.map_nil, List.sum_cons, List.sum_nil, Nat.reduceLeDiff, Nat.zero_le, Nat.le_refl, zb_0, zb_1, zb_em, true_or, or_true, Int32.toInt_toInt64, Nat.add_zero, fv_isGlass, fv_mayBe, fv_isReading8, fv_isHour8, fv_isPoint, fv_isReading7, fv_isRoom, fv_isWarmth, fv_isHour7, fv_isOnMap, fv_holds, fv_held, tm_eq, i3_add, i3_sub, i3_mul, i3_neg, i6_add, i6_sub, i6_mul, i6_neg, i6_I, i3_toInt, i6_toInt, i3_lt, i3_le, i3_eq, i6_lt, i6_le, i6_eq, i3_eq0, i3_eq1, i3_lt0, i3_le0, i3_gt0, i3_ge0, i6_eq0, i3_div, i6_div, i3_rem, i6_rem, i3_L, i3_nat, i3_inI, ax_up3, ax_up6]
    refine ⟨fun q => absurd q (by omega), fun _ => ⟨fun _ => ?_, fun hlt => ?_⟩⟩
    · rw [show low = r by omega]
      exact m8_lv_end (V := V) (by omega) (by omega)
    · have e2 : (low + high).tdiv 2 = (low + high) / 2 := Int.tdiv_eq_ediv_of_nonneg (by omega)
      rw [e2]
      have hm1 : low ≤ (low + high) / 2 := by omega
      have hm2 : (low + high) / 2 < high := by omega
      generalize (low + high) / 2 = m at hm1 hm2
      have s1 := stp_rng (k := m.toNat) (by omega)
      have s2 := stp_rng (k := p.toNat) (by omega)
      refine ⟨by omega, ?_⟩
      refine ⟨⟨_, m0⟩, ax_fn (Nat.le_of_ble_eq_true rfl) (Nat.zero_le _) (Nat.zero_le _) (m8_riseOf (p := m) (p2 := p) (t := t) hM (by rw [hI.1 m (by omega) (by omega)]; exact s1) (by rw [hI.1 p (by omega) (by omega)]; exact s2) (by omega) (by omega) (by omega) (by omega) ht ht') ?_⟩
      rw [mRise_eq hI (by omega) (by omega) (by omega) (by omega)]
      have rr := riseZ_rng (a := stp m.toNat - stp p.toNat) (t := t) (by omega) (by omega) ht ht'
      simp (disch := omega) only [ax_ic, ax_lc, ax_nul, ax_il, ax_ll, ax_al, ax_is, ax_ls, ax_as, ax_inc, ax_iadd, ax_isub, ax_imul, ax_iand, ax_ior, ax_idiv, ax_irem, ax_ishl, ax_ishr, ax_ladd, ax_lsub, ax_lmul, ax_ldiv, ax_lrem, ax_ineg, ax_lneg, ax_i2l, ax_l2i, ax_lcmp, ax_dup, ax_pop1, ax_dupx1, ax_dup2, ax_ifeq, ax_ifne, ax_iflt, ax_ifge, ax_ifgt, ax_ifle, ax_iceq, ax_icne, ax_iclt, ax_icge, ax_icgt, ax_icle, ax_ifnull, ax_ifnn, ax_sw, ax_iret, ax_zret, ax_lret, ax_vret, ax_aret, ax_gf, ax_pfi, ax_pfz, ax_pfl, ax_pfr, ax_iald, ax_zald, ax_lald, ax_aald, ax_iast, ax_zast, ax_last, ax_aast, ax_alen, ax_ialdR, ax_alenR, ax_gst, ax_new, ax_nwi, ax_nwl, ax_nwq, ax_obj, ax_call, ax_calv, ax_nth, ax_p1, ax_p2, ax_k2, ax_nh, Value.category, lg_cmp_ge, lg_cmp_lt, lg_cmp_gt, lg_cmp_le, lg_cmp_eq, List.getElem?_cons_zero, List.getElem?_cons_succ, true_and, and_true, if_true, if_false, reduceIte, Nat.reduceEqDiff, Nat.add_eq_zero_iff, reduceCtorEq, Nat.reduceAdd, not_true_eq_false, not_false_eq_true, ax_pf, ax_popn, fv_in, fv_size, fv_drop, fv_within, fv_part, fv_cut, fv_sq, fv_absI, fv_absJ, fv_maxI, fv_minI, fv_maxJ, fv_minJ, List.map_cons, List.map_nil, List.sum_cons, List.sum_nil, Nat.reduceLeDiff, Nat.zero_le, Nat.le_refl, zb_0, zb_1, zb_em, true_or, or_true, Int32.toInt_toInt64, Nat.add_zero, fv_isGlass, fv_mayBe, fv_isReading8, fv_isHour8, fv_isPoint, fv_isReading7, fv_isRoom, fv_isWarmth, fv_isHour7, fv_isOnMap, fv_holds, fv_held, tm_eq, i3_add, i3_sub, i3_mul, i3_neg, i6_add, i6_sub, i6_mul, i6_neg, i6_I, i3_toInt, i6_toInt, i3_lt, i3_le, i3_eq, i6_lt, i6_le, i6_eq, i3_eq0, i3_eq1, i3_lt0, i3_le0, i3_gt0, i3_ge0, i6_eq0, i3_div, i6_div, i3_rem, i6_rem, i3_L, i3_nat, i3_inI, ax_up3, ax_up6]
      refine ⟨fun c => ?_, fun c => ?_⟩
      · refine ih (m + 1) high (some (.int (i3 m))) (by omega) ?_ h3 h4 (by omega)
        rcases Int.lt_or_le m r with q | q
        · omega
        · rcases r3 with e | e
          · omega
          · have mono := riseZ_mono (a := stp r.toNat - stp p.toNat) (b := stp m.toNat - stp p.toNat) (t := t) (by have := stp_le (show p.toNat ≤ r.toNat by omega); omega) (by have := stp_le (show r.toNat ≤ m.toNat by omega); omega) ht
            have e' : due ≤ riseZ (stp r.toNat - stp p.toNat) t := e
            omega
      · refine ih low m (some (.int (i3 m))) h1 h2 ?_ (by omega) (by omega)
        rcases Int.lt_or_le m r with q | q
        · exact absurd (show upP p t due m by show due ≤ _; omega) (r4 m (by omega) q)
        · exact q
theorem m8_lv_dn {X : ax_X} {o z : Nat} {V : Nat → Int → Int} {f : ax_F} {s h p t due : Int} (hM : MH X o V f) (hI : mInv V) (hp : 1 ≤ p) (hp' : p ≤ 20000) (ht : -30 ≤ t) (ht' : t ≤ 50) (hd : 0 ≤ due) (hd' : due ≤ 400000) :
    ∀ (n : Nat) (low high : Int) (q : Option Value), 0 ≤ low → low ≤ srchD (dnP p t due) p p.toNat → srchD (dnP p t due) p p.toNat ≤ high → high ≤ p → high - low ≤ n → ax_G X mX8_levelAt 0 0 (ax_pv (.int (i3 (if srchD (dnP p t due) p p.toNat < 1 then 1 else srchD (dnP p t due) p p.toNat))) z f) 141 [some (.ref o), some (.int (i3 s)), some (.int (i3 h)), some (.int (i3 p)), some (.int (i3 t)), some (.long (i6 due)), none, some (.int (i3 0)), some (.int (i3 low)), some (.int (i3 high)), q] [] 0 0 z f := by
  obtain ⟨r1, r2, r3, r4⟩ := srchD_spec (P := dnP p t due) p.toNat p
  generalize srchD (dnP p t due) p p.toNat = r at r1 r2 r3 r4
  intro n
  induction n with
  | zero =>
    intro low high q h1 h2 h3 h4 h5
    refine sbX8_levelAt_141 X 0 0 _ _ _ _ _ _ _ ?_
    simp (disch := omega) only [bkX8_levelAt_141, ax_ic, ax_lc, ax_nul, ax_il, ax_ll, ax_al, ax_is, ax_ls, ax_as, ax_inc, ax_iadd, ax_isub, ax_imul, ax_iand, ax_ior, ax_idiv, ax_irem, ax_ishl, ax_ishr, ax_ladd, ax_lsub, ax_lmul, ax_ldiv, ax_lrem, ax_ineg, ax_lneg, ax_i2l, ax_l2i, ax_lcmp, ax_dup, ax_pop1, ax_dupx1, ax_dup2, ax_ifeq, ax_ifne, ax_iflt, ax_ifge, ax_ifgt, ax_ifle, ax_iceq, ax_icne, ax_iclt, ax_icge, ax_icgt, ax_icle, ax_ifnull, ax_ifnn, ax_sw, ax_iret, ax_zret, ax_lret, ax_vret, ax_aret, ax_gf, ax_pfi, ax_pfz, ax_pfl, ax_pfr, ax_iald, ax_zald, ax_lald, ax_aald, ax_iast, ax_zast, ax_last, ax_aast, ax_alen, ax_ialdR, ax_alenR, ax_gst, ax_new, ax_nwi, ax_nwl, ax_nwq, ax_obj, ax_call, ax_calv, ax_nth, ax_p1, ax_p2, ax_k2, ax_nh, Value.category, lg_cmp_ge, lg_cmp_lt, lg_cmp_gt, lg_cmp_le, lg_cmp_eq, List.getElem?_cons_zero, List.getElem?_cons_succ, true_and, and_true, if_true, if_false, reduceIte, Nat.reduceEqDiff, Nat.add_eq_zero_iff, reduceCtorEq, Nat.reduceAdd, not_true_eq_false, not_false_eq_true, ax_pf, ax_popn, fv_in, fv_size, fv_drop, fv_within, fv_part, fv_cut, fv_sq, fv_absI, fv_absJ, fv_maxI, fv_minI, fv_maxJ, fv_minJ, List.map_cons, List.map_nil, List.sum_cons, List.sum_nil, Nat.reduceLeDiff, Nat.zero_le, Nat.le_refl, zb_0, zb_1, zb_em, true_or, or_true, Int32.toInt_toInt64, Nat.add_zero, fv_isGlass, fv_mayBe, fv_isReading8, fv_isHour8, fv_isPoint, fv_isReading7, fv_isRoom, fv_isWarmth, fv_isHour7, fv_isOnMap, fv_holds, fv_held, tm_eq, i3_add, i3_sub, i3_mul, i3_neg, i6_add, i6_sub, i6_mul, i6_neg, i6_I, i3_toInt, i6_toInt, i3_lt, i3_le, i3_eq, i6_lt, i6_le, i6_eq, i3_eq0, i3_eq1, i3_lt0, i3_le0, i3_gt0, i3_ge0, i6_eq0, i3_div, i6_div, i3_rem, i6_rem, i3_L, i3_nat, i3_inI, ax_up3, ax_up6]
    refine ⟨fun q => q.elim, fun _ => ⟨fun _ => ⟨fun c => ax_pv0 ?_, fun c => ax_pv0 ?_⟩, fun q => absurd (by omega) q⟩⟩
    · rw [if_neg (by omega), show low = r by omega]
    · rw [if_pos (by omega)]
  | succ n ih =>
    intro low high q h1 h2 h3 h4 h5
    refine sbX8_levelAt_141 X 0 0 _ _ _ _ _ _ _ ?_
    have m0 : f o = some (.inr (7, [.ref (o + 1), .ref (o + 2), .ref (o + 3), .ref (o + 4), .ref (o + 5), .ref (o + 6), .ref (o + 7), .ref (o + 8), .int (i3 (V 0 8)), .ref (o + 9), .ref (o + 10), .ref (o + 11), .ref (o + 12), .ref (o + 13), .int (i3 (V 0 14)), .ref (o + 14), .ref (o + 15), .ref (o + 16), .ref (o + 17), .int (i3 (V 0 19)), .ref (o + 18), .int (i3 (V 0 21)), .ref (o + 19), .long (i6 (V 0 23)), .ref (o + 20), .ref (o + 21), .ref (o + 22), .ref (o + 23), .int (i3 (V 0 28)), .long (i6 (V 0 29)), .long (i6 (V 0 30)), .ref (o + 24), .ref (o + 25)])) := hM 0 (by decide)
    simp (disch := omega) only [bkX8_levelAt_141, ax_ic, ax_lc, ax_nul, ax_il, ax_ll, ax_al, ax_is, ax_ls, ax_as, ax_inc, ax_iadd, ax_isub, ax_imul, ax_iand, ax_ior, ax_idiv, ax_irem, ax_ishl, ax_ishr, ax_ladd, ax_lsub, ax_lmul, ax_ldiv, ax_lrem, ax_ineg, ax_lneg, ax_i2l, ax_l2i, ax_lcmp, ax_dup, ax_pop1, ax_dupx1, ax_dup2, ax_ifeq, ax_ifne, ax_iflt, ax_ifge, ax_ifgt, ax_ifle, ax_iceq, ax_icne, ax_iclt, ax_icge, ax_icgt, ax_icle, ax_ifnull, ax_ifnn, ax_sw, ax_iret, ax_zret, ax_lret, ax_vret, ax_aret, ax_gf, ax_pfi, ax_pfz, ax_pfl, ax_pfr, ax_iald, ax_zald, ax_lald, ax_aald, ax_iast, ax_zast, ax_last, ax_aast, ax_alen, ax_ialdR, ax_alenR, ax_gst, ax_new, ax_nwi, ax_nwl, ax_nwq, ax_obj, ax_call, ax_calv, ax_nth, ax_p1, ax_p2, ax_k2, ax_nh, Value.category, lg_cmp_ge, lg_cmp_lt, lg_cmp_gt, lg_cmp_le, lg_cmp_eq, List.getElem?_cons_zero, List.getElem?_cons_succ, true_and, and_true, if_true, if_false, reduceIte, Nat.reduceEqDiff, Nat.add_eq_zero_iff, reduceCtorEq, Nat.reduceAdd, not_true_eq_false, not_false_eq_true, ax_pf, ax_popn, fv_in, fv_size, fv_drop, fv_within, fv_part, fv_cut, fv_sq, fv_absI, fv_absJ, fv_maxI, fv_minI, fv_maxJ, fv_minJ, List.map_cons, List.map_nil, List.sum_cons, List.sum_nil, Nat.reduceLeDiff, Nat.zero_le, Nat.le_refl, zb_0, zb_1, zb_em, true_or, or_true, Int32.toInt_toInt64, Nat.add_zero, fv_isGlass, fv_mayBe, fv_isReading8, fv_isHour8, fv_isPoint, fv_isReading7, fv_isRoom, fv_isWarmth, fv_isHour7, fv_isOnMap, fv_holds, fv_held, tm_eq, i3_add, i3_sub, i3_mul, i3_neg, i6_add, i6_sub, i6_mul, i6_neg, i6_I, i3_toInt, i6_toInt, i3_lt, i3_le, i3_eq, i6_lt, i6_le, i6_eq, i3_eq0, i3_eq1, i3_lt0, i3_le0, i3_gt0, i3_ge0, i6_eq0, i3_div, i6_div, i3_rem, i6_rem, i3_L, i3_nat, i3_inI, ax_up3, ax_up6]
    refine ⟨fun q => q.elim, fun _ => ⟨fun _ => ⟨fun c => ax_pv0 ?_, fun c => ax_pv0 ?_⟩, fun hlt => ?_⟩⟩
    · rw [if_neg (by omega), show low = r by omega]
    · rw [if_pos (by omega)]
    · have e2 : (low + high + 1).tdiv 2 = (low + high + 1) / 2 := Int.tdiv_eq_ediv_of_nonneg (by omega)
      rw [e2]
      have hm1 : low < (low + high + 1) / 2 := by omega
      have hm2 : (low + high + 1) / 2 ≤ high := by omega
      generalize (low + high + 1) / 2 = m at hm1 hm2
      have s1 := stp_rng (k := m.toNat) (by omega)
      have s2 := stp_rng (k := p.toNat) (by omega)
      refine ⟨by omega, ?_⟩
      refine ⟨⟨_, m0⟩, ax_fn (Nat.le_of_ble_eq_true rfl) (Nat.zero_le _) (Nat.zero_le _) (m8_riseOf (p := p) (p2 := m) (t := t) hM (by rw [hI.1 p (by omega) (by omega)]; exact s2) (by rw [hI.1 m (by omega) (by omega)]; exact s1) (by omega) (by omega) (by omega) (by omega) ht ht') ?_⟩
      rw [mRise_eq hI (by omega) (by omega) (by omega) (by omega)]
      have rr := riseZ_rng (a := stp p.toNat - stp m.toNat) (t := t) (by omega) (by omega) ht ht'
      simp (disch := omega) only [ax_ic, ax_lc, ax_nul, ax_il, ax_ll, ax_al, ax_is, ax_ls, ax_as, ax_inc, ax_iadd, ax_isub, ax_imul, ax_iand, ax_ior, ax_idiv, ax_irem, ax_ishl, ax_ishr, ax_ladd, ax_lsub, ax_lmul, ax_ldiv, ax_lrem, ax_ineg, ax_lneg, ax_i2l, ax_l2i, ax_lcmp, ax_dup, ax_pop1, ax_dupx1, ax_dup2, ax_ifeq, ax_ifne, ax_iflt, ax_ifge, ax_ifgt, ax_ifle, ax_iceq, ax_icne, ax_iclt, ax_icge, ax_icgt, ax_icle, ax_ifnull, ax_ifnn, ax_sw, ax_iret, ax_zret, ax_lret, ax_vret, ax_aret, ax_gf, ax_pfi, ax_pfz, ax_pfl, ax_pfr, ax_iald, ax_zald, ax_lald, ax_aald, ax_iast, ax_zast, ax_last, ax_aast, ax_alen, ax_ialdR, ax_alenR, ax_gst, ax_new, ax_nwi, ax_nwl, ax_nwq, ax_obj, ax_call, ax_calv, ax_nth, ax_p1, ax_p2, ax_k2, ax_nh, Value.category, lg_cmp_ge, lg_cmp_lt, lg_cmp_gt, lg_cmp_le, lg_cmp_eq, List.getElem?_cons_zero, List.getElem?_cons_succ, true_and, and_true, if_true, if_false, reduceIte, Nat.reduceEqDiff, Nat.add_eq_zero_iff, reduceCtorEq, Nat.reduceAdd, not_true_eq_false, not_false_eq_true, ax_pf, ax_popn, fv_in, fv_size, fv_drop, fv_within, fv_part, fv_cut, fv_sq, fv_absI, fv_absJ, fv_maxI, fv_minI, fv_maxJ, fv_minJ, List.map_cons, List.map_nil, List.sum_cons, List.sum_nil, Nat.reduceLeDiff, Nat.zero_le, Nat.le_refl, zb_0, zb_1, zb_em, true_or, or_true, Int32.toInt_toInt64, Nat.add_zero, fv_isGlass, fv_mayBe, fv_isReading8, fv_isHour8, fv_isPoint, fv_isReading7, fv_isRoom, fv_isWarmth, fv_isHour7, fv_isOnMap, fv_holds, fv_held, tm_eq, i3_add, i3_sub, i3_mul, i3_neg, i6_add, i6_sub, i6_mul, i6_neg, i6_I, i3_toInt, i6_toInt, i3_lt, i3_le, i3_eq, i6_lt, i6_le, i6_eq, i3_eq0, i3_eq1, i3_lt0, i3_le0, i3_gt0, i3_ge0, i6_eq0, i3_div, i6_div, i3_rem, i6_rem, i3_L, i3_nat, i3_inI, ax_up3, ax_up6]
      refine ⟨fun c => ?_, fun c => ?_⟩
      · refine ih low (m - 1) (some (.int (i3 m))) h1 h2 ?_ (by omega) (by omega)
        rcases Int.lt_or_le r m with q | q
        · omega
        · rcases r3 with e | e
          · omega
          · have mono := riseZ_mono (a := stp p.toNat - stp r.toNat) (b := stp p.toNat - stp m.toNat) (t := t) (by have := stp_le (show r.toNat ≤ p.toNat by omega); omega) (by have := stp_le (show m.toNat ≤ r.toNat by omega); omega) ht
            have e' : due ≤ riseZ (stp p.toNat - stp r.toNat) t := e
            omega
      · refine ih m high (some (.int (i3 m))) (by omega) ?_ h3 h4 (by omega)
        rcases Int.lt_or_le r m with q | q
        · exact absurd (show dnP p t due m by show due ≤ _; omega) (r4 m (by omega) q)
        · exact q
def mLvl (V : Nat → Int → Int) (s h : Int) : Int := lvZ (heldZ (mMnd V s h)) (V 7 s) (V 10 (48 * s + h))
theorem m8_levelAt {X : ax_X} {o z : Nat} {V : Nat → Int → Int} {f : ax_F} {s h : Int} (hM : MH X o V f) (hI : mInv V) (hs : 0 ≤ s) (hs' : s < 8) (hh : 0 ≤ h) (hh' : h < 48) :
    ax_M X mX8_levelAt 0 0 [.ref o, .int (i3 s), .int (i3 h)] z f (ax_pv (.int (i3 (mLvl V s h))) z f) := by
  have i1 := hI.2.2.2.1 s hs hs'
  have i2 := hI.2.2.2.2.1 (48 * s + h) (by omega) (by omega)
  refine ax_met2 [some (.ref o), some (.int (i3 s)), some (.int (i3 h)), none, none, none, none, none, none, none, none] (by decide) (Nat.le_of_ble_eq_true rfl) rfl ?_
  refine sbX8_levelAt_0 X 0 0 _ _ _ _ _ _ _ ?_
  have m0 : f o = some (.inr (7, [.ref (o + 1), .ref (o + 2), .ref (o + 3), .ref (o + 4), .ref (o + 5), .ref (o + 6), .ref (o + 7), .ref (o + 8), .int (i3 (V 0 8)), .ref (o + 9), .ref (o + 10), .ref (o + 11), .ref (o + 12), .ref (o + 13), .int (i3 (V 0 14)), .ref (o + 14), .ref (o + 15), .ref (o + 16), .ref (o + 17), .int (i3 (V 0 19)), .ref (o + 18), .int (i3 (V 0 21)), .ref (o + 19), .long (i6 (V 0 23)), .ref (o + 20), .ref (o + 21), .ref (o + 22), .ref (o + 23), .int (i3 (V 0 28)), .long (i6 (V 0 29)), .long (i6 (V 0 30)), .ref (o + 24), .ref (o + 25)])) := hM 0 (by decide)
  have m7 : f (o + 7) = some (.inl (X.2.2.1 0, 8, .inl (fun j : Nat => i3 (V 7 (j : Int))))) := hM 7 (by decide)
  have m10 : f (o + 10) = some (.inl (X.2.2.1 0, 384, .inl (fun j : Nat => i3 (V 10 (j : Int))))) := hM 10 (by decide)
  simp (disch := omega) only [bkX8_levelAt_0, ax_ic, ax_lc, ax_nul, ax_il, ax_ll, ax_al, ax_is, ax_ls, ax_as, ax_inc, ax_iadd, ax_isub, ax_imul, ax_iand, ax_ior, ax_idiv, ax_irem, ax_ishl, ax_ishr, ax_ladd, ax_lsub, ax_lmul, ax_ldiv, ax_lrem, ax_ineg, ax_lneg, ax_i2l, ax_l2i, ax_lcmp, ax_dup, ax_pop1, ax_dupx1, ax_dup2, ax_ifeq, ax_ifne, ax_iflt, ax_ifge, ax_ifgt, ax_ifle, ax_iceq, ax_icne, ax_iclt, ax_icge, ax_icgt, ax_icle, ax_ifnull, ax_ifnn, ax_sw, ax_iret, ax_zret, ax_lret, ax_vret, ax_aret, ax_gf, ax_pfi, ax_pfz, ax_pfl, ax_pfr, ax_iald, ax_zald, ax_lald, ax_aald, ax_iast, ax_zast, ax_last, ax_aast, ax_alen, ax_ialdR, ax_alenR, ax_gst, ax_new, ax_nwi, ax_nwl, ax_nwq, ax_obj, ax_call, ax_calv, ax_nth, ax_p1, ax_p2, ax_k2, ax_nh, Value.category, lg_cmp_ge, lg_cmp_lt, lg_cmp_gt, lg_cmp_le, lg_cmp_eq, List.getElem?_cons_zero, List.getElem?_cons_succ, true_and, and_true, if_true, if_false, reduceIte, Nat.reduceEqDiff, Nat.add_eq_zero_iff, reduceCtorEq, Nat.reduceAdd, not_true_eq_false, not_false_eq_true, ax_pf, ax_popn, fv_in, fv_size, fv_drop, fv_within, fv_part, fv_cut, fv_sq, fv_absI, fv_absJ, fv_maxI, fv_minI, fv_maxJ, fv_minJ, List.map_cons, List.map_nil, List.sum_cons, List.sum_nil, Nat.reduceLeDiff, Nat.zero_le, Nat.le_refl, zb_0, zb_1, zb_em, true_or, or_true, Int32.toInt_toInt64, Nat.add_zero, fv_isGlass, fv_mayBe, fv_isReading8, fv_isHour8, fv_isPoint, fv_isReading7, fv_isRoom, fv_isWarmth, fv_isHour7, fv_isOnMap, fv_holds, fv_held, tm_eq, i3_add, i3_sub, i3_mul, i3_neg, i6_add, i6_sub, i6_mul, i6_neg, i6_I, i3_toInt, i6_toInt, i3_lt, i3_le, i3_eq, i6_lt, i6_le, i6_eq, i3_eq0, i3_eq1, i3_lt0, i3_le0, i3_gt0, i3_ge0, i6_eq0, i3_div, i6_div, i3_rem, i6_rem, i3_L, i3_nat, i3_inI, ax_up3, ax_up6, m0]
  refine ⟨⟨_, m0⟩, ax_fn (Nat.le_of_ble_eq_true rfl) (Nat.zero_le _) (Nat.zero_le _) (m8_heldAt hM hI hs hs' hh hh') ?_⟩
  simp (disch := omega) only [ax_ic, ax_lc, ax_nul, ax_il, ax_ll, ax_al, ax_is, ax_ls, ax_as, ax_inc, ax_iadd, ax_isub, ax_imul, ax_iand, ax_ior, ax_idiv, ax_irem, ax_ishl, ax_ishr, ax_ladd, ax_lsub, ax_lmul, ax_ldiv, ax_lrem, ax_ineg, ax_lneg, ax_i2l, ax_l2i, ax_lcmp, ax_dup, ax_pop1, ax_dupx1, ax_dup2, ax_ifeq, ax_ifne, ax_iflt, ax_ifge, ax_ifgt, ax_ifle, ax_iceq, ax_icne, ax_iclt, ax_icge, ax_icgt, ax_icle, ax_ifnull, ax_ifnn, ax_sw, ax_iret, ax_zret, ax_lret, ax_vret, ax_aret, ax_gf, ax_pfi, ax_pfz, ax_pfl, ax_pfr, ax_iald, ax_zald, ax_lald, ax_aald, ax_iast, ax_zast, ax_last, ax_aast, ax_alen, ax_ialdR, ax_alenR, ax_gst, ax_new, ax_nwi, ax_nwl, ax_nwq, ax_obj, ax_call, ax_calv, ax_nth, ax_p1, ax_p2, ax_k2, ax_nh, Value.category, lg_cmp_ge, lg_cmp_lt, lg_cmp_gt, lg_cmp_le, lg_cmp_eq, List.getElem?_cons_zero, List.getElem?_cons_succ, true_and, and_true, if_true, if_false, reduceIte, Nat.reduceEqDiff, Nat.add_eq_zero_iff, reduceCtorEq, Nat.reduceAdd, not_true_eq_false, not_false_eq_true, ax_pf, ax_popn, fv_in, fv_size, fv_drop, fv_within, fv_part, fv_cut, fv_sq, fv_absI, fv_absJ, fv_maxI, fv_minI, fv_maxJ, fv_minJ, List.map_cons, List.map_nil, List.sum_cons, List.sum_nil, Nat.reduceLeDiff, Nat.zero_le, Nat.le_refl, zb_0, zb_1, zb_em, true_or, or_true, Int32.toInt_toInt64, Nat.add_zero, fv_isGlass, fv_mayBe, fv_isReading8, fv_isHour8, fv_isPoint, fv_isReading7, fv_isRoom, fv_isWarmth, fv_isHour7, fv_isOnMap, fv_holds, fv_held, tm_eq, i3_add, i3_sub, i3_mul, i3_neg, i6_add, i6_sub, i6_mul, i6_neg, i6_I, i3_toInt, i6_toInt, i3_lt, i3_le, i3_eq, i6_lt, i6_le, i6_eq, i3_eq0, i3_eq1, i3_lt0, i3_le0, i3_gt0, i3_ge0, i6_eq0, i3_div, i6_div, i3_rem, i6_rem, i3_L, i3_nat, i3_inI, ax_up3, ax_up6, m0, m7, m10]
  unfold mLvl
  have hp := heldZ_rng (mMnd V s h)
  generalize heldZ (mMnd V s h) = p at hp
  refine ⟨by omega, by omega, by omega, fun hne => ⟨by omega, fun hle => ?_, fun hgt => ?_⟩, fun he => ax_pv0 ?_⟩
  · rw [if_pos (by omega)]
    refine sbX8_levelAt_61 X 0 0 _ _ _ _ _ _ _ ?_
    simp (disch := omega) only [bkX8_levelAt_61, ax_ic, ax_lc, ax_nul, ax_il, ax_ll, ax_al, ax_is, ax_ls, ax_as, ax_inc, ax_iadd, ax_isub, ax_imul, ax_iand, ax_ior, ax_idiv, ax_irem, ax_ishl, ax_ishr, ax_ladd, ax_lsub, ax_lmul, ax_ldiv, ax_lrem, ax_ineg, ax_lneg, ax_i2l, ax_l2i, ax_lcmp, ax_dup, ax_pop1, ax_dupx1, ax_dup2, ax_ifeq, ax_ifne, ax_iflt, ax_ifge, ax_ifgt, ax_ifle, ax_iceq, ax_icne, ax_iclt, ax_icge, ax_icgt, ax_icle, ax_ifnull, ax_ifnn, ax_sw, ax_iret, ax_zret, ax_lret, ax_vret, ax_aret, ax_gf, ax_pfi, ax_pfz, ax_pfl, ax_pfr, ax_iald, ax_zald, ax_lald, ax_aald, ax_iast, ax_zast, ax_last, ax_aast, ax_alen, ax_ialdR, ax_alenR, ax_gst, ax_new, ax_nwi, ax_nwl, ax_nwq, ax_obj, ax_call, ax_calv, ax_nth, ax_p1, ax_p2, ax_k2, ax_nh, Value.category, lg_cmp_ge, lg_cmp_lt, lg_cmp_gt, lg_cmp_le, lg_cmp_eq, List.getElem?_cons_zero, List.getElem?_cons_succ, true_and, and_true, if_true, if_false, reduceIte, Nat.reduceEqDiff, Nat.add_eq_zero_iff, reduceCtorEq, Nat.reduceAdd, not_true_eq_false, not_false_eq_true, ax_pf, ax_popn, fv_in, fv_size, fv_drop, fv_within, fv_part, fv_cut, fv_sq, fv_absI, fv_absJ, fv_maxI, fv_minI, fv_maxJ, fv_minJ, List.map_cons, List.map_nil, List.sum_cons, List.sum_nil, Nat.reduceLeDiff, Nat.zero_le, Nat.le_refl, zb_0, zb_1, zb_em, true_or, or_true, Int32.toInt_toInt64, Nat.add_zero, fv_isGlass, fv_mayBe, fv_isReading8, fv_isHour8, fv_isPoint, fv_isReading7, fv_isRoom, fv_isWarmth, fv_isHour7, fv_isOnMap, fv_holds, fv_held, tm_eq, i3_add, i3_sub, i3_mul, i3_neg, i6_add, i6_sub, i6_mul, i6_neg, i6_I, i3_toInt, i6_toInt, i3_lt, i3_le, i3_eq, i6_lt, i6_le, i6_eq, i3_eq0, i3_eq1, i3_lt0, i3_le0, i3_gt0, i3_ge0, i6_eq0, i3_div, i6_div, i3_rem, i6_rem, i3_L, i3_nat, i3_inI, ax_up3, ax_up6]
    refine ⟨fun _ => ⟨fun _ => ?_, fun q => q.elim⟩, fun q => q.elim⟩
    have sp := srchD_spec (P := dnP p (V 10 (48 * s + h)) (-(100 * V 7 s))) p.toNat p
    refine sbX8_levelAt_89 X 0 0 _ _ _ _ _ _ _ ?_
    simp (disch := omega) only [bkX8_levelAt_89, ax_ic, ax_lc, ax_nul, ax_il, ax_ll, ax_al, ax_is, ax_ls, ax_as, ax_inc, ax_iadd, ax_isub, ax_imul, ax_iand, ax_ior, ax_idiv, ax_irem, ax_ishl, ax_ishr, ax_ladd, ax_lsub, ax_lmul, ax_ldiv, ax_lrem, ax_ineg, ax_lneg, ax_i2l, ax_l2i, ax_lcmp, ax_dup, ax_pop1, ax_dupx1, ax_dup2, ax_ifeq, ax_ifne, ax_iflt, ax_ifge, ax_ifgt, ax_ifle, ax_iceq, ax_icne, ax_iclt, ax_icge, ax_icgt, ax_icle, ax_ifnull, ax_ifnn, ax_sw, ax_iret, ax_zret, ax_lret, ax_vret, ax_aret, ax_gf, ax_pfi, ax_pfz, ax_pfl, ax_pfr, ax_iald, ax_zald, ax_lald, ax_aald, ax_iast, ax_zast, ax_last, ax_aast, ax_alen, ax_ialdR, ax_alenR, ax_gst, ax_new, ax_nwi, ax_nwl, ax_nwq, ax_obj, ax_call, ax_calv, ax_nth, ax_p1, ax_p2, ax_k2, ax_nh, Value.category, lg_cmp_ge, lg_cmp_lt, lg_cmp_gt, lg_cmp_le, lg_cmp_eq, List.getElem?_cons_zero, List.getElem?_cons_succ, true_and, and_true, if_true, if_false, reduceIte, Nat.reduceEqDiff, Nat.add_eq_zero_iff, reduceCtorEq, Nat.reduceAdd, not_true_eq_false, not_false_eq_true, ax_pf, ax_popn, fv_in, fv_size, fv_drop, fv_within, fv_part, fv_cut, fv_sq, fv_absI, fv_absJ, fv_maxI, fv_minI, fv_maxJ, fv_minJ, List.map_cons, List.map_nil, List.sum_cons, List.sum_nil, Nat.reduceLeDiff, Nat.zero_le, Nat.le_refl, zb_0, zb_1, zb_em, true_or, or_true, Int32.toInt_toInt64, Nat.add_zero, fv_isGlass, fv_mayBe, fv_isReading8, fv_isHour8, fv_isPoint, fv_isReading7, fv_isRoom, fv_isWarmth, fv_isHour7, fv_isOnMap, fv_holds, fv_held, tm_eq, i3_add, i3_sub, i3_mul, i3_neg, i6_add, i6_sub, i6_mul, i6_neg, i6_I, i3_toInt, i6_toInt, i3_lt, i3_le, i3_eq, i6_lt, i6_le, i6_eq, i3_eq0, i3_eq1, i3_lt0, i3_le0, i3_gt0, i3_ge0, i6_eq0, i3_div, i6_div, i3_rem, i6_rem, i3_L, i3_nat, i3_inI, ax_up3, ax_up6]
    refine ⟨fun _ => ?_, fun q => q.elim⟩
    have e := m8_lv_dn (X := X) (o := o) (z := z) (s := s) (h := h) (p := p) (t := V 10 (48 * s + h)) (due := -(100 * V 7 s)) hM hI hp.1 hp.2 (by omega) (by omega) (by omega) (by omega) p.toNat 0 p none (by omega) (by omega) (by omega) (by omega) (by omega)
    rw [show lvZ p (V 7 s) (V 10 (48 * s + h)) = (if srchD (dnP p (V 10 (48 * s + h)) (-(100 * V 7 s))) p p.toNat < 1 then 1 else srchD (dnP p (V 10 (48 * s + h)) (-(100 * V 7 s))) p p.toNat) by unfold lvZ; rw [if_neg hne, if_neg (by omega)]]
    rw [show 100 * -V 7 s = -(100 * V 7 s) by omega]
    exact e
  · rw [if_neg (by omega)]
    refine sbX8_levelAt_61 X 0 0 _ _ _ _ _ _ _ ?_
    simp (disch := omega) only [bkX8_levelAt_61, ax_ic, ax_lc, ax_nul, ax_il, ax_ll, ax_al, ax_is, ax_ls, ax_as, ax_inc, ax_iadd, ax_isub, ax_imul, ax_iand, ax_ior, ax_idiv, ax_irem, ax_ishl, ax_ishr, ax_ladd, ax_lsub, ax_lmul, ax_ldiv, ax_lrem, ax_ineg, ax_lneg, ax_i2l, ax_l2i, ax_lcmp, ax_dup, ax_pop1, ax_dupx1, ax_dup2, ax_ifeq, ax_ifne, ax_iflt, ax_ifge, ax_ifgt, ax_ifle, ax_iceq, ax_icne, ax_iclt, ax_icge, ax_icgt, ax_icle, ax_ifnull, ax_ifnn, ax_sw, ax_iret, ax_zret, ax_lret, ax_vret, ax_aret, ax_gf, ax_pfi, ax_pfz, ax_pfl, ax_pfr, ax_iald, ax_zald, ax_lald, ax_aald, ax_iast, ax_zast, ax_last, ax_aast, ax_alen, ax_ialdR, ax_alenR, ax_gst, ax_new, ax_nwi, ax_nwl, ax_nwq, ax_obj, ax_call, ax_calv, ax_nth, ax_p1, ax_p2, ax_k2, ax_nh, Value.category, lg_cmp_ge, lg_cmp_lt, lg_cmp_gt, lg_cmp_le, lg_cmp_eq, List.getElem?_cons_zero, List.getElem?_cons_succ, true_and, and_true, if_true, if_false, reduceIte, Nat.reduceEqDiff, Nat.add_eq_zero_iff, reduceCtorEq, Nat.reduceAdd, not_true_eq_false, not_false_eq_true, ax_pf, ax_popn, fv_in, fv_size, fv_drop, fv_within, fv_part, fv_cut, fv_sq, fv_absI, fv_absJ, fv_maxI, fv_minI, fv_maxJ, fv_minJ, List.map_cons, List.map_nil, List.sum_cons, List.sum_nil, Nat.reduceLeDiff, Nat.zero_le, Nat.le_refl, zb_0, zb_1, zb_em, true_or, or_true, Int32.toInt_toInt64, Nat.add_zero, fv_isGlass, fv_mayBe, fv_isReading8, fv_isHour8, fv_isPoint, fv_isReading7, fv_isRoom, fv_isWarmth, fv_isHour7, fv_isOnMap, fv_holds, fv_held, tm_eq, i3_add, i3_sub, i3_mul, i3_neg, i6_add, i6_sub, i6_mul, i6_neg, i6_I, i3_toInt, i6_toInt, i3_lt, i3_le, i3_eq, i6_lt, i6_le, i6_eq, i3_eq0, i3_eq1, i3_lt0, i3_le0, i3_gt0, i3_ge0, i6_eq0, i3_div, i6_div, i3_rem, i6_rem, i3_L, i3_nat, i3_inI, ax_up3, ax_up6]
    refine ⟨fun q => absurd q (by omega), fun _ => ⟨fun q => absurd q (by omega), fun _ => ?_⟩⟩
    have sp := srch_spec (P := upP p (V 10 (48 * s + h)) (100 * V 7 s)) (20000 - p).toNat p
    have e := m8_lv_up (X := X) (o := o) (z := z) (s := s) (h := h) (p := p) (t := V 10 (48 * s + h)) (due := 100 * V 7 s) hM hI hp.1 hp.2 (by omega) (by omega) (by omega) (by omega) (20000 - p).toNat p 20000 none (by omega) (by omega) (by omega) (by omega) (by omega)
    rw [show lvZ p (V 7 s) (V 10 (48 * s + h)) = srch (upP p (V 10 (48 * s + h)) (100 * V 7 s)) p (20000 - p).toNat by unfold lvZ; rw [if_neg hne, if_pos (by omega)]]
    exact e
  · unfold lvZ
    rw [if_pos he]
