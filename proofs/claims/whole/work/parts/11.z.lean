def fv_in : List Value → Option Value
  | [.long v, .long lo, .long hi] => some (.int (zb (lo.toInt ≤ v.toInt ∧ v.toInt ≤ hi.toInt)))
  | _ => none
def fv_size : List Value → Option Value
  | [.long v] => some (.long (if v.toInt < 0 then -v else v))
  | _ => none
def dropZ (a : Int) : Int := if a = 1 then 40 else if a = 2 then 20 else if a = 3 then 12 else if a = 4 then 8 else if a = 5 then 5 else if a = 6 then 3 else if a = 7 then 2 else if a = 8 then 1 else if a = 9 then 1 else 0
def fv_drop : List Value → Option Value
  | [.int v] => some (.int (i3 (dropZ v.toInt)))
  | _ => none
def fv_within : List Value → Option Value
  | [.int v, .int lo, .int hi] => some (.int (zb (lo.toInt ≤ v.toInt ∧ v.toInt ≤ hi.toInt)))
  | _ => none
def fv_part : List Value → Option Value
  | [.int v] => some (.int (zb (v.toInt = 0 ∨ v.toInt = 1)))
  | _ => none
def fv_cut : List Value → Option Value
  | [.long a, .long b] => some (.long (if b.toInt = 0 then i6 0 else a / b))
  | _ => none
def fv_sq : List Value → Option Value
  | [.int x, .int y, .int x2, .int y2] => some (.int ((x - x2) * (x - x2) + (y - y2) * (y - y2)))
  | _ => none
def fv_absI : List Value → Option Value
  | [.int x] => some (.int (if 0 ≤ x then x else 0 - x))
  | _ => none
def fv_absJ : List Value → Option Value
  | [.long x] => some (.long (if 0 < x then x else -x))
  | _ => none
def fv_maxI : List Value → Option Value
  | [.int x, .int y] => some (.int (if x < y then y else x))
  | _ => none
def fv_minI : List Value → Option Value
  | [.int x, .int y] => some (.int (if y < x then y else x))
  | _ => none
def fv_maxJ : List Value → Option Value
  | [.long x, .long y] => some (.long (if y < x then x else y))
  | _ => none
def fv_minJ : List Value → Option Value
  | [.long x, .long y] => some (.long (if y < x then y else x))
  | _ => none
theorem fc_in {X : ax_X} (as : List Value) (w : Value) (h : fv_in as = some w) (z : Nat) (f : ax_F) : ax_M X mX8_in 0 0 as z f (ax_pv w z f) := by
  unfold fv_in at h
  split at h
  · rename_i v lo hi
    cases h
    refine ax_met2 [some (.long v), none, some (.long lo), none, some (.long hi), none] (by decide) (Nat.le_of_ble_eq_true rfl) rfl ?_
    refine sbX8_in_0 X 0 0 _ _ _ _ _ _ _ ?_
    simp only [bkX8_in_0, ax_ic, ax_lc, ax_nul, ax_il, ax_ll, ax_al, ax_is, ax_ls, ax_as, ax_inc, ax_iadd, ax_isub, ax_imul, ax_iand, ax_ior, ax_idiv, ax_irem, ax_ishl, ax_ishr, ax_ladd, ax_lsub, ax_lmul, ax_ldiv, ax_lrem, ax_ineg, ax_lneg, ax_i2l, ax_l2i, ax_lcmp, ax_dup, ax_pop1, ax_dupx1, ax_dup2, ax_ifeq, ax_ifne, ax_iflt, ax_ifge, ax_ifgt, ax_ifle, ax_iceq, ax_icne, ax_iclt, ax_icge, ax_icgt, ax_icle, ax_ifnull, ax_ifnn, ax_sw, ax_iret, ax_zret, ax_lret, ax_vret, ax_aret, ax_gf, ax_pfi, ax_pfz, ax_pfl, ax_pfr, ax_iald, ax_zald, ax_lald, ax_aald, ax_iast, ax_zast, ax_last, ax_aast, ax_alen, ax_ialdR, ax_alenR, ax_gst, ax_new, ax_nwi, ax_nwl, ax_nwq, ax_obj, ax_call, ax_calv, ax_nth, ax_p1, ax_p2, ax_k2, ax_nh, Value.category, lg_cmp_ge, lg_cmp_lt, lg_cmp_gt, lg_cmp_le, lg_cmp_eq, List.getElem?_cons_zero, List.getElem?_cons_succ, true_and, and_true, if_true, if_false, reduceIte, Nat.reduceEqDiff, Nat.add_eq_zero_iff, reduceCtorEq, Nat.reduceAdd, not_true_eq_false, not_false_eq_true, Int64.lt_iff_toInt_lt]
    refine ⟨fun h => ⟨Or.inl rfl, ax_pv0 (congrArg Value.int (zb_f (by omega)))⟩, fun h => ⟨fun h2 => ⟨Or.inl rfl, ax_pv0 (congrArg Value.int (zb_f (by omega)))⟩, fun h2 => ⟨Or.inr rfl, ax_pv0 (congrArg Value.int (zb_t (by omega)))⟩⟩⟩
  · cases h
theorem fc_size {X : ax_X} (as : List Value) (w : Value) (h : fv_size as = some w) (z : Nat) (f : ax_F) : ax_M X mX8_size 0 0 as z f (ax_pv w z f) := by
  unfold fv_size at h
  split at h
  · rename_i v
    cases h
    refine ax_met2 [some (.long v), none] (by decide) (Nat.le_of_ble_eq_true rfl) rfl ?_
    refine sbX8_size_0 X 0 0 _ _ _ _ _ _ _ ?_
    simp only [bkX8_size_0, ax_ic, ax_lc, ax_nul, ax_il, ax_ll, ax_al, ax_is, ax_ls, ax_as, ax_inc, ax_iadd, ax_isub, ax_imul, ax_iand, ax_ior, ax_idiv, ax_irem, ax_ishl, ax_ishr, ax_ladd, ax_lsub, ax_lmul, ax_ldiv, ax_lrem, ax_ineg, ax_lneg, ax_i2l, ax_l2i, ax_lcmp, ax_dup, ax_pop1, ax_dupx1, ax_dup2, ax_ifeq, ax_ifne, ax_iflt, ax_ifge, ax_ifgt, ax_ifle, ax_iceq, ax_icne, ax_iclt, ax_icge, ax_icgt, ax_icle, ax_ifnull, ax_ifnn, ax_sw, ax_iret, ax_zret, ax_lret, ax_vret, ax_aret, ax_gf, ax_pfi, ax_pfz, ax_pfl, ax_pfr, ax_iald, ax_zald, ax_lald, ax_aald, ax_iast, ax_zast, ax_last, ax_aast, ax_alen, ax_ialdR, ax_alenR, ax_gst, ax_new, ax_nwi, ax_nwl, ax_nwq, ax_obj, ax_call, ax_calv, ax_nth, ax_p1, ax_p2, ax_k2, ax_nh, Value.category, lg_cmp_ge, lg_cmp_lt, lg_cmp_gt, lg_cmp_le, lg_cmp_eq, List.getElem?_cons_zero, List.getElem?_cons_succ, true_and, and_true, if_true, if_false, reduceIte, Nat.reduceEqDiff, Nat.add_eq_zero_iff, reduceCtorEq, Nat.reduceAdd, not_true_eq_false, not_false_eq_true, Int64.le_iff_toInt_le]
    have e : (i6 0).toInt = 0 := by decide
    rw [e]
    refine ⟨fun h => ax_pv0 (by rw [if_neg (by omega)]), fun h => ax_pv0 (by rw [if_pos (by omega)])⟩
  · cases h
theorem fc_drop {X : ax_X} (as : List Value) (w : Value) (h : fv_drop as = some w) (z : Nat) (f : ax_F) : ax_M X mX8_dropOf 0 0 as z f (ax_pv w z f) := by
  unfold fv_drop at h
  split at h
  · rename_i v
    cases h
    refine ax_met2 [some (.int v)] (by decide) (Nat.le_of_ble_eq_true rfl) rfl ?_
    refine sbX8_dropOf_0 X 0 0 _ _ _ _ _ _ _ ?_
    simp only [bkX8_dropOf_0, ax_ic, ax_lc, ax_nul, ax_il, ax_ll, ax_al, ax_is, ax_ls, ax_as, ax_inc, ax_iadd, ax_isub, ax_imul, ax_iand, ax_ior, ax_idiv, ax_irem, ax_ishl, ax_ishr, ax_ladd, ax_lsub, ax_lmul, ax_ldiv, ax_lrem, ax_ineg, ax_lneg, ax_i2l, ax_l2i, ax_lcmp, ax_dup, ax_pop1, ax_dupx1, ax_dup2, ax_ifeq, ax_ifne, ax_iflt, ax_ifge, ax_ifgt, ax_ifle, ax_iceq, ax_icne, ax_iclt, ax_icge, ax_icgt, ax_icle, ax_ifnull, ax_ifnn, ax_sw, ax_iret, ax_zret, ax_lret, ax_vret, ax_aret, ax_gf, ax_pfi, ax_pfz, ax_pfl, ax_pfr, ax_iald, ax_zald, ax_lald, ax_aald, ax_iast, ax_zast, ax_last, ax_aast, ax_alen, ax_ialdR, ax_alenR, ax_gst, ax_new, ax_nwi, ax_nwl, ax_nwq, ax_obj, ax_call, ax_calv, ax_nth, ax_p1, ax_p2, ax_k2, ax_nh, Value.category, lg_cmp_ge, lg_cmp_lt, lg_cmp_gt, lg_cmp_le, lg_cmp_eq, List.getElem?_cons_zero, List.getElem?_cons_succ, true_and, and_true, if_true, if_false, reduceIte, Nat.reduceEqDiff, Nat.add_eq_zero_iff, reduceCtorEq, Nat.reduceAdd, not_true_eq_false, not_false_eq_true]
    refine ⟨fun h => ax_pv0 ?_, fun j hj h => ?_⟩
    · congr 2
      unfold dropZ
      repeat' split
      all_goals omega
    · rcases (show j = 0 ∨ j = 1 ∨ j = 2 ∨ j = 3 ∨ j = 4 ∨ j = 5 ∨ j = 6 ∨ j = 7 ∨ j = 8 by omega) with rfl | rfl | rfl | rfl | rfl | rfl | rfl | rfl | rfl <;> exact ax_pv0 (by rw [hj]; rfl)
  · cases h
theorem fc_within {X : ax_X} (as : List Value) (w : Value) (h : fv_within as = some w) (z : Nat) (f : ax_F) : ax_M X mX7_isWithin 0 0 as z f (ax_pv w z f) := by
  unfold fv_within at h
  split at h
  · rename_i v lo hi
    cases h
    refine ax_met2 [some (.int v), some (.int lo), some (.int hi)] (by decide) (Nat.le_of_ble_eq_true rfl) rfl ?_
    refine sbX7_isWithin_0 X 0 0 _ _ _ _ _ _ _ ?_
    simp only [bkX7_isWithin_0, ax_ic, ax_lc, ax_nul, ax_il, ax_ll, ax_al, ax_is, ax_ls, ax_as, ax_inc, ax_iadd, ax_isub, ax_imul, ax_iand, ax_ior, ax_idiv, ax_irem, ax_ishl, ax_ishr, ax_ladd, ax_lsub, ax_lmul, ax_ldiv, ax_lrem, ax_ineg, ax_lneg, ax_i2l, ax_l2i, ax_lcmp, ax_dup, ax_pop1, ax_dupx1, ax_dup2, ax_ifeq, ax_ifne, ax_iflt, ax_ifge, ax_ifgt, ax_ifle, ax_iceq, ax_icne, ax_iclt, ax_icge, ax_icgt, ax_icle, ax_ifnull, ax_ifnn, ax_sw, ax_iret, ax_zret, ax_lret, ax_vret, ax_aret, ax_gf, ax_pfi, ax_pfz, ax_pfl, ax_pfr, ax_iald, ax_zald, ax_lald, ax_aald, ax_iast, ax_zast, ax_last, ax_aast, ax_alen, ax_ialdR, ax_alenR, ax_gst, ax_new, ax_nwi, ax_nwl, ax_nwq, ax_obj, ax_call, ax_calv, ax_nth, ax_p1, ax_p2, ax_k2, ax_nh, Value.category, lg_cmp_ge, lg_cmp_lt, lg_cmp_gt, lg_cmp_le, lg_cmp_eq, List.getElem?_cons_zero, List.getElem?_cons_succ, true_and, and_true, if_true, if_false, reduceIte, Nat.reduceEqDiff, Nat.add_eq_zero_iff, reduceCtorEq, Nat.reduceAdd, not_true_eq_false, not_false_eq_true, Int32.lt_iff_toInt_lt]
    refine ⟨fun h => ⟨Or.inl rfl, ax_pv0 (congrArg Value.int (zb_f (by omega)))⟩, fun h => ⟨fun h2 => ⟨Or.inl rfl, ax_pv0 (congrArg Value.int (zb_f (by omega)))⟩, fun h2 => ⟨Or.inr rfl, ax_pv0 (congrArg Value.int (zb_t (by omega)))⟩⟩⟩
  · cases h
theorem fc_part {X : ax_X} (as : List Value) (w : Value) (h : fv_part as = some w) (z : Nat) (f : ax_F) : ax_M X mX7_isPart 0 0 as z f (ax_pv w z f) := by
  unfold fv_part at h
  split at h
  · rename_i v
    cases h
    refine ax_met2 [some (.int v)] (by decide) (Nat.le_of_ble_eq_true rfl) rfl ?_
    refine sbX7_isPart_0 X 0 0 _ _ _ _ _ _ _ ?_
    simp only [bkX7_isPart_0, ax_ic, ax_lc, ax_nul, ax_il, ax_ll, ax_al, ax_is, ax_ls, ax_as, ax_inc, ax_iadd, ax_isub, ax_imul, ax_iand, ax_ior, ax_idiv, ax_irem, ax_ishl, ax_ishr, ax_ladd, ax_lsub, ax_lmul, ax_ldiv, ax_lrem, ax_ineg, ax_lneg, ax_i2l, ax_l2i, ax_lcmp, ax_dup, ax_pop1, ax_dupx1, ax_dup2, ax_ifeq, ax_ifne, ax_iflt, ax_ifge, ax_ifgt, ax_ifle, ax_iceq, ax_icne, ax_iclt, ax_icge, ax_icgt, ax_icle, ax_ifnull, ax_ifnn, ax_sw, ax_iret, ax_zret, ax_lret, ax_vret, ax_aret, ax_gf, ax_pfi, ax_pfz, ax_pfl, ax_pfr, ax_iald, ax_zald, ax_lald, ax_aald, ax_iast, ax_zast, ax_last, ax_aast, ax_alen, ax_ialdR, ax_alenR, ax_gst, ax_new, ax_nwi, ax_nwl, ax_nwq, ax_obj, ax_call, ax_calv, ax_nth, ax_p1, ax_p2, ax_k2, ax_nh, Value.category, lg_cmp_ge, lg_cmp_lt, lg_cmp_gt, lg_cmp_le, lg_cmp_eq, List.getElem?_cons_zero, List.getElem?_cons_succ, true_and, and_true, if_true, if_false, reduceIte, Nat.reduceEqDiff, Nat.add_eq_zero_iff, reduceCtorEq, Nat.reduceAdd, not_true_eq_false, not_false_eq_true, ← Int32.toInt_inj]
    have e0 : (0 : Int32).toInt = 0 := by decide
    have e1 : (i3 1).toInt = 1 := by decide
    rw [e0, e1]
    refine ⟨fun h => ⟨Or.inr rfl, ax_pv0 (congrArg Value.int (zb_t (by omega)))⟩, fun h => ⟨fun h2 => ⟨Or.inl rfl, ax_pv0 (congrArg Value.int (zb_f (by omega)))⟩, fun h2 => ⟨Or.inr rfl, ax_pv0 (congrArg Value.int (zb_t (by omega)))⟩⟩⟩
  · cases h
theorem fc_cut {X : ax_X} (as : List Value) (w : Value) (h : fv_cut as = some w) (z : Nat) (f : ax_F) : ax_M X mX7_cut 0 0 as z f (ax_pv w z f) := by
  unfold fv_cut at h
  split at h
  · rename_i a b
    cases h
    refine ax_met2 [some (.long a), none, some (.long b), none] (by decide) (Nat.le_of_ble_eq_true rfl) rfl ?_
    refine sbX7_cut_0 X 0 0 _ _ _ _ _ _ _ ?_
    simp only [bkX7_cut_0, ax_ic, ax_lc, ax_nul, ax_il, ax_ll, ax_al, ax_is, ax_ls, ax_as, ax_inc, ax_iadd, ax_isub, ax_imul, ax_iand, ax_ior, ax_idiv, ax_irem, ax_ishl, ax_ishr, ax_ladd, ax_lsub, ax_lmul, ax_ldiv, ax_lrem, ax_ineg, ax_lneg, ax_i2l, ax_l2i, ax_lcmp, ax_dup, ax_pop1, ax_dupx1, ax_dup2, ax_ifeq, ax_ifne, ax_iflt, ax_ifge, ax_ifgt, ax_ifle, ax_iceq, ax_icne, ax_iclt, ax_icge, ax_icgt, ax_icle, ax_ifnull, ax_ifnn, ax_sw, ax_iret, ax_zret, ax_lret, ax_vret, ax_aret, ax_gf, ax_pfi, ax_pfz, ax_pfl, ax_pfr, ax_iald, ax_zald, ax_lald, ax_aald, ax_iast, ax_zast, ax_last, ax_aast, ax_alen, ax_ialdR, ax_alenR, ax_gst, ax_new, ax_nwi, ax_nwl, ax_nwq, ax_obj, ax_call, ax_calv, ax_nth, ax_p1, ax_p2, ax_k2, ax_nh, Value.category, lg_cmp_ge, lg_cmp_lt, lg_cmp_gt, lg_cmp_le, lg_cmp_eq, List.getElem?_cons_zero, List.getElem?_cons_succ, true_and, and_true, if_true, if_false, reduceIte, Nat.reduceEqDiff, Nat.add_eq_zero_iff, reduceCtorEq, Nat.reduceAdd, not_true_eq_false, not_false_eq_true]
    have e : b.toInt = 0 ↔ b = i6 0 := by rw [← Int64.toInt_inj]; exact Iff.rfl
    refine ⟨fun h => ⟨fun q => h q, ax_pv0 (by rw [if_neg (fun q => h (e.mp q))])⟩, fun h => ax_pv0 (by rw [if_pos (e.mpr h)])⟩
  · cases h
theorem fc_sq {X : ax_X} (as : List Value) (w : Value) (h : fv_sq as = some w) (z : Nat) (f : ax_F) : ax_M X mX7_squareBetween 0 0 as z f (ax_pv w z f) := by
  unfold fv_sq at h
  split at h
  · rename_i x y x2 y2
    cases h
    refine ax_met2 [some (.int x), some (.int y), some (.int x2), some (.int y2)] (by decide) (Nat.le_of_ble_eq_true rfl) rfl ?_
    refine sbX7_squareBetween_0 X 0 0 _ _ _ _ _ _ _ ?_
    simp only [bkX7_squareBetween_0, ax_ic, ax_lc, ax_nul, ax_il, ax_ll, ax_al, ax_is, ax_ls, ax_as, ax_inc, ax_iadd, ax_isub, ax_imul, ax_iand, ax_ior, ax_idiv, ax_irem, ax_ishl, ax_ishr, ax_ladd, ax_lsub, ax_lmul, ax_ldiv, ax_lrem, ax_ineg, ax_lneg, ax_i2l, ax_l2i, ax_lcmp, ax_dup, ax_pop1, ax_dupx1, ax_dup2, ax_ifeq, ax_ifne, ax_iflt, ax_ifge, ax_ifgt, ax_ifle, ax_iceq, ax_icne, ax_iclt, ax_icge, ax_icgt, ax_icle, ax_ifnull, ax_ifnn, ax_sw, ax_iret, ax_zret, ax_lret, ax_vret, ax_aret, ax_gf, ax_pfi, ax_pfz, ax_pfl, ax_pfr, ax_iald, ax_zald, ax_lald, ax_aald, ax_iast, ax_zast, ax_last, ax_aast, ax_alen, ax_ialdR, ax_alenR, ax_gst, ax_new, ax_nwi, ax_nwl, ax_nwq, ax_obj, ax_call, ax_calv, ax_nth, ax_p1, ax_p2, ax_k2, ax_nh, Value.category, lg_cmp_ge, lg_cmp_lt, lg_cmp_gt, lg_cmp_le, lg_cmp_eq, List.getElem?_cons_zero, List.getElem?_cons_succ, true_and, and_true, if_true, if_false, reduceIte, Nat.reduceEqDiff, Nat.add_eq_zero_iff, reduceCtorEq, Nat.reduceAdd, not_true_eq_false, not_false_eq_true]
    exact ax_pv0 rfl
  · cases h
theorem sn_absI {X : ax_X} {mi : ax_MI} {mc ms pc idx : Nat} {Q : Option Value → Nat → ax_F → Prop} {k : ax_P} (hd : decode mi.2.1 pc = .ok (.invokestatic idx, 3)) (hc : Cond.code Lib.Math.abs.name Lib.Math.abs.code 1 (some .int) ∈ ax_T) (hw1 : Cond.methodLink mi.1.cls idx Lib.Math.abs.name ∈ ax_T) (hw2 : Cond.static Lib.Math.abs.name ∈ ax_T) (hw3 : Cond.initialized "java/lang/Math" ∈ ax_T) (hdp : 1 ≤ mi.2.2.2.2) (hk : ax_S X mi mc ms Q (pc + 3) k) : ax_S X mi mc ms Q pc (ax_pf mc ms 1 fv_absI k) := by
  intro ls st c n z f h p e s m args below meth co C H locs la hl hR hL hz
  have hts := C.2.2.2.2.1
  have hT : ∀ w ∈ ax_T, w.before args s = true := fun w hw => hts w (List.mem_cons_of_mem _ hw)
  unfold ax_pf at h
  split at h
  · rename_i as r hp
    split at h
    · rename_i w hw
      obtain ⟨p1, p2⟩ := ax_popn_spec _ _ _ _ _ hp
      unfold fv_absI at hw
      split at hw
      · rename_i x
        cases hw
        have est : st = .int x :: r := by simpa using p1.symm
        subst est
        exact va_mabs C.1 C.2.1 (C.2.2.1.trans hl.1.symm) C.2.2.2.1 (hT _ hw1) (hT _ hw2) (hT _ hw3) (hT _ hc) hdp (by show _ + _ ≤ 64 * _; have := h.1; omega) h.2.1 h.2.2.1 hd (hk _ _ _ _ _ _ h.2.2.2 p e s m args below meth co C H locs la hl hR hL hz)
      · cases hw
    · exact h.elim
  · exact h.elim
theorem sn_maxI {X : ax_X} {mi : ax_MI} {mc ms pc idx : Nat} {Q : Option Value → Nat → ax_F → Prop} {k : ax_P} (hd : decode mi.2.1 pc = .ok (.invokestatic idx, 3)) (hc : Cond.code Lib.Math.max.name Lib.Math.max.code 2 (some .int) ∈ ax_T) (hw1 : Cond.methodLink mi.1.cls idx Lib.Math.max.name ∈ ax_T) (hw2 : Cond.static Lib.Math.max.name ∈ ax_T) (hw3 : Cond.initialized "java/lang/Math" ∈ ax_T) (hdp : 1 ≤ mi.2.2.2.2) (hk : ax_S X mi mc ms Q (pc + 3) k) : ax_S X mi mc ms Q pc (ax_pf mc ms 2 fv_maxI k) := by
  intro ls st c n z f h p e s m args below meth co C H locs la hl hR hL hz
  have hts := C.2.2.2.2.1
  have hT : ∀ w ∈ ax_T, w.before args s = true := fun w hw => hts w (List.mem_cons_of_mem _ hw)
  unfold ax_pf at h
  split at h
  · rename_i as r hp
    split at h
    · rename_i w hw
      obtain ⟨p1, p2⟩ := ax_popn_spec _ _ _ _ _ hp
      unfold fv_maxI at hw
      split at hw
      · rename_i x y
        cases hw
        have est : st = .int y :: .int x :: r := by simpa using p1.symm
        subst est
        exact va_mmax C.1 C.2.1 (C.2.2.1.trans hl.1.symm) C.2.2.2.1 (hT _ hw1) (hT _ hw2) (hT _ hw3) (hT _ hc) hdp (by show _ + _ ≤ 64 * _; have := h.1; omega) h.2.1 h.2.2.1 hd (hk _ _ _ _ _ _ h.2.2.2 p e s m args below meth co C H locs la hl hR hL hz)
      · cases hw
    · exact h.elim
  · exact h.elim
theorem sn_minI {X : ax_X} {mi : ax_MI} {mc ms pc idx : Nat} {Q : Option Value → Nat → ax_F → Prop} {k : ax_P} (hd : decode mi.2.1 pc = .ok (.invokestatic idx, 3)) (hc : Cond.code Lib.Math.min.name Lib.Math.min.code 2 (some .int) ∈ ax_T) (hw1 : Cond.methodLink mi.1.cls idx Lib.Math.min.name ∈ ax_T) (hw2 : Cond.static Lib.Math.min.name ∈ ax_T) (hw3 : Cond.initialized "java/lang/Math" ∈ ax_T) (hdp : 1 ≤ mi.2.2.2.2) (hk : ax_S X mi mc ms Q (pc + 3) k) : ax_S X mi mc ms Q pc (ax_pf mc ms 2 fv_minI k) := by
  intro ls st c n z f h p e s m args below meth co C H locs la hl hR hL hz
  have hts := C.2.2.2.2.1
  have hT : ∀ w ∈ ax_T, w.before args s = true := fun w hw => hts w (List.mem_cons_of_mem _ hw)
  unfold ax_pf at h
  split at h
  · rename_i as r hp
    split at h
    · rename_i w hw
      obtain ⟨p1, p2⟩ := ax_popn_spec _ _ _ _ _ hp
      unfold fv_minI at hw
      split at hw
      · rename_i x y
        cases hw
        have est : st = .int y :: .int x :: r := by simpa using p1.symm
        subst est
        exact va_mmin C.1 C.2.1 (C.2.2.1.trans hl.1.symm) C.2.2.2.1 (hT _ hw1) (hT _ hw2) (hT _ hw3) (hT _ hc) hdp (by show _ + _ ≤ 64 * _; have := h.1; omega) h.2.1 h.2.2.1 hd (hk _ _ _ _ _ _ h.2.2.2 p e s m args below meth co C H locs la hl hR hL hz)
      · cases hw
    · exact h.elim
  · exact h.elim
theorem sn_absJ {X : ax_X} {mi : ax_MI} {mc ms pc idx : Nat} {Q : Option Value → Nat → ax_F → Prop} {k : ax_P} (hd : decode mi.2.1 pc = .ok (.invokestatic idx, 3)) (hc : Cond.code Lib.MathLoose.abs_long.x Lib.MathLoose.abs_long.code 2 (some .long) ∈ ax_T) (hw1 : Cond.methodLink mi.1.cls idx Lib.MathLoose.abs_long.x ∈ ax_T) (hw2 : Cond.static Lib.MathLoose.abs_long.x ∈ ax_T) (hw3 : Cond.initialized "java/lang/Math" ∈ ax_T) (hdp : 1 ≤ mi.2.2.2.2) (hk : ax_S X mi mc ms Q (pc + 3) k) : ax_S X mi mc ms Q pc (ax_pf mc ms 1 fv_absJ k) := by
  intro ls st c n z f h p e s m args below meth co C H locs la hl hR hL hz
  have hts := C.2.2.2.2.1
  have hT : ∀ w ∈ ax_T, w.before args s = true := fun w hw => hts w (List.mem_cons_of_mem _ hw)
  unfold ax_pf at h
  split at h
  · rename_i as r hp
    split at h
    · rename_i w hw
      obtain ⟨p1, p2⟩ := ax_popn_spec _ _ _ _ _ hp
      unfold fv_absJ at hw
      split at hw
      · rename_i x
        cases hw
        have est : st = .long x :: r := by simpa using p1.symm
        subst est
        exact va_mabs_long C.1 C.2.1 (C.2.2.1.trans hl.1.symm) C.2.2.2.1 (hT _ hw1) (hT _ hw2) (hT _ hw3) (hT _ hc) hdp (by show _ + _ ≤ 64 * _; have := h.1; omega) h.2.1 h.2.2.1 hd (hk _ _ _ _ _ _ h.2.2.2 p e s m args below meth co C H locs la hl hR hL hz)
      · cases hw
    · exact h.elim
  · exact h.elim
theorem sn_maxJ {X : ax_X} {mi : ax_MI} {mc ms pc idx : Nat} {Q : Option Value → Nat → ax_F → Prop} {k : ax_P} (hd : decode mi.2.1 pc = .ok (.invokestatic idx, 3)) (hc : Cond.code Lib.MathLoose.max_long.x Lib.MathLoose.max_long.code 4 (some .long) ∈ ax_T) (hw1 : Cond.methodLink mi.1.cls idx Lib.MathLoose.max_long.x ∈ ax_T) (hw2 : Cond.static Lib.MathLoose.max_long.x ∈ ax_T) (hw3 : Cond.initialized "java/lang/Math" ∈ ax_T) (hdp : 1 ≤ mi.2.2.2.2) (hk : ax_S X mi mc ms Q (pc + 3) k) : ax_S X mi mc ms Q pc (ax_pf mc ms 2 fv_maxJ k) := by
  intro ls st c n z f h p e s m args below meth co C H locs la hl hR hL hz
  have hts := C.2.2.2.2.1
  have hT : ∀ w ∈ ax_T, w.before args s = true := fun w hw => hts w (List.mem_cons_of_mem _ hw)
  unfold ax_pf at h
  split at h
  · rename_i as r hp
    split at h
    · rename_i w hw
      obtain ⟨p1, p2⟩ := ax_popn_spec _ _ _ _ _ hp
      unfold fv_maxJ at hw
      split at hw
      · rename_i x y
        cases hw
        have est : st = .long y :: .long x :: r := by simpa using p1.symm
        subst est
        exact va_mmax_long C.1 C.2.1 (C.2.2.1.trans hl.1.symm) C.2.2.2.1 (hT _ hw1) (hT _ hw2) (hT _ hw3) (hT _ hc) hdp (by show _ + _ ≤ 64 * _; have := h.1; omega) h.2.1 h.2.2.1 hd (hk _ _ _ _ _ _ h.2.2.2 p e s m args below meth co C H locs la hl hR hL hz)
      · cases hw
    · exact h.elim
  · exact h.elim
theorem sn_minJ {X : ax_X} {mi : ax_MI} {mc ms pc idx : Nat} {Q : Option Value → Nat → ax_F → Prop} {k : ax_P} (hd : decode mi.2.1 pc = .ok (.invokestatic idx, 3)) (hc : Cond.code Lib.MathLoose.min_long.x Lib.MathLoose.min_long.code 4 (some .long) ∈ ax_T) (hw1 : Cond.methodLink mi.1.cls idx Lib.MathLoose.min_long.x ∈ ax_T) (hw2 : Cond.static Lib.MathLoose.min_long.x ∈ ax_T) (hw3 : Cond.initialized "java/lang/Math" ∈ ax_T) (hdp : 1 ≤ mi.2.2.2.2) (hk : ax_S X mi mc ms Q (pc + 3) k) : ax_S X mi mc ms Q pc (ax_pf mc ms 2 fv_minJ k) := by
  intro ls st c n z f h p e s m args below meth co C H locs la hl hR hL hz
  have hts := C.2.2.2.2.1
  have hT : ∀ w ∈ ax_T, w.before args s = true := fun w hw => hts w (List.mem_cons_of_mem _ hw)
  unfold ax_pf at h
  split at h
  · rename_i as r hp
    split at h
    · rename_i w hw
      obtain ⟨p1, p2⟩ := ax_popn_spec _ _ _ _ _ hp
      unfold fv_minJ at hw
      split at hw
      · rename_i x y
        cases hw
        have est : st = .long y :: .long x :: r := by simpa using p1.symm
        subst est
        exact va_mmin_long C.1 C.2.1 (C.2.2.1.trans hl.1.symm) C.2.2.2.1 (hT _ hw1) (hT _ hw2) (hT _ hw3) (hT _ hc) hdp (by show _ + _ ≤ 64 * _; have := h.1; omega) h.2.1 h.2.2.1 hd (hk _ _ _ _ _ _ h.2.2.2 p e s m args below meth co C H locs la hl hR hL hz)
      · cases hw
    · exact h.elim
  · exact h.elim
