def bkX8_in_0 (X : ax_X) (mc ms : Nat) (T : Option Value → Nat → Nat → Nat → ax_F → Prop) (K : Nat → ax_P) : ax_P :=
  (ax_ll 0 (ax_ll 2 (ax_lcmp (ax_iflt (ax_ic (i3 (0)) (ax_zret T)) (ax_ll 0 (ax_ll 4 (ax_lcmp (ax_ifgt (ax_ic (i3 (0)) (ax_zret T)) (ax_ic (i3 (1)) (ax_zret T))))))))))
set_option maxRecDepth 100000 in
theorem sbX8_in_0 (X : ax_X) (mc ms : Nat) (Q : Option Value → Nat → ax_F → Prop) : ax_S X mX8_in mc ms Q 0 (bkX8_in_0 X mc ms (ax_Rt mc ms Q) (ax_G X mX8_in mc ms Q)) :=
  (sn_lload_n (i := 0) dX8_in_0 rfl (sn_lload_n (i := 2) dX8_in_1 rfl (sn_lcmp dX8_in_2 (sn_iflt (tgt := 17) dX8_in_3 (by decide) (sn_iconst (v := i3 (0)) dX8_in_17 rfl (sn_zret dX8_in_18 rfl)) (sn_lload_n (i := 0) dX8_in_6 rfl (sn_lload dX8_in_7 (sn_lcmp dX8_in_9 (sn_ifgt (tgt := 17) dX8_in_10 (by decide) (sn_iconst (v := i3 (0)) dX8_in_17 rfl (sn_zret dX8_in_18 rfl)) (sn_iconst (v := i3 (1)) dX8_in_13 rfl (sn_goto (tgt := 18) dX8_in_14 (by decide) (sn_zret dX8_in_18 rfl)))))))))))
def bkX8_size_0 (X : ax_X) (mc ms : Nat) (T : Option Value → Nat → Nat → Nat → ax_F → Prop) (K : Nat → ax_P) : ax_P :=
  (ax_ll 0 (ax_lc (i6 (0)) (ax_lcmp (ax_ifge (ax_ll 0 (ax_lret T)) (ax_ll 0 (ax_lneg (ax_lret T)))))))
set_option maxRecDepth 100000 in
theorem sbX8_size_0 (X : ax_X) (mc ms : Nat) (Q : Option Value → Nat → ax_F → Prop) : ax_S X mX8_size mc ms Q 0 (bkX8_size_0 X mc ms (ax_Rt mc ms Q) (ax_G X mX8_size mc ms Q)) :=
  (sn_lload_n (i := 0) dX8_size_0 rfl (sn_lconst (v := i6 (0)) dX8_size_1 (by decide) (sn_lcmp dX8_size_2 (sn_ifge (tgt := 11) dX8_size_3 (by decide) (sn_lload_n (i := 0) dX8_size_11 rfl (sn_lret dX8_size_12 rfl)) (sn_lload_n (i := 0) dX8_size_6 rfl (sn_lneg dX8_size_7 (sn_goto (tgt := 12) dX8_size_8 (by decide) (sn_lret dX8_size_12 rfl))))))))
def bkX8_dropOf_0 (X : ax_X) (mc ms : Nat) (T : Option Value → Nat → Nat → Nat → ax_F → Prop) (K : Nat → ax_P) : ax_P :=
  (ax_il 0 (ax_sw (1) (9) (fun j => match j with | 0 => (ax_ic (i3 (40)) (ax_iret T)) | 1 => (ax_ic (i3 (20)) (ax_iret T)) | 2 => (ax_ic (i3 (12)) (ax_iret T)) | 3 => (ax_ic (i3 (8)) (ax_iret T)) | 4 => (ax_ic (i3 (5)) (ax_iret T)) | 5 => (ax_ic (i3 (3)) (ax_iret T)) | 6 => (ax_ic (i3 (2)) (ax_iret T)) | 7 => (ax_ic (i3 (1)) (ax_iret T)) | 8 => (ax_ic (i3 (1)) (ax_iret T)) | _ => (fun _ _ _ _ _ _ => True)) (ax_ic (i3 (0)) (ax_iret T))))
set_option maxRecDepth 100000 in
theorem sbX8_dropOf_0 (X : ax_X) (mc ms : Nat) (Q : Option Value → Nat → ax_F → Prop) : ax_S X mX8_dropOf mc ms Q 0 (bkX8_dropOf_0 X mc ms (ax_Rt mc ms Q) (ax_G X mX8_dropOf mc ms Q)) :=
  (sn_iload_n (i := 0) dX8_dropOf_0 rfl (sn_sw (td := 72) dX8_dropOf_1 (by decide) (sn_iconst (v := i3 (0)) dX8_dropOf_72 rfl (sn_iret dX8_dropOf_73 rfl)) (fun j hj => by
    match j, hj with
    | 0, _ => exact ⟨_, 52, rfl, by decide, (sn_bipush (v := i3 (40)) dX8_dropOf_52 (by decide) (sn_iret dX8_dropOf_54 rfl))⟩
    | 1, _ => exact ⟨_, 55, rfl, by decide, (sn_bipush (v := i3 (20)) dX8_dropOf_55 (by decide) (sn_iret dX8_dropOf_57 rfl))⟩
    | 2, _ => exact ⟨_, 58, rfl, by decide, (sn_bipush (v := i3 (12)) dX8_dropOf_58 (by decide) (sn_iret dX8_dropOf_60 rfl))⟩
    | 3, _ => exact ⟨_, 61, rfl, by decide, (sn_bipush (v := i3 (8)) dX8_dropOf_61 (by decide) (sn_iret dX8_dropOf_63 rfl))⟩
    | 4, _ => exact ⟨_, 64, rfl, by decide, (sn_iconst (v := i3 (5)) dX8_dropOf_64 rfl (sn_iret dX8_dropOf_65 rfl))⟩
    | 5, _ => exact ⟨_, 66, rfl, by decide, (sn_iconst (v := i3 (3)) dX8_dropOf_66 rfl (sn_iret dX8_dropOf_67 rfl))⟩
    | 6, _ => exact ⟨_, 68, rfl, by decide, (sn_iconst (v := i3 (2)) dX8_dropOf_68 rfl (sn_iret dX8_dropOf_69 rfl))⟩
    | 7, _ => exact ⟨_, 70, rfl, by decide, (sn_iconst (v := i3 (1)) dX8_dropOf_70 rfl (sn_iret dX8_dropOf_71 rfl))⟩
    | 8, _ => exact ⟨_, 70, rfl, by decide, (sn_iconst (v := i3 (1)) dX8_dropOf_70 rfl (sn_iret dX8_dropOf_71 rfl))⟩
    | n9 + 9, h9 => exact absurd h9 (by omega))))
def bkX7_isWithin_0 (X : ax_X) (mc ms : Nat) (T : Option Value → Nat → Nat → Nat → ax_F → Prop) (K : Nat → ax_P) : ax_P :=
  (ax_il 0 (ax_il 1 (ax_iclt (ax_ic (i3 (0)) (ax_zret T)) (ax_il 0 (ax_il 2 (ax_icgt (ax_ic (i3 (0)) (ax_zret T)) (ax_ic (i3 (1)) (ax_zret T))))))))
set_option maxRecDepth 100000 in
theorem sbX7_isWithin_0 (X : ax_X) (mc ms : Nat) (Q : Option Value → Nat → ax_F → Prop) : ax_S X mX7_isWithin mc ms Q 0 (bkX7_isWithin_0 X mc ms (ax_Rt mc ms Q) (ax_G X mX7_isWithin mc ms Q)) :=
  (sn_iload_n (i := 0) dX7_isWithin_0 rfl (sn_iload_n (i := 1) dX7_isWithin_1 rfl (sn_iclt (tgt := 14) dX7_isWithin_2 (by decide) (sn_iconst (v := i3 (0)) dX7_isWithin_14 rfl (sn_zret dX7_isWithin_15 rfl)) (sn_iload_n (i := 0) dX7_isWithin_5 rfl (sn_iload_n (i := 2) dX7_isWithin_6 rfl (sn_icgt (tgt := 14) dX7_isWithin_7 (by decide) (sn_iconst (v := i3 (0)) dX7_isWithin_14 rfl (sn_zret dX7_isWithin_15 rfl)) (sn_iconst (v := i3 (1)) dX7_isWithin_10 rfl (sn_goto (tgt := 15) dX7_isWithin_11 (by decide) (sn_zret dX7_isWithin_15 rfl)))))))))
def bkX7_isPart_0 (X : ax_X) (mc ms : Nat) (T : Option Value → Nat → Nat → Nat → ax_F → Prop) (K : Nat → ax_P) : ax_P :=
  (ax_il 0 (ax_ifeq (ax_ic (i3 (1)) (ax_zret T)) (ax_il 0 (ax_ic (i3 (1)) (ax_icne (ax_ic (i3 (0)) (ax_zret T)) (ax_ic (i3 (1)) (ax_zret T)))))))
set_option maxRecDepth 100000 in
theorem sbX7_isPart_0 (X : ax_X) (mc ms : Nat) (Q : Option Value → Nat → ax_F → Prop) : ax_S X mX7_isPart mc ms Q 0 (bkX7_isPart_0 X mc ms (ax_Rt mc ms Q) (ax_G X mX7_isPart mc ms Q)) :=
  (sn_iload_n (i := 0) dX7_isPart_0 rfl (sn_ifeq (tgt := 9) dX7_isPart_1 (by decide) (sn_iconst (v := i3 (1)) dX7_isPart_9 rfl (sn_goto (tgt := 14) dX7_isPart_10 (by decide) (sn_zret dX7_isPart_14 rfl))) (sn_iload_n (i := 0) dX7_isPart_4 rfl (sn_iconst (v := i3 (1)) dX7_isPart_5 rfl (sn_icne (tgt := 13) dX7_isPart_6 (by decide) (sn_iconst (v := i3 (0)) dX7_isPart_13 rfl (sn_zret dX7_isPart_14 rfl)) (sn_iconst (v := i3 (1)) dX7_isPart_9 rfl (sn_goto (tgt := 14) dX7_isPart_10 (by decide) (sn_zret dX7_isPart_14 rfl))))))))
def bkX7_cut_0 (X : ax_X) (mc ms : Nat) (T : Option Value → Nat → Nat → Nat → ax_F → Prop) (K : Nat → ax_P) : ax_P :=
  (ax_ll 2 (ax_lc (i6 (0)) (ax_lcmp (ax_ifne (ax_ll 0 (ax_ll 2 (ax_ldiv (ax_lret T)))) (ax_lc (i6 (0)) (ax_lret T))))))
set_option maxRecDepth 100000 in
theorem sbX7_cut_0 (X : ax_X) (mc ms : Nat) (Q : Option Value → Nat → ax_F → Prop) : ax_S X mX7_cut mc ms Q 0 (bkX7_cut_0 X mc ms (ax_Rt mc ms Q) (ax_G X mX7_cut mc ms Q)) :=
  (sn_lload_n (i := 2) dX7_cut_0 rfl (sn_lconst (v := i6 (0)) dX7_cut_1 (by decide) (sn_lcmp dX7_cut_2 (sn_ifne (tgt := 10) dX7_cut_3 (by decide) (sn_lload_n (i := 0) dX7_cut_10 rfl (sn_lload_n (i := 2) dX7_cut_11 rfl (sn_ldiv dX7_cut_12 (sn_lret dX7_cut_13 rfl)))) (sn_lconst (v := i6 (0)) dX7_cut_6 (by decide) (sn_goto (tgt := 13) dX7_cut_7 (by decide) (sn_lret dX7_cut_13 rfl)))))))
def bkX7_squareBetween_0 (X : ax_X) (mc ms : Nat) (T : Option Value → Nat → Nat → Nat → ax_F → Prop) (K : Nat → ax_P) : ax_P :=
  (ax_il 0 (ax_il 2 (ax_isub (ax_il 0 (ax_il 2 (ax_isub (ax_imul (ax_il 1 (ax_il 3 (ax_isub (ax_il 1 (ax_il 3 (ax_isub (ax_imul (ax_iadd (ax_iret T))))))))))))))))
set_option maxRecDepth 100000 in
theorem sbX7_squareBetween_0 (X : ax_X) (mc ms : Nat) (Q : Option Value → Nat → ax_F → Prop) : ax_S X mX7_squareBetween mc ms Q 0 (bkX7_squareBetween_0 X mc ms (ax_Rt mc ms Q) (ax_G X mX7_squareBetween mc ms Q)) :=
  (sn_iload_n (i := 0) dX7_squareBetween_0 rfl (sn_iload_n (i := 2) dX7_squareBetween_1 rfl (sn_isub dX7_squareBetween_2 (sn_iload_n (i := 0) dX7_squareBetween_3 rfl (sn_iload_n (i := 2) dX7_squareBetween_4 rfl (sn_isub dX7_squareBetween_5 (sn_imul dX7_squareBetween_6 (sn_iload_n (i := 1) dX7_squareBetween_7 rfl (sn_iload_n (i := 3) dX7_squareBetween_8 rfl (sn_isub dX7_squareBetween_9 (sn_iload_n (i := 1) dX7_squareBetween_10 rfl (sn_iload_n (i := 3) dX7_squareBetween_11 rfl (sn_isub dX7_squareBetween_12 (sn_imul dX7_squareBetween_13 (sn_iadd dX7_squareBetween_14 (sn_iret dX7_squareBetween_15 rfl))))))))))))))))
