def bkJ_absI_0 (X : ax_X) (mc ms : Nat) (T : Option Value → Nat → Nat → Nat → ax_F → Prop) (K : Nat → ax_P) : ax_P :=
  (ax_il 0 (ax_ifge (ax_il 0 (ax_iret T)) (ax_il 0 (ax_ineg (ax_iret T)))))
set_option maxRecDepth 100000 in
theorem sbJ_absI_0 (X : ax_X) (mc ms : Nat) (Q : Option Value → Nat → ax_F → Prop) : ax_S X mJ_absI mc ms Q 0 (bkJ_absI_0 X mc ms (ax_Rt mc ms Q) (ax_G X mJ_absI mc ms Q)) :=
  (sn_iload_n (i := 0) dJ_absI_0 rfl (sn_ifge (tgt := 9) dJ_absI_1 (by decide) (sn_iload_n (i := 0) dJ_absI_9 rfl (sn_iret dJ_absI_10 rfl)) (sn_iload_n (i := 0) dJ_absI_4 rfl (sn_ineg dJ_absI_5 (sn_goto (tgt := 10) dJ_absI_6 (by decide) (sn_iret dJ_absI_10 rfl))))))
def bkJ_absJ_0 (X : ax_X) (mc ms : Nat) (T : Option Value → Nat → Nat → Nat → ax_F → Prop) (K : Nat → ax_P) : ax_P :=
  (ax_ll 0 (ax_lc (i6 (0)) (ax_lcmp (ax_ifge (ax_ll 0 (ax_lret T)) (ax_ll 0 (ax_lneg (ax_lret T)))))))
set_option maxRecDepth 100000 in
theorem sbJ_absJ_0 (X : ax_X) (mc ms : Nat) (Q : Option Value → Nat → ax_F → Prop) : ax_S X mJ_absJ mc ms Q 0 (bkJ_absJ_0 X mc ms (ax_Rt mc ms Q) (ax_G X mJ_absJ mc ms Q)) :=
  (sn_lload_n (i := 0) dJ_absJ_0 rfl (sn_lconst (v := i6 (0)) dJ_absJ_1 (by decide) (sn_lcmp dJ_absJ_2 (sn_ifge (tgt := 11) dJ_absJ_3 (by decide) (sn_lload_n (i := 0) dJ_absJ_11 rfl (sn_lret dJ_absJ_12 rfl)) (sn_lload_n (i := 0) dJ_absJ_6 rfl (sn_lneg dJ_absJ_7 (sn_goto (tgt := 12) dJ_absJ_8 (by decide) (sn_lret dJ_absJ_12 rfl))))))))
def bkJ_maxI_0 (X : ax_X) (mc ms : Nat) (T : Option Value → Nat → Nat → Nat → ax_F → Prop) (K : Nat → ax_P) : ax_P :=
  (ax_il 0 (ax_il 1 (ax_iclt (ax_il 1 (ax_iret T)) (ax_il 0 (ax_iret T)))))
set_option maxRecDepth 100000 in
theorem sbJ_maxI_0 (X : ax_X) (mc ms : Nat) (Q : Option Value → Nat → ax_F → Prop) : ax_S X mJ_maxI mc ms Q 0 (bkJ_maxI_0 X mc ms (ax_Rt mc ms Q) (ax_G X mJ_maxI mc ms Q)) :=
  (sn_iload_n (i := 0) dJ_maxI_0 rfl (sn_iload_n (i := 1) dJ_maxI_1 rfl (sn_iclt (tgt := 9) dJ_maxI_2 (by decide) (sn_iload_n (i := 1) dJ_maxI_9 rfl (sn_iret dJ_maxI_10 rfl)) (sn_iload_n (i := 0) dJ_maxI_5 rfl (sn_goto (tgt := 10) dJ_maxI_6 (by decide) (sn_iret dJ_maxI_10 rfl))))))
def bkJ_minI_0 (X : ax_X) (mc ms : Nat) (T : Option Value → Nat → Nat → Nat → ax_F → Prop) (K : Nat → ax_P) : ax_P :=
  (ax_il 0 (ax_il 1 (ax_icgt (ax_il 1 (ax_iret T)) (ax_il 0 (ax_iret T)))))
set_option maxRecDepth 100000 in
theorem sbJ_minI_0 (X : ax_X) (mc ms : Nat) (Q : Option Value → Nat → ax_F → Prop) : ax_S X mJ_minI mc ms Q 0 (bkJ_minI_0 X mc ms (ax_Rt mc ms Q) (ax_G X mJ_minI mc ms Q)) :=
  (sn_iload_n (i := 0) dJ_minI_0 rfl (sn_iload_n (i := 1) dJ_minI_1 rfl (sn_icgt (tgt := 9) dJ_minI_2 (by decide) (sn_iload_n (i := 1) dJ_minI_9 rfl (sn_iret dJ_minI_10 rfl)) (sn_iload_n (i := 0) dJ_minI_5 rfl (sn_goto (tgt := 10) dJ_minI_6 (by decide) (sn_iret dJ_minI_10 rfl))))))
def bkJ_maxJ_0 (X : ax_X) (mc ms : Nat) (T : Option Value → Nat → Nat → Nat → ax_F → Prop) (K : Nat → ax_P) : ax_P :=
  (ax_ll 0 (ax_ll 2 (ax_lcmp (ax_iflt (ax_ll 2 (ax_lret T)) (ax_ll 0 (ax_lret T))))))
set_option maxRecDepth 100000 in
theorem sbJ_maxJ_0 (X : ax_X) (mc ms : Nat) (Q : Option Value → Nat → ax_F → Prop) : ax_S X mJ_maxJ mc ms Q 0 (bkJ_maxJ_0 X mc ms (ax_Rt mc ms Q) (ax_G X mJ_maxJ mc ms Q)) :=
  (sn_lload_n (i := 0) dJ_maxJ_0 rfl (sn_lload_n (i := 2) dJ_maxJ_1 rfl (sn_lcmp dJ_maxJ_2 (sn_iflt (tgt := 10) dJ_maxJ_3 (by decide) (sn_lload_n (i := 2) dJ_maxJ_10 rfl (sn_lret dJ_maxJ_11 rfl)) (sn_lload_n (i := 0) dJ_maxJ_6 rfl (sn_goto (tgt := 11) dJ_maxJ_7 (by decide) (sn_lret dJ_maxJ_11 rfl)))))))
def bkJ_minJ_0 (X : ax_X) (mc ms : Nat) (T : Option Value → Nat → Nat → Nat → ax_F → Prop) (K : Nat → ax_P) : ax_P :=
  (ax_ll 0 (ax_ll 2 (ax_lcmp (ax_ifgt (ax_ll 2 (ax_lret T)) (ax_ll 0 (ax_lret T))))))
set_option maxRecDepth 100000 in
theorem sbJ_minJ_0 (X : ax_X) (mc ms : Nat) (Q : Option Value → Nat → ax_F → Prop) : ax_S X mJ_minJ mc ms Q 0 (bkJ_minJ_0 X mc ms (ax_Rt mc ms Q) (ax_G X mJ_minJ mc ms Q)) :=
  (sn_lload_n (i := 0) dJ_minJ_0 rfl (sn_lload_n (i := 2) dJ_minJ_1 rfl (sn_lcmp dJ_minJ_2 (sn_ifgt (tgt := 10) dJ_minJ_3 (by decide) (sn_lload_n (i := 2) dJ_minJ_10 rfl (sn_lret dJ_minJ_11 rfl)) (sn_lload_n (i := 0) dJ_minJ_6 rfl (sn_goto (tgt := 11) dJ_minJ_7 (by decide) (sn_lret dJ_minJ_11 rfl)))))))
