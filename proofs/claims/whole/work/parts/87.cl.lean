/-! clone of a row that was there at the start: its cell is of the class found under its name (that this is so of FIRST is clOk: open) -/
def ax_clone2 (X : ax_X) (mc ms : Nat) (k : ax_P) : ax_P := fun ls st c n z f => match st with
  | .ref a :: r => ∃ (nn : Nat) (g : Nat → Int32) (cell : Cell), X.2.2.2.1[a]? = some cell ∧ cell.cls = X.2.2.1 0 ∧ (∀ k : ClassId, cell.vm ≠ .statics k) ∧ cell.vm ≠ .unknown ∧ cell.slots = (vp_cell (X.2.2.1 0) (nn, .inl g)).slots ∧ (r.map fun v => v.category).sum ≤ 8 ∧ c + 1 ≤ mc ∧ n + nn ≤ ms ∧ k ls (.ref z :: r) (c + 1) (n + nn) (z + 1) (va_up f z (some (.inl (X.2.2.1 0, nn, .inl g))))
  | _ => False
section AXN2
variable {X : ax_X} {mi : ax_MI} {mc ms : Nat} {Q : Option Value → Nat → ax_F → Prop} {pc : Nat} {k : ax_P}
theorem sn_clone2 {idx : Nat} (hd : decode mi.2.1 pc = .ok (.invokevirtual idx, 3)) (hw : Cond.methodLink mi.1.cls idx ⟨"[I", "clone", "()Ljava/lang/Object;"⟩ ∈ ax_T) (hw1 : Cond.sameMethod "[I" "java/lang/Object" "clone" "()Ljava/lang/Object;" ∈ ax_T) (hw2 : Cond.native ⟨"java/lang/Object", "clone", "()Ljava/lang/Object;"⟩ ∈ ax_T)
    (hw3 : Cond.instanceMethod ⟨"java/lang/Object", "clone", "()Ljava/lang/Object;"⟩ ∈ ax_T) (hw4 : Cond.selects "[I" ⟨"[I", "clone", "()Ljava/lang/Object;"⟩ ⟨"java/lang/Object", "clone", "()Ljava/lang/Object;"⟩ ∈ ax_T) (hf : 1 ≤ mi.2.2.2.2) (hk : ax_S X mi mc ms Q (pc + 3) k) : ax_S X mi mc ms Q pc (ax_clone2 X mc ms k) := by
  intro ls st c n z f h p e s m args below meth co C H locs la hl hR hL hz
  unfold ax_clone2 at h
  split at h
  · rename_i a r
    obtain ⟨nn, g, cell, ha, hcls, hobj, hkn, hsl, hsum, h1, h2, h⟩ := h
    have hlt : a < X.2.2.2.1.size := (Array.getElem?_eq_some_iff.mp ha).1
    have hcell : H[a]? = some cell := by rw [hR.2.2.1 a hlt]; exact ha
    have hK := C.2.2.2.2.2.2.2.2.1
    have hnm : s.vm.findClass "[I" = some (X.2.2.1 0) := (hK.1.2 0 _ rfl).2
    obtain ⟨c0, t0', f1, f2, f3⟩ := Cond.castable_spec (va_Nw.use (A := args) rfl hK.2.2.2.2.2.2.2.1)
    cases hnm.symm.trans f1
    intro T hT Y
    obtain ⟨-, kA, hkA, comp, hkind⟩ := State.isArrayOf_alike Y.warmed.alike ((hK.1.2 0 _ rfl).1 0 (fun _ => .null))
    obtain ⟨-, kS, hkS, compS, hkindS⟩ := (hK.1.2 0 _ rfl).1 0 (fun _ => .null)
    have hsz : cell.slots.size = nn := by rw [hsl]; exact arrV_size _ _ _
    have hE : ({ cls := cell.cls, slots := cell.slots } : Cell) = vp_cell (X.2.2.1 0) (nn, .inl g) := by rw [hcls, hsl]; rfl
    obtain ⟨vm', X', stp⟩ := Y.cloneArray C.1 C.2.2.2.1 (C.2.2.2.2.1 _ (List.mem_cons_of_mem _ hw)) (C.2.2.2.2.1 _ (List.mem_cons_of_mem _ hw1)) (C.2.2.2.2.1 _ (List.mem_cons_of_mem _ hw2)) (C.2.2.2.2.1 _ (List.mem_cons_of_mem _ hw3)) (C.2.2.2.2.1 _ (List.mem_cons_of_mem _ hw4)) (a := a) (cell := cell) (by rw [hT]; exact hcell) hobj hkn (by rw [hcls]; exact hnm) f2 (by rw [hcls]; exact f3)
      (fun i v hv => by
        rw [hcls]
        have hk' : T.vm.classes[X.2.2.1 0]? = some kA := hkA
        rw [hsl] at hv
        have hv' : (Array.ofFn (n := nn) fun j => Value.int (g j.val))[i]? = some v := hv
        have hfit : fits .int v = true := by
          rw [Array.getElem?_ofFn] at hv'
          split at hv'
          · cases hv'; rfl
          · cases hv'
        simpa [State.fitsSlot, State.slotType?, hk', hkind] using hfit)
      (g := F0 m pc la (.ref a :: r)) rfl (by rw [C.2.2.1]; exact hl.1) rfl (by rw [C.2.1]; exact hd) hf (by show 2 * 0 + _ + 14 ≤ 64 * _; omega) h1 (by rw [hsz]; exact h2) (hloader := by rw [hcls]; exact Vm.clonesLoader_of_array hkS hkindS)
    rw [hsz, hE] at X'
    rw [hE] at stp
    have z1 : (H.push (vp_cell (X.2.2.1 0) (nn, .inl g))).size = H.size + 1 := Array.size_push _
    have e1 : (H.push (vp_cell (X.2.2.1 0) (nn, .inl g)))[z]? = some (vp_cell (X.2.2.1 0) (nn, .inl g)) := by rw [← hR.1, Array.getElem?_push_size]
    have o1 : ∀ q : Nat, q < H.size → (H.push (vp_cell (X.2.2.1 0) (nn, .inl g)))[q]? = H[q]? := fun q hq => by rw [Array.getElem?_push, if_neg (Nat.ne_of_lt hq)]
    obtain ⟨t, b1, b2⟩ := hk _ _ _ _ _ _ h p e s m args below meth co C _ locs la hl (hR.push z1 o1 e1) hL (by rw [z1]; omega) ((T.setVm vm').pushCell (vp_cell (X.2.2.1 0) (nn, .inl g))) (by rw [← hT]; rfl) X'
    refine ⟨t, stp t ?_, b2⟩
    rw [hT, hR.1]
    exact b1
  · exact h.elim
end AXN2
def bkX4_initC_0 (X : ax_X) (mc ms : Nat) (T : Option Value → Nat → Nat → Nat → ax_F → Prop) (K : Nat → ax_P) : ax_P :=
  (ax_al 0 (ax_obj (ax_al 0 (ax_gst X 0 (ax_clone2 X mc ms (ax_cast X (ax_pfr 3 0 (ax_al 0 (ax_lc (i6 (0)) (ax_pfl 3 1 (ax_al 0 (ax_lc (i6 (1)) (ax_pfl 3 2 (ax_vret T))))))))))))))
set_option maxRecDepth 100000 in
set_option maxHeartbeats 8000000 in
theorem sbX4_initC_0 (X : ax_X) (mc ms : Nat) (Q : Option Value → Nat → ax_F → Prop) : ax_S X mX4_init mc ms Q 0 (bkX4_initC_0 X mc ms (ax_Rt mc ms Q) (ax_G X mX4_init mc ms Q)) :=
  (sn_aload_n (i := 0) dX4_init_0 rfl (sn_obj dX4_init_1 tw_156 tw_17 tw_18 (by decide) (sn_aload_n (i := 0) dX4_init_4 rfl (sn_gst (j := 0) dX4_init_5 rfl tw_157 (sn_clone2 dX4_init_8 tw_159 (ax_inT (List.mem_append_right _ (List.mem_of_getElem? (i := 160) (by decide +kernel))) (by decide +kernel)) (ax_inT (List.mem_append_right _ (List.mem_of_getElem? (i := 161) (by decide +kernel))) (by decide +kernel)) tw_162 tw_163 (by decide) (sn_cast dX4_init_11 tw_165 (sn_pfr (T := TX4) (k := 0) dX4_init_14 rfl iuX4 tyX4_ok nmX4 (by decide) rfl tw_166 (Or.inr ⟨rfl, rfl, rfl⟩) rfl rfl (sn_aload_n (i := 0) dX4_init_17 rfl (sn_lconst (v := i6 (0)) dX4_init_18 (by decide) (sn_pfl (T := TX4) (k := 1) dX4_init_19 rfl iuX4 tyX4_ok nmX4 (by decide) rfl tw_167 (Or.inl rfl) rfl (sn_aload_n (i := 0) dX4_init_22 rfl (sn_lconst (v := i6 (1)) dX4_init_23 (by decide) (sn_pfl (T := TX4) (k := 2) dX4_init_24 rfl iuX4 tyX4_ok nmX4 (by decide) rfl tw_168 (Or.inl rfl) rfl (sn_vret dX4_init_27 rfl))))))))))))))
