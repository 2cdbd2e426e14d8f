def ax_clone (X : ax_X) (mc ms : Nat) (k : ax_P) : ax_P := fun ls st c n z f => match st with
  | .ref a :: r => ∃ (nn : Nat) (g : Nat → Int32), a < X.2.2.2.1.size ∧ X.2.2.2.1[a]? = some (vp_cell (X.2.2.1 0) (nn, .inl g)) ∧ (r.map fun v => v.category).sum ≤ 8 ∧ c + 1 ≤ mc ∧ n + nn ≤ ms ∧ k ls (.ref z :: r) (c + 1) (n + nn) (z + 1) (va_up f z (some (.inl (X.2.2.1 0, nn, .inl g))))
  | _ => False
def ax_cast (X : ax_X) (k : ax_P) : ax_P := fun ls st c n z f => match st with
  | .ref a :: r => (match f a with
    | some (.inl (cA, nn, .inl g)) => cA = X.2.2.1 0 ∧ k ls (.ref a :: r) c n z f
    | _ => False)
  | _ => False
section AXN
variable {X : ax_X} {mi : ax_MI} {mc ms : Nat} {Q : Option Value → Nat → ax_F → Prop} {pc : Nat} {k : ax_P}
theorem sn_cast {idx : Nat} (hd : decode mi.2.1 pc = .ok (.checkcast idx, 3)) (hw : Cond.classLink mi.1.cls idx "[I" ∈ ax_T) (hk : ax_S X mi mc ms Q (pc + 3) k) : ax_S X mi mc ms Q pc (ax_cast X k) := by
  intro ls st c n z f h p e s m args below meth co C H locs la hl hR hL hz
  unfold ax_cast at h
  split at h
  · split at h
    · rename_i a r _ cA nn g ha
      obtain ⟨hc, h⟩ := h
      subst hc
      exact va_castA C.1 C.2.1 C.2.2.2.1 (C.2.2.2.2.1 _ (List.mem_cons_of_mem _ hw)) (hR.one ha) 0 rfl (C.2.2.2.2.2.2.2.2.1.1.2 0 _ rfl).2 hd (hk _ _ _ _ _ _ h p e s m args below meth co C H locs la hl hR hL hz)
    · exact h.elim
  · exact h.elim
theorem sn_clone {idx : Nat} (hd : decode mi.2.1 pc = .ok (.invokevirtual idx, 3)) (hw : Cond.methodLink mi.1.cls idx ⟨"[I", "clone", "()Ljava/lang/Object;"⟩ ∈ ax_T) (hw1 : Cond.sameMethod "[I" "java/lang/Object" "clone" "()Ljava/lang/Object;" ∈ ax_T) (hw2 : Cond.native ⟨"java/lang/Object", "clone", "()Ljava/lang/Object;"⟩ ∈ ax_T)
    (hw3 : Cond.instanceMethod ⟨"java/lang/Object", "clone", "()Ljava/lang/Object;"⟩ ∈ ax_T) (hw4 : Cond.selects "[I" ⟨"[I", "clone", "()Ljava/lang/Object;"⟩ ⟨"java/lang/Object", "clone", "()Ljava/lang/Object;"⟩ ∈ ax_T) (hf : 1 ≤ mi.2.2.2.2) (hk : ax_S X mi mc ms Q (pc + 3) k) : ax_S X mi mc ms Q pc (ax_clone X mc ms k) := by
  intro ls st c n z f h p e s m args below meth co C H locs la hl hR hL hz
  unfold ax_clone at h
  split at h
  · rename_i a r
    obtain ⟨nn, g, hlt, ha, hsum, h1, h2, h⟩ := h
    have hcell : H[a]? = some (vp_cell (X.2.2.1 0) (nn, .inl g)) := by rw [hR.2.2.1 a hlt]; exact ha
    have hK := C.2.2.2.2.2.2.2.2.1
    have hnm : s.vm.findClass "[I" = some (X.2.2.1 0) := (hK.1.2 0 _ rfl).2
    obtain ⟨c0, t0', f1, f2, f3⟩ := Cond.castable_spec (va_Nw.use (A := args) rfl hK.2.2.2.2.2.2.2.1)
    cases hnm.symm.trans f1
    intro T hT Y
    obtain ⟨-, kA, hkA, comp, hkind⟩ := State.isArrayOf_alike Y.warmed.alike ((hK.1.2 0 _ rfl).1 0 (fun _ => .null))
    obtain ⟨-, kS, hkS, compS, hkindS⟩ := (hK.1.2 0 _ rfl).1 0 (fun _ => .null)
    have hsz : (vp_cell (X.2.2.1 0) (nn, .inl g)).slots.size = nn := arrV_size _ _ _
    obtain ⟨vm', X', stp⟩ := Y.cloneArray C.1 C.2.2.2.1 (C.2.2.2.2.1 _ (List.mem_cons_of_mem _ hw)) (C.2.2.2.2.1 _ (List.mem_cons_of_mem _ hw1)) (C.2.2.2.2.1 _ (List.mem_cons_of_mem _ hw2)) (C.2.2.2.2.1 _ (List.mem_cons_of_mem _ hw3)) (C.2.2.2.2.1 _ (List.mem_cons_of_mem _ hw4)) (a := a) (cell := vp_cell (X.2.2.1 0) (nn, .inl g)) (by rw [hT]; exact hcell) (fun k h => by cases h) (fun h => by cases h) hnm f2 f3
      (fun i v hv => by
        rw [show (vp_cell (X.2.2.1 0) (nn, .inl g)).cls = X.2.2.1 0 from rfl]
        have hk' : T.vm.classes[X.2.2.1 0]? = some kA := hkA
        have hv' : (Array.ofFn (n := nn) fun j => Value.int (g j.val))[i]? = some v := hv
        have hfit : fits .int v = true := by
          rw [Array.getElem?_ofFn] at hv'
          split at hv'
          · cases hv'; rfl
          · cases hv'
        simpa [State.fitsSlot, State.slotType?, hk', hkind] using hfit)
      (g := F0 m pc la (.ref a :: r)) rfl (by rw [C.2.2.1]; exact hl.1) rfl (by rw [C.2.1]; exact hd) hf (by show 2 * 0 + _ + 14 ≤ 64 * _; omega) h1 (by rw [hsz]; exact h2) (hloader := Vm.clonesLoader_of_array hkS hkindS)
    rw [hsz] at X'
    have z1 : (H.push (vp_cell (X.2.2.1 0) (nn, .inl g))).size = H.size + 1 := Array.size_push _
    have e1 : (H.push (vp_cell (X.2.2.1 0) (nn, .inl g)))[z]? = some (vp_cell (X.2.2.1 0) (nn, .inl g)) := by rw [← hR.1, Array.getElem?_push_size]
    have o1 : ∀ q : Nat, q < H.size → (H.push (vp_cell (X.2.2.1 0) (nn, .inl g)))[q]? = H[q]? := fun q hq => by rw [Array.getElem?_push, if_neg (Nat.ne_of_lt hq)]
    obtain ⟨t, b1, b2⟩ := hk _ _ _ _ _ _ h p e s m args below meth co C _ locs la hl (hR.push z1 o1 e1) hL (by rw [z1]; omega) ((T.setVm vm').pushCell (vp_cell (X.2.2.1 0) (nn, .inl g))) (by rw [← hT]; rfl) X'
    refine ⟨t, stp t ?_, b2⟩
    rw [hT, hR.1]
    exact b1
  · exact h.elim
end AXN
