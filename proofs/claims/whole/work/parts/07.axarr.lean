theorem ax_sti (cA : ClassId) (n i : Nat) (g : Nat → Int32) (x : Int32) : (vp_cell cA (n, .inl g)).setSlot i (.int x) = vp_cell cA (n, .inl (va_up g i x)) := by
  rw [vp_cell_i, vp_cell_i, arrV_store]
  congr 1
  funext q
  by_cases hq : q = i <;> simp [updV, va_up, hq]
theorem ax_stl (cA : ClassId) (n i : Nat) (g : Nat → Int64) (x : Int64) : (vp_cell cA (n, .inr (.inl g))).setSlot i (.long x) = vp_cell cA (n, .inr (.inl (va_up g i x))) := by
  rw [vp_cell_l, vp_cell_l, arrV_store]
  congr 1
  funext q
  by_cases hq : q = i <;> simp [updV, va_up, hq]
theorem ax_stq (cA : ClassId) (n i v : Nat) (g : Nat → Option Nat) : (vp_cell cA (n, .inr (.inr (.inr (.inr g))))).setSlot i (.ref v) = vp_cell cA (n, .inr (.inr (.inr (.inr (va_up g i (some v)))))) := by
  rw [vp_cell_q, vp_cell_q, arrV_store]
  congr 1
  funext q
  by_cases hq : q = i <;> simp [updV, va_up, hq, va_rf]
def ax_iald (X : ax_X) (k : ax_P) : ax_P := fun ls st c n z f => match st with
  | .int i :: .ref a :: r => (match f a with
    | some (.inl (cA, nn, .inl g)) => cA = X.2.2.1 0 ∧ vp_in i nn ∧ k ls (.int (g i.toNatClampNeg) :: r) c n z f
    | _ => False)
  | _ => False
def ax_zald (X : ax_X) (k : ax_P) : ax_P := fun ls st c n z f => match st with
  | .int i :: .ref a :: r => (match f a with
    | some (.inl (cA, nn, .inl g)) => cA = X.2.2.1 2 ∧ vp_in i nn ∧ k ls (.int (g i.toNatClampNeg) :: r) c n z f
    | _ => False)
  | _ => False
def ax_lald (X : ax_X) (k : ax_P) : ax_P := fun ls st c n z f => match st with
  | .int i :: .ref a :: r => (match f a with
    | some (.inl (cA, nn, .inr (.inl g))) => cA = X.2.2.1 1 ∧ vp_in i nn ∧ k ls (.long (g i.toNatClampNeg) :: r) c n z f
    | _ => False)
  | _ => False
def ax_aald (X : ax_X) (t : Nat) (k : ax_P) : ax_P := fun ls st c n z f => match st with
  | .int i :: .ref a :: r => (match f a with
    | some (.inl (cA, nn, .inr (.inr (.inr (.inr g))))) => cA = X.2.2.1 t ∧ vp_in i nn ∧ k ls (va_rf (g i.toNatClampNeg) :: r) c n z f
    | _ => False)
  | _ => False
def ax_iast (X : ax_X) (k : ax_P) : ax_P := fun ls st c n z f => match st with
  | .int x :: .int i :: .ref a :: r => (match f a with
    | some (.inl (cA, nn, .inl g)) => cA = X.2.2.1 0 ∧ vp_in i nn ∧ k ls r c n z (va_up f a (some (.inl (cA, nn, .inl (va_up g i.toNatClampNeg x)))))
    | _ => False)
  | _ => False
def ax_zast (X : ax_X) (k : ax_P) : ax_P := fun ls st c n z f => match st with
  | .int x :: .int i :: .ref a :: r => (match f a with
    | some (.inl (cA, nn, .inl g)) => cA = X.2.2.1 2 ∧ vp_in i nn ∧ (x = 0 ∨ x = 1) ∧ k ls r c n z (va_up f a (some (.inl (cA, nn, .inl (va_up g i.toNatClampNeg x)))))
    | _ => False)
  | _ => False
def ax_last (X : ax_X) (k : ax_P) : ax_P := fun ls st c n z f => match st with
  | .long x :: .int i :: .ref a :: r => (match f a with
    | some (.inl (cA, nn, .inr (.inl g))) => cA = X.2.2.1 1 ∧ vp_in i nn ∧ k ls r c n z (va_up f a (some (.inl (cA, nn, .inr (.inl (va_up g i.toNatClampNeg x))))))
    | _ => False)
  | _ => False
def ax_aast (X : ax_X) (t ci : Nat) (k : ax_P) : ax_P := fun ls st c n z f => match st with
  | .ref v :: .int i :: .ref a :: r => (match f a with
    | some (.inl (cA, nn, .inr (.inr (.inr (.inr g))))) => cA = X.2.2.1 t ∧ vp_in i nn ∧ (match f v with
      | some (.inr (cj, _)) => cj = ci ∧ k ls r c n z (va_up f a (some (.inl (cA, nn, .inr (.inr (.inr (.inr (va_up g i.toNatClampNeg (some v)))))))))
      | _ => False)
    | _ => False)
  | _ => False
/-- the length of a row that was made: which kind it is of plays no part -/
def ax_alen (X : ax_X) (t : Nat) (k : ax_P) : ax_P := fun ls st c n z f => match st with
  | .ref a :: r => (match f a with
    | some (.inl (cA, nn, _)) => cA = X.2.2.1 t ∧ k ls (.int (Int32.ofNat nn) :: r) c n z f
    | _ => False)
  | _ => False
/-! rows that are only read: the script, the statics -/
def ax_ialdR (X : ax_X) (k : ax_P) : ax_P := fun ls st c n z f => match st with
  | .int i :: .ref a :: r => (match X.2.2.2.2.1 a with
    | some (nn, g) => vp_in i nn ∧ k ls (.int (g i.toNatClampNeg) :: r) c n z f
    | none => False)
  | _ => False
def ax_alenR (X : ax_X) (k : ax_P) : ax_P := fun ls st c n z f => match st with
  | .ref a :: r => (match X.2.2.2.2.1 a with
    | some (nn, _) => k ls (.int (Int32.ofNat nn) :: r) c n z f
    | none => False)
  | _ => False
def ax_gst (X : ax_X) (j : Nat) (k : ax_P) : ax_P := fun ls st c n z f => k ls (.ref (X.2.2.2.2.2 j) :: st) c n z f
/-! new cells -/
def ax_new (mc ms ci N : Nat) (fs : List Value) (k : ax_P) : ax_P := fun ls st c n z f => c + 1 ≤ mc ∧ n + N ≤ ms ∧ k ls (.ref z :: st) (c + 1) (n + N) (z + 1) (va_up f z (some (.inr (ci, fs))))
def ax_nwi (X : ax_X) (mc ms t : Nat) (k : ax_P) : ax_P := fun ls st c n z f => match st with
  | .int N :: r => ¬ N < 0 ∧ N.toNatClampNeg ≤ 1000000 ∧ c + 1 ≤ mc ∧ n + N.toNatClampNeg ≤ ms ∧ k ls (.ref z :: r) (c + 1) (n + N.toNatClampNeg) (z + 1) (va_up f z (some (.inl (X.2.2.1 t, N.toNatClampNeg, .inl (fun _ => 0)))))
  | _ => False
def ax_nwl (X : ax_X) (mc ms : Nat) (k : ax_P) : ax_P := fun ls st c n z f => match st with
  | .int N :: r => ¬ N < 0 ∧ N.toNatClampNeg ≤ 1000000 ∧ c + 1 ≤ mc ∧ n + N.toNatClampNeg ≤ ms ∧ k ls (.ref z :: r) (c + 1) (n + N.toNatClampNeg) (z + 1) (va_up f z (some (.inl (X.2.2.1 1, N.toNatClampNeg, .inr (.inl (fun _ => 0))))))
  | _ => False
def ax_nwq (X : ax_X) (mc ms t : Nat) (k : ax_P) : ax_P := fun ls st c n z f => match st with
  | .int N :: r => ¬ N < 0 ∧ N.toNatClampNeg ≤ 1000000 ∧ c + 1 ≤ mc ∧ n + N.toNatClampNeg ≤ ms ∧ k ls (.ref z :: r) (c + 1) (n + N.toNatClampNeg) (z + 1) (va_up f z (some (.inl (X.2.2.1 t, N.toNatClampNeg, .inr (.inr (.inr (.inr (fun _ => none))))))))
  | _ => False
section AXA
variable {X : ax_X} {mi : ax_MI} {mc ms : Nat} {Q : Option Value → Nat → ax_F → Prop} {pc : Nat} {k : ax_P}
theorem sn_iald (hd : decode mi.2.1 pc = .ok (.iaload, 1)) (hk : ax_S X mi mc ms Q (pc + 1) k) : ax_S X mi mc ms Q pc (ax_iald X k) := by
  intro ls st c n z f h p e s m args below meth co C H locs la hl hR hL hz
  unfold ax_iald at h
  split at h
  · split at h
    · rename_i ha
      obtain ⟨rfl, hin, h⟩ := h
      exact va_iald C.1 C.2.1 C.2.2.2.2.2.2.2.2.1.1 (hR.one ha) 0 0 rfl rfl hin hd (hk _ _ _ _ _ _ h p e s m args below meth co C H locs la hl hR hL hz)
    · exact h.elim
  · exact h.elim
theorem sn_zald (hd : decode mi.2.1 pc = .ok (.baload, 1)) (hk : ax_S X mi mc ms Q (pc + 1) k) : ax_S X mi mc ms Q pc (ax_zald X k) := by
  intro ls st c n z f h p e s m args below meth co C H locs la hl hR hL hz
  unfold ax_zald at h
  split at h
  · split at h
    · rename_i ha
      obtain ⟨rfl, hin, h⟩ := h
      exact va_zald C.1 C.2.1 C.2.2.2.2.2.2.2.2.1.1 (hR.one ha) 0 2 rfl rfl hin hd (hk _ _ _ _ _ _ h p e s m args below meth co C H locs la hl hR hL hz)
    · exact h.elim
  · exact h.elim
theorem sn_lald (hd : decode mi.2.1 pc = .ok (.laload, 1)) (hk : ax_S X mi mc ms Q (pc + 1) k) : ax_S X mi mc ms Q pc (ax_lald X k) := by
  intro ls st c n z f h p e s m args below meth co C H locs la hl hR hL hz
  unfold ax_lald at h
  split at h
  · split at h
    · rename_i ha
      obtain ⟨rfl, hin, h⟩ := h
      exact va_lald C.1 C.2.1 C.2.2.2.2.2.2.2.2.1.1 (hR.one ha) 0 1 rfl rfl hin hd (hk _ _ _ _ _ _ h p e s m args below meth co C H locs la hl hR hL hz)
    · exact h.elim
  · exact h.elim
theorem sn_aald {t : Nat} {ty : FieldType} (hd : decode mi.2.1 pc = .ok (.aaload, 1)) (ht : (ax_tys X)[t]? = some (X.2.2.1 t, ty)) (hty : ty.isReference = true) (hk : ax_S X mi mc ms Q (pc + 1) k) : ax_S X mi mc ms Q pc (ax_aald X t k) := by
  intro ls st c n z f h p e s m args below meth co C H locs la hl hR hL hz
  unfold ax_aald at h
  split at h
  · rename_i i a r
    split at h
    · rename_i cA nn g ha
      obtain ⟨rfl, hin, h⟩ := h
      have hlt : i.toNatClampNeg < nn := Nat.not_le.mp fun q => hin (Or.inr q)
      exact W.aald (v := va_rf (g i.toNatClampNeg)) C.1 C.2.1 (hR.one ha 0 _ rfl) ((C.2.2.2.2.2.2.2.2.1.1.2 t _ ht).1 nn (fun j => va_rf (g j))) hty (fun q => by cases q) (by show ¬ (i < 0 ∨ (arrV _ _ _).slots.size ≤ _); rw [arrV_size]; exact hin) (by show (arrV _ _ _).slots[_]? = _; rw [arrV_read _ _ hlt]) rfl rfl hd (hk _ _ _ _ _ _ h p e s m args below meth co C H locs la hl hR hL hz)
    · exact h.elim
  · exact h.elim
theorem sn_iast (hd : decode mi.2.1 pc = .ok (.iastore, 1)) (hk : ax_S X mi mc ms Q (pc + 1) k) : ax_S X mi mc ms Q pc (ax_iast X k) := by
  intro ls st c n z f h p e s m args below meth co C H locs la hl hR hL hz
  unfold ax_iast at h
  split at h
  · rename_i x i a r
    split at h
    · rename_i cA nn g ha
      obtain ⟨rfl, hin, h⟩ := h
      have hA := (hR.2.2.2 _ _ ha).1
      refine W.iast C.1 C.2.1 (hR.one ha 0 _ rfl) ((C.2.2.2.2.2.2.2.2.1.1.2 0 _ rfl).1 nn (fun j => .int (g j))) (fun q => by cases q) (by show ¬ (i < 0 ∨ (arrV _ _ _).slots.size ≤ _); rw [arrV_size]; exact hin) rfl rfl hd fun H1 e1 z1 oq => ?_
      exact hk _ _ _ _ _ _ h p e s m args below meth co C H1 _ la hl (hR.set ha z1 oq (by show H1[a]? = some (vp_cell _ _); rw [e1]; exact congrArg some (ax_sti _ _ _ _ _))) (fun q hq => (List.mem_append.mp hq).elim (hL q) (fun h9 => by rw [List.mem_singleton.mp h9]; exact hA)) (by rw [z1]; exact hz)
    · exact h.elim
  · exact h.elim
theorem sn_zast (hd : decode mi.2.1 pc = .ok (.bastore, 1)) (hk : ax_S X mi mc ms Q (pc + 1) k) : ax_S X mi mc ms Q pc (ax_zast X k) := by
  intro ls st c n z f h p e s m args below meth co C H locs la hl hR hL hz
  unfold ax_zast at h
  split at h
  · rename_i x i a r
    split at h
    · rename_i cA nn g ha
      obtain ⟨rfl, hin, h01, h⟩ := h
      have hA := (hR.2.2.2 _ _ ha).1
      have hnr : narrow .boolean (.int x) = .int x := by rcases h01 with q | q <;> rw [q] <;> decide
      refine W.zast C.1 C.2.1 (hR.one ha 0 _ rfl) ((C.2.2.2.2.2.2.2.2.1.1.2 2 _ rfl).1 nn (fun j => .int (g j))) (fun q => by cases q) (by show ¬ (i < 0 ∨ (arrV _ _ _).slots.size ≤ _); rw [arrV_size]; exact hin) rfl rfl hd fun H1 e1 z1 oq => ?_
      rw [hnr] at e1
      exact hk _ _ _ _ _ _ h p e s m args below meth co C H1 _ la hl (hR.set ha z1 oq (by show H1[a]? = some (vp_cell _ _); rw [e1]; exact congrArg some (ax_sti _ _ _ _ _))) (fun q hq => (List.mem_append.mp hq).elim (hL q) (fun h9 => by rw [List.mem_singleton.mp h9]; exact hA)) (by rw [z1]; exact hz)
    · exact h.elim
  · exact h.elim
theorem sn_last (hd : decode mi.2.1 pc = .ok (.lastore, 1)) (hk : ax_S X mi mc ms Q (pc + 1) k) : ax_S X mi mc ms Q pc (ax_last X k) := by
  intro ls st c n z f h p e s m args below meth co C H locs la hl hR hL hz
  unfold ax_last at h
  split at h
  · rename_i x i a r
    split at h
    · rename_i cA nn g ha
      obtain ⟨rfl, hin, h⟩ := h
      have hA := (hR.2.2.2 _ _ ha).1
      refine W.last C.1 C.2.1 (hR.one ha 0 _ rfl) ((C.2.2.2.2.2.2.2.2.1.1.2 1 _ rfl).1 nn (fun j => .long (g j))) (fun q => by cases q) (by show ¬ (i < 0 ∨ (arrV _ _ _).slots.size ≤ _); rw [arrV_size]; exact hin) rfl rfl hd fun H1 e1 z1 oq => ?_
      exact hk _ _ _ _ _ _ h p e s m args below meth co C H1 _ la hl (hR.set ha z1 oq (by show H1[a]? = some (vp_cell _ _); rw [e1]; exact congrArg some (ax_stl _ _ _ _ _))) (fun q hq => (List.mem_append.mp hq).elim (hL q) (fun h9 => by rw [List.mem_singleton.mp h9]; exact hA)) (by rw [z1]; exact hz)
    · exact h.elim
  · exact h.elim
theorem sn_aast {t ci : Nat} {r0 : vw_C} (hd : decode mi.2.1 pc = .ok (.aastore, 1)) (ht : (ax_tys X)[t]? = some (X.2.2.1 t, .object r0.1)) (hc : vwCl[ci]? = some r0) (hk : ax_S X mi mc ms Q (pc + 1) k) : ax_S X mi mc ms Q pc (ax_aast X t ci k) := by
  intro ls st c n z f h p e s m args below meth co C H locs la hl hR hL hz
  unfold ax_aast at h
  split at h
  · rename_i v i a r
    split at h
    · rename_i cA nn g ha
      obtain ⟨rfl, hin, h⟩ := h
      split at h
      · rename_i cj fs hv
        obtain ⟨rfl, h⟩ := h
        have hA := (hR.2.2.2 _ _ ha).1
        have hK := C.2.2.2.2.2.2.2.2.1.1
        have hlt : i.toNatClampNeg < nn := Nat.not_le.mp fun q => hin (Or.inr q)
        have h0 : ¬ i < 0 := fun q => hin (Or.inl q)
        obtain ⟨r', hr', cellV, g1, g2, g3, -⟩ := (hR.2.2.2 _ _ hv).2
        have hcls := (hK.1 cj r0 hc).2
        obtain ⟨kA, comp, k1, k2, k3, -⟩ := (hK.2 t _ ht).2
        have hcomp : comp = X.2.1.1 cj := Option.some.inj (k3.symm.trans hcls.1)
        subst hcomp
        obtain ⟨kC, hkC, -⟩ := hcls.2
        refine W.aast C.1 C.2.1 (hR.one ha 0 _ rfl) (fun q h => by cases h) (fun h => by cases h) k1 k2 rfl hkC ⟨h0, by show _ < (arrV _ _ _).slots.size; rw [arrV_size]; exact hlt⟩ g1 (fun q h => by rw [g3] at h; cases h) (by rw [g2]; exact hkC) (by rw [g2]; exact va_assign hcls) rfl rfl hd fun H1 e1 z1 oq => ?_
        exact hk _ _ _ _ _ _ h p e s m args below meth co C H1 _ la hl (hR.set ha z1 oq (by show H1[a]? = some (vp_cell _ _); rw [e1]; exact congrArg some (ax_stq _ _ _ _ _))) (fun q hq => (List.mem_append.mp hq).elim (hL q) (fun h9 => by rw [List.mem_singleton.mp h9]; exact hA)) (by rw [z1]; exact hz)
      · exact h.elim
    · exact h.elim
  · exact h.elim
theorem sn_alen {t : Nat} {ty : FieldType} (hd : decode mi.2.1 pc = .ok (.arraylength, 1)) (ht : (ax_tys X)[t]? = some (X.2.2.1 t, ty)) (hk : ax_S X mi mc ms Q (pc + 1) k) : ax_S X mi mc ms Q pc (ax_alen X t k) := by
  intro ls st c n z f h p e s m args below meth co C H locs la hl hR hL hz
  unfold ax_alen at h
  split at h
  · split at h
    · rename_i ha
      obtain ⟨rfl, h⟩ := h
      exact va_alen C.1 C.2.1 C.2.2.2.2.2.2.2.2.1.1 (hR.one ha) 0 t rfl ht rfl hd (hk _ _ _ _ _ _ h p e s m args below meth co C H locs la hl hR hL hz)
    · exact h.elim
  · exact h.elim
theorem ax_old {p : Program} {s : State} {m : MethodId} {args : Array Value} {meth : Method} {co : Code} {H : Heap} {locs : List Loc} {z : Nat} {f : ax_F} (C : ax_C X mi p s m args meth co) (hR : ax_R X z f H) (hL : ∀ q ∈ locs, ax_A X q.base) (hz : s.heap.size ≤ H.size) :
    (∀ a : Nat, a < X.2.2.2.1.size → ¬ ax_A X a → s.heap[a]? = X.2.2.2.1[a]?) ∧ va_S (ax_A X) s.heap H locs := by
  obtain ⟨-, -, -, -, -, -, -, -, -, -, ho⟩ := C
  exact ⟨fun a h1 _ => ho a h1, hz, fun q _ h2 => by rw [hR.2.2.1 q (Nat.not_le.mp h2), ho q (Nat.not_le.mp h2)], hL⟩
theorem sn_ialdR (hd : decode mi.2.1 pc = .ok (.iaload, 1)) (hk : ax_S X mi mc ms Q (pc + 1) k) : ax_S X mi mc ms Q pc (ax_ialdR X k) := by
  intro ls st c n z f h p e s m args below meth co C H locs la hl hR hL hz
  obtain ⟨ho, hS⟩ := ax_old C hR hL hz
  unfold ax_ialdR at h
  split at h
  · split at h
    · rename_i ha
      exact va_ti C.1 C.2.1 ((C.2.2.2.2.2.2.2.2.1.2.2.2.2.2.1 _ _ _ ha).kept ho) hS h.1 rfl hd (hk _ _ _ _ _ _ h.2 p e s m args below meth co C H locs la hl hR hL hz)
    · exact h.elim
  · exact h.elim
theorem sn_alenR (hd : decode mi.2.1 pc = .ok (.arraylength, 1)) (hk : ax_S X mi mc ms Q (pc + 1) k) : ax_S X mi mc ms Q pc (ax_alenR X k) := by
  intro ls st c n z f h p e s m args below meth co C H locs la hl hR hL hz
  obtain ⟨ho, hS⟩ := ax_old C hR hL hz
  unfold ax_alenR at h
  split at h
  · split at h
    · rename_i ha
      exact va_tlen C.1 C.2.1 ((C.2.2.2.2.2.2.2.2.1.2.2.2.2.2.1 _ _ _ ha).kept ho) hS rfl hd (hk _ _ _ _ _ _ h p e s m args below meth co C H locs la hl hR hL hz)
    · exact h.elim
  · exact h.elim
theorem sn_gst {j idx : Nat} {q : String × String} (hd : decode mi.2.1 pc = .ok (.getstatic idx, 3)) (hj : ax_stf[j]? = some q) (hw : Cond.fieldLink mi.1.cls idx q.1 q.2 "[I" ∈ ax_T) (hk : ax_S X mi mc ms Q (pc + 3) k) : ax_S X mi mc ms Q pc (ax_gst X j k) := by
  intro ls st c n z f h p e s m args below meth co C H locs la hl hR hL hz
  obtain ⟨ho, hS⟩ := ax_old C hR hL hz
  exact va_gets C.1 C.2.1 ((C.2.2.2.2.2.2.2.2.1.2.2.2.2.2.2.1 j q hj).kept ho) hS C.2.2.2.1 (C.2.2.2.2.1 _ (List.mem_cons_of_mem _ hw)) (fun _ h9 => h9) hd (hk _ _ _ _ _ _ h p e s m args below meth co C H locs la hl hR hL hz)
theorem sn_new {idx ci N : Nat} {Cn : String} {T : u_T} {ty0 : Nat → FieldType} {fs : List Value} (hd : decode mi.2.1 pc = .ok (.new idx, 3)) (hc : vwCl[ci]? = some (Cn, T, N)) (hin : ∀ w ∈ u_ws Cn T N, w ∈ ax_T) (hty : ∀ k, k < N → parseFieldDescriptor (T k).2.2.1 = some (ty0 k)) (hw1 : Cond.classLink mi.1.cls idx Cn ∈ ax_T) (hw2 : Cond.instantiable Cn N ∈ ax_T) (hw3 : Cond.initialized Cn ∈ ax_T)
    (hfs : ∀ j, j < N → defaultValue (ty0 j) = vp_V fs j) (hk : ax_S X mi mc ms Q (pc + 3) k) : ax_S X mi mc ms Q pc (ax_new mc ms ci N fs k) := by
  intro ls st c n z f h p e s m args below meth co C H locs la hl hR hL hz
  obtain ⟨h1, h2, h⟩ := h
  have hts := C.2.2.2.2.1
  have hKn := C.2.2.2.2.2.2.2.2.1.1.1 ci _ hc
  refine W.newcK C.1 C.2.1 C.2.2.2.1 (hts _ (List.mem_cons_of_mem _ hw1)) (hts _ (List.mem_cons_of_mem _ hw2)) (hts _ (List.mem_cons_of_mem _ hw3)) rfl hd h1 h2 hKn.2.1 hR.1 fun H1 kC hkC e1 z1 o1 => ?_
  exact hk _ _ _ _ _ _ h p e s m args below meth co C H1 locs la hl (hR.push (by rw [z1, hR.1]) (fun q hq => o1 q (by rw [hR.1] at hq; exact hq)) ⟨_, hc, (u_born ty0 hts (fun w hw => List.mem_cons_of_mem _ (hin w hw)) hKn hkC e1 hty).to hfs⟩) hL (by rw [z1, ← hR.1]; omega)
theorem sn_nwi {t : Nat} {at0 : ArrayType} (hd : decode mi.2.1 pc = .ok (.newarray at0, 2)) (hw : Cond.arrayClass (newarray.typeOf at0) ∈ ax_T) (ht : (ax_tys X)[t]? = some (X.2.2.1 t, newarray.typeOf at0)) (hdv : defaultValue (newarray.typeOf at0) = .int 0) (hcb : componentBytes (newarray.typeOf at0) ≤ 8) (hra : ∀ (U : State) (cA : ClassId), va_RA U cA (newarray.typeOf at0) → U.vm.findClass ("[" ++ (newarray.typeOf at0).toString) = some cA) (hk : ax_S X mi mc ms Q (pc + 2) k) : ax_S X mi mc ms Q pc (ax_nwi X mc ms t k) := by
  intro ls st c n z f h p e s m args below meth co C H locs la hl hR hL hz
  unfold ax_nwi at h
  split at h
  · rename_i N r
    obtain ⟨h0, hb, h1, h2, h⟩ := h
    refine va_newaK C.1 C.2.1 (C.2.2.2.2.1 _ (List.mem_cons_of_mem _ hw)) rfl hd rfl h0 rfl (by have := Nat.mul_le_mul hb hcb; omega) h1 h2 hR.1 fun H1 cA e1 z1 o1 hAr hNm => ?_
    have hcA : cA = X.2.2.1 t := Option.some.inj (hNm.symm.trans (hra s _ (C.2.2.2.2.2.2.2.2.1.1.2 t _ ht).2))
    subst hcA
    exact hk _ _ _ _ _ _ h p e s m args below meth co C H1 locs la hl (hR.push (by rw [z1, hR.1]) (fun q hq => o1 q (by rw [hR.1] at hq; exact hq)) (by show H1[z]? = some (vp_cell _ _); rw [e1, hdv]; rfl)) hL (by rw [z1, ← hR.1]; omega)
  · exact h.elim
theorem sn_nwl {at0 : ArrayType} (hd : decode mi.2.1 pc = .ok (.newarray at0, 2)) (hw : Cond.arrayClass (newarray.typeOf at0) ∈ ax_T) (ht : newarray.typeOf at0 = .long) (hk : ax_S X mi mc ms Q (pc + 2) k) : ax_S X mi mc ms Q pc (ax_nwl X mc ms k) := by
  intro ls st c n z f h p e s m args below meth co C H locs la hl hR hL hz
  unfold ax_nwl at h
  split at h
  · rename_i N r
    obtain ⟨h0, hb, h1, h2, h⟩ := h
    refine va_newaK C.1 C.2.1 (C.2.2.2.2.1 _ (List.mem_cons_of_mem _ hw)) rfl hd rfl h0 rfl (by rw [ht]; have := Nat.mul_le_mul hb (show componentBytes .long ≤ 8 by decide); omega) h1 h2 hR.1 fun H1 cA e1 z1 o1 hAr hNm => ?_
    rw [ht] at e1 hNm
    have hcA : cA = X.2.2.1 1 := Option.some.inj (hNm.symm.trans (C.2.2.2.2.2.2.2.2.1.1.2 1 _ rfl).2)
    subst hcA
    exact hk _ _ _ _ _ _ h p e s m args below meth co C H1 locs la hl (hR.push (by rw [z1, hR.1]) (fun q hq => o1 q (by rw [hR.1] at hq; exact hq)) (by show H1[z]? = some (vp_cell _ _); rw [e1]; rfl)) hL (by rw [z1, ← hR.1]; omega)
  · exact h.elim
theorem sn_nwq {t idx : Nat} {Cn : String} (hd : decode mi.2.1 pc = .ok (.anewarray idx, 3)) (hw : Cond.classLink mi.1.cls idx Cn ∈ ax_T) (ht : (ax_tys X)[t]? = some (X.2.2.1 t, .object Cn)) (hov : ∀ U : State, ax_K X U → va_AO Cn U) (hk : ax_S X mi mc ms Q (pc + 3) k) : ax_S X mi mc ms Q pc (ax_nwq X mc ms t k) := by
  intro ls st c n z f h p e s m args below meth co C H locs la hl hR hL hz
  unfold ax_nwq at h
  split at h
  · rename_i N r
    obtain ⟨h0, hb, h1, h2, h⟩ := h
    refine W.anew C.1 C.2.1 C.2.2.2.1 (C.2.2.2.2.1 _ (List.mem_cons_of_mem _ hw)) (va_AO.use (hov s C.2.2.2.2.2.2.2.2.1)) rfl hd rfl h0 (by omega) h1 h2 fun cA kA comp f1 f2 f3 f4 => ?_
    obtain ⟨kA', comp', k1, k2, k3, k4⟩ := (C.2.2.2.2.2.2.2.2.1.1.2 t _ ht).2
    have hcA : cA = X.2.2.1 t := Option.some.inj (f1.symm.trans k4)
    subst hcA
    have hz1 : H.size = z := hR.1
    generalize hH1 : H.push ({ cls := X.2.2.1 t, slots := Array.replicate N.toNatClampNeg .null, vm := .none } : Cell) = H1
    have z1 : H1.size = H.size + 1 := by rw [← hH1, Array.size_push]
    have e1 : H1[H.size]? = some (arrV (X.2.2.1 t) N.toNatClampNeg (fun _ => .null)) := by rw [← hH1, Array.getElem?_push_size, ← arrV_new]
    have o1 : ∀ q : Nat, q < H.size → H1[q]? = H[q]? := fun q hq => by rw [← hH1, Array.getElem?_push, if_neg (Nat.ne_of_lt hq)]
    show W p X.1 e _ s m args below meth co H1 locs (c + 1) (n + N.toNatClampNeg) _ (F0 m (pc + 3) la (.ref H.size :: r))
    rw [hz1]
    exact hk _ _ _ _ _ _ h p e s m args below meth co C H1 locs la hl (hR.push z1 o1 (by show H1[z]? = some (vp_cell _ _); rw [← hz1, e1]; rfl)) hL (by rw [z1]; omega)
  · exact h.elim
end AXA
