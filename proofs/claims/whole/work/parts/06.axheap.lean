theorem ax_R.one {X : ax_X} {z : Nat} {f : ax_F} {H : Heap} {a : Nat} {e : va_E} (h : ax_R X z f H) (ha : f a = some e) : va_P X.2.1 vwCl [(a, e)] H := by
  intro k q hq
  have hk : k < 1 := (List.getElem?_eq_some_iff.mp hq).1
  rw [show k = 0 by omega] at hq
  cases hq
  exact (h.2.2.2 a e ha).2
/-! fields -/
def ax_gf (ci k : Nat) (kk : ax_P) : ax_P := fun ls st c n z f => match st with
  | .ref a :: r => (match f a with
    | some (.inr (cj, fs)) => cj = ci ∧ (match fs[k]? with
      | some v => kk ls (v :: r) c n z f
      | none => False)
    | _ => False)
  | _ => False
def ax_pfi (ci k : Nat) (kk : ax_P) : ax_P := fun ls st c n z f => match st with
  | .int x :: .ref a :: r => (match f a with
    | some (.inr (cj, fs)) => cj = ci ∧ k < fs.length ∧ kk ls r c n z (va_up f a (some (.inr (ci, fs.set k (.int x)))))
    | _ => False)
  | _ => False
def ax_pfz (ci k : Nat) (kk : ax_P) : ax_P := fun ls st c n z f => match st with
  | .int x :: .ref a :: r => (match f a with
    | some (.inr (cj, fs)) => cj = ci ∧ k < fs.length ∧ (x = 0 ∨ x = 1) ∧ kk ls r c n z (va_up f a (some (.inr (ci, fs.set k (.int x)))))
    | _ => False)
  | _ => False
def ax_pfl (ci k : Nat) (kk : ax_P) : ax_P := fun ls st c n z f => match st with
  | .long x :: .ref a :: r => (match f a with
    | some (.inr (cj, fs)) => cj = ci ∧ k < fs.length ∧ kk ls r c n z (va_up f a (some (.inr (ci, fs.set k (.long x)))))
    | _ => False)
  | _ => False
def ax_pfr (ci k : Nat) (kk : ax_P) : ax_P := fun ls st c n z f => match st with
  | .ref x :: .ref a :: r => (match f a with
    | some (.inr (cj, fs)) => cj = ci ∧ k < fs.length ∧ kk ls r c n z (va_up f a (some (.inr (ci, fs.set k (.ref x)))))
    | _ => False)
  | _ => False
section AXH
variable {X : ax_X} {mi : ax_MI} {mc ms : Nat} {Q : Option Value → Nat → ax_F → Prop} {pc : Nat} {kk : ax_P}
theorem sn_gf {idx ci k N : Nat} {Cn ref : String} {T : u_T} (hd : decode mi.2.1 pc = .ok (.getfield idx, 3)) (hc : vwCl[ci]? = some (Cn, T, N)) (hin : ∀ w ∈ u_ws Cn T N, w ∈ ax_T) (hkN : k < N) (hrf : ref = (T k).1) (hw : Cond.fieldLink mi.1.cls idx ref (T k).2.1 (T k).2.2.1 ∈ ax_T)
    (hk : ax_S X mi mc ms Q (pc + 3) kk) : ax_S X mi mc ms Q pc (ax_gf ci k kk) := by
  intro ls st c n z f h p e s m args below meth co C H locs la hl hR hL hz
  subst hrf
  unfold ax_gf at h
  split at h
  · split at h
    · rename_i ha
      obtain ⟨rfl, h⟩ := h
      split at h
      · rename_i hv
        exact va_get C.1 C.2.1 C.2.2.2.2.1 (fun w hw => List.mem_cons_of_mem _ (hin w hw)) C.2.2.2.1 C.2.2.2.2.2.2.2.2.1.1 (hR.one ha) 0 rfl hc k hkN (C.2.2.2.2.1 _ (List.mem_cons_of_mem _ hw)) (fun _ h9 => h9) hv hd (hk _ _ _ _ _ _ h p e s m args below meth co C H locs la hl hR hL hz)
      · exact h.elim
    · exact h.elim
  · exact h.elim
theorem sn_gfN {idx ci k N : Nat} {Cn ref host : String} {T : u_T} (hd : decode mi.2.1 pc = .ok (.getfield idx, 3)) (hc : vwCl[ci]? = some (Cn, T, N)) (hin : ∀ w ∈ u_ws Cn T N, w ∈ ax_T) (hkN : k < N) (hrf : ref = (T k).1) (hw : Cond.fieldLinkNest mi.1.cls idx ref (T k).2.1 (T k).2.2.1 host ∈ lw_tbl)
    (hk : ax_S X mi mc ms Q (pc + 3) kk) : ax_S X mi mc ms Q pc (ax_gf ci k kk) := by
  intro ls st c n z f h p e s m args below meth co C H locs la hl hR hL hz
  subst hrf
  unfold ax_gf at h
  split at h
  · split at h
    · rename_i ha
      obtain ⟨rfl, h⟩ := h
      split at h
      · rename_i hv
        exact va_getN C.1 C.2.1 C.2.2.2.2.1 (fun w hw => List.mem_cons_of_mem _ (hin w hw)) C.2.2.2.1 C.2.2.2.2.2.2.2.2.1.1 (hR.one ha) 0 rfl hc k hkN ((C.2.2.2.2.2.2.2.2.1.2.2.1 _ _ _ _ _ _ hw).use rfl) (fun _ h9 => h9) hv hd (hk _ _ _ _ _ _ h p e s m args below meth co C H locs la hl hR hL hz)
      · exact h.elim
    · exact h.elim
  · exact h.elim
/-- a store into a field, the pure part: the cell that comes of it -/
theorem ax_put_at {s : State} {args : Array Value} {ci k N a : Nat} {Cn : String} {T : u_T} {fs : List Value} {v : Value} {cell : Cell} {H1 : Heap} {ty0 : Nat → FieldType} (hc : vwCl[ci]? = some (Cn, T, N)) (hts : ∀ w ∈ ax_ws mi, w.before args s = true) (hin : ∀ w ∈ u_ws Cn T N, w ∈ ax_T) (hty : ∀ k, k < N → parseFieldDescriptor (T k).2.2.1 = some (ty0 k)) (hnm : ∀ a, a < N → ∀ b, b < N → a ≠ b → (T a).2.1 ≠ (T b).2.1) (hK : ax_K X s) (hkN : k < N) (hl : k < fs.length)
    (q2 : cell.cls = X.2.1.1 ci) (q3 : cell.vm = .none) (q4 : ∀ k, k < N → cell.slots[X.2.1.2 ci k]? = some (vp_V fs k)) (e1 : H1[a]? = some (cell.setSlot (X.2.1.2 ci k) v)) : va_at X.2.1 vwCl (a, .inr (ci, fs.set k v)) H1 := by
  have hap := va_apart (own := "") hts (fun w hw => List.mem_cons_of_mem _ (hin w hw)) ty0 hty hnm hK.1 hc
  exact ⟨_, hc, t_OB.to (V := updV (vp_V fs) k v) ⟨_, e1, q2, q3, t_set q4 hap hkN v⟩ (fun j _ => vp_updV_set hl v j)⟩
theorem ax_put {p : Program} {e : Env} {s : State} {m : MethodId} {args : Array Value} {below : List Frame} {meth : Method} {co : Code} {H : Heap} {locs : List Loc} {la : Array Slot} {c n z : Nat} {f : ax_F} {r : List Value} {Qw : State → Prop} {R : Room}
    {idx ci k N a : Nat} {Cn ref : String} {T : u_T} {fs : List Value} {v : Value} {ty : FieldType} {ty0 : Nat → FieldType} (C : ax_C X mi p s m args meth co) (hR : ax_R X z f H) (ha : f a = some (.inr (ci, fs)))
    (hd : decode mi.2.1 pc = .ok (.putfield idx, 3)) (hc : vwCl[ci]? = some (Cn, T, N)) (hin : ∀ w ∈ u_ws Cn T N, w ∈ ax_T) (hty : ∀ k, k < N → parseFieldDescriptor (T k).2.2.1 = some (ty0 k)) (hnm : ∀ a, a < N → ∀ b, b < N → a ≠ b → (T a).2.1 ≠ (T b).2.1) (hkN : k < N) (hrf : ref = (T k).1) (hw : Cond.fieldLink mi.1.cls idx ref (T k).2.1 (T k).2.2.1 ∈ ax_T)
    (hfin : (T k).2.2.2 = false ∨ ((T k).2.2.2 = true ∧ mi.1.name = "<init>" ∧ (T k).1 = mi.1.cls)) (hdt : parseFieldDescriptor (T k).2.2.1 = some ty) (hn : narrow ty v = v) (hfit : fits ty v = true) (hl : k < fs.length)
    (hkk : ∀ (H1 : Heap) (locs1 : List Loc), ax_R X z (va_up f a (some (.inr (ci, fs.set k v)))) H1 → (∀ q ∈ locs1, q ∈ locs ∨ q.base = a) → H1.size = H.size → W p X.1 e R s m args below meth co H1 locs1 c n Qw (F0 m (pc + 3) la r)) :
    W p X.1 e R s m args below meth co H locs c n Qw (F0 m pc la (v :: .ref a :: r)) := by
  subst hrf
  obtain ⟨hx, hb, hml, hown, hts, hrt, hlk, hname, hK, -⟩ := C
  have hinT : ∀ w ∈ u_ws Cn T N, w ∈ ax_ws mi := fun w hw => List.mem_cons_of_mem _ (hin w hw)
  obtain ⟨r', h1, cell, q1, q2, q3, q4⟩ := (hR.2.2.2 a _ ha).2
  have hr' : r' = (Cn, T, N) := Option.some.inj (h1.symm.trans hc)
  subst hr'
  obtain ⟨hS, hfc, kC, hkC, hkind⟩ := hK.1.1 ci _ hc
  obtain ⟨cf, kf, fi, fd, hi, hsl⟩ := hS k hkN
  have hlay := hts _ (hinT _ (u_in_lay hkN))
  unfold u_lay at hlay
  have hst := (u_facts hfc hkC (u_lays hts hinT hkN) hi).1
  rcases hfin with hfin | ⟨hfin, hin2, hdecl⟩
  · rw [if_neg (by rw [hfin]; decide)] at hlay
    have h6 := u_store hfc hkC hkind hlay hi hdt hn hfit
    refine W.putK hx hb (f := fd) ⟨hown, hts _ (List.mem_cons_of_mem _ hw), ⟨_, _, _, hi⟩, hst⟩ (by rw [q2]; exact h6) q1 q3 (by rw [hsl]; exact k2_hasslot (q4 k hkN)) rfl rfl hd fun H' e1 e2 e3 => ?_
    rw [hsl] at e1
    exact hkk H' _ (hR.set ha e2 e3 (ax_put_at hc hts hin hty hnm hK hkN hl q2 q3 q4 e1)) (fun q hq => by
      rcases List.mem_append.mp hq with h | h
      · exact Or.inl h
      · exact Or.inr (by rw [List.mem_singleton.mp h])) e2
  · rw [if_pos hfin] at hlay
    have hcf : m.cls = cf := by
      obtain ⟨_, _, c', _, _, _, -, -, hf', -, -, -, hown2, -⟩ := Cond.laysFinal_spec hlay
      have e1 : c' = cf := by have := hi.symm.trans hf'; simp at this; exact this.1.symm
      rw [hdecl] at hown2
      rw [← e1]; exact Option.some.inj (hown.symm.trans hown2)
    have h6 := u_fits hfc hkC hkind (Or.inr hlay) hi hdt hn hfit
    refine W.putFinK hx hb hown (hts _ (List.mem_cons_of_mem _ hw)) hi hst hcf (hname.trans hin2) (by rw [q2]; exact h6) q1 q3 (by rw [hsl]; exact k2_hasslot (q4 k hkN)) rfl rfl hd fun H' e1 e2 e3 => ?_
    rw [hsl] at e1
    exact hkk H' _ (hR.set ha e2 e3 (ax_put_at hc hts hin hty hnm hK hkN hl q2 q3 q4 e1)) (fun q hq => by
      rcases List.mem_append.mp hq with h | h
      · exact Or.inl h
      · exact Or.inr (by rw [List.mem_singleton.mp h])) e2
theorem sn_pfi {idx ci k N : Nat} {Cn ref : String} {T : u_T} {ty0 : Nat → FieldType} (hd : decode mi.2.1 pc = .ok (.putfield idx, 3)) (hc : vwCl[ci]? = some (Cn, T, N)) (hin : ∀ w ∈ u_ws Cn T N, w ∈ ax_T) (hty : ∀ k, k < N → parseFieldDescriptor (T k).2.2.1 = some (ty0 k)) (hnm : ∀ a, a < N → ∀ b, b < N → a ≠ b → (T a).2.1 ≠ (T b).2.1) (hkN : k < N) (hrf : ref = (T k).1) (hw : Cond.fieldLink mi.1.cls idx ref (T k).2.1 (T k).2.2.1 ∈ ax_T)
    (hfin : (T k).2.2.2 = false ∨ ((T k).2.2.2 = true ∧ mi.1.name = "<init>" ∧ (T k).1 = mi.1.cls)) (hdt : parseFieldDescriptor (T k).2.2.1 = some .int) (hk : ax_S X mi mc ms Q (pc + 3) kk) : ax_S X mi mc ms Q pc (ax_pfi ci k kk) := by
  intro ls st c n z f h p e s m args below meth co C H locs la hl hR hL hz
  unfold ax_pfi at h
  split at h
  · rename_i x a r
    split at h
    · rename_i ha
      obtain ⟨rfl, hlen, h⟩ := h
      have hA := (hR.2.2.2 _ _ ha).1
      exact ax_put C hR ha hd hc hin hty hnm hkN hrf hw hfin hdt rfl rfl hlen fun H1 locs1 hR1 hL1 hz1 => hk _ _ _ _ _ _ h p e s m args below meth co C H1 locs1 la hl hR1 (fun q hq => (hL1 q hq).elim (hL q) (fun e => by rw [e]; exact hA)) (by rw [hz1]; exact hz)
    · exact h.elim
  · exact h.elim
theorem sn_pfz {idx ci k N : Nat} {Cn ref : String} {T : u_T} {ty0 : Nat → FieldType} (hd : decode mi.2.1 pc = .ok (.putfield idx, 3)) (hc : vwCl[ci]? = some (Cn, T, N)) (hin : ∀ w ∈ u_ws Cn T N, w ∈ ax_T) (hty : ∀ k, k < N → parseFieldDescriptor (T k).2.2.1 = some (ty0 k)) (hnm : ∀ a, a < N → ∀ b, b < N → a ≠ b → (T a).2.1 ≠ (T b).2.1) (hkN : k < N) (hrf : ref = (T k).1) (hw : Cond.fieldLink mi.1.cls idx ref (T k).2.1 (T k).2.2.1 ∈ ax_T)
    (hfin : (T k).2.2.2 = false ∨ ((T k).2.2.2 = true ∧ mi.1.name = "<init>" ∧ (T k).1 = mi.1.cls)) (hdt : parseFieldDescriptor (T k).2.2.1 = some .boolean) (hk : ax_S X mi mc ms Q (pc + 3) kk) : ax_S X mi mc ms Q pc (ax_pfz ci k kk) := by
  intro ls st c n z f h p e s m args below meth co C H locs la hl hR hL hz
  unfold ax_pfz at h
  split at h
  · rename_i x a r
    split at h
    · rename_i ha
      obtain ⟨rfl, hlen, h01, h⟩ := h
      have hA := (hR.2.2.2 _ _ ha).1
      exact ax_put C hR ha hd hc hin hty hnm hkN hrf hw hfin hdt (by rcases h01 with q | q <;> rw [q] <;> decide) (by rcases h01 with q | q <;> rw [q] <;> decide) hlen fun H1 locs1 hR1 hL1 hz1 => hk _ _ _ _ _ _ h p e s m args below meth co C H1 locs1 la hl hR1 (fun q hq => (hL1 q hq).elim (hL q) (fun e => by rw [e]; exact hA)) (by rw [hz1]; exact hz)
    · exact h.elim
  · exact h.elim
theorem sn_pfl {idx ci k N : Nat} {Cn ref : String} {T : u_T} {ty0 : Nat → FieldType} (hd : decode mi.2.1 pc = .ok (.putfield idx, 3)) (hc : vwCl[ci]? = some (Cn, T, N)) (hin : ∀ w ∈ u_ws Cn T N, w ∈ ax_T) (hty : ∀ k, k < N → parseFieldDescriptor (T k).2.2.1 = some (ty0 k)) (hnm : ∀ a, a < N → ∀ b, b < N → a ≠ b → (T a).2.1 ≠ (T b).2.1) (hkN : k < N) (hrf : ref = (T k).1) (hw : Cond.fieldLink mi.1.cls idx ref (T k).2.1 (T k).2.2.1 ∈ ax_T)
    (hfin : (T k).2.2.2 = false ∨ ((T k).2.2.2 = true ∧ mi.1.name = "<init>" ∧ (T k).1 = mi.1.cls)) (hdt : parseFieldDescriptor (T k).2.2.1 = some .long) (hk : ax_S X mi mc ms Q (pc + 3) kk) : ax_S X mi mc ms Q pc (ax_pfl ci k kk) := by
  intro ls st c n z f h p e s m args below meth co C H locs la hl hR hL hz
  unfold ax_pfl at h
  split at h
  · rename_i x a r
    split at h
    · rename_i ha
      obtain ⟨rfl, hlen, h⟩ := h
      have hA := (hR.2.2.2 _ _ ha).1
      exact ax_put C hR ha hd hc hin hty hnm hkN hrf hw hfin hdt rfl rfl hlen fun H1 locs1 hR1 hL1 hz1 => hk _ _ _ _ _ _ h p e s m args below meth co C H1 locs1 la hl hR1 (fun q hq => (hL1 q hq).elim (hL q) (fun e => by rw [e]; exact hA)) (by rw [hz1]; exact hz)
    · exact h.elim
  · exact h.elim
theorem sn_pfr {idx ci k N : Nat} {Cn ref : String} {T : u_T} {ty : FieldType} {ty0 : Nat → FieldType} (hd : decode mi.2.1 pc = .ok (.putfield idx, 3)) (hc : vwCl[ci]? = some (Cn, T, N)) (hin : ∀ w ∈ u_ws Cn T N, w ∈ ax_T) (hty : ∀ k, k < N → parseFieldDescriptor (T k).2.2.1 = some (ty0 k)) (hnm : ∀ a, a < N → ∀ b, b < N → a ≠ b → (T a).2.1 ≠ (T b).2.1) (hkN : k < N) (hrf : ref = (T k).1) (hw : Cond.fieldLink mi.1.cls idx ref (T k).2.1 (T k).2.2.1 ∈ ax_T)
    (hfin : (T k).2.2.2 = false ∨ ((T k).2.2.2 = true ∧ mi.1.name = "<init>" ∧ (T k).1 = mi.1.cls)) (hdt : parseFieldDescriptor (T k).2.2.1 = some ty) (hrt : ty.isReference = true) (hk : ax_S X mi mc ms Q (pc + 3) kk) : ax_S X mi mc ms Q pc (ax_pfr ci k kk) := by
  intro ls st c n z f h p e s m args below meth co C H locs la hl hR hL hz
  unfold ax_pfr at h
  split at h
  · rename_i x a r
    split at h
    · rename_i ha
      obtain ⟨rfl, hlen, h⟩ := h
      have hA := (hR.2.2.2 _ _ ha).1
      exact ax_put C hR ha hd hc hin hty hnm hkN hrf hw hfin hdt (by cases ty <;> first | rfl | cases hrt) (by cases ty <;> first | rfl | cases hrt) hlen fun H1 locs1 hR1 hL1 hz1 => hk _ _ _ _ _ _ h p e s m args below meth co C H1 locs1 la hl hR1 (fun q hq => (hL1 q hq).elim (hL q) (fun e => by rw [e]; exact hA)) (by rw [hz1]; exact hz)
    · exact h.elim
  · exact h.elim
end AXH
