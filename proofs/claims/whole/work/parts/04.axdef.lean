/-! A pure picture of the machine: locals as a row of places, the heap as a table of cells by address. -/
abbrev ax_F : Type := Nat → Option va_E
abbrev ax_P : Type := List (Option Value) → List Value → Nat → Nat → Nat → ax_F → Prop
abbrev ax_X : Type := Launch × va_G × (Nat → ClassId) × Heap × (Nat → Option (Nat × (Nat → Int32))) × (Nat → Nat)
abbrev ax_MI : Type := MethodName × ByteArray × Nat × Option FieldType × Nat
def ax_T : List Cond := lw_tbl.filter goodWord
theorem ax_good : ∀ w ∈ ax_T, goodWord w = true := fun w h => (List.mem_filter.mp h).2
theorem ax_inT {w : Cond} (h : w ∈ lw_tbl) (hg : goodWord w = true) : w ∈ ax_T := List.mem_filter.mpr ⟨h, hg⟩
def ax_ws (mi : ax_MI) : List Cond := .code mi.1 mi.2.1 mi.2.2.1 mi.2.2.2.1 :: ax_T
def ax_rm (d mc ms : Nat) : Room := { frames := d, cells := mc, slots := ms, locals := 64 * d }
abbrev ax_A (X : ax_X) : Nat → Prop := fun q => X.2.2.2.1.size ≤ q
abbrev ax_tys (X : ax_X) : List (ClassId × FieldType) := [(X.2.2.1 0, .int), (X.2.2.1 1, .long), (X.2.2.1 2, .boolean), (X.2.2.1 3, .object RX4), (X.2.2.1 4, .object RX5), (X.2.2.1 5, .array .long)]
def ax_stf : List (String × String) := [(RX4, "FIRST"), (RX4, "LEAST"), (RX4, "MOST"), (RX4, "DROP_BY_BORE"), (RX1, "SUMS")]
/-- rows of rows of longs can be made -/
def ax_AL (U : State) : Prop := (Cond.arrayOver (.array .long)).before #[] U = true
theorem ax_AL.use {A : Array Value} {U : State} (h : ax_AL U) : (Cond.arrayOver (.array .long)).before A U = true := h
theorem ax_AL.moved {u U : State} (hvm : u.vm.Alike U.vm) (h : ax_AL u) : ax_AL U := by
  have e := Cond.arrayOver_setVmC (args := (#[] : Array Value)) (s := u) (vm' := U.vm) hvm (.array .long)
  have h2 := e.trans h
  unfold Cond.before Cond.holds at h2
  unfold ax_AL Cond.before Cond.holds
  simp only [Cond.value] at h2 ⊢
  exact h2
def ax_K (X : ax_X) (U : State) : Prop :=
  va_K X.2.1 vwCl (ax_tys X) U ∧ (∀ (a : String) (i : Nat) (x : MethodName) (h : String), Cond.methodLinkNest a i x h ∈ lw_tbl → va_Nw (.methodLinkNest a i x h) U) ∧ (∀ (a : String) (i : Nat) (b n d h : String), Cond.fieldLinkNest a i b n d h ∈ lw_tbl → va_Nw (.fieldLinkNest a i b n d h) U) ∧
  va_AO RX4 U ∧ va_AO RX5 U ∧
  (∀ (a n : Nat) (g : Nat → Int32), X.2.2.2.2.1 a = some (n, g) → va_T .int a n (fun j => .int (g j)) (ax_A X) U X.2.2.2.1) ∧
  (∀ (k : Nat) (q : String × String), ax_stf[k]? = some q → va_Z q.1 q.2 "[I" (.ref (X.2.2.2.2.2 k)) (ax_A X) U X.2.2.2.1) ∧
  va_Nw (.castable "[I" "java/lang/Cloneable") U ∧ ax_AL U
theorem ax_K_warm {X : ax_X} {s U : State} (h : ax_K X s) (hW : s.WarmedH U.vm) : ax_K X U := by
  obtain ⟨h1, h2, h3, h4, h5, h6, h7, h8, h9⟩ := h
  exact ⟨h1.moved hW.alike, fun a i x h q => (h2 a i x h q).warmM hW, fun a i b n d h q => (h3 a i b n d h q).warmF hW, h4.moved hW.alike, h5.moved hW.alike, fun a n g q => (h6 a n g q).moved hW.alike, fun k q hq => (h7 k q hq).moved hW.alike, h8.warmC hW, h9.moved hW.alike⟩
theorem ax_K_same {X : ax_X} {s U : State} (h : ax_K X s) (hv : s.vm = U.vm) : ax_K X U := by
  obtain ⟨h1, h2, h3, h4, h5, h6, h7, h8, h9⟩ := h
  have ha : s.vm.Alike U.vm := by rw [hv]; exact Vm.Alike.refl _
  exact ⟨h1.moved ha, fun a i x h q => (h2 a i x h q).same rfl hv, fun a i b n d h q => (h3 a i b n d h q).same rfl hv, h4.moved ha, h5.moved ha, fun a n g q => (h6 a n g q).moved ha, fun k q hq => (h7 k q hq).moved ha, h8.same rfl hv, h9.moved ha⟩
/-- the heap holds the table of cells; below it nothing has changed -/
def ax_R (X : ax_X) (z : Nat) (f : ax_F) (H : Heap) : Prop :=
  H.size = z ∧ X.2.2.2.1.size ≤ z ∧ (∀ q : Nat, q < X.2.2.2.1.size → H[q]? = X.2.2.2.1[q]?) ∧ ∀ (a : Nat) (e : va_E), f a = some e → X.2.2.2.1.size ≤ a ∧ va_at X.2.1 vwCl (a, e) H
theorem ax_R.set {X : ax_X} {z : Nat} {f : ax_F} {H H1 : Heap} {a : Nat} {e e0 : va_E} (h : ax_R X z f H) (h0 : f a = some e0) (hz : H1.size = H.size) (ho : ∀ q : Nat, q ≠ a → H1[q]? = H[q]?) (he : va_at X.2.1 vwCl (a, e) H1) : ax_R X z (va_up f a (some e)) H1 := by
  obtain ⟨r1, r2, r3, r4⟩ := h
  have ha : X.2.2.2.1.size ≤ a := (r4 a e0 h0).1
  refine ⟨hz.trans r1, r2, fun q hq => (ho q (by omega)).trans (r3 q hq), fun b e1 hb => ?_⟩
  unfold va_up at hb
  by_cases hba : b = a
  · rw [if_pos hba] at hb
    cases hb
    subst hba
    exact ⟨ha, he⟩
  · rw [if_neg hba] at hb
    exact ⟨(r4 b e1 hb).1, (r4 b e1 hb).2.kept (ho b hba)⟩
theorem ax_R.push {X : ax_X} {z : Nat} {f : ax_F} {H H1 : Heap} {e : va_E} (h : ax_R X z f H) (hz : H1.size = H.size + 1) (ho : ∀ q : Nat, q < H.size → H1[q]? = H[q]?) (he : va_at X.2.1 vwCl (z, e) H1) : ax_R X (z + 1) (va_up f z (some e)) H1 := by
  obtain ⟨r1, r2, r3, r4⟩ := h
  refine ⟨by rw [hz, r1], by omega, fun q hq => (ho q (by omega)).trans (r3 q hq), fun b e1 hb => ?_⟩
  unfold va_up at hb
  by_cases hba : b = z
  · rw [if_pos hba] at hb
    cases hb
    subst hba
    exact ⟨r2, he⟩
  · rw [if_neg hba] at hb
    have hl := (r4 b e1 hb).2.lt
    exact ⟨(r4 b e1 hb).1, (r4 b e1 hb).2.kept (ho b hl)⟩
/-! locals -/
def ax_nth : List (Option Value) → Nat → Option Value
  | [], _ => none
  | x :: _, 0 => x
  | _ :: t, k + 1 => ax_nth t k
def ax_k2 (x : Option Value) : Option Value := match x with
  | some (.long _) => none
  | some (.double _) => none
  | y => y
theorem ax_k2_spec {x : Option Value} {w : Value} (h : ax_k2 x = some w) : x = some w ∧ ¬ w.category = 2 := by
  cases x with
  | none => simp [ax_k2] at h
  | some v => cases v <;> simp [ax_k2] at h <;> subst h <;> exact ⟨rfl, by simp [Value.category]⟩
def ax_p1 : List (Option Value) → Nat → Value → List (Option Value)
  | [], _, _ => []
  | _ :: t, 0, v => some v :: t
  | x :: t, k + 1, v => (if k = 0 then ax_k2 x else x) :: ax_p1 t k v
def ax_nh : List (Option Value) → List (Option Value)
  | [] => []
  | _ :: t => none :: t
def ax_p2 : List (Option Value) → Nat → Value → List (Option Value)
  | [], _, _ => []
  | _ :: t, 0, v => some v :: ax_nh t
  | x :: t, k + 1, v => (if k = 0 then ax_k2 x else x) :: ax_p2 t k v
theorem ax_p1_spec (v : Value) : ∀ (ls : List (Option Value)) (i j : Nat) (w : Value), ax_nth (ax_p1 ls i v) j = some w → (j = i ∧ w = v) ∨ (j ≠ i ∧ ax_nth ls j = some w ∧ ¬ (j + 1 = i ∧ w.category = 2))
  | [], i, j, w, h => by simp [ax_p1, ax_nth] at h
  | x :: t, 0, 0, w, h => by
    simp [ax_p1, ax_nth] at h
    exact Or.inl ⟨rfl, h.symm⟩
  | x :: t, 0, j + 1, w, h => by
    simp only [ax_p1, ax_nth] at h
    exact Or.inr ⟨by omega, by simpa [ax_nth] using h, by omega⟩
  | x :: t, i + 1, 0, w, h => by
    simp only [ax_p1, ax_nth] at h
    by_cases hi : i = 0
    · rw [if_pos hi] at h
      obtain ⟨h1, h2⟩ := ax_k2_spec h
      exact Or.inr ⟨by omega, by simpa [ax_nth] using h1, fun q => h2 q.2⟩
    · rw [if_neg hi] at h
      exact Or.inr ⟨by omega, by simpa [ax_nth] using h, by omega⟩
  | x :: t, i + 1, j + 1, w, h => by
    simp only [ax_p1, ax_nth] at h
    rcases ax_p1_spec v t i j w h with ⟨h1, h2⟩ | ⟨h1, h2, h3⟩
    · exact Or.inl ⟨by omega, h2⟩
    · exact Or.inr ⟨by omega, by simpa [ax_nth] using h2, fun q => h3 ⟨by omega, q.2⟩⟩
theorem ax_p2_spec (v : Value) : ∀ (ls : List (Option Value)) (i j : Nat) (w : Value), ax_nth (ax_p2 ls i v) j = some w → (j = i ∧ w = v) ∨ (j ≠ i ∧ j ≠ i + 1 ∧ ax_nth ls j = some w ∧ ¬ (j + 1 = i ∧ w.category = 2))
  | [], i, j, w, h => by simp [ax_p2, ax_nth] at h
  | x :: t, 0, 0, w, h => by
    simp [ax_p2, ax_nth] at h
    exact Or.inl ⟨rfl, h.symm⟩
  | x :: t, 0, j + 1, w, h => by
    simp only [ax_p2, ax_nth] at h
    cases t with
    | nil => simp [ax_nh, ax_nth] at h
    | cons y u =>
      cases j with
      | zero => simp [ax_nh, ax_nth] at h
      | succ j =>
        simp only [ax_nh, ax_nth] at h
        exact Or.inr ⟨by omega, by omega, by simpa [ax_nth] using h, by omega⟩
  | x :: t, i + 1, 0, w, h => by
    simp only [ax_p2, ax_nth] at h
    by_cases hi : i = 0
    · rw [if_pos hi] at h
      obtain ⟨h1, h2⟩ := ax_k2_spec h
      exact Or.inr ⟨by omega, by omega, by simpa [ax_nth] using h1, fun q => h2 q.2⟩
    · rw [if_neg hi] at h
      exact Or.inr ⟨by omega, by omega, by simpa [ax_nth] using h, by omega⟩
  | x :: t, i + 1, j + 1, w, h => by
    simp only [ax_p2, ax_nth] at h
    rcases ax_p2_spec v t i j w h with ⟨h1, h2⟩ | ⟨h1, h1', h2, h3⟩
    · exact Or.inl ⟨by omega, h2⟩
    · exact Or.inr ⟨by omega, by omega, by simpa [ax_nth] using h2, fun q => h3 ⟨by omega, q.2⟩⟩
def ax_lv (ls : Array Slot) (nL : Nat) (l : List (Option Value)) : Prop := ls.size = nL ∧ lv_wf ls ∧ ∀ (i : Nat) (v : Value), ax_nth l i = some v → ls[i]? = some (.val v)
def ax_pr (nL : Nat) (l : List (Option Value)) : List (Nat × Value) := (List.range nL).filterMap (fun i => (ax_nth l i).map (fun v => (i, v)))
theorem ax_pr_mem {nL : Nat} {l : List (Option Value)} {i : Nat} {v : Value} : (i, v) ∈ ax_pr nL l ↔ i < nL ∧ ax_nth l i = some v := by
  unfold ax_pr
  rw [List.mem_filterMap]
  constructor
  · rintro ⟨j, hj, h⟩
    cases hn : ax_nth l j with
    | none => rw [hn] at h; simp at h
    | some w =>
      rw [hn] at h
      simp at h
      obtain ⟨rfl, rfl⟩ := h
      exact ⟨List.mem_range.mp hj, hn⟩
  · rintro ⟨h1, h2⟩
    exact ⟨i, List.mem_range.mpr h1, by rw [h2]; rfl⟩
theorem ax_lv.has {ls : Array Slot} {nL : Nat} {l : List (Option Value)} (h : ax_lv ls nL l) : lv_has ls nL (ax_pr nL l) :=
  ⟨h.1, h.2.1, fun q hq => h.2.2 q.1 q.2 (ax_pr_mem.mp (show (q.1, q.2) ∈ ax_pr nL l from hq)).2⟩
theorem ax_lv.lt {ls : Array Slot} {nL : Nat} {l : List (Option Value)} (h : ax_lv ls nL l) {i : Nat} {v : Value} (hi : ax_nth l i = some v) : i < nL := by
  rw [← h.1]
  exact lv_lt (h.2.2 i v hi)
theorem ax_lv.st1 {ls ls' : Array Slot} {nL i : Nat} {l : List (Option Value)} {v : Value} (h : ax_lv ls nL l) (h' : lv_has ls' nL ((i, v) :: (ax_pr nL l).filter (fun q => !(q.1 == i) && !(q.1 + 1 == i && q.2.category == 2)))) : ax_lv ls' nL (ax_p1 l i v) := by
  refine ⟨h'.1, h'.2.1, fun j w hj => ?_⟩
  rcases ax_p1_spec v l i j w hj with ⟨rfl, rfl⟩ | ⟨h1, h2, h3⟩
  · exact h'.2.2 _ List.mem_cons_self
  · refine h'.2.2 (j, w) (List.mem_cons_of_mem _ (List.mem_filter.mpr ⟨ax_pr_mem.mpr ⟨h.lt h2, h2⟩, ?_⟩))
    by_cases hc : w.category = 2
    · have : ¬ j + 1 = i := fun q => h3 ⟨q, hc⟩
      simp [h1, this]
    · simp [h1, hc]
theorem ax_lv.st2 {ls ls' : Array Slot} {nL i : Nat} {l : List (Option Value)} {v : Value} (h : ax_lv ls nL l) (h' : lv_has ls' nL ((i, v) :: (ax_pr nL l).filter (fun q => !(q.1 == i) && (!(q.1 == i + 1) && !(q.1 + 1 == i && q.2.category == 2))))) : ax_lv ls' nL (ax_p2 l i v) := by
  refine ⟨h'.1, h'.2.1, fun j w hj => ?_⟩
  rcases ax_p2_spec v l i j w hj with ⟨rfl, rfl⟩ | ⟨h1, h1', h2, h3⟩
  · exact h'.2.2 _ List.mem_cons_self
  · refine h'.2.2 (j, w) (List.mem_cons_of_mem _ (List.mem_filter.mpr ⟨ax_pr_mem.mpr ⟨h.lt h2, h2⟩, ?_⟩))
    by_cases hc : w.category = 2
    · have : ¬ j + 1 = i := fun q => h3 ⟨q, hc⟩
      simp [h1, h1', this]
    · simp [h1, h1', hc]
def ax_ag : List Value → List (Option Value)
  | [] => []
  | v :: t => if v.category = 2 then some v :: none :: ax_ag t else some v :: ax_ag t
def ax_ent (as : List Value) (n : Nat) : List (Option Value) := ax_ag as ++ List.replicate (n - (ax_ag as).length) none
theorem ax_ag_mem : ∀ (as : List Value) (k i : Nat) (v : Value) (r : List (Option Value)), (∀ j : Nat, ax_nth r j = none) → ax_nth (ax_ag as ++ r) i = some v → (k + i, v) ∈ lv_args k as
  | [], k, i, v, r, hr, h => by
    simp only [ax_ag, List.nil_append] at h
    rw [hr i] at h
    cases h
  | u :: t, k, i, v, r, hr, h => by
    unfold lv_args
    unfold ax_ag at h
    by_cases hc : u.category = 2
    · rw [if_pos hc] at h ⊢
      match i, h with
      | 0, h => simp [ax_nth] at h; subst h; exact List.mem_cons_self
      | 1, h => simp [ax_nth] at h
      | i + 2, h =>
        simp only [List.cons_append, ax_nth] at h
        have := ax_ag_mem t (k + 2) i v r hr h
        exact List.mem_cons_of_mem _ (by rwa [show k + (i + 2) = k + 2 + i by omega])
    · rw [if_neg hc] at h ⊢
      match i, h with
      | 0, h => simp [ax_nth] at h; subst h; exact List.mem_cons_self
      | i + 1, h =>
        simp only [List.cons_append, ax_nth] at h
        have := ax_ag_mem t (k + 1) i v r hr h
        exact List.mem_cons_of_mem _ (by rwa [show k + (i + 1) = k + 1 + i by omega])
theorem ax_nth_rep : ∀ (n j : Nat), ax_nth (List.replicate n none) j = none
  | 0, j => by simp [ax_nth]
  | n + 1, 0 => by simp [List.replicate_succ, ax_nth]
  | n + 1, j + 1 => by
    rw [List.replicate_succ]
    exact ax_nth_rep n j
theorem ax_lv.entry {as : List Value} {n : Nat} {ls : Array Slot} (h : lv_has ls n (lv_args 0 as)) : ax_lv ls n (ax_ent as n) :=
  ⟨h.1, h.2.1, fun i v hi => by
    have := ax_ag_mem as 0 i v _ (ax_nth_rep (n - (ax_ag as).length)) hi
    rw [Nat.zero_add] at this
    exact h.2.2 (i, v) this⟩
/-! the method's judgement -/
def ax_Q (X : ax_X) (Q : Option Value → Nat → ax_F → Prop) : Array Value → State → Outcome → State → Prop := fun _ _ o t => ∃ (v : Option Value) (z : Nat) (f : ax_F), o = .returned v ∧ Q v z f ∧ ax_R X z f t.heap
def ax_M (X : ax_X) (mi : ax_MI) (mc ms : Nat) (as : List Value) (z : Nat) (f : ax_F) (Q : Option Value → Nat → ax_F → Prop) : Prop :=
  Met X.1 mi.1 (ax_ws mi) (ax_rm mi.2.2.2.2 mc ms) (va_Pc as (fun U => ax_K X U ∧ ax_R X z f U.heap)) (ax_Q X Q) mc ms (ax_A X)
def ax_C (X : ax_X) (mi : ax_MI) (p : Program) (s : State) (m : MethodId) (args : Array Value) (meth : Method) (c : Code) : Prop :=
  p.tables.exec = Jvm.exec ∧ c.code = mi.2.1 ∧ c.maxLocals = mi.2.2.1 ∧ s.vm.findClass mi.1.cls = some m.cls ∧ (∀ w ∈ ax_ws mi, w.before args s = true) ∧ meth.sig.returnType = mi.2.2.2.1 ∧ meth.locks = false ∧ meth.name = mi.1.name ∧ ax_K X s ∧ X.2.2.2.1.size ≤ s.heap.size ∧ (∀ q : Nat, q < X.2.2.2.1.size → s.heap[q]? = X.2.2.2.1[q]?)
def ax_G (X : ax_X) (mi : ax_MI) (mc ms : Nat) (Q : Option Value → Nat → ax_F → Prop) (pc : Nat) : ax_P := fun ls st c n z f =>
  ∀ (p : Program) (e : Env) (s : State) (m : MethodId) (args : Array Value) (below : List Frame) (meth : Method) (co : Code), ax_C X mi p s m args meth co →
    ∀ (H : Heap) (locs : List Loc) (la : Array Slot), ax_lv la mi.2.2.1 ls → ax_R X z f H → (∀ q ∈ locs, ax_A X q.base) → s.heap.size ≤ H.size →
      W p X.1 e (ax_rm mi.2.2.2.2 mc ms) s m args below meth co H locs c n (MQ below (ax_Q X Q) args s mc ms (ax_A X)) (F0 m pc la st)
def ax_S (X : ax_X) (mi : ax_MI) (mc ms : Nat) (Q : Option Value → Nat → ax_F → Prop) (pc : Nat) (k : ax_P) : Prop := ∀ (ls : List (Option Value)) (st : List Value) (c n z : Nat) (f : ax_F), k ls st c n z f → ax_G X mi mc ms Q pc ls st c n z f
theorem ax_id {X : ax_X} {mi : ax_MI} {mc ms : Nat} {Q : Option Value → Nat → ax_F → Prop} {pc : Nat} : ax_S X mi mc ms Q pc (ax_G X mi mc ms Q pc) := fun _ _ _ _ _ _ h => h
/-- a method's contract out of the walk from its entry -/
theorem ax_met {X : ax_X} {mi : ax_MI} {mc ms : Nat} {as : List Value} {z : Nat} {f : ax_F} {Q : Option Value → Nat → ax_F → Prop} (hy : plainName mi.1.cls = true) (hl : (lg_sl as).length ≤ mi.2.2.1)
    (h : ax_G X mi mc ms Q 0 (ax_ent as mi.2.2.1) [] 0 0 z f) : ax_M X mi mc ms as z f Q := by
  refine Met.ofW (cc := mi.2.1) (maxL := mi.2.2.1) (ret := mi.2.2.2.1) hy rfl ?_
  intro p e s m args below meth c s₁ B hml hv
  obtain ⟨rfl, hK, hR⟩ := hv
  have hts := atoms_spec (ws := ax_ws mi) B.pre
  have hown : s.vm.findClass mi.1.cls = some m.cls := findClass_of_methodNamed B.named
  have hnm : meth.name = mi.1.name := (name_of_methodNamed B.named B.method).1
  rw [lg_entry_eq]
  have hl := lv_entry as hl
  exact h p e s m as.toArray below meth c ⟨B.exec, B.bytes, hml, hown, hts, B.returns, B.notSynchronized, hnm, hK, by rw [hR.1]; exact hR.2.1, hR.2.2.1⟩ s.heap [] _ (ax_lv.entry hl) hR (fun q hq => by simp at hq) (Nat.le_refl _)
