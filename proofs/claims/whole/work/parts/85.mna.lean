/-! a row of five rows of six longs, as the machine makes it: one cell more at each turn -/
def mq_g (h : Nat) : Nat → Nat → Option Nat
  | 0 => fun _ => none
  | i + 1 => va_up (mq_g h i) i (some (h + 1 + i))
theorem mq_g5 (h j : Nat) (hj : j < 5) : mq_g h 5 j = some (h + 1 + j) := by
  rcases (show j = 0 ∨ j = 1 ∨ j = 2 ∨ j = 3 ∨ j = 4 by omega) with rfl | rfl | rfl | rfl | rfl <;> simp [mq_g, va_up]
abbrev mq_o (cA : ClassId) (h i : Nat) : Cell := vp_cell cA (5, .inr (.inr (.inr (.inr (mq_g h i)))))
abbrev mq_n (cB : ClassId) : Cell := vp_cell cB (6, .inr (.inl (fun _ => 0)))
theorem mq_os (cA : ClassId) (h i : Nat) : (mq_o cA h i).setSlot i (.ref (h + 1 + i)) = mq_o cA h (i + 1) := ax_stq cA 5 i (h + 1 + i) (mq_g h i)
theorem mq_o5 (cA : ClassId) (h i : Nat) : (mq_o cA h i).slots.size = 5 := arrV_size _ _ _
theorem mq_n5 (cB : ClassId) : (mq_n cB).slots.size = 6 := arrV_size _ _ _
theorem mq_o0 (cA : ClassId) (h : Nat) : ({ cls := cA, slots := Array.replicate 5 .null, vm := .none } : Cell) = mq_o cA h 0 := rfl
theorem mq_n0 (cB : ClassId) : ({ cls := cB, slots := Array.replicate 6 (.long 0), vm := .none } : Cell) = mq_n cB := rfl
def mq_s (T : State) (cA cB : ClassId) : Nat → State
  | 0 => T.pushCell (mq_o cA T.heap.size 0)
  | i + 1 => ((mq_s T cA cB i).pushCell (mq_n cB)).setCell T.heap.size ((mq_o cA T.heap.size i).setSlot i (.ref (T.heap.size + 1 + i)))
theorem mq_top (T : State) (f : JFrame) (cA cB : ClassId) : ∀ i, mq_s (T.setTop f) cA cB i = (mq_s T cA cB i).setTop f
  | 0 => rfl
  | i + 1 => by simp only [mq_s, mq_top T f cA cB i, State.heap_setTop, State.pushCell_setTop, State.setCell_setTop]
def mq_d (T : State) (cA cB : ClassId) (i : Nat) (U : State) : Prop :=
  U.heap.size = T.heap.size + 1 + i ∧ U.heap[T.heap.size]? = some (mq_o cA T.heap.size i) ∧ U.vm = T.vm ∧ U.slotsUsed = T.slotsUsed + 5 + i * 6 ∧ (∀ q : Nat, q < T.heap.size → U.heap[q]? = T.heap[q]?) ∧ ∀ j : Nat, j < i → U.heap[T.heap.size + 1 + j]? = some (mq_n cB)
theorem mq_sd (T : State) (cA cB : ClassId) : ∀ i, mq_d T cA cB i (mq_s T cA cB i)
  | 0 => ⟨by simp [mq_s], by simp [mq_s], rfl, by simp [mq_s, mq_o5], fun q hq => by rw [mq_s, State.heap_pushCell_of_lt (h := hq)], fun j hj => absurd hj (Nat.not_lt_zero _)⟩
  | i + 1 => by
    obtain ⟨a, b, c, d, o, n⟩ := mq_sd T cA cB i
    have hl : T.heap.size < (mq_s T cA cB i).heap.size := by omega
    have hb : ((mq_s T cA cB i).pushCell (mq_n cB)).heap[T.heap.size]? = some (mq_o cA T.heap.size i) := by rw [State.heap_pushCell_of_lt (h := hl)]; exact b
    refine ⟨?_, ?_, by simp [mq_s, c], ?_, fun q hq => ?_, fun j hj => ?_⟩
    · simp [mq_s, State.setCell, a]; omega
    · rw [← mq_os]
      exact State.heap_setCell_self hb
    · simp [mq_s, d, mq_n5, Nat.succ_mul]; omega
    · have hl' : q < (mq_s T cA cB i).heap.size := by omega
      rw [mq_s, State.heap_setCell_other (Nat.ne_of_gt hq), State.heap_pushCell_of_lt (h := hl')]
      exact o q hq
    · rw [mq_s, State.heap_setCell_other (show T.heap.size ≠ T.heap.size + 1 + j by omega)]
      rcases Nat.lt_or_ge j i with q | q
      · have hl' : T.heap.size + 1 + j < (mq_s T cA cB i).heap.size := by omega
        rw [State.heap_pushCell_of_lt (h := hl')]
        exact n j q
      · have e : j = i := by omega
        subst e
        rw [← a]
        exact State.heap_pushCell_size _ _
theorem mq_stand {p : Program} {l : Launch} {e : Env} {R : Room} {s : State} {m : MethodId} {args : Array Value} {below : List Frame} {meth : Method} {c : Code} {T : State} {locs : List Loc} {cells slots : Nat} (X : Stand p l e R s m args below meth c T locs cells slots) (cA cB : ClassId) :
    ∀ i, Stand p l e R s m args below meth c (mq_s T cA cB i) locs (cells + 1 + i) (slots + 5 + i * 6)
  | 0 => by
    have h := X.pushed (mq_o cA T.heap.size 0)
    rw [mq_o5] at h
    exact h
  | i + 1 => by
    obtain ⟨a, b, _, _, _, _⟩ := mq_sd T cA cB i
    have hl : T.heap.size < (mq_s T cA cB i).heap.size := by omega
    have h := ((mq_stand X cA cB i).pushed (mq_n cB)).stored (by rw [State.heap_pushCell_of_lt (h := hl)]; exact b) i (.ref (T.heap.size + 1 + i))
    rw [mq_n5] at h
    rw [show slots + 5 + (i + 1) * 6 = slots + 5 + i * 6 + 6 by omega]
    refine Stand.dropFresh (J := [⟨T.heap.size, i⟩]) h (fun x hx => ?_)
    rw [List.mem_singleton.mp hx]
    exact X.heapGrown
section MQ
variable {E : CtlPost} {e : Env} {d : Bool} {acts : List Action} {s : State}
theorem mq_new {N : Nat} {c cm : ClassId} {k : Class} {ty : FieldType} {v : Value} (hk : s.vm.classes[c]? = some k) (hi : k.kind = .array cm ty) (hl : ¬ N > e.platform.arrayLengthLimit) (hb : ¬ N * componentBytes ty > e.platform.maxHeapBytes) (hf : fits ty v = true) (hv : v.isDefault = true) {Q : Addr → Pre}
    (h1 : s.heap.size < e.platform.maxCells) (h2 : s.slotsUsed + N ≤ e.platform.maxSlots) (hq : Q s.heap.size d acts (s.pushCell { cls := c, slots := Array.replicate N v, vm := .none })) : wp (Jvm.newArray c N v) Q E e d acts s := by
  have ha : allocActs (Array.replicate N v) s.heap.size acts = acts := by
    unfold allocActs
    rw [if_pos (by rw [Array.all_replicate]; split <;> simp [hv])]
  simp only [Jvm.newArray, Jvm.arrayFits, wp_bind', W.ask, W.ite, hl, if_false, wp_pure', W.theClass, hk, hi, hb, W.alloc, W.stop, Option.some.injEq, exists_eq_left', Array.size_replicate, ha]
  rw [if_neg (by omega)]
  refine ⟨h1, h2, fun i w hw => ?_, hq⟩
  rw [Array.getElem?_replicate] at hw
  split at hw
  · cases hw
    simp [State.fitsSlot, State.slotType?, hk, hi, hf]
  · cases hw
theorem mq_in {cB cc : ClassId} {k : Class} (hk : s.vm.classes[cB]? = some k) (hi : k.kind = .array cc .long) (hl : ¬ 6 > e.platform.arrayLengthLimit) (hb : ¬ 6 * componentBytes .long > e.platform.maxHeapBytes)
    (h1 : s.heap.size < e.platform.maxCells) (h2 : s.slotsUsed + 6 ≤ e.platform.maxSlots) {Q : Addr → Pre} (hq : Q s.heap.size d acts (s.pushCell (mq_n cB))) : wp (multianewarray.make cB [6]) Q E e d acts s := by
  rw [multianewarray.make]
  simp only [wp_bind', W.ite, show ¬ ((6 : Int32) < 0) by decide, if_false, wp_pure', W.theClass, hk, hi, Option.some.injEq, exists_eq_left']
  exact mq_new hk hi hl hb rfl rfl h1 h2 hq
theorem mq_mk {cA cB cc : ClassId} {k kc : Class} (hk : s.vm.classes[cA]? = some k) (hi : k.kind = .array cB (.array .long)) (hkc : s.vm.classes[cB]? = some kc) (hic : kc.kind = .array cc .long) (hl : ¬ 5 > e.platform.arrayLengthLimit) (hl6 : ¬ 6 > e.platform.arrayLengthLimit) (hb : ¬ 6 * componentBytes .long > e.platform.maxHeapBytes) (hb' : ¬ 5 * componentBytes (.array .long) > e.platform.maxHeapBytes)
    (hc : s.heap.size + 6 ≤ e.platform.maxCells) (hs : s.slotsUsed + 35 ≤ e.platform.maxSlots) {Q : Addr → Pre} (hq : ∀ d' acts', Q s.heap.size d' acts' (mq_s s cA cB 5)) : wp (multianewarray.make cA [5, 6]) Q E e d acts s := by
  have hfind : ([(6 : Int32)].find? (· < 0)) = none := by decide
  rw [multianewarray.make]
  simp only [wp_bind', W.ite, show ¬ ((5 : Int32) < 0) by decide, if_false, wp_pure', W.theClass, hk, hi, Option.some.injEq, exists_eq_left']
  refine mq_new hk hi hl hb' rfl rfl (by omega) (by omega) ?_
  simp only [hfind]
  rw [ite_self, wp_bind', Std.Legacy.Range.forIn_eq_forIn_range']
  show wp (forIn (List.range' 0 5 1) PUnit.unit _) _ E e d acts _
  refine wp_forIn_inv (fun rest U => ∃ i, i ≤ 5 ∧ rest = List.range' i (5 - i) ∧ U = mq_s s cA cB i) _ _ ⟨0, by omega, rfl, rfl⟩ ?_ ?_
  · rintro x rest U d' acts' Q' ⟨i, hi5, hl5, rfl⟩ hnext
    have hlt : i < 5 := by
      rcases Nat.lt_or_ge i 5 with h | h
      · exact h
      · rw [show 5 - i = 0 by omega] at hl5
        cases hl5
    rw [show 5 - i = (5 - (i + 1)) + 1 by omega, List.range'_succ] at hl5
    obtain ⟨rfl, hr⟩ := List.cons.inj hl5
    obtain ⟨f1, f2, f3, f4, -, -⟩ := mq_sd s cA cB x
    simp only [wp_bind']
    refine mq_in (by rw [f3]; exact hkc) hic hl6 hb (by rw [f1]; omega) (by rw [f4]; omega) ?_
    have hl0 : s.heap.size < (mq_s s cA cB x).heap.size := by rw [f1]; omega
    simp only [wp_bind', W.writeLoc, wp_pure']
    refine ⟨mq_o cA s.heap.size x, by rw [State.heap_pushCell_of_lt (h := hl0)]; exact f2, fun q => (by cases q), by rw [mq_o5]; exact hlt, ?_, hnext _ _ _ ⟨x + 1, hlt, hr, ?_⟩⟩
    · show State.fitsSlot _ cA .none x _ = true
      simp [State.fitsSlot, State.slotType?, f3, hk, hi, fits]
    · rw [f1]; rfl
  · rintro U d' acts' ⟨i, hi5, hl5, rfl⟩
    have e5 : i = 5 := by
      rcases Nat.lt_or_ge i 5 with h | h
      · rw [show 5 - i = (5 - (i + 1)) + 1 by omega, List.range'_succ] at hl5
        cases hl5
      · omega
    subst e5
    simp only [wp_pure']
    exact hq _ _
end MQ
theorem mq_over {A : Array Value} {s : State} (h : (Cond.arrayOver (.array .long)).before A s = true) : ∃ (cB cA : ClassId) (k : Class), s.vm.findClass "[J" = some cB ∧ s.vm.classes[cA]? = some k ∧ k.kind = .array cB (.array .long) ∧ s.vm.findClass "[[J" = some cA := by
  unfold Cond.before at h
  simp only [Cond.holds, Cond.value, beq_iff_eq] at h
  cases hc : s.vm.findClass (FieldType.array .long).toString with
  | none => simp [hc] at h
  | some cB =>
    simp only [hc, Option.bind_some, Option.bind_eq_some_iff, Option.map_eq_some_iff] at h
    obtain ⟨cA, hi, k, hk, hb⟩ := h
    obtain ⟨hlt, hp, -⟩ := Array.findIdx?_eq_some_iff_getElem.mp hi
    have hkk : s.vm.classes[cA] = k := (Array.getElem?_eq_some_iff.mp hk).2
    rw [hkk] at hp
    cases hkind : k.kind with
    | array component ty =>
      rw [hkind] at hb hp
      simp at hb hp
      exact ⟨cB, cA, k, hc, hk, by rw [hkind, hp, hb.1], hb.2⟩
    | _ => rw [hkind] at hb; simp at hb
theorem mq_step {p : Program} {l : Launch} {e : Env} {R : Room} {s : State} {m : MethodId} {args : Array Value} {below : List Frame} {meth : Method} {c : Code} {T t : State} {locs : List Loc} {cells slots idx : Nat} {vm : Vm} {cA cB cc : ClassId} {k kc : Class} {r : List Value} (hexec : p.tables.exec = Jvm.exec) (Y : Stand p l e R s m args below meth c T locs cells slots)
    {g : JFrame} (hgm : g.method = m) (hd : decode c.code g.pc = .ok (.multianewarray idx 2, 4)) (hst : g.stack = .int 6 :: .int 5 :: r) (hg : (Jvm.resolveClass g.method.cls idx).Gives e.toSetting T.vm (.ok cA) vm) (hvs : vm.classes.size ≤ T.vm.classes.size)
    (hwm : s.WarmedH vm) (hk : vm.classes[cA]? = some k) (hi : k.kind = .array cB (.array .long)) (hkc : vm.classes[cB]? = some kc) (hic : kc.kind = .array cc .long) (h1 : cells + 6 ≤ R.cells) (h2 : slots + 35 ≤ R.slots)
    (b1 : Steps p.tables e below ((mq_s (T.setVm vm) cA cB 5).setTop { g with pc := g.pc + 4, stack := .ref (T.setVm vm).heap.size :: r }) t) : Steps p.tables e below (T.setTop g) t := by
  subst hgm
  obtain ⟨hr1, hr2⟩ := Y.roomAbove h1 h2
  have YF := mq_stand (Y.noted hwm) cA cB 5
  have hl5 : ¬ 5 > e.platform.arrayLengthLimit := by rw [Launch.admits_arrayLengthLimit Y.admits]; omega
  have hl6 : ¬ 6 > e.platform.arrayLengthLimit := by rw [Launch.admits_arrayLengthLimit Y.admits]; omega
  have hb5 : ¬ 6 * componentBytes .long > e.platform.maxHeapBytes := by rw [Launch.admits_maxHeapBytes Y.admits]; decide
  have hb6 : ¬ 5 * componentBytes (.array .long) > e.platform.maxHeapBytes := by rw [Launch.admits_maxHeapBytes Y.admits]; decide
  jvm_step Y.here [hexec, hd]
  simp only [multianewarray.sem, wp_bind', W.resolveClassAt_links (t := T.setTop g) (State.method?_setTop g Y.here.top) hg hvs]
  rw [W.popN, if_neg (by decide)]
  refine ⟨g, State.topJava?_setTop' (s := T.setVm vm) g Y.here.top, [.int 5, .int 6], r, rfl, hst, ?_⟩
  simp only [List.mapM_cons, List.mapM_nil, wp_bind', wp_pure']
  refine mq_mk (k := k) (kc := kc) hk hi hkc hic hl5 hl6 hb5 hb6 (by show T.heap.size + 6 ≤ _; omega) (by show T.slotsUsed + 35 ≤ _; omega) (fun d' acts' => ?_)
  have eS : (((T.setTop g).setVm vm).setTop { g with stack := r }) = (T.setVm vm).setTop { g with stack := r } := by
    show ((T.setVm vm).setTop _).setTop _ = _
    rw [State.setTop_setTop]
  rw [eS, mq_top]
  simp only [wp_bind', W.mark, W.pushRef, State.topJava?_setTop' _ YF.here.top, Option.some.injEq, exists_eq_left', State.setTop_setTop, State.heap_setTop]
  intro acts
  simp [jvm, YF.here.top]
  exact b1
def ax_mna (X : ax_X) (mc ms : Nat) (k : ax_P) : ax_P := fun ls st c n z f => match st with
  | .int a :: .int b :: r => a = 6 ∧ b = 5 ∧ c + 6 ≤ mc ∧ n + 35 ≤ ms ∧ k ls (.ref z :: r) (c + 6) (n + 35) (z + 6) (va_up (va_up (va_up (va_up (va_up (va_up f z (some (.inl (X.2.2.1 5, 5, .inr (.inr (.inr (.inr (mq_g z 5)))))))) (z + 1) (some (.inl (X.2.2.1 1, 6, .inr (.inl (fun _ => 0)))))) (z + 2) (some (.inl (X.2.2.1 1, 6, .inr (.inl (fun _ => 0)))))) (z + 3) (some (.inl (X.2.2.1 1, 6, .inr (.inl (fun _ => 0)))))) (z + 4) (some (.inl (X.2.2.1 1, 6, .inr (.inl (fun _ => 0)))))) (z + 5) (some (.inl (X.2.2.1 1, 6, .inr (.inl (fun _ => 0))))))
  | _ => False
section AXM
variable {X : ax_X} {mi : ax_MI} {mc ms : Nat} {Q : Option Value → Nat → ax_F → Prop} {pc : Nat} {k : ax_P}
theorem sn_mna {idx : Nat} (hd : decode mi.2.1 pc = .ok (.multianewarray idx 2, 4)) (hw : Cond.classLink mi.1.cls idx "[[J" ∈ ax_T) (hk : ax_S X mi mc ms Q (pc + 4) k) : ax_S X mi mc ms Q pc (ax_mna X mc ms k) := by
  intro ls st c n z f h p e s m args below meth co C H locs la hl hR hL hz
  unfold ax_mna at h
  split at h
  · rename_i a b r
    obtain ⟨rfl, rfl, h1, h2, h⟩ := h
    have hK := C.2.2.2.2.2.2.2.2.1
    have t5 := hK.1.2 5 _ rfl
    have t1 := hK.1.2 1 _ rfl
    obtain ⟨cB, cA, kA, hcB, hkA, hkindA, hnA⟩ := mq_over (A := args) hK.2.2.2.2.2.2.2.2
    have e5 : cA = X.2.2.1 5 := Option.some.inj (hnA.symm.trans t5.2)
    have e1 : cB = X.2.2.1 1 := Option.some.inj (hcB.symm.trans t1.2)
    subst e5 e1
    obtain ⟨-, kC, hkC, cc, hkindC⟩ := t1.1 0 (fun _ => .null)
    intro T hT Y
    have hpl : e.platform.magicAccessors = ({} : Platform).magicAccessors := by rw [Y.admits.platform]
    obtain ⟨c0, hfc0, hcl⟩ := Cond.classLink_spec C.2.2.2.1 (C.2.2.2.2.1 _ (List.mem_cons_of_mem _ hw)) e.platform hpl
    cases hnA.symm.trans hfc0
    obtain ⟨hg, hwm, hrd⟩ := State.classEntry (e := e) Y.warmed hcl
    have hvs : (T.vm.noted m.cls idx (.cls (X.2.2.1 5))).classes.size ≤ T.vm.classes.size := by no_record
    generalize T.vm.noted m.cls idx (.cls (X.2.2.1 5)) = vm at hg hwm hrd hvs
    obtain ⟨kA1, hkA1, heA⟩ := hwm.alike.2.2 _ _ hkA
    obtain ⟨kC1, hkC1, heC⟩ := hwm.alike.2.2 _ _ hkC
    have Y1 := Y.noted hwm
    obtain ⟨hr1, hr2⟩ := Y.roomAbove (show c + 6 ≤ (ax_rm mi.2.2.2.2 mc ms).cells from h1) (show n + 35 ≤ (ax_rm mi.2.2.2.2 mc ms).slots from h2)
    have YF := mq_stand Y1 (X.2.2.1 5) (X.2.2.1 1) 5
    obtain ⟨s1, s2, s3, s4, s5, s6⟩ := mq_sd (T.setVm vm) (X.2.2.1 5) (X.2.2.1 1) 5
    have hsz : (T.setVm vm).heap.size = z := by rw [← hR.1, ← hT]; rfl
    rw [hsz] at s1 s2 s5 s6
    have hR' : ax_R X (z + 6) (va_up (va_up (va_up (va_up (va_up (va_up f z (some (.inl (X.2.2.1 5, 5, .inr (.inr (.inr (.inr (mq_g z 5)))))))) (z + 1) (some (.inl (X.2.2.1 1, 6, .inr (.inl (fun _ => 0)))))) (z + 2) (some (.inl (X.2.2.1 1, 6, .inr (.inl (fun _ => 0)))))) (z + 3) (some (.inl (X.2.2.1 1, 6, .inr (.inl (fun _ => 0)))))) (z + 4) (some (.inl (X.2.2.1 1, 6, .inr (.inl (fun _ => 0)))))) (z + 5) (some (.inl (X.2.2.1 1, 6, .inr (.inl (fun _ => 0)))))) (mq_s (T.setVm vm) (X.2.2.1 5) (X.2.2.1 1) 5).heap := by
      refine ⟨s1, by have := hR.2.1; omega, fun q hq => ?_, fun q e0 hq => ?_⟩
      · rw [s5 q (by have := hR.2.1; omega), ← hR.2.2.1 q hq, ← hT]; rfl
      · by_cases c5 : q = z + 5
        · subst c5
          rw [va_up, if_pos rfl] at hq
          cases hq
          exact ⟨by have := hR.2.1; omega, s6 4 (by omega)⟩
        rw [va_up, if_neg c5] at hq
        by_cases c4 : q = z + 4
        · subst c4
          rw [va_up, if_pos rfl] at hq
          cases hq
          exact ⟨by have := hR.2.1; omega, s6 3 (by omega)⟩
        rw [va_up, if_neg c4] at hq
        by_cases c3 : q = z + 3
        · subst c3
          rw [va_up, if_pos rfl] at hq
          cases hq
          exact ⟨by have := hR.2.1; omega, s6 2 (by omega)⟩
        rw [va_up, if_neg c3] at hq
        by_cases c2 : q = z + 2
        · subst c2
          rw [va_up, if_pos rfl] at hq
          cases hq
          exact ⟨by have := hR.2.1; omega, s6 1 (by omega)⟩
        rw [va_up, if_neg c2] at hq
        by_cases c1 : q = z + 1
        · subst c1
          rw [va_up, if_pos rfl] at hq
          cases hq
          exact ⟨by have := hR.2.1; omega, s6 0 (by omega)⟩
        rw [va_up, if_neg c1] at hq
        by_cases c0 : q = z
        · subst c0
          rw [va_up, if_pos rfl] at hq
          cases hq
          exact ⟨hR.2.1, s2⟩
        rw [va_up, if_neg c0] at hq
        have hv := hR.2.2.2 q e0 hq
        have hlt := hv.2.lt
        refine ⟨hv.1, hv.2.kept ?_⟩
        rw [s5 q (by have := hR.1; omega), ← hT]; rfl
    obtain ⟨t, b1, b2⟩ := hk _ _ _ _ _ _ h p e s m args below meth co C _ locs la hl hR' hL (by rw [s1]; have := hR.1; omega) _ rfl (by rw [show c + 6 = c + 1 + 5 by omega, show n + 35 = n + 5 + 5 * 6 by omega]; exact YF)
    refine ⟨t, ?_, b2⟩
    rw [← hsz] at b1
    exact mq_step C.1 Y (g := F0 m pc la (.int 6 :: .int 5 :: r)) rfl (by rw [C.2.1]; exact hd) rfl hg hvs hwm hkA1 (by rw [heA]; exact hkindA) hkC1 (by rw [heC]; exact hkindC) h1 h2 b1
  · exact h.elim
end AXM
