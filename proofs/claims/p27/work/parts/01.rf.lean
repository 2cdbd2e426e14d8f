/-! A start that meets every premise and at which the law does not return: FIRST's row is of a class of the kind 'array over int' that is not the one found under "[I"; what its clone selects throws. (The program itself is not at fault: no run of a JVM comes to such a start.) -/
def rf_X : Class := { start1.cArr "[rf" 13 .int with super := none, methods := #[Lib.HandJ.method "clone" "()Ljava/lang/Object;" [] (some (.object "java/lang/Object")) 0x1 1 (.mk #[0x2a, 0xbf])] }
def rf_heap : Heap := start1.about.heap.setIfInBounds 3 { cls := 22, slots := #[.int 0, .int 100, .int 7600, .int 5, .int 2, .int 8500], vm := .none }
def rf_vm : Vm := { classes := #[start1.c0, start1.cObjectC, start1.c2, start1.c3, start1.c4, start1.c5, start1.c6, start1.c7, start1.c8, start1.c9, start1.c10, start1.c11, start1.c12, start1.cPrim "int" 'I', { start1.cArr "[I" 13 .int with interfaces := #[12] }, start1.cPrim "boolean" 'Z', { start1.cArr "[Z" 15 .boolean with interfaces := #[12] }, start1.cPrim "long" 'J', { start1.cArr "[J" 17 .long with interfaces := #[12] }, { start1.cArr "[LGlassRoom$Glass;" 7 (.object "GlassRoom$Glass") with interfaces := #[12] }, { start1.cArr "[LGlassRoom$Station;" 10 (.object "GlassRoom$Station") with interfaces := #[12] }, { start1.cArr "[[J" 18 (.array .long) with interfaces := #[12] }, rf_X] }
def rf_s : State := { start1.about with vm := rf_vm, heap := rf_heap }
def rf_tb : Tables := start1.p0.tables
/-! the run, looked at step by step -/
def rf_isB : Frame → Bool
  | .native ⟨⟨c, i⟩, ⟨l⟩, st, ⟨sv⟩, aw, an, lk, wd⟩ => Nat.beq c 0 && Nat.beq i 0 && l.isEmpty && Nat.beq st 0 && sv.isEmpty && !aw && an.isNone && lk.isNone && Nat.beq wd 0
  | _ => false
def rf_last : List Frame → Bool
  | [] => false
  | x :: r => match r with
    | [] => rf_isB x
    | _ :: _ => rf_last r
def rf_w : List Frame → Bool
  | [] => false
  | x :: r => (match x, r with | .throwing _, [_] => false | _, _ => true) && rf_last r
def rf_end : List Frame → Bool
  | [.throwing _, f] => rf_isB f
  | _ => false
def rf_can (s : State) : Bool := match s.status, s.curStatus?, s.alone with
  | .running, some .runnable, true => true
  | _, _, _ => false
def rf_go : Nat → State → Bool
  | 0, _ => false
  | n + 1, s => (rf_end s.frames && decide (s.status = .running)) || (rf_can s && (rf_w s.frames && rf_go n (stepThread rf_tb start1.e0 s).1))
set_option maxRecDepth 16384 in
theorem rf_run : rf_go 600 rf_s = true := by decide +kernel
theorem rf_isB_eq {f : Frame} (h : rf_isB f = true) : [f] = Lib.HandBits.below0 := by
  cases f with
  | native g =>
    obtain ⟨⟨c, i⟩, ⟨l⟩, st, ⟨sv⟩, aw, an, lk, wd⟩ := g
    simp only [rf_isB, Bool.and_eq_true, Nat.beq_eq, List.isEmpty_iff, Bool.not_eq_true', Option.isNone_iff_eq_none] at h
    obtain ⟨⟨⟨⟨⟨⟨⟨⟨h1, h2⟩, h3⟩, h4⟩, h5⟩, h6⟩, h7⟩, h8⟩, h9⟩ := h
    subst h1 h2 h3 h4 h5 h6 h7 h8 h9
    rfl
  | _ => simp [rf_isB] at h
theorem rf_last_eq : ∀ {l : List Frame}, rf_last l = true → ∃ a, l = a ++ Lib.HandBits.below0
  | [], h => by simp [rf_last] at h
  | [x], h => ⟨[], by
      have h' : rf_isB x = true := by simpa [rf_last] using h
      simpa using rf_isB_eq h'⟩
  | x :: y :: r, h => by
      have h' : rf_last (y :: r) = true := by simpa [rf_last] using h
      obtain ⟨a, ha⟩ := rf_last_eq h'
      exact ⟨x :: a, by rw [ha]; rfl⟩
theorem rf_w_eq {s : State} (h : rf_w s.frames = true) : Within s Lib.HandBits.below0 := by
  cases hf : s.frames with
  | nil => rw [hf] at h; simp [rf_w] at h
  | cons x r =>
    rw [hf] at h
    simp only [rf_w, Bool.and_eq_true] at h
    obtain ⟨h1, h2⟩ := h
    obtain ⟨a, ha⟩ := rf_last_eq h2
    refine ⟨x :: a, by rw [hf, ha]; rfl, by simp, ?_⟩
    intro b hb
    injection hb with hx hr
    subst hx hr
    subst ha
    simp [Lib.HandBits.below0] at h1
theorem rf_end_eq {s : State} (h : rf_end s.frames = true) : ∃ a, Ended s Lib.HandBits.below0 (.threw a) := by
  unfold rf_end at h
  split at h
  · rename_i a f hf
    exact ⟨a, by show s.frames = _; rw [hf, ← rf_isB_eq h]⟩
  · cases h
theorem rf_can_eq {s : State} (h : rf_can s = true) (n : Nat) : stepsAlone rf_tb start1.e0 (n + 1) s = stepsAlone rf_tb start1.e0 n (stepThread rf_tb start1.e0 s).1 := by
  unfold rf_can at h
  split at h
  · rename_i h1 h2 h3
    simp only [stepsAlone, h1, h2, h3]
  · cases h
theorem rf_spec : ∀ (n : Nat) (s : State), rf_go n s = true → ∃ (m : Nat) (a : Addr), (∀ k, k < m → Within (stepsAlone rf_tb start1.e0 k s) Lib.HandBits.below0) ∧ (stepsAlone rf_tb start1.e0 m s).status = Status.running ∧ Ended (stepsAlone rf_tb start1.e0 m s) Lib.HandBits.below0 (.threw a)
  | 0, _, h => by simp [rf_go] at h
  | n + 1, s, h => by
    simp only [rf_go, Bool.or_eq_true, Bool.and_eq_true, decide_eq_true_eq] at h
    rcases h with ⟨h1, h2⟩ | ⟨h1, h2, h3⟩
    · obtain ⟨a, ha⟩ := rf_end_eq h1
      exact ⟨0, a, fun k hk => absurd hk (Nat.not_lt_zero k), h2, ha⟩
    · obtain ⟨m, a, hw, hr, he⟩ := rf_spec n _ h3
      refine ⟨m + 1, a, ?_, ?_, ?_⟩
      · intro k hk
        cases k with
        | zero => exact rf_w_eq h2
        | succ j => rw [rf_can_eq h1]; exact hw j (Nat.lt_of_succ_lt_succ hk)
      · rw [rf_can_eq h1]; exact hr
      · rw [rf_can_eq h1]; exact he
/-! the premises -/
theorem rf_meth {m : MethodId} {x : Method} (h : start1.about.vm.method? m = some x) : rf_s.vm.method? m = some x := by
  unfold Vm.method? at h ⊢
  cases hq : start1.about.vm.classes[m.cls]? with
  | none => rw [hq] at h; cases h
  | some k =>
    have hl : m.cls < start1.about.vm.classes.size := by
      have h0 := Array.getElem?_eq_some_iff.mp hq
      exact h0.1
    have hp : rf_s.vm.classes[m.cls]? = some k := by
      show (start1.about.vm.classes.push rf_X)[m.cls]? = some k
      rw [Array.getElem?_push, if_neg (Nat.ne_of_lt hl), hq]
    rw [hp]; rw [hq] at h; exact h
theorem rf_code {y : MethodName} {b : ByteArray} {ml : Nat} {r : Option FieldType} (h : (Cond.code y b ml r).before start1.args0 start1.about = true) (hn : rf_s.methodNamed? y = start1.about.methodNamed? y) : (Cond.code y b ml r).before start1.args0 rf_s = true := by
  cases hq : start1.about.methodNamed? y with
  | none => simp [Cond.before, Cond.holds, Cond.value, hq] at h
  | some m =>
    cases hm : start1.about.vm.method? m with
    | none => simp [Cond.before, Cond.holds, Cond.value, hq, hm] at h
    | some x =>
      have hm' := rf_meth hm
      rw [hq] at hn
      simp only [Cond.before, Cond.holds, Cond.value, hq, hm, Option.bind_some] at h
      simp only [Cond.before, Cond.holds, Cond.value, hn, hm', Option.bind_some]
      exact h
theorem rf_cl {c : Nat} {k : Class} (h : start1.about.vm.classes[c]? = some k) : rf_s.vm.classes[c]? = some k := by
  have hl : c < start1.about.vm.classes.size := (Array.getElem?_eq_some_iff.mp h).1
  show (start1.about.vm.classes.push rf_X)[c]? = some k
  rw [Array.getElem?_push, if_neg (Nat.ne_of_lt hl), h]
theorem rf_fc {n : String} {c : ClassId} (h : start1.about.vm.findClass n = some c) : rf_s.vm.findClass n = some c := by
  have hp : rf_s.vm.classes = start1.about.vm.classes.push rf_X := rfl
  unfold Vm.findClass at h ⊢
  rw [hp, Array.findIdx?_push, h]
  rfl
theorem rf_pool {cls : String} {d : ClassId} {dk : Class} (e2 : start1.about.vm.findClass cls = some d) (e5 : start1.about.vm.classes[d]? = some dk) : rf_s.poolOf? cls = start1.about.poolOf? cls := by
  unfold State.poolOf?
  simp only [e2, rf_fc e2, Option.bind_eq_bind, Option.bind_some, e5, rf_cl e5]
theorem rf_names {cls : String} {d : ClassId} {dk : Class} (e2 : start1.about.vm.findClass cls = some d) (e5 : start1.about.vm.classes[d]? = some dk) (i : Nat) (w : Names) : rf_s.names cls i w = start1.about.names cls i w := by
  unfold State.names
  rw [rf_pool e2 e5]
theorem rf_open {cls : String} {d : ClassId} {dk : Class} (e2 : start1.about.vm.findClass cls = some d) (e5 : start1.about.vm.classes[d]? = some dk) (i : Nat) (r : Resolved) : rf_s.openOr cls i r = start1.about.openOr cls i r := by
  unfold State.openOr
  simp only [e2, rf_fc e2, Option.bind_some, e5, rf_cl e5]
theorem rf_entry {cls : String} {d : ClassId} {dk : Class} (e2 : start1.about.vm.findClass cls = some d) (e5 : start1.about.vm.classes[d]? = some dk) (i : Nat) : rf_s.memberEntry? cls i = start1.about.memberEntry? cls i := by
  unfold State.memberEntry?
  rw [rf_pool e2 e5]
def rf_pm (cls : String) (x : MethodName) : Bool :=
  decide (rf_s.methodFound? x.cls x.name x.desc = start1.about.methodFound? x.cls x.name x.desc) &&
    match start1.about.vm.findClass cls, start1.about.vm.findClass x.cls, start1.about.methodFound? x.cls x.name x.desc with
    | some d, some c, some m => (match start1.about.vm.classes[d]?, start1.about.vm.classes[c]?, start1.about.vm.classes[m.cls]?, start1.about.vm.method? m with
      | some dk, some ck, some ek, some meth => (rf_s.vm.classAccessible {} ck dk == start1.about.vm.classAccessible {} ck dk) && (plainAccess rf_s.vm meth.accessFlags m.cls ek c d dk || (ck.isArray && x.name == "clone" && m.cls != c))
      | _, _, _, _ => false)
    | _, _, _ => false
theorem rf_ml {cls : String} {i : Nat} {x : MethodName} (h : (Cond.methodLink cls i x).before start1.args0 start1.about = true) (hp : rf_pm cls x = true) : (Cond.methodLink cls i x).before start1.args0 rf_s = true := by
  cases e2 : start1.about.vm.findClass cls with
  | none => simp [Cond.before, Cond.holds, Cond.value, e2] at h
  | some d =>
  cases e3 : start1.about.vm.findClass x.cls with
  | none => simp [Cond.before, Cond.holds, Cond.value, e3] at h
  | some c =>
  cases e4 : start1.about.methodFound? x.cls x.name x.desc with
  | none => simp [Cond.before, Cond.holds, Cond.value, e4] at h
  | some m =>
  cases e1 : start1.about.memberEntry? cls i with
  | none => simp [Cond.before, Cond.holds, Cond.value, e1] at h
  | some p =>
  obtain ⟨ci, vi⟩ := p
  cases e5 : start1.about.vm.classes[d]? with
  | none => simp [Cond.before, Cond.holds, Cond.value, State.classLinks, e1, e2, e3, e4, e5] at h
  | some dk =>
  cases e6 : start1.about.vm.classes[c]? with
  | none => simp [Cond.before, Cond.holds, Cond.value, State.classLinks, e1, e2, e3, e4, e5, e6] at h
  | some ck =>
  cases e7 : start1.about.vm.classes[m.cls]? with
  | none => simp [rf_pm, e2, e3, e4, e5, e6, e7] at hp
  | some ek =>
  cases e8 : start1.about.vm.method? m with
  | none => simp [rf_pm, e2, e3, e4, e5, e6, e7, e8] at hp
  | some meth =>
  simp only [rf_pm, e2, e3, e4, e5, e6, e7, e8, Bool.and_eq_true, decide_eq_true_eq, beq_iff_eq] at hp
  obtain ⟨hp1, ha, hp2⟩ := hp
  have r1 := rf_entry e2 e5 i
  rw [e1] at r1
  have hn := rf_names e2 e5
  have ho := rf_open e2 e5
  have r2 := rf_fc e2
  have r3 := rf_fc e3
  have r5 := rf_cl e5
  have r6 := rf_cl e6
  have r7 := rf_cl e7
  have r8 := rf_meth e8
  simp only [Cond.before, Cond.holds, Cond.value, State.classLinks, e1, e2, e3, e4, e5, e6, e7, e8, Option.bind_eq_bind, Option.bind_some, Option.pure_def, Option.some_beq_some, beq_true, Bool.and_eq_true] at h
  simp only [Cond.before, Cond.holds, Cond.value, State.classLinks, r1, r2, r3, hp1, r5, r6, r7, r8, hn, ho, ha, Option.bind_eq_bind, Option.bind_some, Option.pure_def, Option.some_beq_some, beq_true, Bool.and_eq_true]
  exact ⟨h.1, hp2⟩
def rf_pf (cls ref name desc : String) : Bool :=
  match parseFieldDescriptor desc, start1.about.vm.findClass ref, start1.about.vm.findClass cls, start1.about.fieldFound? ref name desc with
  | some ft, some t, some d, some (c, k, _, f) => decide (lookupField rf_s.vm name ft (rf_s.vm.classes.size + 1) t = lookupField start1.about.vm name ft (start1.about.vm.classes.size + 1) t) &&
    (match start1.about.vm.classes[d]?, start1.about.vm.classes[t]? with
    | some dk, some tk => (rf_s.vm.classAccessible {} tk dk == start1.about.vm.classAccessible {} tk dk) && plainAccess rf_s.vm f.accessFlags c k t d dk
    | _, _ => false)
  | _, _, _, _ => false
theorem rf_fl {cls ref name desc : String} {i : Nat} (h : (Cond.fieldLink cls i ref name desc).before start1.args0 start1.about = true) (hp : rf_pf cls ref name desc = true) : (Cond.fieldLink cls i ref name desc).before start1.args0 rf_s = true := by
  cases e2 : start1.about.vm.findClass cls with
  | none => simp [Cond.before, Cond.holds, Cond.value, e2] at h
  | some d =>
  cases e3 : start1.about.vm.findClass ref with
  | none => simp [Cond.before, Cond.holds, Cond.value, e3] at h
  | some t =>
  cases e4 : start1.about.fieldFound? ref name desc with
  | none => simp [Cond.before, Cond.holds, Cond.value, e4] at h
  | some q =>
  obtain ⟨c, k, j, f⟩ := q
  cases e1 : start1.about.memberEntry? cls i with
  | none => simp [Cond.before, Cond.holds, Cond.value, e1] at h
  | some p =>
  obtain ⟨ci, vi⟩ := p
  cases e9 : parseFieldDescriptor desc with
  | none => simp [rf_pf, e9] at hp
  | some ft =>
  cases e5 : start1.about.vm.classes[d]? with
  | none => simp [rf_pf, e2, e3, e4, e5, e9] at hp
  | some dk =>
  cases e6 : start1.about.vm.classes[t]? with
  | none => simp [rf_pf, e2, e3, e4, e5, e6, e9] at hp
  | some tk =>
  simp only [rf_pf, e2, e3, e4, e5, e6, e9, Bool.and_eq_true, decide_eq_true_eq, beq_iff_eq] at hp
  obtain ⟨hp1, ha, hp2⟩ := hp
  have r4 : rf_s.fieldFound? ref name desc = some (c, k, j, f) := by
    unfold State.fieldFound? at e4 ⊢
    simp only [e9, e3, Option.bind_eq_bind, Option.bind_some] at e4
    simp only [e9, rf_fc e3, hp1, Option.bind_eq_bind, Option.bind_some]
    cases g1 : lookupField start1.about.vm name ft (start1.about.vm.classes.size + 1) t with
    | none => rw [g1] at e4; cases e4
    | some w =>
      obtain ⟨c', j'⟩ := w
      simp only [g1, Option.bind_some] at e4 ⊢
      cases g2 : start1.about.vm.classes[c']? with
      | none => simp only [g2, Option.bind_none] at e4; cases e4
      | some k' =>
        simp only [g2, Option.bind_some] at e4
        simp only [rf_cl g2, Option.bind_some]
        exact e4
  have r1 := rf_entry e2 e5 i
  rw [e1] at r1
  have hn := rf_names e2 e5
  have ho := rf_open e2 e5
  have r2 := rf_fc e2
  have r3 := rf_fc e3
  have r5 := rf_cl e5
  have r6 := rf_cl e6
  simp only [Cond.before, Cond.holds, Cond.value, State.classLinks, e1, e2, e3, e4, e5, e6, Option.bind_eq_bind, Option.bind_some, Option.pure_def, Option.some_beq_some, beq_true, Bool.and_eq_true] at h
  simp only [Cond.before, Cond.holds, Cond.value, State.classLinks, r1, r2, r3, r4, r5, r6, hn, ho, ha, Option.bind_eq_bind, Option.bind_some, Option.pure_def, Option.some_beq_some, beq_true, Bool.and_eq_true]
  exact ⟨h.1, hp2⟩
def rf_chk : Cond → Bool
  | .code y _ _ _ => decide (rf_s.methodNamed? y = start1.about.methodNamed? y)
  | .methodLink cls _ y => rf_pm cls y
  | .fieldLink cls _ ref name desc => rf_pf cls ref name desc
  | c => c.before start1.args0 rf_s
theorem rf_word {c : Cond} (h : c.before start1.args0 start1.about = true) (hc : rf_chk c = true) : c.before start1.args0 rf_s = true := by
  cases c with
  | code y b ml r => exact rf_code h (by simpa [rf_chk] using hc)
  | methodLink cls i y => exact rf_ml h hc
  | fieldLink cls i ref name desc => exact rf_fl h hc
  | _ => exact hc
set_option maxRecDepth 16384 in
theorem rf_l1 : tables_1_1.all rf_chk = true := by decide +kernel
set_option maxRecDepth 16384 in
theorem rf_l2 : tables_1_2.all rf_chk = true := by decide +kernel
set_option maxRecDepth 16384 in
theorem rf_l3 : tables_1_3.all rf_chk = true := by decide +kernel
set_option maxRecDepth 16384 in
theorem rf_l4 : tables_1_4.all rf_chk = true := by decide +kernel
set_option maxRecDepth 16384 in
theorem rf_l5 : tables_1_5.all rf_chk = true := by decide +kernel
theorem rf_all : ∀ c ∈ tables_1, rf_chk c = true := by
  intro c h
  have h1 : c ∈ tables_1_1 ++ (tables_1_2 ++ (tables_1_3 ++ (tables_1_4 ++ tables_1_5))) := h
  rcases List.mem_append.mp h1 with h2 | h1
  · exact List.all_eq_true.mp rf_l1 c h2
  rcases List.mem_append.mp h1 with h2 | h1
  · exact List.all_eq_true.mp rf_l2 c h2
  rcases List.mem_append.mp h1 with h2 | h1
  · exact List.all_eq_true.mp rf_l3 c h2
  rcases List.mem_append.mp h1 with h2 | h1
  · exact List.all_eq_true.mp rf_l4 c h2
  exact List.all_eq_true.mp rf_l5 c h1
theorem rf_lw : rf_chk (Cond.code x code maxLocals ret) = true := by
  have h : rf_s.methodNamed? x = start1.about.methodNamed? x := by decide +kernel
  simp [rf_chk, h]
theorem rf_words : ∀ c ∈ (Cond.code x code maxLocals ret :: tables_1), c.before start1.args0 rf_s = true := by
  intro c hc
  refine rf_word (start1.words c hc) ?_
  rcases List.mem_cons.mp hc with h | h
  · rw [h]; exact rf_lw
  · exact rf_all c h
set_option maxRecDepth 16384 in
theorem rf_start : AtStart classFile x code maxLocals ret World_1 tables_1 room_1 Calls_1 rest_1 Pre_1 launch0 start1.p0 start1.e0 rf_s ⟨0, 0⟩ start1.args0 Lib.HandBits.below0 :=
  ⟨lists_1, trivial, launch0.admits_env _ _ _, launch0.least_env, fairChoices_fair.cas, fairChoices_fair.clock, rfl, by decide +kernel, by decide +kernel,
    (Spec.applies_iff rfl).mpr ⟨rfl, rfl, rfl, by decide +kernel, by decide +kernel, by decide +kernel, launch0.hasRoom_least _ room_1 (by decide +kernel) (by decide +kernel) (by decide +kernel) (by decide +kernel) (by decide +kernel) (by decide +kernel), atoms_intro rf_words⟩,
    trivial, (show rest_1_c.before start1.args0 rf_s = true by decide +kernel), (show (Cond.and given_1 narrow_1).before start1.args0 rf_s = true by decide +kernel)⟩
/-! the refutation: in the Statement's own words, and of what is owed -/
theorem rf_refuted : RefutedClaimed_1_1 := by
  obtain ⟨m, a, hw, hr, he⟩ := rf_spec _ _ rf_run
  refine ⟨launch0, start1.p0, start1.e0, rf_s, ⟨0, 0⟩, start1.args0, Lib.HandBits.below0, rfl, rf_start, m, .threw a, hw, hr, he, ?_⟩
  intro hp
  obtain ⟨-, ⟨v, hv⟩, -⟩ := hp
  cases hv
theorem rf_apart {s : State} (hw : Within s Lib.HandBits.below0) {o : Outcome} (he : Ended s Lib.HandBits.below0 o) : False := by
  obtain ⟨above, hf, hne, ht⟩ := hw
  cases o with
  | threw a =>
    have h1 : s.frames = .throwing a :: Lib.HandBits.below0 := he
    rw [hf] at h1
    have h2 : above ++ Lib.HandBits.below0 = [.throwing a] ++ Lib.HandBits.below0 := h1
    exact ht a (List.append_cancel_right h2)
  | returned v =>
    have h1 : s.frames.length = 1 := by
      simp only [Ended, Lib.HandBits.below0] at he
      rw [he]; rfl
    rw [hf] at h1
    cases above with
    | nil => exact hne rfl
    | cons y r => simp [Lib.HandBits.below0] at h1
theorem rf_not_1 : ¬ Claimed_1_1 := by
  intro hc
  obtain ⟨m, a, hw, hr, he⟩ := rf_spec _ _ rf_run
  obtain ⟨hL, hW, hA, -, hC, hK, hF, hg, hh, hap, h1, h2, h3⟩ := rf_start
  obtain ⟨n, o, hw', hr', he', hp⟩ := hc launch0 rfl hL hW start1.p0 start1.e0 hA hC hK rf_s ⟨0, 0⟩ start1.args0 Lib.HandBits.below0 hF hg hh hap ⟨h1, h2, h3⟩
  rcases Nat.lt_trichotomy n m with h | h | h
  · exact rf_apart (hw n h) he'
  · subst h
    obtain ⟨-, ⟨v, hv⟩, -⟩ := hp
    subst hv
    have e1 : (stepsAlone rf_tb start1.e0 n rf_s).frames = .throwing a :: Lib.HandBits.below0 := he
    have e2 : (stepsAlone rf_tb start1.e0 n rf_s).frames.length = 1 := by
      have he2 : Ended (stepsAlone rf_tb start1.e0 n rf_s) Lib.HandBits.below0 (.returned v) := he'
      simp only [Ended, Lib.HandBits.below0] at he2
      rw [he2]; rfl
    rw [e1] at e2
    simp [Lib.HandBits.below0] at e2
  · exact rf_apart (hw' m h) he
theorem rf_not_vc : ¬ (Claimed_1_1 ∧ Claimed_1_2) := fun h => rf_not_1 h.1
