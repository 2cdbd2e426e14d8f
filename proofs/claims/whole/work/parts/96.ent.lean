/-! the start: what the statement gives, as the picture has it -/
theorem st_size {args : Array Value} {s : State} {tm : Term} {t N : Nat} {cell : Cell} (ht : tm.eval args s none [] s = some (.ref t)) (hat : s.arrayAt? t = some cell) (hN : N < 2 ^ 31) (hlen : (Term.length tm).eval args s none [] s = some (.int (Int32.ofNat N))) : cell.slots.size = N := by
  simp only [Term.eval, ht, hat, Option.bind_eq_bind, Option.bind_some] at hlen
  by_cases hs : cell.slots.size < 2 ^ 31
  · rw [if_pos hs] at hlen
    have e : cell.slots.size.toInt32 = Int32.ofNat N := Value.int.inj (Option.some.inj hlen)
    have e2 := congrArg Int32.toNatClampNeg e
    rw [show cell.slots.size.toInt32 = Int32.ofNat cell.slots.size from rfl, Int32.toNatClampNeg_ofNat_of_lt hs, Int32.toNatClampNeg_ofNat_of_lt hN] at e2
    exact e2
  · rw [if_neg hs] at hlen
    cases hlen
theorem st_cell {args : Array Value} {s : State} {tm : Term} {N : Nat} {g : Nat → Int32} (hN : N < 2 ^ 31) (harr : (Cond.arrayOf tm .int).before args s = true) (hlen : (Cond.eq (.length tm) (.int (Int32.ofNat N))).before args s = true) (hel : ∀ j : Nat, j < N → (Cond.eq (.elem tm (.int (Int32.ofNat j))) (.int (g j))).before args s = true) : ∃ (t : Nat) (cell : Cell), tm.eval args s none [] s = some (.ref t) ∧ s.heap[t]? = some cell ∧ s.isArrayOf cell .int ∧ cell.vm ≠ .unknown ∧ cell.slots.size = N ∧ ∀ j : Nat, j < N → cell.slots[j]? = some (.int (g j)) := by
  have hl := va_eqt hlen
  obtain ⟨t, ht, cell, hcell, hof, hkn, hle, -, hval, -⟩ := va_Tof (ty := .int) (f := fun j => .int (g j)) (A := fun _ => False) hN harr hl (fun j hj => va_eqt (hel j hj)) (fun _ _ h => h)
  obtain ⟨t', cell', ht', hat, -⟩ := Term.length_spec hl
  cases ht.symm.trans ht'
  obtain ⟨hcell', -, -, -⟩ := State.arrayAt?_spec hat
  cases hcell.symm.trans hcell'
  exact ⟨t, cell, ht, hcell, hof, hkn, st_size ht hat hN hl, hval⟩
/-- the rows of ints that are there at the start -/
def rowP (s : State) (a : Nat) : Prop := ∃ cell : Cell, s.heap[a]? = some cell ∧ s.isArrayOf cell .int ∧ cell.vm ≠ .unknown ∧ ∀ j : Nat, j < cell.slots.size → ∃ v : Int32, cell.slots[j]? = some (.int v)
def rowV (s : State) (a : Nat) : Nat × (Nat → Int32) := match s.heap[a]? with
  | some ce => (ce.slots.size, fun j => match ce.slots[j]? with
    | some (.int v) => v
    | _ => 0)
  | none => (0, fun _ => 0)
noncomputable def rowsOf (s : State) (a : Nat) : Option (Nat × (Nat → Int32)) := @ite _ (rowP s a) (Classical.propDecidable _) (some (rowV s a)) none
theorem rows_T {s : State} {a n : Nat} {g : Nat → Int32} (h : rowsOf s a = some (n, g)) : va_T .int a n (fun j => .int (g j)) (fun q => s.heap.size ≤ q) s s.heap := by
  unfold rowsOf at h
  by_cases hp : rowP s a
  · rw [if_pos hp] at h
    obtain ⟨cell, h1, h2, h3, h4⟩ := hp
    have hv : rowV s a = (cell.slots.size, fun j => match cell.slots[j]? with
      | some (.int v) => v
      | _ => 0) := by
      unfold rowV
      rw [h1]
    rw [hv] at h
    cases h
    refine ⟨cell, h1, h2, h3, Nat.le_refl _, rfl, fun j hj => ?_, Nat.not_le.mpr (Array.getElem?_eq_some_iff.mp h1).1⟩
    obtain ⟨v, e⟩ := h4 j hj
    show cell.slots[j]? = some (Value.int (match cell.slots[j]? with
      | some (.int v) => v
      | _ => 0))
    rw [e]
  · rw [if_neg hp] at h
    cases h
theorem rows_eq {s : State} {a N : Nat} {g : Nat → Int32} {cell : Cell} (h1 : s.heap[a]? = some cell) (h2 : s.isArrayOf cell .int) (h3 : cell.vm ≠ .unknown) (hN : cell.slots.size = N) (h4 : ∀ j : Nat, j < N → cell.slots[j]? = some (.int (g j))) (h5 : ∀ j : Nat, N ≤ j → g j = 0) : rowsOf s a = some (N, g) := by
  have hp : rowP s a := ⟨cell, h1, h2, h3, fun j hj => ⟨g j, h4 j (by omega)⟩⟩
  unfold rowsOf
  rw [if_pos hp]
  unfold rowV
  rw [h1]
  subst hN
  show some (cell.slots.size, _) = some (cell.slots.size, g)
  congr 2
  funext j
  by_cases hj : j < cell.slots.size
  · rw [h4 j hj]
  · rw [Array.getElem?_eq_none (by omega), h5 j (by omega)]
theorem getD0 {l : List Int} {j : Nat} (h : l.length ≤ j) : i3 (l.getD ((j : Int)).toNat 0) = 0 := by
  have e : l[((j : Int)).toNat]? = none := List.getElem?_eq_none (by omega)
  rw [List.getD_eq_getElem?_getD, e]
  rfl
theorem sumsT_len : sumsT.length = 201 := by decide +kernel
theorem slots_eq {ce : Cell} {cA : ClassId} {N : Nat} {g : Nat → Int32} (hs : ce.slots.size = N) (hd : ∀ j : Nat, j < N → ce.slots[j]? = some (.int (g j))) : ce.slots = (vp_cell cA (N, .inl g)).slots := by
  show ce.slots = Array.ofFn (n := N) fun j => Value.int (g j.val)
  apply Array.ext
  · rw [hs, Array.size_ofFn]
  · intro i h1 h2
    have x1 := hd i (by omega)
    rw [Array.getElem?_eq_getElem h1] at x1
    rw [Option.some.inj x1, Array.getElem_ofFn]
/-! the statement's words on the five rows of the statics -/
theorem nrE_0 : ∀ j : Nat, j < 6 → (flatC (Jvm.Cond.and given_1 narrow_1))[7 + j]? = some (Cond.eq (.elem (.static "GlassRoom$Glass" "FIRST" "[I") (.int (Int32.ofNat j))) (.int (i3 (firZ (j : Int))))) := by decide +kernel
theorem nrE_1 : ∀ j : Nat, j < 6 → (flatC (Jvm.Cond.and given_1 narrow_1))[16 + j]? = some (Cond.eq (.elem (.static "GlassRoom$Glass" "LEAST" "[I") (.int (Int32.ofNat j))) (.int (i3 (leaZ (j : Int))))) := by decide +kernel
theorem nrE_2 : ∀ j : Nat, j < 6 → (flatC (Jvm.Cond.and given_1 narrow_1))[25 + j]? = some (Cond.eq (.elem (.static "GlassRoom$Glass" "MOST" "[I") (.int (Int32.ofNat j))) (.int (i3 (mosZ (j : Int))))) := by decide +kernel
theorem nrE_3 : ∀ j : Nat, j < 10 → (flatC (Jvm.Cond.and given_1 narrow_1))[34 + j]? = some (Cond.eq (.elem (.static "GlassRoom$Glass" "DROP_BY_BORE" "[I") (.int (Int32.ofNat j))) (.int (i3 (droZ (j : Int))))) := by decide +kernel
theorem nrE_4 : ∀ j : Nat, j < 201 → (flatC (Jvm.Cond.and given_1 narrow_1))[47 + j]? = some (Cond.eq (.elem (.static "GlassRoom$Column" "SUMS" "[I") (.int (Int32.ofNat j))) (.int (i3 (susZ (j : Int))))) := by decide +kernel
section NRA
variable {args : Array Value} {s : State}
theorem nr_0 (h : (Jvm.Cond.and given_1 narrow_1).before args s = true) : ∃ (t : Nat) (cell : Cell), (Term.static "GlassRoom$Glass" "FIRST" "[I").eval args s none [] s = some (.ref t) ∧ s.heap[t]? = some cell ∧ s.isArrayOf cell .int ∧ cell.vm ≠ .unknown ∧ cell.slots.size = 6 ∧ ∀ j : Nat, j < 6 → cell.slots[j]? = some (.int (i3 (firZ (j : Int)))) :=
  st_cell (by decide) (flat_of_before _ h _ (List.mem_of_getElem? (i := 5) (by decide +kernel))) (flat_of_before _ h _ (List.mem_of_getElem? (i := 6) (by decide +kernel))) (fun j hj => flat_of_before _ h _ (List.mem_of_getElem? (i := 7 + j) (nrE_0 j hj)))
theorem nr_1 (h : (Jvm.Cond.and given_1 narrow_1).before args s = true) : ∃ (t : Nat) (cell : Cell), (Term.static "GlassRoom$Glass" "LEAST" "[I").eval args s none [] s = some (.ref t) ∧ s.heap[t]? = some cell ∧ s.isArrayOf cell .int ∧ cell.vm ≠ .unknown ∧ cell.slots.size = 6 ∧ ∀ j : Nat, j < 6 → cell.slots[j]? = some (.int (i3 (leaZ (j : Int)))) :=
  st_cell (by decide) (flat_of_before _ h _ (List.mem_of_getElem? (i := 14) (by decide +kernel))) (flat_of_before _ h _ (List.mem_of_getElem? (i := 15) (by decide +kernel))) (fun j hj => flat_of_before _ h _ (List.mem_of_getElem? (i := 16 + j) (nrE_1 j hj)))
theorem nr_2 (h : (Jvm.Cond.and given_1 narrow_1).before args s = true) : ∃ (t : Nat) (cell : Cell), (Term.static "GlassRoom$Glass" "MOST" "[I").eval args s none [] s = some (.ref t) ∧ s.heap[t]? = some cell ∧ s.isArrayOf cell .int ∧ cell.vm ≠ .unknown ∧ cell.slots.size = 6 ∧ ∀ j : Nat, j < 6 → cell.slots[j]? = some (.int (i3 (mosZ (j : Int)))) :=
  st_cell (by decide) (flat_of_before _ h _ (List.mem_of_getElem? (i := 23) (by decide +kernel))) (flat_of_before _ h _ (List.mem_of_getElem? (i := 24) (by decide +kernel))) (fun j hj => flat_of_before _ h _ (List.mem_of_getElem? (i := 25 + j) (nrE_2 j hj)))
theorem nr_3 (h : (Jvm.Cond.and given_1 narrow_1).before args s = true) : ∃ (t : Nat) (cell : Cell), (Term.static "GlassRoom$Glass" "DROP_BY_BORE" "[I").eval args s none [] s = some (.ref t) ∧ s.heap[t]? = some cell ∧ s.isArrayOf cell .int ∧ cell.vm ≠ .unknown ∧ cell.slots.size = 10 ∧ ∀ j : Nat, j < 10 → cell.slots[j]? = some (.int (i3 (droZ (j : Int)))) :=
  st_cell (by decide) (flat_of_before _ h _ (List.mem_of_getElem? (i := 32) (by decide +kernel))) (flat_of_before _ h _ (List.mem_of_getElem? (i := 33) (by decide +kernel))) (fun j hj => flat_of_before _ h _ (List.mem_of_getElem? (i := 34 + j) (nrE_3 j hj)))
theorem nr_4 (h : (Jvm.Cond.and given_1 narrow_1).before args s = true) : ∃ (t : Nat) (cell : Cell), (Term.static "GlassRoom$Column" "SUMS" "[I").eval args s none [] s = some (.ref t) ∧ s.heap[t]? = some cell ∧ s.isArrayOf cell .int ∧ cell.vm ≠ .unknown ∧ cell.slots.size = 201 ∧ ∀ j : Nat, j < 201 → cell.slots[j]? = some (.int (i3 (susZ (j : Int)))) :=
  st_cell (by decide) (flat_of_before _ h _ (List.mem_of_getElem? (i := 45) (by decide +kernel))) (flat_of_before _ h _ (List.mem_of_getElem? (i := 46) (by decide +kernel))) (fun j hj => flat_of_before _ h _ (List.mem_of_getElem? (i := 47 + j) (nrE_4 j hj)))
end NRA
/-- the script's numbers -/
def scrZ (L : Nat) (xs : Nat → Int32) : Int → Int := fun j => if j.toNat < L then (xs j.toNat).toInt else 0
theorem scr_i (L : Nat) (xs : Nat → Int32) (j : Nat) : i3 (scrZ L xs (j : Int)) = if j < L then xs j else 0 := by
  unfold scrZ
  rw [show ((j : Int)).toNat = j by omega]
  by_cases h : j < L
  · rw [if_pos h, if_pos h, ← i3_of]
  · rw [if_neg h, if_neg h]; rfl
theorem scr_rng (L : Nat) (xs : Nat → Int32) (j : Int) : -2147483648 ≤ scrZ L xs j ∧ scrZ L xs j < 2147483648 := by
  unfold scrZ
  split
  · exact fb_rng _
  · omega
theorem ax_pick {P : Nat → ClassId → (Nat → Nat) → Prop} (h : ∀ k, ∃ (c : ClassId) (i : Nat → Nat), P k c i) : ∃ (C : Nat → ClassId) (I : Nat → Nat → Nat), ∀ k, P k (C k) (I k) :=
  ⟨fun k => (h k).choose, fun k => (h k).choose_spec.choose, fun k => (h k).choose_spec.choose_spec⟩
/-- THE OPEN PREMISE: the cell of FIRST's row is of the class found under "[I". The statement doesn't say it (REPORT.md). -/
def FirstOpen (b : Nat) (s : State) : Prop := ∀ (t : Nat) (cell : Cell), (Term.static "GlassRoom$Glass" "FIRST" "[I").eval #[Value.ref b] s none [] s = some (.ref t) → s.heap[t]? = some cell → s.vm.findClass "[I" = some cell.cls
theorem tb_mem {k : Nat} {w : Cond} (h : tables_1[k]? = some w) : w ∈ lw_tbl := List.mem_append_right _ (List.mem_of_getElem? h)
theorem lw_X {s : State} {b L : Nat} {xs : Nat → Int32} (l : Launch) (hts : ∀ w ∈ lw_tbl, w.before #[Value.ref b] s = true) (hgv : (Jvm.Cond.and given_1 narrow_1).before #[Value.ref b] s = true) (hX : va_X b L xs s s.heap) (hF_open : FirstOpen b s) :
    ∃ X : ax_X, X.1 = l ∧ X.2.2.2.1 = s.heap ∧ ax_K X s ∧ stOk X ∧ clOk X ∧ X.2.2.2.2.1 b = some (L, fun j : Nat => i3 (scrZ L xs (j : Int))) := by
  have htT : ∀ w ∈ ax_T, w.before #[Value.ref b] s = true := fun w hw => hts w (List.mem_filter.mp hw).1
  obtain ⟨dC, dI, hD⟩ : ∃ (C : Nat → ClassId) (I : Nat → Nat → Nat), ∀ k, ∀ q : vw_C, vwCl[k]? = some q → u_Kn s q.1 q.2.1 q.2.2 (C k) (I k) := by
    refine ax_pick (P := fun k c i => ∀ q : vw_C, vwCl[k]? = some q → u_Kn s q.1 q.2.1 q.2.2 c i) (fun k => ?_)
    match k with
    | 0 => obtain ⟨c, i, h⟩ := u_known (C := RX0) (T := TX0) (N := 6) (n := 6) htT iuX0 (htT _ tw_22); exact ⟨c, i, fun q hq => by cases hq; exact h⟩
    | 1 => obtain ⟨c, i, h⟩ := u_known (C := RX2) (T := TX2) (N := 10) (n := 10) htT iuX2 (htT _ tw_50); exact ⟨c, i, fun q hq => by cases hq; exact h⟩
    | 2 => obtain ⟨c, i, h⟩ := u_known (C := RX3) (T := TX3) (N := 6) (n := 6) htT iuX3 (htT _ tw_128); exact ⟨c, i, fun q hq => by cases hq; exact h⟩
    | 3 => obtain ⟨c, i, h⟩ := u_known (C := RX4) (T := TX4) (N := 3) (n := 3) htT iuX4 (htT _ tw_152); exact ⟨c, i, fun q hq => by cases hq; exact h⟩
    | 4 => obtain ⟨c, i, h⟩ := u_known (C := RX5) (T := TX5) (N := 9) (n := 9) htT iuX5 (htT _ tw_312); exact ⟨c, i, fun q hq => by cases hq; exact h⟩
    | 5 => obtain ⟨c, i, h⟩ := u_known (C := RX6) (T := TX6) (N := 10) (n := 10) htT iuX6 (htT _ tw_88); exact ⟨c, i, fun q hq => by cases hq; exact h⟩
    | 6 => obtain ⟨c, i, h⟩ := u_known (C := RX7) (T := TX7) (N := 5) (n := 5) htT iuX7 (htT _ tw_12); exact ⟨c, i, fun q hq => by cases hq; exact h⟩
    | 7 => obtain ⟨c, i, h⟩ := u_known (C := RX8) (T := TX8) (N := 33) (n := 33) htT iuX8 (htT _ tw_738); exact ⟨c, i, fun q hq => by cases hq; exact h⟩
    | k + 8 => exact ⟨0, fun _ => 0, fun q hq => by simp [vwCl] at hq⟩
  obtain ⟨a0, k0, p0, f0, g0, h0⟩ := Cond.arrayClass_spec (htT _ tw_48)
  obtain ⟨a1, k1, p1, f1, g1, h1⟩ := Cond.arrayClass_spec (htT _ tw_126)
  obtain ⟨a2, k2, p2, f2, g2, h2⟩ := Cond.arrayClass_spec (htT _ tw_86)
  have w20 : (Cond.arrayOver (.object RX4)).before #[Value.ref b] s = true := hts _ (tb_mem (k := 20) (by decide +kernel))
  have w28 : (Cond.arrayOver (.object RX5)).before #[Value.ref b] s = true := hts _ (tb_mem (k := 28) (by decide +kernel))
  have w94 : (Cond.arrayOver (.array .long)).before #[Value.ref b] s = true := hts _ (tb_mem (k := 94) (by decide +kernel))
  have w164 : (Cond.castable "[I" "java/lang/Cloneable").before #[Value.ref b] s = true := hts _ (tb_mem (k := 164) (by decide +kernel))
  obtain ⟨p3, a3, k3, f3, -, g3, h3, n3⟩ := Cond.arrayOver_spec w20
  obtain ⟨p4, a4, k4, f4, -, g4, h4, n4⟩ := Cond.arrayOver_spec w28
  obtain ⟨p5, a5, k5, f5, g5, h5, n5⟩ := mq_over w94
  have ary : ∀ {c : ClassId} {k : Class} {p : ClassId} {ty : FieldType}, s.vm.classes[c]? = some k → k.kind = .array p ty → ArrOfT s c ty := fun hk hi N z => ⟨(fun k h => by cases h), _, hk, _, hi⟩
  obtain ⟨t0, e0, v0, q0, o0, u0, s0, d0⟩ := nr_0 hgv
  obtain ⟨t1, e1, v1, q1, o1, u1, s1, d1⟩ := nr_1 hgv
  obtain ⟨t2, e2, v2, q2, o2, u2, s2, d2⟩ := nr_2 hgv
  obtain ⟨t3, e3, v3, q3, o3, u3, s3, d3⟩ := nr_3 hgv
  obtain ⟨t4, e4, v4, q4, o4, u4, s4, d4⟩ := nr_4 hgv
  have hA : ∀ a : Nat, a < s.heap.size → ¬ s.heap.size ≤ a := fun a h => Nat.not_le.mpr h
  have c0 : e0.cls = a0 := Option.some.inj ((hF_open t0 e0 v0 q0).symm.trans f0)
  refine ⟨(l, (dC, dI), (fun k => match k with | 0 => a0 | 1 => a1 | 2 => a2 | 3 => a3 | 4 => a4 | _ => a5), s.heap, rowsOf s, (fun k => match k with | 0 => t0 | 1 => t1 | 2 => t2 | 3 => t3 | _ => t4)), rfl, rfl, ⟨⟨hD, fun k q hq => ?_⟩, fun a i x h hw => va_Nw.of rfl (hts _ hw), fun a i b' n d h hw => va_Nw.of rfl (hts _ hw), va_AO.of w20, va_AO.of w28, fun a n g h => rows_T h, fun k q hq => ?_, va_Nw.of rfl w164, ?_⟩, ⟨?_, ?_, ?_, ?_, ?_⟩, ⟨e0, q0, c0, o0.1, u0, ?_⟩, ?_⟩
  · match k, hq with
    | 0, hq => cases hq; exact ⟨ary g0 h0, f0⟩
    | 1, hq => cases hq; exact ⟨ary g1 h1, f1⟩
    | 2, hq => cases hq; exact ⟨ary g2 h2, f2⟩
    | 3, hq => cases hq; exact ⟨ary g3 h3, k3, p3, g3, h3, f3, n3⟩
    | 4, hq => cases hq; exact ⟨ary g4 h4, k4, p4, g4, h4, f4, n4⟩
    | 5, hq => cases hq; exact ⟨ary g5 h5, n5⟩
    | k + 6, hq => simp at hq
  · match k, hq with
    | 0, hq => cases hq; exact va_Zref (hts _ (tb_mem (k := 158) (by decide +kernel))) (htT _ tw_6) v0 hA
    | 1, hq => cases hq; exact va_Zref (hts _ (tb_mem (k := 211) (by decide +kernel))) (htT _ tw_6) v1 hA
    | 2, hq => cases hq; exact va_Zref (hts _ (tb_mem (k := 213) (by decide +kernel))) (htT _ tw_6) v2 hA
    | 3, hq => cases hq; exact va_Zref (hts _ (tb_mem (k := 281) (by decide +kernel))) (htT _ tw_6) v3 hA
    | 4, hq => cases hq; exact va_Zref (hts _ (tb_mem (k := 412) (by decide +kernel))) (htT _ tw_10) v4 hA
    | k + 5, hq => simp [ax_stf] at hq
  · exact w94
  · exact rows_eq q0 o0 u0 s0 d0 (fun j hj => getD0 hj)
  · exact rows_eq q1 o1 u1 s1 d1 (fun j hj => getD0 hj)
  · exact rows_eq q2 o2 u2 s2 d2 (fun j hj => getD0 hj)
  · exact rows_eq q3 o3 u3 s3 d3 (fun j hj => getD0 hj)
  · exact rows_eq q4 o4 u4 s4 d4 (fun j hj => getD0 (by rw [sumsT_len]; exact hj))
  · exact slots_eq s0 d0
  · obtain ⟨scr, y1, y2, y3, y4, y5⟩ := hX
    refine rows_eq y1 y2 y3 y4 (fun j hj => ?_) (fun j hj => ?_)
    · rw [scr_i, if_pos hj]; exact y5 j hj
    · rw [scr_i, if_neg (by omega)]
