def ax_popn : Nat → List Value → List Value → Option (List Value × List Value)
  | 0, acc, st => some (acc, st)
  | _ + 1, _, [] => none
  | k + 1, acc, v :: st => ax_popn k (v :: acc) st
theorem ax_popn_spec : ∀ (k : Nat) (acc st as r : List Value), ax_popn k acc st = some (as, r) → as.reverse ++ r = acc.reverse ++ st ∧ as.length = k + acc.length
  | 0, acc, st, as, r, h => by
    simp only [ax_popn] at h
    cases h
    exact ⟨rfl, by omega⟩
  | k + 1, acc, [], as, r, h => by simp [ax_popn] at h
  | k + 1, acc, v :: st, as, r, h => by
    simp only [ax_popn] at h
    obtain ⟨h1, h2⟩ := ax_popn_spec k (v :: acc) st as r h
    refine ⟨by rw [h1]; simp, by rw [h2, List.length_cons]; omega⟩
abbrev ax_cont (X : ax_X) (mi' : ax_MI) (mc ms : Nat) (k : ax_P) (ls : List (Option Value)) (as r : List Value) (c n z : Nat) (f : ax_F) : Prop :=
  (r.map fun v => v.category).sum ≤ 8 ∧ ∃ (mc' ms' : Nat) (Q' : Option Value → Nat → ax_F → Prop), ax_M X mi' mc' ms' as z f Q' ∧ c + mc' ≤ mc ∧ n + ms' ≤ ms ∧ ∀ (v : Option Value) (z' : Nat) (f' : ax_F), Q' v z' f' → k ls (v.toList ++ r) (c + mc') (n + ms') z' f'
def ax_call (X : ax_X) (mi' : ax_MI) (na mc ms : Nat) (k : ax_P) : ax_P := fun ls st c n z f => match ax_popn na [] st with
  | some (as, r) => ax_cont X mi' mc ms k ls as r c n z f
  | none => False
def ax_isO (f : ax_F) (ci : Nat) (v : Value) : Prop := match v with
  | .ref b => ∃ fs : List Value, f b = some (.inr (ci, fs))
  | _ => False
def ax_calv (X : ax_X) (mi' : ax_MI) (ci na mc ms : Nat) (k : ax_P) : ax_P := fun ls st c n z f => match ax_popn na [] st with
  | some (b :: as, r) => ax_isO f ci b ∧ ax_cont X mi' mc ms k ls (b :: as) r c n z f
  | _ => False
def ax_obj (k : ax_P) : ax_P := fun ls st c n z f => match st with
  | .ref _ :: r => (r.map fun v => v.category).sum ≤ 8 ∧ k ls r c n z f
  | _ => False
section AXC
variable {X : ax_X} {mi mi' : ax_MI} {mc ms : Nat} {Q : Option Value → Nat → ax_F → Prop} {pc : Nat} {k : ax_P}
theorem ax_blind {as : List Value} {z : Nat} {f : ax_F} : FrameBlind (va_Pc as (fun U => ax_K X U ∧ ax_R X z f U.heap)) := fun a U g mk h => ⟨h.1, ax_K_same h.2.1 rfl, h.2.2⟩
theorem ax_goodin (hw : Cond.code mi'.1 mi'.2.1 mi'.2.2.1 mi'.2.2.2.1 ∈ ax_T) : GoodIn (ax_ws mi) (ax_ws mi') := by
  intro w h
  have hT : w ∈ ax_T := by
    rcases List.mem_cons.mp h with rfl | h
    · exact hw
    · exact h
  exact ⟨List.mem_cons_of_mem _ hT, good_of_word (ax_good w hT)⟩
theorem ax_roomok {d d' nL mc ms mc' ms' : Nat} (hd : d' + 1 ≤ d) (hn : nL ≤ 45) : (ax_rm d' mc' ms').frames + 1 ≤ (ax_rm d mc ms).frames ∧ 8 + (nL + 11) + (ax_rm d' mc' ms').locals ≤ (ax_rm d mc ms).locals := by
  refine ⟨hd, ?_⟩
  show 8 + (nL + 11) + 64 * d' ≤ 64 * d
  omega
theorem ax_after {p : Program} {e : Env} {s : State} {m : MethodId} {args : Array Value} {below : List Frame} {meth : Method} {co : Code} {H : Heap} {locs : List Loc} {la : Array Slot} {ls : List (Option Value)} {c n mc' ms' : Nat} {st0 r : List Value} {Q' : Option Value → Nat → ax_F → Prop} {a : Array Value}
    (C : ax_C X mi p s m args meth co) (hl : ax_lv la mi.2.2.1 ls) (hL : ∀ q ∈ locs, ax_A X q.base)
    (hr : va_Run p X.1 e (ax_rm mi.2.2.2.2 mc ms) s m args below meth co H locs c n mc' ms' (F0 m pc la st0) r (ax_Q X Q' a) (ax_A X))
    (hk : ax_S X mi mc ms Q (pc + 3) k) (h : ∀ (v : Option Value) (z' : Nat) (f' : ax_F), Q' v z' f' → k ls (v.toList ++ r) (c + mc') (n + ms') z' f') :
    W p X.1 e (ax_rm mi.2.2.2.2 mc ms) s m args below meth co H locs c n (MQ below (ax_Q X Q) args s mc ms (ax_A X)) (F0 m pc la st0) := by
  intro T hT Xs
  obtain ⟨v, st₀, t, T', L, h0, X', hLL, e1, e2, ⟨v', z', f', hv, hq, hR'⟩, st⟩ := hr T hT Xs
  cases hv
  obtain ⟨t2, a1, b1⟩ := hk _ _ _ _ _ _ (h v z' f' hq) p e s m args below meth co C T'.heap (locs ++ L) la hl (by rw [e1]; exact hR') (fun q hq => (List.mem_append.mp hq).elim (hL q) (hLL q)) X'.same.2.1 T' rfl X'
  exact ⟨t2, st t2 a1, b1⟩
/-- a static method of the same kit of words, or of another that is known as begun -/
theorem sn_call {idx na : Nat} (hd : decode mi.2.1 pc = .ok (.invokestatic idx, 3)) (hc : Cond.code mi'.1 mi'.2.1 mi'.2.2.1 mi'.2.2.2.1 ∈ ax_T) (hw1 : Cond.methodLink mi.1.cls idx mi'.1 ∈ ax_T) (hw2 : Cond.static mi'.1 ∈ ax_T) (hw3 : Cond.initialized mi'.1.cls ∈ ax_T)
    (hn : mi'.1.cls ≠ "java/lang/invoke/MethodHandle" ∧ mi'.1.cls ≠ "java/lang/invoke/VarHandle" ∧ (parseMethodDescriptor mi'.1.desc).map (fun d => d.parameters.length) = some na) (hdp : mi'.2.2.2.2 + 1 ≤ mi.2.2.2.2) (hnl : mi'.2.2.1 ≤ 45)
    (hk : ax_S X mi mc ms Q (pc + 3) k) : ax_S X mi mc ms Q pc (ax_call X mi' na mc ms k) := by
  intro ls st c n z f h p e s m args below meth co C H locs la hl hR hL hz
  unfold ax_call at h
  split at h
  · rename_i as r hp
    obtain ⟨h1, mc', ms', Q', hM, h2, h3, h4⟩ := h
    obtain ⟨p1, p2⟩ := ax_popn_spec _ _ _ _ _ hp
    have hts := C.2.2.2.2.1
    exact ax_after C hl hL (va_runS (As := as) (rest := r) ⟨C.1, C.2.1, C.2.2.1, C.2.2.2.1, hts⟩ hM ⟨callB_of na hts (ax_goodin hc) rfl rfl rfl (hts _ (List.mem_cons_of_mem _ hw3)) (hts _ (List.mem_cons_of_mem _ hw1)) hn (ax_roomok hdp hnl), hts _ (List.mem_cons_of_mem _ hw2)⟩ ⟨ax_blind, fun U hU hW => ⟨rfl, ax_K_warm C.2.2.2.2.2.2.2.2.1 hW, by rw [hU]; exact hR⟩⟩ rfl (by rw [p2]; rfl) hl.1 (by rw [show as.reverse ++ r = st from p1]) (by show 2 * 0 + _ ≤ 8; omega) hd ⟨h2, h3⟩) hk h4
  · exact h.elim
theorem sn_callN {idx na : Nat} {host : String} (hd : decode mi.2.1 pc = .ok (.invokestatic idx, 3)) (hc : Cond.code mi'.1 mi'.2.1 mi'.2.2.1 mi'.2.2.2.1 ∈ ax_T) (hw1 : Cond.methodLinkNest mi.1.cls idx mi'.1 host ∈ lw_tbl) (hw2 : Cond.static mi'.1 ∈ ax_T) (hw3 : Cond.initialized mi'.1.cls ∈ ax_T)
    (hn : mi'.1.cls ≠ "java/lang/invoke/MethodHandle" ∧ mi'.1.cls ≠ "java/lang/invoke/VarHandle" ∧ (parseMethodDescriptor mi'.1.desc).map (fun d => d.parameters.length) = some na) (hdp : mi'.2.2.2.2 + 1 ≤ mi.2.2.2.2) (hnl : mi'.2.2.1 ≤ 45)
    (hk : ax_S X mi mc ms Q (pc + 3) k) : ax_S X mi mc ms Q pc (ax_call X mi' na mc ms k) := by
  intro ls st c n z f h p e s m args below meth co C H locs la hl hR hL hz
  unfold ax_call at h
  split at h
  · rename_i as r hp
    obtain ⟨h1, mc', ms', Q', hM, h2, h3, h4⟩ := h
    obtain ⟨p1, p2⟩ := ax_popn_spec _ _ _ _ _ hp
    have hts := C.2.2.2.2.1
    exact ax_after C hl hL (va_runSN (As := as) (rest := r) ⟨C.1, C.2.1, C.2.2.1, C.2.2.2.1, hts⟩ hM ⟨va_cnB na hts (ax_goodin hc) rfl rfl rfl (C.2.2.2.2.2.2.2.2.1.2.1 _ _ _ _ hw1) (hts _ (List.mem_cons_of_mem _ hw3)) hn (ax_roomok hdp hnl), hts _ (List.mem_cons_of_mem _ hw2), trivial⟩ ⟨ax_blind, fun U hU hW => ⟨rfl, ax_K_warm C.2.2.2.2.2.2.2.2.1 hW, by rw [hU]; exact hR⟩⟩ rfl (by rw [p2]; rfl) hl.1 (by rw [show as.reverse ++ r = st from p1]) (by show 2 * 0 + _ ≤ 8; omega) hd ⟨h2, h3⟩) hk h4
  · exact h.elim
theorem sn_calv {idx ci na : Nat} {q0 : vw_C} (hd : decode mi.2.1 pc = .ok (.invokevirtual idx, 3)) (hcl : vwCl[ci]? = some q0) (hq0 : q0.1 = mi'.1.cls) (hc : Cond.code mi'.1 mi'.2.1 mi'.2.2.1 mi'.2.2.2.1 ∈ ax_T) (hw1 : Cond.methodLink mi.1.cls idx mi'.1 ∈ ax_T) (hw2 : Cond.instanceMethod mi'.1 ∈ ax_T) (hw3 : Cond.initialized mi'.1.cls ∈ ax_T) (hw4 : Cond.selects mi'.1.cls mi'.1 mi'.1 ∈ ax_T)
    (hn : mi'.1.cls ≠ "java/lang/invoke/MethodHandle" ∧ mi'.1.cls ≠ "java/lang/invoke/VarHandle" ∧ (parseMethodDescriptor mi'.1.desc).map (fun d => d.parameters.length) = some na) (hdp : mi'.2.2.2.2 + 1 ≤ mi.2.2.2.2) (hnl : mi'.2.2.1 ≤ 45)
    (hk : ax_S X mi mc ms Q (pc + 3) k) : ax_S X mi mc ms Q pc (ax_calv X mi' ci (na + 1) mc ms k) := by
  intro ls st c n z f h p e s m args below meth co C H locs la hl hR hL hz
  unfold ax_calv at h
  split at h
  · rename_i b as r hp
    obtain ⟨hb, h1, mc', ms', Q', hM, h2, h3, h4⟩ := h
    obtain ⟨p1, p2⟩ := ax_popn_spec _ _ _ _ _ hp
    have hts := C.2.2.2.2.1
    cases b with
    | ref b =>
      obtain ⟨fs, hfb⟩ := hb
      have hrecv := va_recv C.2.2.2.2.2.2.2.2.1.1 (hR.one hfb) hcl (ci := ci) (q0 := 0) rfl
      rw [hq0] at hrecv
      exact ax_after C hl hL (va_runV (C := mi'.1.cls) (As := as) (rest := r) ⟨C.1, C.2.1, C.2.2.1, C.2.2.2.1, hts⟩ hM ⟨callB_of na hts (ax_goodin hc) rfl rfl rfl (hts _ (List.mem_cons_of_mem _ hw3)) (hts _ (List.mem_cons_of_mem _ hw1)) hn (ax_roomok hdp hnl), hts _ (List.mem_cons_of_mem _ hw2), hts _ (List.mem_cons_of_mem _ hw4)⟩ ⟨ax_blind, hrecv, fun U hU hW => ⟨rfl, ax_K_warm C.2.2.2.2.2.2.2.2.1 hW, by rw [hU]; exact hR⟩⟩ rfl (by have := p2; simp at this; omega) hl.1 (by have := p1; simp at this; rw [← this]) (by show 2 * 0 + _ ≤ 8; omega) hd ⟨h2, h3⟩) hk h4
    | _ => exact hb.elim
  · exact h.elim
/-- a constructor -/
theorem sn_cali {idx na : Nat} (hd : decode mi.2.1 pc = .ok (.invokespecial idx, 3)) (hin : mi'.1.name = "<init>") (hrt : mi'.2.2.2.1 = none) (hc : Cond.code mi'.1 mi'.2.1 mi'.2.2.1 none ∈ ax_T) (hw1 : Cond.methodLink mi.1.cls idx mi'.1 ∈ ax_T) (hw2 : Cond.instanceMethod mi'.1 ∈ ax_T) (hw3 : Cond.initialized mi'.1.cls ∈ ax_T)
    (hn : mi'.1.cls ≠ "java/lang/invoke/MethodHandle" ∧ mi'.1.cls ≠ "java/lang/invoke/VarHandle" ∧ (parseMethodDescriptor mi'.1.desc).map (fun d => d.parameters.length) = some na) (hdp : mi'.2.2.2.2 + 1 ≤ mi.2.2.2.2) (hnl : mi'.2.2.1 ≤ 45)
    (hk : ax_S X mi mc ms Q (pc + 3) k) {ci : Nat} : ax_S X mi mc ms Q pc (ax_calv X mi' ci (na + 1) mc ms k) := by
  intro ls st c n z f h p e s m args below meth co C H locs la hl hR hL hz
  obtain ⟨y, cc, nl, ret, dd⟩ := mi'
  dsimp only at hrt hin hc hw1 hw2 hw3 hn hdp hnl
  subst hrt
  unfold ax_calv at h
  split at h
  · rename_i b as r hp
    obtain ⟨hb, h1, mc', ms', Q', hM, h2, h3, h4⟩ := h
    obtain ⟨p1, p2⟩ := ax_popn_spec _ _ _ _ _ hp
    have hts := C.2.2.2.2.1
    cases b with
    | ref b =>
      exact ax_after C hl hL (va_runI (As := as) (rest := r) ⟨C.1, C.2.1, C.2.2.1, C.2.2.2.1, hts⟩ hM (cwI na hts (ax_goodin (mi' := (y, cc, nl, none, dd)) hc) rfl rfl rfl (hts _ (List.mem_cons_of_mem _ hw3)) (hts _ (List.mem_cons_of_mem _ hw1)) (hts _ (List.mem_cons_of_mem _ hw2)) hin hn (ax_roomok hdp hnl)) ⟨ax_blind, fun U hU hW => ⟨rfl, ax_K_warm C.2.2.2.2.2.2.2.2.1 hW, by rw [hU]; exact hR⟩⟩ rfl (by have := p2; simp at this; omega) hl.1 (by have := p1; simp at this; rw [← this]) (by show 2 * 0 + _ ≤ 8; omega) hd ⟨h2, h3⟩) hk h4
    | _ => exact hb.elim
  · exact h.elim
theorem sn_caliN {idx na : Nat} {host : String} (hd : decode mi.2.1 pc = .ok (.invokespecial idx, 3)) (hin : mi'.1.name = "<init>") (hrt : mi'.2.2.2.1 = none) (hc : Cond.code mi'.1 mi'.2.1 mi'.2.2.1 none ∈ ax_T) (hw1 : Cond.methodLinkNest mi.1.cls idx mi'.1 host ∈ lw_tbl) (hw2 : Cond.instanceMethod mi'.1 ∈ ax_T) (hw3 : Cond.initialized mi'.1.cls ∈ ax_T)
    (hn : mi'.1.cls ≠ "java/lang/invoke/MethodHandle" ∧ mi'.1.cls ≠ "java/lang/invoke/VarHandle" ∧ (parseMethodDescriptor mi'.1.desc).map (fun d => d.parameters.length) = some na) (hdp : mi'.2.2.2.2 + 1 ≤ mi.2.2.2.2) (hnl : mi'.2.2.1 ≤ 45)
    (hk : ax_S X mi mc ms Q (pc + 3) k) {ci : Nat} : ax_S X mi mc ms Q pc (ax_calv X mi' ci (na + 1) mc ms k) := by
  intro ls st c n z f h p e s m args below meth co C H locs la hl hR hL hz
  obtain ⟨y, cc, nl, ret, dd⟩ := mi'
  dsimp only at hrt hin hc hw1 hw2 hw3 hn hdp hnl
  subst hrt
  unfold ax_calv at h
  split at h
  · rename_i b as r hp
    obtain ⟨hb, h1, mc', ms', Q', hM, h2, h3, h4⟩ := h
    obtain ⟨p1, p2⟩ := ax_popn_spec _ _ _ _ _ hp
    have hts := C.2.2.2.2.1
    cases b with
    | ref b =>
      exact ax_after C hl hL (va_runIN (As := as) (rest := r) ⟨C.1, C.2.1, C.2.2.1, C.2.2.2.1, hts⟩ hM ⟨va_cnB na hts (ax_goodin (mi' := (y, cc, nl, none, dd)) hc) rfl rfl rfl (C.2.2.2.2.2.2.2.2.1.2.1 _ _ _ _ hw1) (hts _ (List.mem_cons_of_mem _ hw3)) hn (ax_roomok hdp hnl), hin, hts _ (List.mem_cons_of_mem _ hw2)⟩ ⟨ax_blind, fun U hU hW => ⟨rfl, ax_K_warm C.2.2.2.2.2.2.2.2.1 hW, by rw [hU]; exact hR⟩⟩ rfl (by have := p2; simp at this; omega) hl.1 (by have := p1; simp at this; rw [← this]) (by show 2 * 0 + _ ≤ 8; omega) hd ⟨h2, h3⟩) hk h4
    | _ => exact hb.elim
  · exact h.elim
/-- Object.<init> -/
theorem sn_obj {idx : Nat} (hd : decode mi.2.1 pc = .ok (.invokespecial idx, 3)) (hw1 : Cond.methodLink mi.1.cls idx Lib.objectInit ∈ ax_T) (hw2 : Cond.instanceMethod Lib.objectInit ∈ ax_T) (hw3 : Cond.code Lib.objectInit ⟨#[0xb1]⟩ 1 none ∈ ax_T) (hdp : 1 ≤ mi.2.2.2.2)
    (hk : ax_S X mi mc ms Q (pc + 3) k) : ax_S X mi mc ms Q pc (ax_obj k) := by
  intro ls st c n z f h p e s m args below meth co C H locs la hl hR hL hz
  have hts := C.2.2.2.2.1
  unfold ax_obj at h
  split at h
  · rename_i a r
    exact W.objInit C.1 C.2.1 C.2.2.2.1 (hts _ (List.mem_cons_of_mem _ hw1)) (hts _ (List.mem_cons_of_mem _ hw2)) (hts _ (List.mem_cons_of_mem _ hw3)) rfl (by rw [C.2.2.1]; exact hl.1) rfl hd hdp (by show 2 * 0 + _ + 12 ≤ 64 * _; have := h.1; omega) (hk _ _ _ _ _ _ h.2 p e s m args below meth co C H locs la hl hR hL hz)
  · exact h.elim
end AXC
