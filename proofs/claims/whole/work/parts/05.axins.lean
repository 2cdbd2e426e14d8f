def ax_ic (v : Int32) (k : ax_P) : ax_P := fun ls st c n z f => k ls (.int v :: st) c n z f
def ax_lc (v : Int64) (k : ax_P) : ax_P := fun ls st c n z f => k ls (.long v :: st) c n z f
def ax_nul (k : ax_P) : ax_P := fun ls st c n z f => k ls (.null :: st) c n z f
def ax_il (i : Nat) (k : ax_P) : ax_P := fun ls st c n z f => match ax_nth ls i with
  | some (.int x) => k ls (.int x :: st) c n z f
  | _ => False
def ax_ll (i : Nat) (k : ax_P) : ax_P := fun ls st c n z f => match ax_nth ls i with
  | some (.long x) => k ls (.long x :: st) c n z f
  | _ => False
def ax_al (i : Nat) (k : ax_P) : ax_P := fun ls st c n z f => match ax_nth ls i with
  | some (.ref x) => k ls (.ref x :: st) c n z f
  | some .null => k ls (.null :: st) c n z f
  | _ => False
def ax_is (i : Nat) (k : ax_P) : ax_P := fun ls st c n z f => match st with
  | .int x :: r => k (ax_p1 ls i (.int x)) r c n z f
  | _ => False
def ax_ls (i : Nat) (k : ax_P) : ax_P := fun ls st c n z f => match st with
  | .long x :: r => k (ax_p2 ls i (.long x)) r c n z f
  | _ => False
def ax_as (i : Nat) (k : ax_P) : ax_P := fun ls st c n z f => match st with
  | .ref x :: r => k (ax_p1 ls i (.ref x)) r c n z f
  | .null :: r => k (ax_p1 ls i .null) r c n z f
  | _ => False
def ax_inc (i : Nat) (v : Int32) (k : ax_P) : ax_P := fun ls st c n z f => match ax_nth ls i with
  | some (.int x) => k (ax_p1 ls i (.int (x + v))) st c n z f
  | _ => False
section AXI
variable {X : ax_X} {mi : ax_MI} {mc ms : Nat} {Q : Option Value → Nat → ax_F → Prop} {pc : Nat} {k kt kf : ax_P}
theorem sn_iconst {n0 : Int} {v : Int32} (hd : decode mi.2.1 pc = .ok (.iconst n0, 1)) (hv : Int32.ofInt n0 = v) (hk : ax_S X mi mc ms Q (pc + 1) k) : ax_S X mi mc ms Q pc (ax_ic v k) := by
  intro ls st c n z f h p e s m args below meth co C H locs la hl hR hL hz
  exact lv_iconst C.1 C.2.1 hd hv (hk _ _ _ _ _ _ h p e s m args below meth co C H locs la hl hR hL hz)
theorem sn_bipush {n0 : Int} {v : Int32} (hd : decode mi.2.1 pc = .ok (.bipush n0, 2)) (hv : (Int8.ofInt n0).toInt32 = v) (hk : ax_S X mi mc ms Q (pc + 2) k) : ax_S X mi mc ms Q pc (ax_ic v k) := by
  intro ls st c n z f h p e s m args below meth co C H locs la hl hR hL hz
  exact lv_bipush C.1 C.2.1 hd hv (hk _ _ _ _ _ _ h p e s m args below meth co C H locs la hl hR hL hz)
theorem sn_sipush {n0 : Int} {v : Int32} (hd : decode mi.2.1 pc = .ok (.sipush n0, 3)) (hv : (Int16.ofInt n0).toInt32 = v) (hk : ax_S X mi mc ms Q (pc + 3) k) : ax_S X mi mc ms Q pc (ax_ic v k) := by
  intro ls st c n z f h p e s m args below meth co C H locs la hl hR hL hz
  exact lv_sipush C.1 C.2.1 hd hv (hk _ _ _ _ _ _ h p e s m args below meth co C H locs la hl hR hL hz)
theorem sn_lconst {n0 : Fin 2} {v : Int64} (hd : decode mi.2.1 pc = .ok (.lconst n0, 1)) (hv : Int64.ofNat (n0 : Nat) = v) (hk : ax_S X mi mc ms Q (pc + 1) k) : ax_S X mi mc ms Q pc (ax_lc v k) := by
  intro ls st c n z f h p e s m args below meth co C H locs la hl hR hL hz
  exact lv_lconst C.1 C.2.1 hd hv (hk _ _ _ _ _ _ h p e s m args below meth co C H locs la hl hR hL hz)
theorem sn_ldc {idx : Nat} {v : Int32} (hd : decode mi.2.1 pc = .ok (.ldc idx, 2)) (hw : Cond.constant mi.1.cls idx v ∈ ax_T) (hk : ax_S X mi mc ms Q (pc + 2) k) : ax_S X mi mc ms Q pc (ax_ic v k) := by
  intro ls st c n z f h p e s m args below meth co C H locs la hl hR hL hz
  exact lv_ldc C.1 C.2.1 C.2.2.2.1 (C.2.2.2.2.1 _ (List.mem_cons_of_mem _ hw)) hd (hk _ _ _ _ _ _ h p e s m args below meth co C H locs la hl hR hL hz)
theorem sn_ldc2 {idx : Nat} {v : Int64} (hd : decode mi.2.1 pc = .ok (.ldc2_w idx, 3)) (hw : Cond.constantLong mi.1.cls idx v ∈ ax_T) (hk : ax_S X mi mc ms Q (pc + 3) k) : ax_S X mi mc ms Q pc (ax_lc v k) := by
  intro ls st c n z f h p e s m args below meth co C H locs la hl hR hL hz
  exact lv_ldc2 C.1 C.2.1 C.2.2.2.1 (C.2.2.2.2.1 _ (List.mem_cons_of_mem _ hw)) hd (hk _ _ _ _ _ _ h p e s m args below meth co C H locs la hl hR hL hz)
theorem sn_null (hd : decode mi.2.1 pc = .ok (.aconst_null, 1)) (hk : ax_S X mi mc ms Q (pc + 1) k) : ax_S X mi mc ms Q pc (ax_nul k) := by
  intro ls st c n z f h p e s m args below meth co C H locs la hl hR hL hz
  exact lv_null C.1 C.2.1 hd (hk _ _ _ _ _ _ h p e s m args below meth co C H locs la hl hR hL hz)
theorem sn_iload_n {i : Nat} {kk : Fin 4} (hd : decode mi.2.1 pc = .ok (.iload_n kk, 1)) (hi : (kk : Nat) = i) (hk : ax_S X mi mc ms Q (pc + 1) k) : ax_S X mi mc ms Q pc (ax_il i k) := by
  intro ls st c n z f h p e s m args below meth co C H locs la hl hR hL hz
  unfold ax_il at h
  split at h
  · rename_i x hx
    exact lv_iload_n C.1 C.2.1 hd hi (hl.2.2 i _ hx) (hk _ _ _ _ _ _ h p e s m args below meth co C H locs la hl hR hL hz)
  · exact h.elim
theorem sn_iload {i : Nat} (hd : decode mi.2.1 pc = .ok (.iload i, 2)) (hk : ax_S X mi mc ms Q (pc + 2) k) : ax_S X mi mc ms Q pc (ax_il i k) := by
  intro ls st c n z f h p e s m args below meth co C H locs la hl hR hL hz
  unfold ax_il at h
  split at h
  · rename_i x hx
    exact lv_iload C.1 C.2.1 hd (hl.2.2 i _ hx) (hk _ _ _ _ _ _ h p e s m args below meth co C H locs la hl hR hL hz)
  · exact h.elim
theorem sn_lload_n {i : Nat} {kk : Fin 4} (hd : decode mi.2.1 pc = .ok (.lload_n kk, 1)) (hi : (kk : Nat) = i) (hk : ax_S X mi mc ms Q (pc + 1) k) : ax_S X mi mc ms Q pc (ax_ll i k) := by
  intro ls st c n z f h p e s m args below meth co C H locs la hl hR hL hz
  unfold ax_ll at h
  split at h
  · rename_i x hx
    exact lv_lload_n C.1 C.2.1 hd hi (hl.2.2 i _ hx) (hk _ _ _ _ _ _ h p e s m args below meth co C H locs la hl hR hL hz)
  · exact h.elim
theorem sn_lload {i : Nat} (hd : decode mi.2.1 pc = .ok (.lload i, 2)) (hk : ax_S X mi mc ms Q (pc + 2) k) : ax_S X mi mc ms Q pc (ax_ll i k) := by
  intro ls st c n z f h p e s m args below meth co C H locs la hl hR hL hz
  unfold ax_ll at h
  split at h
  · rename_i x hx
    exact lv_lload C.1 C.2.1 hd (hl.2.2 i _ hx) (hk _ _ _ _ _ _ h p e s m args below meth co C H locs la hl hR hL hz)
  · exact h.elim
theorem sn_aload_n {i : Nat} {kk : Fin 4} (hd : decode mi.2.1 pc = .ok (.aload_n kk, 1)) (hi : (kk : Nat) = i) (hk : ax_S X mi mc ms Q (pc + 1) k) : ax_S X mi mc ms Q pc (ax_al i k) := by
  intro ls st c n z f h p e s m args below meth co C H locs la hl hR hL hz
  unfold ax_al at h
  split at h
  · rename_i x hx
    exact lv_aload_n C.1 C.2.1 hd hi (hl.2.2 i _ hx) (hk _ _ _ _ _ _ h p e s m args below meth co C H locs la hl hR hL hz)
  · rename_i hx
    exact lv_aload_nN C.1 C.2.1 hd hi (hl.2.2 i _ hx) (hk _ _ _ _ _ _ h p e s m args below meth co C H locs la hl hR hL hz)
  · exact h.elim
theorem sn_aload {i : Nat} (hd : decode mi.2.1 pc = .ok (.aload i, 2)) (hk : ax_S X mi mc ms Q (pc + 2) k) : ax_S X mi mc ms Q pc (ax_al i k) := by
  intro ls st c n z f h p e s m args below meth co C H locs la hl hR hL hz
  unfold ax_al at h
  split at h
  · rename_i x hx
    exact lv_aload C.1 C.2.1 hd (hl.2.2 i _ hx) (hk _ _ _ _ _ _ h p e s m args below meth co C H locs la hl hR hL hz)
  · rename_i hx
    exact lv_aloadN C.1 C.2.1 hd (hl.2.2 i _ hx) (hk _ _ _ _ _ _ h p e s m args below meth co C H locs la hl hR hL hz)
  · exact h.elim
theorem sn_istore_n {i : Nat} {kk : Fin 4} (hd : decode mi.2.1 pc = .ok (.istore_n kk, 1)) (hi : (kk : Nat) = i) (hn : i < mi.2.2.1) (hk : ax_S X mi mc ms Q (pc + 1) k) : ax_S X mi mc ms Q pc (ax_is i k) := by
  intro ls st c n z f h p e s m args below meth co C H locs la hl hR hL hz
  unfold ax_is at h
  split at h
  · exact lv_istore_n C.1 C.2.1 hd hi hl.has hn rfl (fun la' hl' => hk _ _ _ _ _ _ h p e s m args below meth co C H locs la' (hl.st1 hl') hR hL hz)
  · exact h.elim
theorem sn_istore {i : Nat} (hd : decode mi.2.1 pc = .ok (.istore i, 2)) (hn : i < mi.2.2.1) (hk : ax_S X mi mc ms Q (pc + 2) k) : ax_S X mi mc ms Q pc (ax_is i k) := by
  intro ls st c n z f h p e s m args below meth co C H locs la hl hR hL hz
  unfold ax_is at h
  split at h
  · exact lv_istore C.1 C.2.1 hd hl.has hn rfl (fun la' hl' => hk _ _ _ _ _ _ h p e s m args below meth co C H locs la' (hl.st1 hl') hR hL hz)
  · exact h.elim
theorem sn_lstore_n {i : Nat} {kk : Fin 4} (hd : decode mi.2.1 pc = .ok (.lstore_n kk, 1)) (hi : (kk : Nat) = i) (hn : i + 1 < mi.2.2.1) (hk : ax_S X mi mc ms Q (pc + 1) k) : ax_S X mi mc ms Q pc (ax_ls i k) := by
  intro ls st c n z f h p e s m args below meth co C H locs la hl hR hL hz
  unfold ax_ls at h
  split at h
  · exact lv_lstore_n C.1 C.2.1 hd hi hl.has hn rfl (fun la' hl' => hk _ _ _ _ _ _ h p e s m args below meth co C H locs la' (hl.st2 hl') hR hL hz)
  · exact h.elim
theorem sn_lstore {i : Nat} (hd : decode mi.2.1 pc = .ok (.lstore i, 2)) (hn : i + 1 < mi.2.2.1) (hk : ax_S X mi mc ms Q (pc + 2) k) : ax_S X mi mc ms Q pc (ax_ls i k) := by
  intro ls st c n z f h p e s m args below meth co C H locs la hl hR hL hz
  unfold ax_ls at h
  split at h
  · exact lv_lstore C.1 C.2.1 hd hl.has hn rfl (fun la' hl' => hk _ _ _ _ _ _ h p e s m args below meth co C H locs la' (hl.st2 hl') hR hL hz)
  · exact h.elim
theorem sn_astore_n {i : Nat} {kk : Fin 4} (hd : decode mi.2.1 pc = .ok (.astore_n kk, 1)) (hi : (kk : Nat) = i) (hn : i < mi.2.2.1) (hk : ax_S X mi mc ms Q (pc + 1) k) : ax_S X mi mc ms Q pc (ax_as i k) := by
  intro ls st c n z f h p e s m args below meth co C H locs la hl hR hL hz
  unfold ax_as at h
  split at h
  · exact lv_astore_n C.1 C.2.1 hd hi hl.has hn rfl (fun la' hl' => hk _ _ _ _ _ _ h p e s m args below meth co C H locs la' (hl.st1 hl') hR hL hz)
  · exact lv_astore_nN C.1 C.2.1 hd hi hl.has hn rfl (fun la' hl' => hk _ _ _ _ _ _ h p e s m args below meth co C H locs la' (hl.st1 hl') hR hL hz)
  · exact h.elim
theorem sn_astore {i : Nat} (hd : decode mi.2.1 pc = .ok (.astore i, 2)) (hn : i < mi.2.2.1) (hk : ax_S X mi mc ms Q (pc + 2) k) : ax_S X mi mc ms Q pc (ax_as i k) := by
  intro ls st c n z f h p e s m args below meth co C H locs la hl hR hL hz
  unfold ax_as at h
  split at h
  · exact lv_astore C.1 C.2.1 hd hl.has hn rfl (fun la' hl' => hk _ _ _ _ _ _ h p e s m args below meth co C H locs la' (hl.st1 hl') hR hL hz)
  · exact lv_astoreN C.1 C.2.1 hd hl.has hn rfl (fun la' hl' => hk _ _ _ _ _ _ h p e s m args below meth co C H locs la' (hl.st1 hl') hR hL hz)
  · exact h.elim
theorem sn_iinc {i : Nat} {n0 : Int} {v : Int32} (hd : decode mi.2.1 pc = .ok (.iinc i n0, 3)) (hv : Int32.ofInt n0 = v) (hn : i < mi.2.2.1) (hk : ax_S X mi mc ms Q (pc + 3) k) : ax_S X mi mc ms Q pc (ax_inc i v k) := by
  intro ls st c n z f h p e s m args below meth co C H locs la hl hR hL hz
  subst hv
  unfold ax_inc at h
  split at h
  · rename_i x hx
    obtain ⟨q, hq⟩ := List.getElem?_of_mem (ax_pr_mem.mpr ⟨hn, hx⟩)
    exact lv_iinc C.1 C.2.1 hd hl.has hq rfl hn rfl (fun la' hl' => hk _ _ _ _ _ _ h p e s m args below meth co C H locs la' (hl.st1 hl') hR hL hz)
  · exact h.elim
def ax_iadd (k : ax_P) : ax_P := fun ls st c n z f => match st with
  | .int y :: .int x :: r => k ls (.int (x + y) :: r) c n z f
  | _ => False
theorem sn_iadd (hd : decode mi.2.1 pc = .ok (.iadd, 1)) (hk : ax_S X mi mc ms Q (pc + 1) k) : ax_S X mi mc ms Q pc (ax_iadd k) := by
  intro ls st c n z f h p e s m args below meth co C H locs la hl hR hL hz
  unfold ax_iadd at h
  split at h
  · exact lv_iadd C.1 C.2.1 hd (hk _ _ _ _ _ _ h p e s m args below meth co C H locs la hl hR hL hz)
  · exact h.elim
def ax_isub (k : ax_P) : ax_P := fun ls st c n z f => match st with
  | .int y :: .int x :: r => k ls (.int (x - y) :: r) c n z f
  | _ => False
theorem sn_isub (hd : decode mi.2.1 pc = .ok (.isub, 1)) (hk : ax_S X mi mc ms Q (pc + 1) k) : ax_S X mi mc ms Q pc (ax_isub k) := by
  intro ls st c n z f h p e s m args below meth co C H locs la hl hR hL hz
  unfold ax_isub at h
  split at h
  · exact lv_isub C.1 C.2.1 hd (hk _ _ _ _ _ _ h p e s m args below meth co C H locs la hl hR hL hz)
  · exact h.elim
def ax_imul (k : ax_P) : ax_P := fun ls st c n z f => match st with
  | .int y :: .int x :: r => k ls (.int (x * y) :: r) c n z f
  | _ => False
theorem sn_imul (hd : decode mi.2.1 pc = .ok (.imul, 1)) (hk : ax_S X mi mc ms Q (pc + 1) k) : ax_S X mi mc ms Q pc (ax_imul k) := by
  intro ls st c n z f h p e s m args below meth co C H locs la hl hR hL hz
  unfold ax_imul at h
  split at h
  · exact lv_imul C.1 C.2.1 hd (hk _ _ _ _ _ _ h p e s m args below meth co C H locs la hl hR hL hz)
  · exact h.elim
def ax_iand (k : ax_P) : ax_P := fun ls st c n z f => match st with
  | .int y :: .int x :: r => k ls (.int (x &&& y) :: r) c n z f
  | _ => False
theorem sn_iand (hd : decode mi.2.1 pc = .ok (.iand, 1)) (hk : ax_S X mi mc ms Q (pc + 1) k) : ax_S X mi mc ms Q pc (ax_iand k) := by
  intro ls st c n z f h p e s m args below meth co C H locs la hl hR hL hz
  unfold ax_iand at h
  split at h
  · exact lv_iand C.1 C.2.1 hd (hk _ _ _ _ _ _ h p e s m args below meth co C H locs la hl hR hL hz)
  · exact h.elim
def ax_ior (k : ax_P) : ax_P := fun ls st c n z f => match st with
  | .int y :: .int x :: r => k ls (.int (x ||| y) :: r) c n z f
  | _ => False
theorem sn_ior (hd : decode mi.2.1 pc = .ok (.ior, 1)) (hk : ax_S X mi mc ms Q (pc + 1) k) : ax_S X mi mc ms Q pc (ax_ior k) := by
  intro ls st c n z f h p e s m args below meth co C H locs la hl hR hL hz
  unfold ax_ior at h
  split at h
  · exact lv_ior C.1 C.2.1 hd (hk _ _ _ _ _ _ h p e s m args below meth co C H locs la hl hR hL hz)
  · exact h.elim
def ax_idiv (k : ax_P) : ax_P := fun ls st c n z f => match st with
  | .int y :: .int x :: r => ¬ y = 0 ∧ k ls (.int (x / y) :: r) c n z f
  | _ => False
theorem sn_idiv (hd : decode mi.2.1 pc = .ok (.idiv, 1)) (hk : ax_S X mi mc ms Q (pc + 1) k) : ax_S X mi mc ms Q pc (ax_idiv k) := by
  intro ls st c n z f h p e s m args below meth co C H locs la hl hR hL hz
  unfold ax_idiv at h
  split at h
  · exact lv_idiv C.1 C.2.1 hd h.1 (hk _ _ _ _ _ _ h.2 p e s m args below meth co C H locs la hl hR hL hz)
  · exact h.elim
def ax_irem (k : ax_P) : ax_P := fun ls st c n z f => match st with
  | .int y :: .int x :: r => ¬ y = 0 ∧ k ls (.int (x - x / y * y) :: r) c n z f
  | _ => False
theorem sn_irem (hd : decode mi.2.1 pc = .ok (.irem, 1)) (hk : ax_S X mi mc ms Q (pc + 1) k) : ax_S X mi mc ms Q pc (ax_irem k) := by
  intro ls st c n z f h p e s m args below meth co C H locs la hl hR hL hz
  unfold ax_irem at h
  split at h
  · exact lv_irem C.1 C.2.1 hd h.1 (hk _ _ _ _ _ _ h.2 p e s m args below meth co C H locs la hl hR hL hz)
  · exact h.elim
def ax_ishl (k : ax_P) : ax_P := fun ls st c n z f => match st with
  | .int y :: .int x :: r => k ls (.int (x <<< (y &&& 31)) :: r) c n z f
  | _ => False
theorem sn_ishl (hd : decode mi.2.1 pc = .ok (.ishl, 1)) (hk : ax_S X mi mc ms Q (pc + 1) k) : ax_S X mi mc ms Q pc (ax_ishl k) := by
  intro ls st c n z f h p e s m args below meth co C H locs la hl hR hL hz
  unfold ax_ishl at h
  split at h
  · exact lv_ishl C.1 C.2.1 hd (hk _ _ _ _ _ _ h p e s m args below meth co C H locs la hl hR hL hz)
  · exact h.elim
def ax_ishr (k : ax_P) : ax_P := fun ls st c n z f => match st with
  | .int y :: .int x :: r => k ls (.int (x >>> (y &&& 31)) :: r) c n z f
  | _ => False
theorem sn_ishr (hd : decode mi.2.1 pc = .ok (.ishr, 1)) (hk : ax_S X mi mc ms Q (pc + 1) k) : ax_S X mi mc ms Q pc (ax_ishr k) := by
  intro ls st c n z f h p e s m args below meth co C H locs la hl hR hL hz
  unfold ax_ishr at h
  split at h
  · exact lv_ishr C.1 C.2.1 hd (hk _ _ _ _ _ _ h p e s m args below meth co C H locs la hl hR hL hz)
  · exact h.elim
def ax_ladd (k : ax_P) : ax_P := fun ls st c n z f => match st with
  | .long y :: .long x :: r => k ls (.long (x + y) :: r) c n z f
  | _ => False
theorem sn_ladd (hd : decode mi.2.1 pc = .ok (.ladd, 1)) (hk : ax_S X mi mc ms Q (pc + 1) k) : ax_S X mi mc ms Q pc (ax_ladd k) := by
  intro ls st c n z f h p e s m args below meth co C H locs la hl hR hL hz
  unfold ax_ladd at h
  split at h
  · exact lv_ladd C.1 C.2.1 hd (hk _ _ _ _ _ _ h p e s m args below meth co C H locs la hl hR hL hz)
  · exact h.elim
def ax_lsub (k : ax_P) : ax_P := fun ls st c n z f => match st with
  | .long y :: .long x :: r => k ls (.long (x - y) :: r) c n z f
  | _ => False
theorem sn_lsub (hd : decode mi.2.1 pc = .ok (.lsub, 1)) (hk : ax_S X mi mc ms Q (pc + 1) k) : ax_S X mi mc ms Q pc (ax_lsub k) := by
  intro ls st c n z f h p e s m args below meth co C H locs la hl hR hL hz
  unfold ax_lsub at h
  split at h
  · exact lv_lsub C.1 C.2.1 hd (hk _ _ _ _ _ _ h p e s m args below meth co C H locs la hl hR hL hz)
  · exact h.elim
def ax_lmul (k : ax_P) : ax_P := fun ls st c n z f => match st with
  | .long y :: .long x :: r => k ls (.long (x * y) :: r) c n z f
  | _ => False
theorem sn_lmul (hd : decode mi.2.1 pc = .ok (.lmul, 1)) (hk : ax_S X mi mc ms Q (pc + 1) k) : ax_S X mi mc ms Q pc (ax_lmul k) := by
  intro ls st c n z f h p e s m args below meth co C H locs la hl hR hL hz
  unfold ax_lmul at h
  split at h
  · exact lv_lmul C.1 C.2.1 hd (hk _ _ _ _ _ _ h p e s m args below meth co C H locs la hl hR hL hz)
  · exact h.elim
def ax_ldiv (k : ax_P) : ax_P := fun ls st c n z f => match st with
  | .long y :: .long x :: r => ¬ y = 0 ∧ k ls (.long (x / y) :: r) c n z f
  | _ => False
theorem sn_ldiv (hd : decode mi.2.1 pc = .ok (.ldiv, 1)) (hk : ax_S X mi mc ms Q (pc + 1) k) : ax_S X mi mc ms Q pc (ax_ldiv k) := by
  intro ls st c n z f h p e s m args below meth co C H locs la hl hR hL hz
  unfold ax_ldiv at h
  split at h
  · exact lv_ldiv C.1 C.2.1 hd h.1 (hk _ _ _ _ _ _ h.2 p e s m args below meth co C H locs la hl hR hL hz)
  · exact h.elim
def ax_lrem (k : ax_P) : ax_P := fun ls st c n z f => match st with
  | .long y :: .long x :: r => ¬ y = 0 ∧ k ls (.long (x - x / y * y) :: r) c n z f
  | _ => False
theorem sn_lrem (hd : decode mi.2.1 pc = .ok (.lrem, 1)) (hk : ax_S X mi mc ms Q (pc + 1) k) : ax_S X mi mc ms Q pc (ax_lrem k) := by
  intro ls st c n z f h p e s m args below meth co C H locs la hl hR hL hz
  unfold ax_lrem at h
  split at h
  · exact lv_lrem C.1 C.2.1 hd h.1 (hk _ _ _ _ _ _ h.2 p e s m args below meth co C H locs la hl hR hL hz)
  · exact h.elim
def ax_ineg (k : ax_P) : ax_P := fun ls st c n z f => match st with
  | .int x :: r => k ls (.int (-x) :: r) c n z f
  | _ => False
theorem sn_ineg (hd : decode mi.2.1 pc = .ok (.ineg, 1)) (hk : ax_S X mi mc ms Q (pc + 1) k) : ax_S X mi mc ms Q pc (ax_ineg k) := by
  intro ls st c n z f h p e s m args below meth co C H locs la hl hR hL hz
  unfold ax_ineg at h
  split at h
  · exact lv_ineg C.1 C.2.1 hd (hk _ _ _ _ _ _ h p e s m args below meth co C H locs la hl hR hL hz)
  · exact h.elim
def ax_lneg (k : ax_P) : ax_P := fun ls st c n z f => match st with
  | .long x :: r => k ls (.long (-x) :: r) c n z f
  | _ => False
theorem sn_lneg (hd : decode mi.2.1 pc = .ok (.lneg, 1)) (hk : ax_S X mi mc ms Q (pc + 1) k) : ax_S X mi mc ms Q pc (ax_lneg k) := by
  intro ls st c n z f h p e s m args below meth co C H locs la hl hR hL hz
  unfold ax_lneg at h
  split at h
  · exact lv_lneg C.1 C.2.1 hd (hk _ _ _ _ _ _ h p e s m args below meth co C H locs la hl hR hL hz)
  · exact h.elim
def ax_i2l (k : ax_P) : ax_P := fun ls st c n z f => match st with
  | .int x :: r => k ls (.long (x.toInt64) :: r) c n z f
  | _ => False
theorem sn_i2l (hd : decode mi.2.1 pc = .ok (.i2l, 1)) (hk : ax_S X mi mc ms Q (pc + 1) k) : ax_S X mi mc ms Q pc (ax_i2l k) := by
  intro ls st c n z f h p e s m args below meth co C H locs la hl hR hL hz
  unfold ax_i2l at h
  split at h
  · exact lv_i2l C.1 C.2.1 hd rfl (hk _ _ _ _ _ _ h p e s m args below meth co C H locs la hl hR hL hz)
  · exact h.elim
def ax_l2i (k : ax_P) : ax_P := fun ls st c n z f => match st with
  | .long x :: r => k ls (.int (x.toInt32) :: r) c n z f
  | _ => False
theorem sn_l2i (hd : decode mi.2.1 pc = .ok (.l2i, 1)) (hk : ax_S X mi mc ms Q (pc + 1) k) : ax_S X mi mc ms Q pc (ax_l2i k) := by
  intro ls st c n z f h p e s m args below meth co C H locs la hl hR hL hz
  unfold ax_l2i at h
  split at h
  · exact lv_l2i C.1 C.2.1 hd rfl (hk _ _ _ _ _ _ h p e s m args below meth co C H locs la hl hR hL hz)
  · exact h.elim
def ax_lcmp (k : ax_P) : ax_P := fun ls st c n z f => match st with
  | .long y :: .long x :: r => k ls (.int (lg_cmp x y) :: r) c n z f
  | _ => False
theorem sn_lcmp (hd : decode mi.2.1 pc = .ok (.lcmp, 1)) (hk : ax_S X mi mc ms Q (pc + 1) k) : ax_S X mi mc ms Q pc (ax_lcmp k) := by
  intro ls st c n z f h p e s m args below meth co C H locs la hl hR hL hz
  unfold ax_lcmp at h
  split at h
  · exact W.lcmp C.1 C.2.1 hd (hk _ _ _ _ _ _ h p e s m args below meth co C H locs la hl hR hL hz)
  · exact h.elim
def ax_dup (k : ax_P) : ax_P := fun ls st c n z f => match st with
  | v :: r => v.category = 1 ∧ k ls (v :: v :: r) c n z f
  | _ => False
theorem sn_dup (hd : decode mi.2.1 pc = .ok (.dup, 1)) (hk : ax_S X mi mc ms Q (pc + 1) k) : ax_S X mi mc ms Q pc (ax_dup k) := by
  intro ls st c n z f h p e s m args below meth co C H locs la hl hR hL hz
  unfold ax_dup at h
  split at h
  · exact lv_dup C.1 C.2.1 hd h.1 (hk _ _ _ _ _ _ h.2 p e s m args below meth co C H locs la hl hR hL hz)
  · exact h.elim
def ax_pop1 (k : ax_P) : ax_P := fun ls st c n z f => match st with
  | v :: r => v.category = 1 ∧ k ls r c n z f
  | _ => False
theorem sn_pop (hd : decode mi.2.1 pc = .ok (.pop, 1)) (hk : ax_S X mi mc ms Q (pc + 1) k) : ax_S X mi mc ms Q pc (ax_pop1 k) := by
  intro ls st c n z f h p e s m args below meth co C H locs la hl hR hL hz
  unfold ax_pop1 at h
  split at h
  · exact lv_pop C.1 C.2.1 hd h.1 (hk _ _ _ _ _ _ h.2 p e s m args below meth co C H locs la hl hR hL hz)
  · exact h.elim
def ax_dupx1 (k : ax_P) : ax_P := fun ls st c n z f => match st with
  | v :: w :: r => v.category = 1 ∧ w.category = 1 ∧ k ls (v :: w :: v :: r) c n z f
  | _ => False
theorem sn_dupx1 (hd : decode mi.2.1 pc = .ok (.dup_x1, 1)) (hk : ax_S X mi mc ms Q (pc + 1) k) : ax_S X mi mc ms Q pc (ax_dupx1 k) := by
  intro ls st c n z f h p e s m args below meth co C H locs la hl hR hL hz
  unfold ax_dupx1 at h
  split at h
  · exact lv_dup_x1 C.1 C.2.1 hd h.1 h.2.1 (hk _ _ _ _ _ _ h.2.2 p e s m args below meth co C H locs la hl hR hL hz)
  · exact h.elim
def ax_dup2 (k : ax_P) : ax_P := fun ls st c n z f => match st with
  | v :: w :: r => v.category = 1 ∧ w.category = 1 ∧ k ls (v :: w :: v :: w :: r) c n z f
  | _ => False
theorem sn_dup2 (hd : decode mi.2.1 pc = .ok (.dup2, 1)) (hk : ax_S X mi mc ms Q (pc + 1) k) : ax_S X mi mc ms Q pc (ax_dup2 k) := by
  intro ls st c n z f h p e s m args below meth co C H locs la hl hR hL hz
  unfold ax_dup2 at h
  split at h
  · exact lv_dup2_11 C.1 C.2.1 hd h.1 h.2.1 (hk _ _ _ _ _ _ h.2.2 p e s m args below meth co C H locs la hl hR hL hz)
  · exact h.elim
def ax_ifeq (kt kf : ax_P) : ax_P := fun ls st c n z f => match st with
  | .int x :: r => (x = 0 → kt ls r c n z f) ∧ (¬ x = 0 → kf ls r c n z f)
  | _ => False
theorem sn_ifeq {off : Int} {tgt : Nat} (hd : decode mi.2.1 pc = .ok (.ifCond .eq off, 3)) (ht : (pc : Int) + off = (tgt : Int)) (hkt : ax_S X mi mc ms Q tgt kt) (hkf : ax_S X mi mc ms Q (pc + 3) kf) : ax_S X mi mc ms Q pc (ax_ifeq kt kf) := by
  intro ls st c n z f h p e s m args below meth co C H locs la hl hR hL hz
  unfold ax_ifeq at h
  split at h
  · exact lv_if_eq C.1 C.2.1 hd ht (fun q => hkt _ _ _ _ _ _ (h.1 q) p e s m args below meth co C H locs la hl hR hL hz) (fun q => hkf _ _ _ _ _ _ (h.2 q) p e s m args below meth co C H locs la hl hR hL hz)
  · exact h.elim
def ax_iceq (kt kf : ax_P) : ax_P := fun ls st c n z f => match st with
  | .int y :: .int x :: r => (x = y → kt ls r c n z f) ∧ (¬ x = y → kf ls r c n z f)
  | _ => False
theorem sn_iceq {off : Int} {tgt : Nat} (hd : decode mi.2.1 pc = .ok (.if_icmp .eq off, 3)) (ht : (pc : Int) + off = (tgt : Int)) (hkt : ax_S X mi mc ms Q tgt kt) (hkf : ax_S X mi mc ms Q (pc + 3) kf) : ax_S X mi mc ms Q pc (ax_iceq kt kf) := by
  intro ls st c n z f h p e s m args below meth co C H locs la hl hR hL hz
  unfold ax_iceq at h
  split at h
  · exact lv_icmp_eq C.1 C.2.1 hd ht (fun q => hkt _ _ _ _ _ _ (h.1 q) p e s m args below meth co C H locs la hl hR hL hz) (fun q => hkf _ _ _ _ _ _ (h.2 q) p e s m args below meth co C H locs la hl hR hL hz)
  · exact h.elim
def ax_ifne (kt kf : ax_P) : ax_P := fun ls st c n z f => match st with
  | .int x :: r => (¬ x = 0 → kt ls r c n z f) ∧ (x = 0 → kf ls r c n z f)
  | _ => False
theorem sn_ifne {off : Int} {tgt : Nat} (hd : decode mi.2.1 pc = .ok (.ifCond .ne off, 3)) (ht : (pc : Int) + off = (tgt : Int)) (hkt : ax_S X mi mc ms Q tgt kt) (hkf : ax_S X mi mc ms Q (pc + 3) kf) : ax_S X mi mc ms Q pc (ax_ifne kt kf) := by
  intro ls st c n z f h p e s m args below meth co C H locs la hl hR hL hz
  unfold ax_ifne at h
  split at h
  · exact lv_if_ne C.1 C.2.1 hd ht (fun q => hkt _ _ _ _ _ _ (h.1 q) p e s m args below meth co C H locs la hl hR hL hz) (fun q => hkf _ _ _ _ _ _ (h.2 q) p e s m args below meth co C H locs la hl hR hL hz)
  · exact h.elim
def ax_icne (kt kf : ax_P) : ax_P := fun ls st c n z f => match st with
  | .int y :: .int x :: r => (¬ x = y → kt ls r c n z f) ∧ (x = y → kf ls r c n z f)
  | _ => False
theorem sn_icne {off : Int} {tgt : Nat} (hd : decode mi.2.1 pc = .ok (.if_icmp .ne off, 3)) (ht : (pc : Int) + off = (tgt : Int)) (hkt : ax_S X mi mc ms Q tgt kt) (hkf : ax_S X mi mc ms Q (pc + 3) kf) : ax_S X mi mc ms Q pc (ax_icne kt kf) := by
  intro ls st c n z f h p e s m args below meth co C H locs la hl hR hL hz
  unfold ax_icne at h
  split at h
  · exact lv_icmp_ne C.1 C.2.1 hd ht (fun q => hkt _ _ _ _ _ _ (h.1 q) p e s m args below meth co C H locs la hl hR hL hz) (fun q => hkf _ _ _ _ _ _ (h.2 q) p e s m args below meth co C H locs la hl hR hL hz)
  · exact h.elim
def ax_iflt (kt kf : ax_P) : ax_P := fun ls st c n z f => match st with
  | .int x :: r => (x < 0 → kt ls r c n z f) ∧ (¬ x < 0 → kf ls r c n z f)
  | _ => False
theorem sn_iflt {off : Int} {tgt : Nat} (hd : decode mi.2.1 pc = .ok (.ifCond .lt off, 3)) (ht : (pc : Int) + off = (tgt : Int)) (hkt : ax_S X mi mc ms Q tgt kt) (hkf : ax_S X mi mc ms Q (pc + 3) kf) : ax_S X mi mc ms Q pc (ax_iflt kt kf) := by
  intro ls st c n z f h p e s m args below meth co C H locs la hl hR hL hz
  unfold ax_iflt at h
  split at h
  · exact lv_if_lt C.1 C.2.1 hd ht (fun q => hkt _ _ _ _ _ _ (h.1 q) p e s m args below meth co C H locs la hl hR hL hz) (fun q => hkf _ _ _ _ _ _ (h.2 q) p e s m args below meth co C H locs la hl hR hL hz)
  · exact h.elim
def ax_iclt (kt kf : ax_P) : ax_P := fun ls st c n z f => match st with
  | .int y :: .int x :: r => (x < y → kt ls r c n z f) ∧ (¬ x < y → kf ls r c n z f)
  | _ => False
theorem sn_iclt {off : Int} {tgt : Nat} (hd : decode mi.2.1 pc = .ok (.if_icmp .lt off, 3)) (ht : (pc : Int) + off = (tgt : Int)) (hkt : ax_S X mi mc ms Q tgt kt) (hkf : ax_S X mi mc ms Q (pc + 3) kf) : ax_S X mi mc ms Q pc (ax_iclt kt kf) := by
  intro ls st c n z f h p e s m args below meth co C H locs la hl hR hL hz
  unfold ax_iclt at h
  split at h
  · exact lv_icmp_lt C.1 C.2.1 hd ht (fun q => hkt _ _ _ _ _ _ (h.1 q) p e s m args below meth co C H locs la hl hR hL hz) (fun q => hkf _ _ _ _ _ _ (h.2 q) p e s m args below meth co C H locs la hl hR hL hz)
  · exact h.elim
def ax_ifge (kt kf : ax_P) : ax_P := fun ls st c n z f => match st with
  | .int x :: r => (0 ≤ x → kt ls r c n z f) ∧ (¬ 0 ≤ x → kf ls r c n z f)
  | _ => False
theorem sn_ifge {off : Int} {tgt : Nat} (hd : decode mi.2.1 pc = .ok (.ifCond .ge off, 3)) (ht : (pc : Int) + off = (tgt : Int)) (hkt : ax_S X mi mc ms Q tgt kt) (hkf : ax_S X mi mc ms Q (pc + 3) kf) : ax_S X mi mc ms Q pc (ax_ifge kt kf) := by
  intro ls st c n z f h p e s m args below meth co C H locs la hl hR hL hz
  unfold ax_ifge at h
  split at h
  · exact lv_if_ge C.1 C.2.1 hd ht (fun q => hkt _ _ _ _ _ _ (h.1 q) p e s m args below meth co C H locs la hl hR hL hz) (fun q => hkf _ _ _ _ _ _ (h.2 q) p e s m args below meth co C H locs la hl hR hL hz)
  · exact h.elim
def ax_icge (kt kf : ax_P) : ax_P := fun ls st c n z f => match st with
  | .int y :: .int x :: r => (y ≤ x → kt ls r c n z f) ∧ (¬ y ≤ x → kf ls r c n z f)
  | _ => False
theorem sn_icge {off : Int} {tgt : Nat} (hd : decode mi.2.1 pc = .ok (.if_icmp .ge off, 3)) (ht : (pc : Int) + off = (tgt : Int)) (hkt : ax_S X mi mc ms Q tgt kt) (hkf : ax_S X mi mc ms Q (pc + 3) kf) : ax_S X mi mc ms Q pc (ax_icge kt kf) := by
  intro ls st c n z f h p e s m args below meth co C H locs la hl hR hL hz
  unfold ax_icge at h
  split at h
  · exact lv_icmp_ge C.1 C.2.1 hd ht (fun q => hkt _ _ _ _ _ _ (h.1 q) p e s m args below meth co C H locs la hl hR hL hz) (fun q => hkf _ _ _ _ _ _ (h.2 q) p e s m args below meth co C H locs la hl hR hL hz)
  · exact h.elim
def ax_ifgt (kt kf : ax_P) : ax_P := fun ls st c n z f => match st with
  | .int x :: r => (0 < x → kt ls r c n z f) ∧ (¬ 0 < x → kf ls r c n z f)
  | _ => False
theorem sn_ifgt {off : Int} {tgt : Nat} (hd : decode mi.2.1 pc = .ok (.ifCond .gt off, 3)) (ht : (pc : Int) + off = (tgt : Int)) (hkt : ax_S X mi mc ms Q tgt kt) (hkf : ax_S X mi mc ms Q (pc + 3) kf) : ax_S X mi mc ms Q pc (ax_ifgt kt kf) := by
  intro ls st c n z f h p e s m args below meth co C H locs la hl hR hL hz
  unfold ax_ifgt at h
  split at h
  · exact lv_if_gt C.1 C.2.1 hd ht (fun q => hkt _ _ _ _ _ _ (h.1 q) p e s m args below meth co C H locs la hl hR hL hz) (fun q => hkf _ _ _ _ _ _ (h.2 q) p e s m args below meth co C H locs la hl hR hL hz)
  · exact h.elim
def ax_icgt (kt kf : ax_P) : ax_P := fun ls st c n z f => match st with
  | .int y :: .int x :: r => (y < x → kt ls r c n z f) ∧ (¬ y < x → kf ls r c n z f)
  | _ => False
theorem sn_icgt {off : Int} {tgt : Nat} (hd : decode mi.2.1 pc = .ok (.if_icmp .gt off, 3)) (ht : (pc : Int) + off = (tgt : Int)) (hkt : ax_S X mi mc ms Q tgt kt) (hkf : ax_S X mi mc ms Q (pc + 3) kf) : ax_S X mi mc ms Q pc (ax_icgt kt kf) := by
  intro ls st c n z f h p e s m args below meth co C H locs la hl hR hL hz
  unfold ax_icgt at h
  split at h
  · exact lv_icmp_gt C.1 C.2.1 hd ht (fun q => hkt _ _ _ _ _ _ (h.1 q) p e s m args below meth co C H locs la hl hR hL hz) (fun q => hkf _ _ _ _ _ _ (h.2 q) p e s m args below meth co C H locs la hl hR hL hz)
  · exact h.elim
def ax_ifle (kt kf : ax_P) : ax_P := fun ls st c n z f => match st with
  | .int x :: r => (x ≤ 0 → kt ls r c n z f) ∧ (¬ x ≤ 0 → kf ls r c n z f)
  | _ => False
theorem sn_ifle {off : Int} {tgt : Nat} (hd : decode mi.2.1 pc = .ok (.ifCond .le off, 3)) (ht : (pc : Int) + off = (tgt : Int)) (hkt : ax_S X mi mc ms Q tgt kt) (hkf : ax_S X mi mc ms Q (pc + 3) kf) : ax_S X mi mc ms Q pc (ax_ifle kt kf) := by
  intro ls st c n z f h p e s m args below meth co C H locs la hl hR hL hz
  unfold ax_ifle at h
  split at h
  · exact lv_if_le C.1 C.2.1 hd ht (fun q => hkt _ _ _ _ _ _ (h.1 q) p e s m args below meth co C H locs la hl hR hL hz) (fun q => hkf _ _ _ _ _ _ (h.2 q) p e s m args below meth co C H locs la hl hR hL hz)
  · exact h.elim
def ax_icle (kt kf : ax_P) : ax_P := fun ls st c n z f => match st with
  | .int y :: .int x :: r => (x ≤ y → kt ls r c n z f) ∧ (¬ x ≤ y → kf ls r c n z f)
  | _ => False
theorem sn_icle {off : Int} {tgt : Nat} (hd : decode mi.2.1 pc = .ok (.if_icmp .le off, 3)) (ht : (pc : Int) + off = (tgt : Int)) (hkt : ax_S X mi mc ms Q tgt kt) (hkf : ax_S X mi mc ms Q (pc + 3) kf) : ax_S X mi mc ms Q pc (ax_icle kt kf) := by
  intro ls st c n z f h p e s m args below meth co C H locs la hl hR hL hz
  unfold ax_icle at h
  split at h
  · exact lv_icmp_le C.1 C.2.1 hd ht (fun q => hkt _ _ _ _ _ _ (h.1 q) p e s m args below meth co C H locs la hl hR hL hz) (fun q => hkf _ _ _ _ _ _ (h.2 q) p e s m args below meth co C H locs la hl hR hL hz)
  · exact h.elim
def ax_ifnull (kt kf : ax_P) : ax_P := fun ls st c n z f => match st with
  | .null :: r => kt ls r c n z f
  | .ref _ :: r => kf ls r c n z f
  | _ => False
theorem sn_ifnull {off : Int} {tgt : Nat} (hd : decode mi.2.1 pc = .ok (.ifnull off, 3)) (ht : (pc : Int) + off = (tgt : Int)) (hkt : ax_S X mi mc ms Q tgt kt) (hkf : ax_S X mi mc ms Q (pc + 3) kf) : ax_S X mi mc ms Q pc (ax_ifnull kt kf) := by
  intro ls st c n z f h p e s m args below meth co C H locs la hl hR hL hz
  unfold ax_ifnull at h
  split at h
  · exact lv_ifnullN C.1 C.2.1 hd ht (hkt _ _ _ _ _ _ h p e s m args below meth co C H locs la hl hR hL hz)
  · exact lv_ifnull C.1 C.2.1 hd (hkf _ _ _ _ _ _ h p e s m args below meth co C H locs la hl hR hL hz)
  · exact h.elim
def ax_ifnn (kt kf : ax_P) : ax_P := fun ls st c n z f => match st with
  | .null :: r => kf ls r c n z f
  | .ref _ :: r => kt ls r c n z f
  | _ => False
theorem sn_ifnn {off : Int} {tgt : Nat} (hd : decode mi.2.1 pc = .ok (.ifnonnull off, 3)) (ht : (pc : Int) + off = (tgt : Int)) (hkt : ax_S X mi mc ms Q tgt kt) (hkf : ax_S X mi mc ms Q (pc + 3) kf) : ax_S X mi mc ms Q pc (ax_ifnn kt kf) := by
  intro ls st c n z f h p e s m args below meth co C H locs la hl hR hL hz
  unfold ax_ifnn at h
  split at h
  · exact lv_ifnonnullN C.1 C.2.1 hd (hkf _ _ _ _ _ _ h p e s m args below meth co C H locs la hl hR hL hz)
  · exact lv_ifnonnull C.1 C.2.1 hd ht (hkt _ _ _ _ _ _ h p e s m args below meth co C H locs la hl hR hL hz)
  · exact h.elim
theorem sn_goto {off : Int} {tgt : Nat} (hd : decode mi.2.1 pc = .ok (.goto off, 3)) (ht : (pc : Int) + off = (tgt : Int)) (hk : ax_S X mi mc ms Q tgt k) : ax_S X mi mc ms Q pc k := by
  intro ls st c n z f h p e s m args below meth co C H locs la hl hR hL hz
  exact lv_goto C.1 C.2.1 hd ht (hk _ _ _ _ _ _ h p e s m args below meth co C H locs la hl hR hL hz)
/-- a switch: the row of targets by the number, else the default's -/
def ax_sw (lo hi : Int) (K : Nat → ax_P) (kd : ax_P) : ax_P := fun ls st c n z f => match st with
  | .int x :: r => ((x.toInt < lo ∨ hi < x.toInt) → kd ls r c n z f) ∧ ∀ j : Nat, x.toInt = lo + j → x.toInt ≤ hi → K j ls r c n z f
  | _ => False
theorem sn_sw {dflt lo hi : Int} {offs : Array Int} {len td : Nat} {K : Nat → ax_P} {kd : ax_P} (hd : decode mi.2.1 pc = .ok (.tableswitch dflt lo hi offs, len)) (ht : (pc : Int) + dflt = (td : Int)) (hkd : ax_S X mi mc ms Q td kd)
    (hK : ∀ j : Nat, lo + j ≤ hi → ∃ (off : Int) (t : Nat), offs[j]? = some off ∧ (pc : Int) + off = (t : Int) ∧ ax_S X mi mc ms Q t (K j)) : ax_S X mi mc ms Q pc (ax_sw lo hi K kd) := by
  intro ls st c n z f h p e s m args below meth co C H locs la hl hR hL hz
  unfold ax_sw at h
  split at h
  · rename_i x r
    by_cases hx : x.toInt < lo ∨ hi < x.toInt
    · exact lv_tableOut C.1 C.2.1 hd hx ht (hkd _ _ _ _ _ _ (h.1 hx) p e s m args below meth co C H locs la hl hR hL hz)
    · have h1 : ¬ x.toInt < lo := fun q => hx (Or.inl q)
      have h2 : ¬ hi < x.toInt := fun q => hx (Or.inr q)
      have hj : x.toInt = lo + ((x.toInt - lo).toNat : Int) := by omega
      obtain ⟨off, t, ho, hto, hS⟩ := hK (x.toInt - lo).toNat (by omega)
      exact lv_tableIn C.1 C.2.1 hd h1 h2 ho hto (hS _ _ _ _ _ _ (h.2 _ hj (by omega)) p e s m args below meth co C H locs la hl hR hL hz)
  · exact h.elim
/-! the returns -/
def ax_Rt (mc ms : Nat) (Q : Option Value → Nat → ax_F → Prop) (v : Option Value) (c n z : Nat) (f : ax_F) : Prop := c ≤ mc ∧ n ≤ ms ∧ Q v z f
def ax_iret (T : Option Value → Nat → Nat → Nat → ax_F → Prop) : ax_P := fun _ st c n z f => match st with
  | [.int x] => T (some (.int x)) c n z f
  | _ => False
def ax_zret (T : Option Value → Nat → Nat → Nat → ax_F → Prop) : ax_P := fun _ st c n z f => match st with
  | [.int x] => (x = 0 ∨ x = 1) ∧ T (some (.int x)) c n z f
  | _ => False
def ax_lret (T : Option Value → Nat → Nat → Nat → ax_F → Prop) : ax_P := fun _ st c n z f => match st with
  | [.long x] => T (some (.long x)) c n z f
  | _ => False
def ax_vret (T : Option Value → Nat → Nat → Nat → ax_F → Prop) : ax_P := fun _ st c n z f => match st with
  | [] => T none c n z f
  | _ => False
def ax_aret (T : Option Value → Nat → Nat → Nat → ax_F → Prop) : ax_P := fun _ st c n z f => match st with
  | [.ref a] => T (some (.ref a)) c n z f
  | [.null] => T (some .null) c n z f
  | _ => False
theorem sn_iret (hd : decode mi.2.1 pc = .ok (.ireturn, 1)) (hr : mi.2.2.2.1 = some .int) : ax_S X mi mc ms Q pc (ax_iret (ax_Rt mc ms Q)) := by
  intro ls st c n z f h p e s m args below meth co C H locs la hl hR hL hz
  unfold ax_iret at h
  split at h
  · have hlk := C.2.2.2.2.2.2.1
    exact W.widen h.1 h.2.1 (W.iret C.1 C.2.1 (C.2.2.2.2.2.1.trans hr) (fun t ht _ => ⟨_, _, _, rfl, h.2.2, by rw [ht]; exact hR⟩) hL hd hlk)
  · exact h.elim
theorem sn_zret (hd : decode mi.2.1 pc = .ok (.ireturn, 1)) (hr : mi.2.2.2.1 = some .boolean) : ax_S X mi mc ms Q pc (ax_zret (ax_Rt mc ms Q)) := by
  intro ls st c n z f h p e s m args below meth co C H locs la hl hR hL hz
  unfold ax_zret at h
  split at h
  · have hlk := C.2.2.2.2.2.2.1
    exact W.widen h.2.1 h.2.2.1 (W.zret C.1 C.2.1 (C.2.2.2.2.2.1.trans hr) (by rcases h.1 with q | q <;> rw [q] <;> decide) (fun t ht _ => ⟨_, _, _, rfl, h.2.2.2, by rw [ht]; exact hR⟩) hL hd hlk)
  · exact h.elim
theorem sn_lret (hd : decode mi.2.1 pc = .ok (.lreturn, 1)) (hr : mi.2.2.2.1 = some .long) : ax_S X mi mc ms Q pc (ax_lret (ax_Rt mc ms Q)) := by
  intro ls st c n z f h p e s m args below meth co C H locs la hl hR hL hz
  unfold ax_lret at h
  split at h
  · have hlk := C.2.2.2.2.2.2.1
    exact W.widen h.1 h.2.1 (W.lret C.1 C.2.1 (C.2.2.2.2.2.1.trans hr) (fun t ht _ => ⟨_, _, _, rfl, h.2.2, by rw [ht]; exact hR⟩) hL hd hlk)
  · exact h.elim
theorem sn_vret (hd : decode mi.2.1 pc = .ok (.return_, 1)) (hr : mi.2.2.2.1 = none) : ax_S X mi mc ms Q pc (ax_vret (ax_Rt mc ms Q)) := by
  intro ls st c n z f h p e s m args below meth co C H locs la hl hR hL hz
  unfold ax_vret at h
  split at h
  · have hlk := C.2.2.2.2.2.2.1
    exact W.widen h.1 h.2.1 (W.vret C.1 C.2.1 (C.2.2.2.2.2.1.trans hr) (fun t ht _ => ⟨_, _, _, rfl, h.2.2, by rw [ht]; exact hR⟩) hL hd hlk)
  · exact h.elim
theorem sn_aret {C0 : String} (hd : decode mi.2.1 pc = .ok (.areturn, 1)) (hr : mi.2.2.2.1 = some (.object C0)) : ax_S X mi mc ms Q pc (ax_aret (ax_Rt mc ms Q)) := by
  intro ls st c n z f h p e s m args below meth co C H locs la hl hR hL hz
  unfold ax_aret at h
  split at h
  · have hlk := C.2.2.2.2.2.2.1
    exact W.widen h.1 h.2.1 (W.aret C.1 C.2.1 (C.2.2.2.2.2.1.trans hr) (Or.inl ⟨_, rfl⟩) (Or.inr ⟨_, rfl⟩) (fun t ht _ => ⟨_, _, _, rfl, h.2.2, by rw [ht]; exact hR⟩) hL hd hlk)
  · have hlk := C.2.2.2.2.2.2.1
    exact W.widen h.1 h.2.1 (W.aret C.1 C.2.1 (C.2.2.2.2.2.1.trans hr) (Or.inl ⟨_, rfl⟩) (Or.inl rfl) (fun t ht _ => ⟨_, _, _, rfl, h.2.2, by rw [ht]; exact hR⟩) hL hd hlk)
  · exact h.elim
end AXI
