/-! between two calls: both sides hold the same -/
def Jv (X : ax_X) (r : Nat) (V : Nat → Int → Int) (z : Nat) (f : ax_F) : Prop := mInv V ∧ mZr V ∧ (∃ T : Nat → Int → Int, RH X r T f ∧ Sim V T) ∧ MH X (r + 41) V f ∧ z = r + 67 + 5 * (V 0 8).toNat
section JVA
variable {X : ax_X} {r z : Nat} {V V1 V2 T : Nat → Int → Int} {f f1 f2 : ax_F}
theorem RH.mf (h : RH X r T f) (hF : MF (r + 41) f f1) : RH X r T f1 := fun j hj => by
  rw [hF (r + j) (by omega)]
  exact h j hj
theorem MH.rf (h : MH X (r + 41) V f) (hF : RF r f f1) : MH X (r + 41) V f1 := fun k hk => by
  rw [hF (r + 41 + k) (by omega)]
  exact h k hk
theorem pr7 {mi' : ax_MI} {mc ms c n : Nat} {k : ax_P} {ls : List (Option Value)} {as rest : List Value} {w : Value} (h1 : (rest.map fun v => v.category).sum ≤ 8) (hc : c ≤ mc) (hn : n ≤ ms) (h7 : ax_M X mi' 0 0 as z f (rsq X r f z (some w) V1)) (hk : ∀ (f1 : ax_F) (T1 : Nat → Int → Int), RF r f f1 → RH X r T1 f1 → Sim V1 T1 → k ls (w :: rest) c n z f1) : ax_cont X mi' mc ms k ls as rest c n z f :=
  ⟨h1, 0, 0, _, h7, hc, hn, fun v z' f' h => by obtain ⟨rfl, rfl, hF, T1, hR, hS⟩ := h; exact hk f' T1 hF hR hS⟩
theorem pr8 {mi' : ax_MI} {mc ms c n o : Nat} {k : ax_P} {ls : List (Option Value)} {as rest : List Value} {w : Value} (h1 : (rest.map fun v => v.category).sum ≤ 8) (hc : c ≤ mc) (hn : n ≤ ms) (h8 : ax_M X mi' 0 0 as z f (mqc X o f z (some w) V1)) (hk : ∀ (f1 : ax_F) (V2 : Nat → Int → Int), core V1 V2 → MH X o V2 f1 → MF o f f1 → k ls (w :: rest) c n z f1) : ax_cont X mi' mc ms k ls as rest c n z f :=
  ⟨h1, 0, 0, _, h8, hc, hn, fun v z' f' h => by obtain ⟨rfl, rfl, ⟨V2, cV, hM⟩, hF⟩ := h; exact hk f' V2 cV hM hF⟩
theorem pr8m {mi' : ax_MI} {mc ms c n o : Nat} {k : ax_P} {ls : List (Option Value)} {as rest : List Value} {w : Value} (h1 : (rest.map fun v => v.category).sum ≤ 8) (hc : c ≤ mc) (hn : n ≤ ms) (h8 : ax_M X mi' 0 0 as z f (mq X o f z (some w) V1)) (hk : ∀ f1 : ax_F, MH X o V1 f1 → MF o f f1 → k ls (w :: rest) c n z f1) : ax_cont X mi' mc ms k ls as rest c n z f :=
  ⟨h1, 0, 0, _, h8, hc, hn, fun v z' f' h => by obtain ⟨rfl, rfl, hM, hF⟩ := h; exact hk f' hM hF⟩
theorem Jv.core (hI : mInv V1) (hZ : mZr V1) (hz : z = r + 67 + 5 * (V1 0 8).toNat) (hR : RH X r T f1) (hS : Sim V1 T) (cV : core V1 V2) (hM : MH X (r + 41) V2 f2) (hF : MF (r + 41) f1 f2) : Jv X r V2 z f2 :=
  ⟨cV.inv hI, mZr_core cV hZ, ⟨T, hR.mf hF, sim_ref hS cV⟩, hM, by rw [cV.2.1]; exact hz⟩
theorem Jv.same (hI : mInv V1) (hZ : mZr V1) (hz : z = r + 67 + 5 * (V1 0 8).toNat) (hR : RH X r T f1) (hS : Sim V1 T) (hM : MH X (r + 41) V1 f2) (hF : MF (r + 41) f1 f2) : Jv X r V1 z f2 :=
  ⟨hI, hZ, ⟨T, hR.mf hF, hS⟩, hM, hz⟩
theorem kp_set {g k v : Int} (hI : mInv V) (hZ : mZr V) : mInv (if 0 ≤ g ∧ g ≤ 5 ∧ 0 ≤ k ∧ k ≤ 5 ∧ mayP k v then mset V 2 (ax_u (V 2) (6 * g + k) v) else V) ∧ mZr (if 0 ≤ g ∧ g ≤ 5 ∧ 0 ≤ k ∧ k ≤ 5 ∧ mayP k v then mset V 2 (ax_u (V 2) (6 * g + k) v) else V) ∧ (if 0 ≤ g ∧ g ≤ 5 ∧ 0 ≤ k ∧ k ≤ 5 ∧ mayP k v then mset V 2 (ax_u (V 2) (6 * g + k) v) else V) 0 8 = V 0 8 := by
  by_cases h : 0 ≤ g ∧ g ≤ 5 ∧ 0 ≤ k ∧ k ≤ 5 ∧ mayP k v
  · rw [if_pos h]
    exact ⟨inv_set hI h.1 h.2.1 h.2.2.1 h.2.2.2.1 h.2.2.2.2, hZ, rfl⟩
  · rw [if_neg h]
    exact ⟨hI, hZ, rfl⟩
theorem kp_seal {g a s b t : Int} (hI : mInv V) (hZ : mZr V) : mInv (if (0 ≤ g ∧ g ≤ 5) ∧ sealOk a s b t ∧ ¬ sealU a s b t < 0 then mset (mset V 3 (ax_u (V 3) g (lowZ (sealU a s b t) (sealL s t) 0))) 4 (ax_u (V 4) g (lowZ (sealU a s b t) (sealL s t) 1)) else V) ∧ mZr (if (0 ≤ g ∧ g ≤ 5) ∧ sealOk a s b t ∧ ¬ sealU a s b t < 0 then mset (mset V 3 (ax_u (V 3) g (lowZ (sealU a s b t) (sealL s t) 0))) 4 (ax_u (V 4) g (lowZ (sealU a s b t) (sealL s t) 1)) else V) ∧ (if (0 ≤ g ∧ g ≤ 5) ∧ sealOk a s b t ∧ ¬ sealU a s b t < 0 then mset (mset V 3 (ax_u (V 3) g (lowZ (sealU a s b t) (sealL s t) 0))) 4 (ax_u (V 4) g (lowZ (sealU a s b t) (sealL s t) 1)) else V) 0 8 = V 0 8 := by
  by_cases h : (0 ≤ g ∧ g ≤ 5) ∧ sealOk a s b t ∧ ¬ sealU a s b t < 0
  · rw [if_pos h]
    exact ⟨inv_seal hI h.1.1 h.1.2 h.2.1 h.2.2, hZ, rfl⟩
  · rw [if_neg h]
    exact ⟨hI, hZ, rfl⟩
theorem kp_tell {s h a w : Int} (hI : mInv V) (hZ : mZr V) : mInv (if (0 ≤ s ∧ s < V 0 8) ∧ (0 ≤ h ∧ h ≤ 47) ∧ 1 ≤ a ∧ a ≤ 12000 ∧ -30 ≤ w ∧ w ≤ 50 then mset (mset V 9 (ax_u (V 9) (48 * s + h) a)) 10 (ax_u (V 10) (48 * s + h) w) else V) ∧ mZr (if (0 ≤ s ∧ s < V 0 8) ∧ (0 ≤ h ∧ h ≤ 47) ∧ 1 ≤ a ∧ a ≤ 12000 ∧ -30 ≤ w ∧ w ≤ 50 then mset (mset V 9 (ax_u (V 9) (48 * s + h) a)) 10 (ax_u (V 10) (48 * s + h) w) else V) ∧ (if (0 ≤ s ∧ s < V 0 8) ∧ (0 ≤ h ∧ h ≤ 47) ∧ 1 ≤ a ∧ a ≤ 12000 ∧ -30 ≤ w ∧ w ≤ 50 then mset (mset V 9 (ax_u (V 9) (48 * s + h) a)) 10 (ax_u (V 10) (48 * s + h) w) else V) 0 8 = V 0 8 := by
  by_cases q : (0 ≤ s ∧ s < V 0 8) ∧ (0 ≤ h ∧ h ≤ 47) ∧ 1 ≤ a ∧ a ≤ 12000 ∧ -30 ≤ w ∧ w ≤ 50
  · rw [if_pos q]
    exact ⟨inv_tell hI (by omega) (by omega) (by omega) (by omega), zr_tell hZ (by omega) (by omega) (by omega), rfl⟩
  · rw [if_neg q]
    exact ⟨hI, hZ, rfl⟩
theorem kp_gap {s h : Int} (hI : mInv V) (hZ : mZr V) : mInv (if (0 ≤ s ∧ s < V 0 8) ∧ 0 ≤ h ∧ h ≤ 47 then mset V 9 (ax_u (V 9) (48 * s + h) 0) else V) ∧ mZr (if (0 ≤ s ∧ s < V 0 8) ∧ 0 ≤ h ∧ h ≤ 47 then mset V 9 (ax_u (V 9) (48 * s + h) 0) else V) ∧ (if (0 ≤ s ∧ s < V 0 8) ∧ 0 ≤ h ∧ h ≤ 47 then mset V 9 (ax_u (V 9) (48 * s + h) 0) else V) 0 8 = V 0 8 := by
  by_cases q : (0 ≤ s ∧ s < V 0 8) ∧ 0 ≤ h ∧ h ≤ 47
  · rw [if_pos q]
    exact ⟨inv_gap hI, zr_gap hZ (by omega) (by omega) (by omega), rfl⟩
  · rw [if_neg q]
    exact ⟨hI, hZ, rfl⟩
theorem kp_benches {n : Int} (hI : mInv V) (hZ : mZr V) : mInv (if 2 ≤ n ∧ n ≤ 6 then mset V 0 (ax_u (ax_u (V 0) 14 n) 19 0) else V) ∧ mZr (if 2 ≤ n ∧ n ≤ 6 then mset V 0 (ax_u (ax_u (V 0) 14 n) 19 0) else V) ∧ (if 2 ≤ n ∧ n ≤ 6 then mset V 0 (ax_u (ax_u (V 0) 14 n) 19 0) else V) 0 8 = V 0 8 := by
  by_cases q : 2 ≤ n ∧ n ≤ 6
  · rw [if_pos q]
    exact ⟨inv_benches hI q, hZ, rfl⟩
  · rw [if_neg q]
    exact ⟨hI, hZ, rfl⟩
theorem kp_drop (hI : mInv V) (hZ : mZr V) : mInv (if V 0 19 = 0 then V else mset V 0 (ax_u (V 0) 19 (V 0 19 - 1))) ∧ mZr (if V 0 19 = 0 then V else mset V 0 (ax_u (V 0) 19 (V 0 19 - 1))) ∧ (if V 0 19 = 0 then V else mset V 0 (ax_u (V 0) 19 (V 0 19 - 1))) 0 8 = V 0 8 := by
  by_cases q : V 0 19 = 0
  · rw [if_pos q]
    exact ⟨hI, hZ, rfl⟩
  · rw [if_neg q]
    exact ⟨inv_drop hI q, hZ, rfl⟩
theorem kp_difference {a b d w : Int} (hI : mInv V) (hZ : mZr V) : mInv (if ((0 ≤ a ∧ a < V 0 14) ∧ (0 ≤ b ∧ b < V 0 14) ∧ a ≠ b) ∧ ((-1000000 ≤ d ∧ d ≤ 1000000) ∧ 1 ≤ w ∧ w ≤ 9) ∧ V 0 19 ≠ 12 then mset (mset (mset (mset (mset V 14 (ax_u (V 14) (V 0 19) a)) 15 (ax_u (V 15) (V 0 19) b)) 16 (ax_u (V 16) (V 0 19) d)) 17 (ax_u (V 17) (V 0 19) w)) 0 (ax_u (V 0) 19 (V 0 19 + 1)) else V) ∧ mZr (if ((0 ≤ a ∧ a < V 0 14) ∧ (0 ≤ b ∧ b < V 0 14) ∧ a ≠ b) ∧ ((-1000000 ≤ d ∧ d ≤ 1000000) ∧ 1 ≤ w ∧ w ≤ 9) ∧ V 0 19 ≠ 12 then mset (mset (mset (mset (mset V 14 (ax_u (V 14) (V 0 19) a)) 15 (ax_u (V 15) (V 0 19) b)) 16 (ax_u (V 16) (V 0 19) d)) 17 (ax_u (V 17) (V 0 19) w)) 0 (ax_u (V 0) 19 (V 0 19 + 1)) else V) ∧ (if ((0 ≤ a ∧ a < V 0 14) ∧ (0 ≤ b ∧ b < V 0 14) ∧ a ≠ b) ∧ ((-1000000 ≤ d ∧ d ≤ 1000000) ∧ 1 ≤ w ∧ w ≤ 9) ∧ V 0 19 ≠ 12 then mset (mset (mset (mset (mset V 14 (ax_u (V 14) (V 0 19) a)) 15 (ax_u (V 15) (V 0 19) b)) 16 (ax_u (V 16) (V 0 19) d)) 17 (ax_u (V 17) (V 0 19) w)) 0 (ax_u (V 0) 19 (V 0 19 + 1)) else V) 0 8 = V 0 8 := by
  by_cases q : ((0 ≤ a ∧ a < V 0 14) ∧ (0 ≤ b ∧ b < V 0 14) ∧ a ≠ b) ∧ ((-1000000 ≤ d ∧ d ≤ 1000000) ∧ 1 ≤ w ∧ w ≤ 9) ∧ V 0 19 ≠ 12
  · rw [if_pos q]
    exact ⟨inv_diff hI q.1 q.2.1 q.2.2, hZ, rfl⟩
  · rw [if_neg q]
    exact ⟨hI, hZ, rfl⟩
theorem kp_mend {s : Int} (hI : mInv V) (hZ : mZr V) : mInv (if (0 ≤ s ∧ s < V 0 8) ∧ V 13 s ≠ 3 ∧ 0 ≤ (mDr V s).1 then mdPut V s else V) ∧ mZr (if (0 ≤ s ∧ s < V 0 8) ∧ V 13 s ≠ 3 ∧ 0 ≤ (mDr V s).1 then mdPut V s else V) ∧ (if (0 ≤ s ∧ s < V 0 8) ∧ V 13 s ≠ 3 ∧ 0 ≤ (mDr V s).1 then mdPut V s else V) 0 8 = V 0 8 := by
  by_cases q : (0 ≤ s ∧ s < V 0 8) ∧ V 13 s ≠ 3 ∧ 0 ≤ (mDr V s).1
  · rw [if_pos q]
    exact ⟨inv_mend hI q.1.1 q.1.2 q.2.1 q.2.2, zr_mend hI hZ q.1.1 q.1.2 q.2.1, rfl⟩
  · rw [if_neg q]
    exact ⟨hI, hZ, rfl⟩
theorem stRes_uniq {x y H g a b : Int} (h1 : stRes V x y H g a V1) (h2 : stRes V x y H g b V2) : a = b ∧ V1 = V2 := by
  rcases h1 with ⟨p1, rfl, rfl⟩ | ⟨p1, ⟨p2, rfl, rfl⟩ | ⟨p2, ⟨p3, rfl, rfl⟩ | ⟨p3, ⟨p4, rfl, rfl⟩ | ⟨p4, rfl, rfl⟩⟩⟩⟩ <;> rcases h2 with ⟨q1, rfl, rfl⟩ | ⟨q1, ⟨q2, rfl, rfl⟩ | ⟨q2, ⟨q3, rfl, rfl⟩ | ⟨q3, ⟨q4, rfl, rfl⟩ | ⟨q4, rfl, rfl⟩⟩⟩⟩ <;> first
    | exact ⟨rfl, rfl⟩
    | exact absurd q1 p1
    | exact absurd p1 q1
    | exact absurd q2 p2
    | exact absurd p2 q2
    | exact absurd q3 p3
    | exact absurd p3 q3
    | exact absurd q4 p4
    | exact absurd p4 q4
theorem kp_station {x y H g a : Int} (hI : mInv V) (hZ : mZr V) (h : stRes V x y H g a V1) : mInv V1 ∧ mZr V1 := by
  rcases h with ⟨p1, rfl, rfl⟩ | ⟨p1, ⟨p2, rfl, rfl⟩ | ⟨p2, ⟨p3, rfl, rfl⟩ | ⟨p3, ⟨p4, rfl, rfl⟩ | ⟨p4, rfl, rfl⟩⟩⟩⟩
  · exact ⟨hI, hZ⟩
  · exact ⟨hI, hZ⟩
  · exact ⟨hI, hZ⟩
  · exact ⟨hI, hZ⟩
  · exact ⟨inv_st hI p3 p2.1 p2.2 p1, zr_st hZ⟩
end JVA
