section WALKS
variable {E : ENV} {p : Program} {l : Launch} {e : Env} {s : State} {m : MethodId} {args : Array Value} {below : List Frame} {meth : Method} {c : Code} {A : Nat → Prop}
theorem hd_X0_isCutOff : yX0_isCutOff.cls = RX0 ∧ yX0_isCutOff.cls ≠ "java/lang/invoke/MethodHandle" ∧ yX0_isCutOff.cls ≠ "java/lang/invoke/VarHandle" ∧ (parseMethodDescriptor yX0_isCutOff.desc).map (fun d => d.parameters.length) = some 1 := by decide +kernel
theorem g_X0_119 : GoodIn GW (wsV RX0 119 RX0 yX0_isCutOff (wsG yX0_isCutOff cX0_isCutOff 2 (some .boolean))) := gw_V wm_3_202 wm_3_203 wm_3_204 wm_1_2 wm_3_205
-- ShardGuard$Fleet.cutOffMask()I
theorem dX0_cutOffMask_0 : decode cX0_cutOffMask 0 = .ok (.iconst 0, 1) := by decide +kernel
theorem dX0_cutOffMask_1 : decode cX0_cutOffMask 1 = .ok (.istore_n 1, 1) := by decide +kernel
theorem dX0_cutOffMask_2 : decode cX0_cutOffMask 2 = .ok (.iconst 0, 1) := by decide +kernel
theorem dX0_cutOffMask_3 : decode cX0_cutOffMask 3 = .ok (.istore_n 2, 1) := by decide +kernel
theorem dX0_cutOffMask_4 : decode cX0_cutOffMask 4 = .ok (.iload_n 2, 1) := by decide +kernel
theorem dX0_cutOffMask_5 : decode cX0_cutOffMask 5 = .ok (.aload_n 0, 1) := by decide +kernel
theorem dX0_cutOffMask_6 : decode cX0_cutOffMask 6 = .ok (.getfield 52, 3) := by decide +kernel
theorem dX0_cutOffMask_9 : decode cX0_cutOffMask 9 = .ok (.if_icmp .ge 23, 3) := by decide +kernel
theorem dX0_cutOffMask_12 : decode cX0_cutOffMask 12 = .ok (.aload_n 0, 1) := by decide +kernel
theorem dX0_cutOffMask_13 : decode cX0_cutOffMask 13 = .ok (.iload_n 2, 1) := by decide +kernel
theorem dX0_cutOffMask_14 : decode cX0_cutOffMask 14 = .ok (.invokevirtual 119, 3) := by decide +kernel
theorem dX0_cutOffMask_17 : decode cX0_cutOffMask 17 = .ok (.ifCond .eq 9, 3) := by decide +kernel
theorem dX0_cutOffMask_20 : decode cX0_cutOffMask 20 = .ok (.iload_n 1, 1) := by decide +kernel
theorem dX0_cutOffMask_21 : decode cX0_cutOffMask 21 = .ok (.iconst 1, 1) := by decide +kernel
theorem dX0_cutOffMask_22 : decode cX0_cutOffMask 22 = .ok (.iload_n 2, 1) := by decide +kernel
theorem dX0_cutOffMask_23 : decode cX0_cutOffMask 23 = .ok (.ishl, 1) := by decide +kernel
theorem dX0_cutOffMask_24 : decode cX0_cutOffMask 24 = .ok (.ior, 1) := by decide +kernel
theorem dX0_cutOffMask_25 : decode cX0_cutOffMask 25 = .ok (.istore_n 1, 1) := by decide +kernel
theorem dX0_cutOffMask_26 : decode cX0_cutOffMask 26 = .ok (.iinc 2 1, 3) := by decide +kernel
theorem dX0_cutOffMask_29 : decode cX0_cutOffMask 29 = .ok (.goto (-25), 3) := by decide +kernel
theorem dX0_cutOffMask_32 : decode cX0_cutOffMask 32 = .ok (.iload_n 1, 1) := by decide +kernel
theorem dX0_cutOffMask_33 : decode cX0_cutOffMask 33 = .ok (.ireturn, 1) := by decide +kernel
def rm_X0_cutOffMask : Room := { frames := 3, cells := 0, slots := 0, locals := 66 }
def M_X0_cutOffMask_4 (k : Nat) (S : Nat → Nat → Int32) : Nat → (Int32) → (Int32) → Option (Int32)
  | 0, _, _ => none
  | n + 1, x1, x2 => if (S 0 2) ≤ x2 then (some x1) else ((M_X0_isCutOff k S x2).bind fun q2 => if q2 = 0 then (M_X0_cutOffMask_4 k S n x1 (x2 + 1)) else (lt (x1 ||| ((1 : Int32) <<< (x2 &&& 31))) fun v4 => M_X0_cutOffMask_4 k S n v4 (x2 + 1)))
theorem M_X0_cutOffMask_4_s (k : Nat) (S : Nat → Nat → Int32) (n : Nat) (x1 : Int32) (x2 : Int32) : M_X0_cutOffMask_4 k S (n + 1) x1 x2 = (if (S 0 2) ≤ x2 then (some x1) else ((M_X0_isCutOff k S x2).bind fun q2 => if q2 = 0 then (M_X0_cutOffMask_4 k S n x1 (x2 + 1)) else (lt (x1 ||| ((1 : Int32) <<< (x2 &&& 31))) fun v4 => M_X0_cutOffMask_4 k S n v4 (x2 + 1)))) := rfl
set_option maxRecDepth 100000 in
set_option maxHeartbeats 4000000 in
theorem N_X0_cutOffMask_4 (C : CX E p l s m args meth c cX0_cutOffMask 3 RX0 (some .int) A) (a : Nat → Nat) (k : Nat) (S : Nat → Nat → Int32) {post : Int32 → va_W → Prop} :
    ∀ (n : Nat) (x1 : Int32) (x2 : Int32) (q : Int32), M_X0_cutOffMask_4 k S n x1 x2 = some q → post q (wFl E a S) →
      WW E p l e rm_X0_cutOffMask s m args below meth c A 0 0 (QI E below post args s rm_X0_cutOffMask A) (wFl E a S) 3 [some (.ref (a 0)), some (.int x1), some (.int x2)] 4 [] := by
  intro n
  induction n with
  | zero => intro x1 x2 q  h _; cases h
  | succ n ih =>
    intro x1 x2 q  h hq
    rw [M_X0_cutOffMask_4_s] at h
    refine r_iload_n (pc := 4) C (i := 2) dX0_cutOffMask_4 rfl rfl ?_
    refine r_aload_n (pc := 5) C (i := 0) dX0_cutOffMask_5 rfl rfl ?_
    refine r_get (pc := 6) C gwX0 0 rfl rfl 2 (by decide) wm_1_98 rfl dX0_cutOffMask_6 ?_
    refine r_icmp_ge (pc := 9) C (tgt := 32) dX0_cutOffMask_9 rfl (fun c1 => ?_) (fun c1 => ?_)
    · rw [if_pos c1] at h
      refine r_iload_n (pc := 32) C (i := 1) dX0_cutOffMask_32 rfl rfl ?_
      cases h
      exact r_ireti (pc := 33) C hq (Nat.zero_le _) (Nat.zero_le _) dX0_cutOffMask_33
    · rw [if_neg c1] at h
      refine r_aload_n (pc := 12) C (i := 0) dX0_cutOffMask_12 rfl rfl ?_
      refine r_iload_n (pc := 13) C (i := 2) dX0_cutOffMask_13 rfl rfl ?_
      obtain ⟨q2, hq2, h⟩ := bnd h
      refine r_callVp_CI (Cn := RX0) (pc := 14) C [.int x2] (c_X0_isCutOff E l k a S x2 hq2) [0, 1, 2, 3, 4, 5, 6, 7, 8, 9, 10, 11, 12, 13, 14, 15, 16, 17] (hp_X0_isCutOff_0 E a S) (by decide) 0 rfl rfl rfl g_X0_119 hd_X0_isCutOff ⟨Nat.le_of_ble_eq_true rfl, Nat.le_of_ble_eq_true rfl⟩ ⟨Nat.zero_le _, Nat.zero_le _⟩ (Nat.le_of_ble_eq_true rfl) rfl dX0_cutOffMask_14 (fun r hr => ?_)
      have hr := hr.symm
      subst hr
      refine r_if_eq (pc := 17) C (tgt := 26) dX0_cutOffMask_17 rfl (fun c3 => ?_) (fun c3 => ?_)
      · rw [if_pos c3] at h
        refine r_iinc (pc := 26) C (v := (x2 + 1)) dX0_cutOffMask_26 rfl rfl (by decide) rfl ?_
        refine r_goto (pc := 29) C (tgt := 4) dX0_cutOffMask_29 rfl ?_
        refine r_weak (lSub_s (lSub_s (lSub_s lSub_e))) ?_
        exact ih x1 (x2 + 1) q  h hq
      · rw [if_neg c3] at h
        refine r_iload_n (pc := 20) C (i := 1) dX0_cutOffMask_20 rfl rfl ?_
        refine r_iconst (pc := 21) C (v := 1) dX0_cutOffMask_21 (by decide) ?_
        refine r_iload_n (pc := 22) C (i := 2) dX0_cutOffMask_22 rfl rfl ?_
        refine r_ishl (pc := 23) C dX0_cutOffMask_23 ?_
        refine r_ior (pc := 24) C dX0_cutOffMask_24 ?_
        obtain ⟨v4, hv4, h⟩ := lt_e h
        refine r_topi hv4 ?_
        refine r_istore_n (pc := 25) C (i := 1) dX0_cutOffMask_25 rfl (by decide) rfl ?_
        refine r_iinc (pc := 26) C (v := (x2 + 1)) dX0_cutOffMask_26 rfl rfl (by decide) rfl ?_
        refine r_goto (pc := 29) C (tgt := 4) dX0_cutOffMask_29 rfl ?_
        refine r_weak (lSub_s (lSub_s (lSub_s lSub_e))) ?_
        exact ih v4 (x2 + 1) q  h hq
def M_X0_cutOffMask_0 (k : Nat) (S : Nat → Nat → Int32) : Option (Int32) := M_X0_cutOffMask_4 k S k (0 : Int32) (0 : Int32)
set_option maxRecDepth 100000 in
set_option maxHeartbeats 4000000 in
theorem N_X0_cutOffMask_0 (C : CX E p l s m args meth c cX0_cutOffMask 3 RX0 (some .int) A) (a : Nat → Nat) (k : Nat) (S : Nat → Nat → Int32) {post : Int32 → va_W → Prop} :
    ∀ (q : Int32), M_X0_cutOffMask_0 k S = some q → post q (wFl E a S) →
      WW E p l e rm_X0_cutOffMask s m args below meth c A 0 0 (QI E below post args s rm_X0_cutOffMask A) (wFl E a S) 3 [some (.ref (a 0)), none, none] 0 [] := by
  intro  q  h hq
  unfold M_X0_cutOffMask_0 at h
  refine r_iconst (pc := 0) C (v := 0) dX0_cutOffMask_0 (by decide) ?_
  refine r_istore_n (pc := 1) C (i := 1) dX0_cutOffMask_1 rfl (by decide) rfl ?_
  refine r_iconst (pc := 2) C (v := 0) dX0_cutOffMask_2 (by decide) ?_
  refine r_istore_n (pc := 3) C (i := 2) dX0_cutOffMask_3 rfl (by decide) rfl ?_
  refine r_weak (lSub_s (lSub_s (lSub_s lSub_e))) ?_
  exact N_X0_cutOffMask_4 C a k S k (0 : Int32) (0 : Int32) q  h hq
def M_X0_cutOffMask (k : Nat) (S : Nat → Nat → Int32) : Option (Int32) := M_X0_cutOffMask_0 k S
set_option maxRecDepth 100000 in
set_option maxHeartbeats 4000000 in
theorem c_X0_cutOffMask (E : ENV) (l : Launch) (k : Nat) (a : Nat → Nat) (S : Nat → Nat → Int32) {q : Int32} (hm : M_X0_cutOffMask k S = some q) : CI E l yX0_cutOffMask cX0_cutOffMask 3 (some .int) rm_X0_cutOffMask [.ref (a 0)] (wFl E a S) (fun r w' => r = q ∧ w' = (wFl E a S)) :=
  CI.of 2 (by decide) (Nat.le_of_ble_eq_true rfl) (fun p e s m below meth c A C _ => r_weak (lSub_s (lSub_n (lSub_n lSub_e))) (N_X0_cutOffMask_0 C a k S q  hm ⟨rfl, rfl⟩))
theorem hd_X0_isQuarantined : yX0_isQuarantined.cls = RX0 ∧ yX0_isQuarantined.cls ≠ "java/lang/invoke/MethodHandle" ∧ yX0_isQuarantined.cls ≠ "java/lang/invoke/VarHandle" ∧ (parseMethodDescriptor yX0_isQuarantined.desc).map (fun d => d.parameters.length) = some 1 := by decide +kernel
theorem g_X0_97 : GoodIn GW (wsV RX0 97 RX0 yX0_isQuarantined (wsG yX0_isQuarantined cX0_isQuarantined 2 (some .boolean))) := gw_V wm_3_159 wm_3_160 wm_3_161 wm_1_2 wm_3_162
-- ShardGuard$Fleet.quarantined()I
theorem dX0_quarantined_0 : decode cX0_quarantined 0 = .ok (.iconst 0, 1) := by decide +kernel
theorem dX0_quarantined_1 : decode cX0_quarantined 1 = .ok (.istore_n 1, 1) := by decide +kernel
theorem dX0_quarantined_2 : decode cX0_quarantined 2 = .ok (.iconst 0, 1) := by decide +kernel
theorem dX0_quarantined_3 : decode cX0_quarantined 3 = .ok (.istore_n 2, 1) := by decide +kernel
theorem dX0_quarantined_4 : decode cX0_quarantined 4 = .ok (.iload_n 2, 1) := by decide +kernel
theorem dX0_quarantined_5 : decode cX0_quarantined 5 = .ok (.aload_n 0, 1) := by decide +kernel
theorem dX0_quarantined_6 : decode cX0_quarantined 6 = .ok (.getfield 52, 3) := by decide +kernel
theorem dX0_quarantined_9 : decode cX0_quarantined 9 = .ok (.if_icmp .ge 20, 3) := by decide +kernel
theorem dX0_quarantined_12 : decode cX0_quarantined 12 = .ok (.aload_n 0, 1) := by decide +kernel
theorem dX0_quarantined_13 : decode cX0_quarantined 13 = .ok (.iload_n 2, 1) := by decide +kernel
theorem dX0_quarantined_14 : decode cX0_quarantined 14 = .ok (.invokevirtual 97, 3) := by decide +kernel
theorem dX0_quarantined_17 : decode cX0_quarantined 17 = .ok (.ifCond .eq 6, 3) := by decide +kernel
theorem dX0_quarantined_20 : decode cX0_quarantined 20 = .ok (.iinc 1 1, 3) := by decide +kernel
theorem dX0_quarantined_23 : decode cX0_quarantined 23 = .ok (.iinc 2 1, 3) := by decide +kernel
theorem dX0_quarantined_26 : decode cX0_quarantined 26 = .ok (.goto (-22), 3) := by decide +kernel
theorem dX0_quarantined_29 : decode cX0_quarantined 29 = .ok (.iload_n 1, 1) := by decide +kernel
theorem dX0_quarantined_30 : decode cX0_quarantined 30 = .ok (.ireturn, 1) := by decide +kernel
def rm_X0_quarantined : Room := { frames := 2, cells := 0, slots := 0, locals := 45 }
def M_X0_quarantined_4 (k : Nat) (S : Nat → Nat → Int32) : Nat → (Int32) → (Int32) → Option (Int32)
  | 0, _, _ => none
  | n + 1, x1, x2 => if (S 0 2) ≤ x2 then (some x1) else ((M_X0_isQuarantined k S x2).bind fun q2 => if q2 = 0 then (M_X0_quarantined_4 k S n x1 (x2 + 1)) else (M_X0_quarantined_4 k S n (x1 + 1) (x2 + 1)))
theorem M_X0_quarantined_4_s (k : Nat) (S : Nat → Nat → Int32) (n : Nat) (x1 : Int32) (x2 : Int32) : M_X0_quarantined_4 k S (n + 1) x1 x2 = (if (S 0 2) ≤ x2 then (some x1) else ((M_X0_isQuarantined k S x2).bind fun q2 => if q2 = 0 then (M_X0_quarantined_4 k S n x1 (x2 + 1)) else (M_X0_quarantined_4 k S n (x1 + 1) (x2 + 1)))) := rfl
set_option maxRecDepth 100000 in
set_option maxHeartbeats 4000000 in
theorem N_X0_quarantined_4 (C : CX E p l s m args meth c cX0_quarantined 3 RX0 (some .int) A) (a : Nat → Nat) (k : Nat) (S : Nat → Nat → Int32) {post : Int32 → va_W → Prop} :
    ∀ (n : Nat) (x1 : Int32) (x2 : Int32) (q : Int32), M_X0_quarantined_4 k S n x1 x2 = some q → post q (wFl E a S) →
      WW E p l e rm_X0_quarantined s m args below meth c A 0 0 (QI E below post args s rm_X0_quarantined A) (wFl E a S) 3 [some (.ref (a 0)), some (.int x1), some (.int x2)] 4 [] := by
  intro n
  induction n with
  | zero => intro x1 x2 q  h _; cases h
  | succ n ih =>
    intro x1 x2 q  h hq
    rw [M_X0_quarantined_4_s] at h
    refine r_iload_n (pc := 4) C (i := 2) dX0_quarantined_4 rfl rfl ?_
    refine r_aload_n (pc := 5) C (i := 0) dX0_quarantined_5 rfl rfl ?_
    refine r_get (pc := 6) C gwX0 0 rfl rfl 2 (by decide) wm_1_98 rfl dX0_quarantined_6 ?_
    refine r_icmp_ge (pc := 9) C (tgt := 29) dX0_quarantined_9 rfl (fun c1 => ?_) (fun c1 => ?_)
    · rw [if_pos c1] at h
      refine r_iload_n (pc := 29) C (i := 1) dX0_quarantined_29 rfl rfl ?_
      cases h
      exact r_ireti (pc := 30) C hq (Nat.zero_le _) (Nat.zero_le _) dX0_quarantined_30
    · rw [if_neg c1] at h
      refine r_aload_n (pc := 12) C (i := 0) dX0_quarantined_12 rfl rfl ?_
      refine r_iload_n (pc := 13) C (i := 2) dX0_quarantined_13 rfl rfl ?_
      obtain ⟨q2, hq2, h⟩ := bnd h
      refine r_callVp_CI (Cn := RX0) (pc := 14) C [.int x2] (c_X0_isQuarantined E l k a S x2 hq2) [0, 1, 2, 3, 4, 5, 6, 7, 8, 9, 10, 11, 12, 13, 14, 15, 16, 17] (hp_X0_isCutOff_0 E a S) (by decide) 0 rfl rfl rfl g_X0_97 hd_X0_isQuarantined ⟨Nat.le_of_ble_eq_true rfl, Nat.le_of_ble_eq_true rfl⟩ ⟨Nat.zero_le _, Nat.zero_le _⟩ (Nat.le_of_ble_eq_true rfl) rfl dX0_quarantined_14 (fun r hr => ?_)
      have hr := hr.symm
      subst hr
      refine r_if_eq (pc := 17) C (tgt := 23) dX0_quarantined_17 rfl (fun c3 => ?_) (fun c3 => ?_)
      · rw [if_pos c3] at h
        refine r_iinc (pc := 23) C (v := (x2 + 1)) dX0_quarantined_23 rfl rfl (by decide) rfl ?_
        refine r_goto (pc := 26) C (tgt := 4) dX0_quarantined_26 rfl ?_
        refine r_weak (lSub_s (lSub_s (lSub_s lSub_e))) ?_
        exact ih x1 (x2 + 1) q  h hq
      · rw [if_neg c3] at h
        refine r_iinc (pc := 20) C (v := (x1 + 1)) dX0_quarantined_20 rfl rfl (by decide) rfl ?_
        refine r_iinc (pc := 23) C (v := (x2 + 1)) dX0_quarantined_23 rfl rfl (by decide) rfl ?_
        refine r_goto (pc := 26) C (tgt := 4) dX0_quarantined_26 rfl ?_
        refine r_weak (lSub_s (lSub_s (lSub_s lSub_e))) ?_
        exact ih (x1 + 1) (x2 + 1) q  h hq
def M_X0_quarantined_0 (k : Nat) (S : Nat → Nat → Int32) : Option (Int32) := M_X0_quarantined_4 k S k (0 : Int32) (0 : Int32)
set_option maxRecDepth 100000 in
set_option maxHeartbeats 4000000 in
theorem N_X0_quarantined_0 (C : CX E p l s m args meth c cX0_quarantined 3 RX0 (some .int) A) (a : Nat → Nat) (k : Nat) (S : Nat → Nat → Int32) {post : Int32 → va_W → Prop} :
    ∀ (q : Int32), M_X0_quarantined_0 k S = some q → post q (wFl E a S) →
      WW E p l e rm_X0_quarantined s m args below meth c A 0 0 (QI E below post args s rm_X0_quarantined A) (wFl E a S) 3 [some (.ref (a 0)), none, none] 0 [] := by
  intro  q  h hq
  unfold M_X0_quarantined_0 at h
  refine r_iconst (pc := 0) C (v := 0) dX0_quarantined_0 (by decide) ?_
  refine r_istore_n (pc := 1) C (i := 1) dX0_quarantined_1 rfl (by decide) rfl ?_
  refine r_iconst (pc := 2) C (v := 0) dX0_quarantined_2 (by decide) ?_
  refine r_istore_n (pc := 3) C (i := 2) dX0_quarantined_3 rfl (by decide) rfl ?_
  refine r_weak (lSub_s (lSub_s (lSub_s lSub_e))) ?_
  exact N_X0_quarantined_4 C a k S k (0 : Int32) (0 : Int32) q  h hq
def M_X0_quarantined (k : Nat) (S : Nat → Nat → Int32) : Option (Int32) := M_X0_quarantined_0 k S
set_option maxRecDepth 100000 in
set_option maxHeartbeats 4000000 in
theorem c_X0_quarantined (E : ENV) (l : Launch) (k : Nat) (a : Nat → Nat) (S : Nat → Nat → Int32) {q : Int32} (hm : M_X0_quarantined k S = some q) : CI E l yX0_quarantined cX0_quarantined 3 (some .int) rm_X0_quarantined [.ref (a 0)] (wFl E a S) (fun r w' => r = q ∧ w' = (wFl E a S)) :=
  CI.of 2 (by decide) (Nat.le_of_ble_eq_true rfl) (fun p e s m below meth c A C _ => r_weak (lSub_s (lSub_n (lSub_n lSub_e))) (N_X0_quarantined_0 C a k S q  hm ⟨rfl, rfl⟩))
-- ShardGuard$Fleet.requestsOf(I)I
set_option maxHeartbeats 8000000 in
theorem hp_X0_addRequest_0 (E : ENV) (a : Nat → Nat) (S : Nat → Nat → Int32) : ([7, 8] : List Nat).map (fun i => (wFl E a S)[i]?) = (wTab E (fun i => a (i + 7)) 60 8 480 (S 4)).map some := rfl
theorem dX0_requestsOf_0 : decode cX0_requestsOf 0 = .ok (.iconst 0, 1) := by decide +kernel
theorem dX0_requestsOf_1 : decode cX0_requestsOf 1 = .ok (.istore_n 2, 1) := by decide +kernel
theorem dX0_requestsOf_2 : decode cX0_requestsOf 2 = .ok (.iconst 0, 1) := by decide +kernel
theorem dX0_requestsOf_3 : decode cX0_requestsOf 3 = .ok (.istore_n 3, 1) := by decide +kernel
theorem dX0_requestsOf_4 : decode cX0_requestsOf 4 = .ok (.iload_n 3, 1) := by decide +kernel
theorem dX0_requestsOf_5 : decode cX0_requestsOf 5 = .ok (.aload_n 0, 1) := by decide +kernel
theorem dX0_requestsOf_6 : decode cX0_requestsOf 6 = .ok (.getfield 75, 3) := by decide +kernel
theorem dX0_requestsOf_9 : decode cX0_requestsOf 9 = .ok (.if_icmp .ge 25, 3) := by decide +kernel
theorem dX0_requestsOf_12 : decode cX0_requestsOf 12 = .ok (.aload_n 0, 1) := by decide +kernel
theorem dX0_requestsOf_13 : decode cX0_requestsOf 13 = .ok (.getfield 32, 3) := by decide +kernel
theorem dX0_requestsOf_16 : decode cX0_requestsOf 16 = .ok (.iload_n 3, 1) := by decide +kernel
theorem dX0_requestsOf_17 : decode cX0_requestsOf 17 = .ok (.iconst 0, 1) := by decide +kernel
theorem dX0_requestsOf_18 : decode cX0_requestsOf 18 = .ok (.invokevirtual 111, 3) := by decide +kernel
theorem dX0_requestsOf_21 : decode cX0_requestsOf 21 = .ok (.iload_n 1, 1) := by decide +kernel
theorem dX0_requestsOf_22 : decode cX0_requestsOf 22 = .ok (.if_icmp .ne 6, 3) := by decide +kernel
theorem dX0_requestsOf_25 : decode cX0_requestsOf 25 = .ok (.iinc 2 1, 3) := by decide +kernel
theorem dX0_requestsOf_28 : decode cX0_requestsOf 28 = .ok (.iinc 3 1, 3) := by decide +kernel
theorem dX0_requestsOf_31 : decode cX0_requestsOf 31 = .ok (.goto (-27), 3) := by decide +kernel
theorem dX0_requestsOf_34 : decode cX0_requestsOf 34 = .ok (.iload_n 2, 1) := by decide +kernel
theorem dX0_requestsOf_35 : decode cX0_requestsOf 35 = .ok (.ireturn, 1) := by decide +kernel
def rm_X0_requestsOf : Room := { frames := 1, cells := 0, slots := 0, locals := 24 }
def M_X0_requestsOf_4 (k : Nat) (S : Nat → Nat → Int32) : Nat → (Int32) → (Int32) → (Int32) → Option (Int32)
  | 0, _, _, _ => none
  | n + 1, x1, x2, x3 => if (S 0 3) ≤ x3 then (some x2) else ((M_X6_at k 60 8 480 (S 4) x3 (0 : Int32)).bind fun q2 => if q2 = x1 then (M_X0_requestsOf_4 k S n x1 (x2 + 1) (x3 + 1)) else (M_X0_requestsOf_4 k S n x1 x2 (x3 + 1)))
theorem M_X0_requestsOf_4_s (k : Nat) (S : Nat → Nat → Int32) (n : Nat) (x1 : Int32) (x2 : Int32) (x3 : Int32) : M_X0_requestsOf_4 k S (n + 1) x1 x2 x3 = (if (S 0 3) ≤ x3 then (some x2) else ((M_X6_at k 60 8 480 (S 4) x3 (0 : Int32)).bind fun q2 => if q2 = x1 then (M_X0_requestsOf_4 k S n x1 (x2 + 1) (x3 + 1)) else (M_X0_requestsOf_4 k S n x1 x2 (x3 + 1)))) := rfl
set_option maxRecDepth 100000 in
set_option maxHeartbeats 4000000 in
theorem N_X0_requestsOf_4 (C : CX E p l s m args meth c cX0_requestsOf 4 RX0 (some .int) A) (a : Nat → Nat) (k : Nat) (S : Nat → Nat → Int32) {post : Int32 → va_W → Prop} :
    ∀ (n : Nat) (x1 : Int32) (x2 : Int32) (x3 : Int32) (q : Int32), M_X0_requestsOf_4 k S n x1 x2 x3 = some q → post q (wFl E a S) →
      WW E p l e rm_X0_requestsOf s m args below meth c A 0 0 (QI E below post args s rm_X0_requestsOf A) (wFl E a S) 4 [some (.ref (a 0)), some (.int x1), some (.int x2), some (.int x3)] 4 [] := by
  intro n
  induction n with
  | zero => intro x1 x2 x3 q  h _; cases h
  | succ n ih =>
    intro x1 x2 x3 q  h hq
    rw [M_X0_requestsOf_4_s] at h
    refine r_iload_n (pc := 4) C (i := 3) dX0_requestsOf_4 rfl rfl ?_
    refine r_aload_n (pc := 5) C (i := 0) dX0_requestsOf_5 rfl rfl ?_
    refine r_get (pc := 6) C gwX0 0 rfl rfl 3 (by decide) wm_1_101 rfl dX0_requestsOf_6 ?_
    refine r_icmp_ge (pc := 9) C (tgt := 34) dX0_requestsOf_9 rfl (fun c1 => ?_) (fun c1 => ?_)
    · rw [if_pos c1] at h
      refine r_iload_n (pc := 34) C (i := 2) dX0_requestsOf_34 rfl rfl ?_
      cases h
      exact r_ireti (pc := 35) C hq (Nat.zero_le _) (Nat.zero_le _) dX0_requestsOf_35
    · rw [if_neg c1] at h
      refine r_aload_n (pc := 12) C (i := 0) dX0_requestsOf_12 rfl rfl ?_
      refine r_get (pc := 13) C gwX0 0 rfl rfl 9 (by decide) wm_1_115 rfl dX0_requestsOf_13 ?_
      refine r_iload_n (pc := 16) C (i := 3) dX0_requestsOf_16 rfl rfl ?_
      refine r_iconst (pc := 17) C (v := 0) dX0_requestsOf_17 (by decide) ?_
      obtain ⟨q2, hq2, h⟩ := bnd h
      refine r_callVp_CI (Cn := RX6) (pc := 18) C [.int x3, .int (0 : Int32)] (c_X6_at E l k (fun i => a (i + 7)) 60 8 480 (S 4) x3 (0 : Int32) hq2) [7, 8] (hp_X0_addRequest_0 E a S) (by decide) 0 rfl rfl rfl g_X0_111 hd_X6_at ⟨Nat.le_of_ble_eq_true rfl, Nat.le_of_ble_eq_true rfl⟩ ⟨Nat.zero_le _, Nat.zero_le _⟩ (Nat.le_of_ble_eq_true rfl) rfl dX0_requestsOf_18 (fun r hr => ?_)
      have hr := hr.symm
      subst hr
      refine r_iload_n (pc := 21) C (i := 1) dX0_requestsOf_21 rfl rfl ?_
      refine r_icmp_ne (pc := 22) C (tgt := 28) dX0_requestsOf_22 rfl (fun c3 => ?_) (fun c3 => ?_)
      · rw [if_neg c3] at h
        refine r_iinc (pc := 28) C (v := (x3 + 1)) dX0_requestsOf_28 rfl rfl (by decide) rfl ?_
        refine r_goto (pc := 31) C (tgt := 4) dX0_requestsOf_31 rfl ?_
        refine r_weak (lSub_s (lSub_s (lSub_s (lSub_s lSub_e)))) ?_
        exact ih x1 x2 (x3 + 1) q  h hq
      · rw [if_pos c3] at h
        refine r_iinc (pc := 25) C (v := (x2 + 1)) dX0_requestsOf_25 rfl rfl (by decide) rfl ?_
        refine r_iinc (pc := 28) C (v := (x3 + 1)) dX0_requestsOf_28 rfl rfl (by decide) rfl ?_
        refine r_goto (pc := 31) C (tgt := 4) dX0_requestsOf_31 rfl ?_
        refine r_weak (lSub_s (lSub_s (lSub_s (lSub_s lSub_e)))) ?_
        exact ih x1 (x2 + 1) (x3 + 1) q  h hq
def M_X0_requestsOf_0 (k : Nat) (S : Nat → Nat → Int32) (p0 : Int32) : Option (Int32) := M_X0_requestsOf_4 k S k p0 (0 : Int32) (0 : Int32)
set_option maxRecDepth 100000 in
set_option maxHeartbeats 4000000 in
theorem N_X0_requestsOf_0 (C : CX E p l s m args meth c cX0_requestsOf 4 RX0 (some .int) A) (a : Nat → Nat) (k : Nat) (S : Nat → Nat → Int32) {post : Int32 → va_W → Prop} :
    ∀ (p0 : Int32) (q : Int32), M_X0_requestsOf_0 k S p0 = some q → post q (wFl E a S) →
      WW E p l e rm_X0_requestsOf s m args below meth c A 0 0 (QI E below post args s rm_X0_requestsOf A) (wFl E a S) 4 [some (.ref (a 0)), some (.int p0), none, none] 0 [] := by
  intro p0 q  h hq
  unfold M_X0_requestsOf_0 at h
  refine r_iconst (pc := 0) C (v := 0) dX0_requestsOf_0 (by decide) ?_
  refine r_istore_n (pc := 1) C (i := 2) dX0_requestsOf_1 rfl (by decide) rfl ?_
  refine r_iconst (pc := 2) C (v := 0) dX0_requestsOf_2 (by decide) ?_
  refine r_istore_n (pc := 3) C (i := 3) dX0_requestsOf_3 rfl (by decide) rfl ?_
  refine r_weak (lSub_s (lSub_s (lSub_s (lSub_s lSub_e)))) ?_
  exact N_X0_requestsOf_4 C a k S k p0 (0 : Int32) (0 : Int32) q  h hq
def M_X0_requestsOf (k : Nat) (S : Nat → Nat → Int32) (p0 : Int32) : Option (Int32) := M_X0_requestsOf_0 k S p0
set_option maxRecDepth 100000 in
set_option maxHeartbeats 4000000 in
theorem c_X0_requestsOf (E : ENV) (l : Launch) (k : Nat) (a : Nat → Nat) (S : Nat → Nat → Int32) (p0 : Int32) {q : Int32} (hm : M_X0_requestsOf k S p0 = some q) : CI E l yX0_requestsOf cX0_requestsOf 4 (some .int) rm_X0_requestsOf [.ref (a 0), .int p0] (wFl E a S) (fun r w' => r = q ∧ w' = (wFl E a S)) :=
  CI.of 2 (by decide) (Nat.le_of_ble_eq_true rfl) (fun p e s m below meth c A C _ => r_weak (lSub_s (lSub_s (lSub_n (lSub_n lSub_e)))) (N_X0_requestsOf_0 C a k S p0 q  hm ⟨rfl, rfl⟩))
-- ShardGuard$Fleet.requestsOf(II)I
theorem dX0_requestsOf__0 : decode cX0_requestsOf_ 0 = .ok (.iconst 0, 1) := by decide +kernel
theorem dX0_requestsOf__1 : decode cX0_requestsOf_ 1 = .ok (.istore_n 3, 1) := by decide +kernel
theorem dX0_requestsOf__2 : decode cX0_requestsOf_ 2 = .ok (.iconst 0, 1) := by decide +kernel
theorem dX0_requestsOf__3 : decode cX0_requestsOf_ 3 = .ok (.istore 4, 2) := by decide +kernel
theorem dX0_requestsOf__5 : decode cX0_requestsOf_ 5 = .ok (.iload 4, 2) := by decide +kernel
theorem dX0_requestsOf__7 : decode cX0_requestsOf_ 7 = .ok (.aload_n 0, 1) := by decide +kernel
theorem dX0_requestsOf__8 : decode cX0_requestsOf_ 8 = .ok (.getfield 75, 3) := by decide +kernel
theorem dX0_requestsOf__11 : decode cX0_requestsOf_ 11 = .ok (.if_icmp .ge 40, 3) := by decide +kernel
theorem dX0_requestsOf__14 : decode cX0_requestsOf_ 14 = .ok (.aload_n 0, 1) := by decide +kernel
theorem dX0_requestsOf__15 : decode cX0_requestsOf_ 15 = .ok (.getfield 32, 3) := by decide +kernel
theorem dX0_requestsOf__18 : decode cX0_requestsOf_ 18 = .ok (.iload 4, 2) := by decide +kernel
theorem dX0_requestsOf__20 : decode cX0_requestsOf_ 20 = .ok (.iconst 0, 1) := by decide +kernel
theorem dX0_requestsOf__21 : decode cX0_requestsOf_ 21 = .ok (.invokevirtual 111, 3) := by decide +kernel
theorem dX0_requestsOf__24 : decode cX0_requestsOf_ 24 = .ok (.iload_n 1, 1) := by decide +kernel
theorem dX0_requestsOf__25 : decode cX0_requestsOf_ 25 = .ok (.if_icmp .ne 20, 3) := by decide +kernel
theorem dX0_requestsOf__28 : decode cX0_requestsOf_ 28 = .ok (.aload_n 0, 1) := by decide +kernel
theorem dX0_requestsOf__29 : decode cX0_requestsOf_ 29 = .ok (.getfield 32, 3) := by decide +kernel
theorem dX0_requestsOf__32 : decode cX0_requestsOf_ 32 = .ok (.iload 4, 2) := by decide +kernel
theorem dX0_requestsOf__34 : decode cX0_requestsOf_ 34 = .ok (.iconst 4, 1) := by decide +kernel
theorem dX0_requestsOf__35 : decode cX0_requestsOf_ 35 = .ok (.invokevirtual 111, 3) := by decide +kernel
theorem dX0_requestsOf__38 : decode cX0_requestsOf_ 38 = .ok (.iload_n 2, 1) := by decide +kernel
theorem dX0_requestsOf__39 : decode cX0_requestsOf_ 39 = .ok (.if_icmp .ne 6, 3) := by decide +kernel
theorem dX0_requestsOf__42 : decode cX0_requestsOf_ 42 = .ok (.iinc 3 1, 3) := by decide +kernel
theorem dX0_requestsOf__45 : decode cX0_requestsOf_ 45 = .ok (.iinc 4 1, 3) := by decide +kernel
theorem dX0_requestsOf__48 : decode cX0_requestsOf_ 48 = .ok (.goto (-43), 3) := by decide +kernel
theorem dX0_requestsOf__51 : decode cX0_requestsOf_ 51 = .ok (.iload_n 3, 1) := by decide +kernel
theorem dX0_requestsOf__52 : decode cX0_requestsOf_ 52 = .ok (.ireturn, 1) := by decide +kernel
def rm_X0_requestsOf_ : Room := { frames := 1, cells := 0, slots := 0, locals := 24 }
def M_X0_requestsOf__5 (k : Nat) (S : Nat → Nat → Int32) : Nat → (Int32) → (Int32) → (Int32) → (Int32) → Option (Int32)
  | 0, _, _, _, _ => none
  | n + 1, x1, x2, x3, x4 => if (S 0 3) ≤ x4 then (some x3) else ((M_X6_at k 60 8 480 (S 4) x4 (0 : Int32)).bind fun q2 => if q2 = x1 then ((M_X6_at k 60 8 480 (S 4) x4 (4 : Int32)).bind fun q4 => if q4 = x2 then (M_X0_requestsOf__5 k S n x1 x2 (x3 + 1) (x4 + 1)) else (M_X0_requestsOf__5 k S n x1 x2 x3 (x4 + 1))) else (M_X0_requestsOf__5 k S n x1 x2 x3 (x4 + 1)))
theorem M_X0_requestsOf__5_s (k : Nat) (S : Nat → Nat → Int32) (n : Nat) (x1 : Int32) (x2 : Int32) (x3 : Int32) (x4 : Int32) : M_X0_requestsOf__5 k S (n + 1) x1 x2 x3 x4 = (if (S 0 3) ≤ x4 then (some x3) else ((M_X6_at k 60 8 480 (S 4) x4 (0 : Int32)).bind fun q2 => if q2 = x1 then ((M_X6_at k 60 8 480 (S 4) x4 (4 : Int32)).bind fun q4 => if q4 = x2 then (M_X0_requestsOf__5 k S n x1 x2 (x3 + 1) (x4 + 1)) else (M_X0_requestsOf__5 k S n x1 x2 x3 (x4 + 1))) else (M_X0_requestsOf__5 k S n x1 x2 x3 (x4 + 1)))) := rfl
set_option maxRecDepth 100000 in
set_option maxHeartbeats 4000000 in
theorem N_X0_requestsOf__5 (C : CX E p l s m args meth c cX0_requestsOf_ 5 RX0 (some .int) A) (a : Nat → Nat) (k : Nat) (S : Nat → Nat → Int32) {post : Int32 → va_W → Prop} :
    ∀ (n : Nat) (x1 : Int32) (x2 : Int32) (x3 : Int32) (x4 : Int32) (q : Int32), M_X0_requestsOf__5 k S n x1 x2 x3 x4 = some q → post q (wFl E a S) →
      WW E p l e rm_X0_requestsOf_ s m args below meth c A 0 0 (QI E below post args s rm_X0_requestsOf_ A) (wFl E a S) 5 [some (.ref (a 0)), some (.int x1), some (.int x2), some (.int x3), some (.int x4)] 5 [] := by
  intro n
  induction n with
  | zero => intro x1 x2 x3 x4 q  h _; cases h
  | succ n ih =>
    intro x1 x2 x3 x4 q  h hq
    rw [M_X0_requestsOf__5_s] at h
    refine r_iload (pc := 5) C (i := 4) dX0_requestsOf__5 rfl ?_
    refine r_aload_n (pc := 7) C (i := 0) dX0_requestsOf__7 rfl rfl ?_
    refine r_get (pc := 8) C gwX0 0 rfl rfl 3 (by decide) wm_1_101 rfl dX0_requestsOf__8 ?_
    refine r_icmp_ge (pc := 11) C (tgt := 51) dX0_requestsOf__11 rfl (fun c1 => ?_) (fun c1 => ?_)
    · rw [if_pos c1] at h
      refine r_iload_n (pc := 51) C (i := 3) dX0_requestsOf__51 rfl rfl ?_
      cases h
      exact r_ireti (pc := 52) C hq (Nat.zero_le _) (Nat.zero_le _) dX0_requestsOf__52
    · rw [if_neg c1] at h
      refine r_aload_n (pc := 14) C (i := 0) dX0_requestsOf__14 rfl rfl ?_
      refine r_get (pc := 15) C gwX0 0 rfl rfl 9 (by decide) wm_1_115 rfl dX0_requestsOf__15 ?_
      refine r_iload (pc := 18) C (i := 4) dX0_requestsOf__18 rfl ?_
      refine r_iconst (pc := 20) C (v := 0) dX0_requestsOf__20 (by decide) ?_
      obtain ⟨q2, hq2, h⟩ := bnd h
      refine r_callVp_CI (Cn := RX6) (pc := 21) C [.int x4, .int (0 : Int32)] (c_X6_at E l k (fun i => a (i + 7)) 60 8 480 (S 4) x4 (0 : Int32) hq2) [7, 8] (hp_X0_addRequest_0 E a S) (by decide) 0 rfl rfl rfl g_X0_111 hd_X6_at ⟨Nat.le_of_ble_eq_true rfl, Nat.le_of_ble_eq_true rfl⟩ ⟨Nat.zero_le _, Nat.zero_le _⟩ (Nat.le_of_ble_eq_true rfl) rfl dX0_requestsOf__21 (fun r hr => ?_)
      have hr := hr.symm
      subst hr
      refine r_iload_n (pc := 24) C (i := 1) dX0_requestsOf__24 rfl rfl ?_
      refine r_icmp_ne (pc := 25) C (tgt := 45) dX0_requestsOf__25 rfl (fun c3 => ?_) (fun c3 => ?_)
      · rw [if_neg c3] at h
        refine r_iinc (pc := 45) C (v := (x4 + 1)) dX0_requestsOf__45 rfl rfl (by decide) rfl ?_
        refine r_goto (pc := 48) C (tgt := 5) dX0_requestsOf__48 rfl ?_
        refine r_weak (lSub_s (lSub_s (lSub_s (lSub_s (lSub_s lSub_e))))) ?_
        exact ih x1 x2 x3 (x4 + 1) q  h hq
      · rw [if_pos c3] at h
        refine r_aload_n (pc := 28) C (i := 0) dX0_requestsOf__28 rfl rfl ?_
        refine r_get (pc := 29) C gwX0 0 rfl rfl 9 (by decide) wm_1_115 rfl dX0_requestsOf__29 ?_
        refine r_iload (pc := 32) C (i := 4) dX0_requestsOf__32 rfl ?_
        refine r_iconst (pc := 34) C (v := 4) dX0_requestsOf__34 (by decide) ?_
        obtain ⟨q4, hq4, h⟩ := bnd h
        refine r_callVp_CI (Cn := RX6) (pc := 35) C [.int x4, .int (4 : Int32)] (c_X6_at E l k (fun i => a (i + 7)) 60 8 480 (S 4) x4 (4 : Int32) hq4) [7, 8] (hp_X0_addRequest_0 E a S) (by decide) 0 rfl rfl rfl g_X0_111 hd_X6_at ⟨Nat.le_of_ble_eq_true rfl, Nat.le_of_ble_eq_true rfl⟩ ⟨Nat.zero_le _, Nat.zero_le _⟩ (Nat.le_of_ble_eq_true rfl) rfl dX0_requestsOf__35 (fun r hr => ?_)
        have hr := hr.symm
        subst hr
        refine r_iload_n (pc := 38) C (i := 2) dX0_requestsOf__38 rfl rfl ?_
        refine r_icmp_ne (pc := 39) C (tgt := 45) dX0_requestsOf__39 rfl (fun c5 => ?_) (fun c5 => ?_)
        · rw [if_neg c5] at h
          refine r_iinc (pc := 45) C (v := (x4 + 1)) dX0_requestsOf__45 rfl rfl (by decide) rfl ?_
          refine r_goto (pc := 48) C (tgt := 5) dX0_requestsOf__48 rfl ?_
          refine r_weak (lSub_s (lSub_s (lSub_s (lSub_s (lSub_s lSub_e))))) ?_
          exact ih x1 x2 x3 (x4 + 1) q  h hq
        · rw [if_pos c5] at h
          refine r_iinc (pc := 42) C (v := (x3 + 1)) dX0_requestsOf__42 rfl rfl (by decide) rfl ?_
          refine r_iinc (pc := 45) C (v := (x4 + 1)) dX0_requestsOf__45 rfl rfl (by decide) rfl ?_
          refine r_goto (pc := 48) C (tgt := 5) dX0_requestsOf__48 rfl ?_
          refine r_weak (lSub_s (lSub_s (lSub_s (lSub_s (lSub_s lSub_e))))) ?_
          exact ih x1 x2 (x3 + 1) (x4 + 1) q  h hq
def M_X0_requestsOf__0 (k : Nat) (S : Nat → Nat → Int32) (p0 : Int32) (p1 : Int32) : Option (Int32) := M_X0_requestsOf__5 k S k p0 p1 (0 : Int32) (0 : Int32)
set_option maxRecDepth 100000 in
set_option maxHeartbeats 4000000 in
theorem N_X0_requestsOf__0 (C : CX E p l s m args meth c cX0_requestsOf_ 5 RX0 (some .int) A) (a : Nat → Nat) (k : Nat) (S : Nat → Nat → Int32) {post : Int32 → va_W → Prop} :
    ∀ (p0 : Int32) (p1 : Int32) (q : Int32), M_X0_requestsOf__0 k S p0 p1 = some q → post q (wFl E a S) →
      WW E p l e rm_X0_requestsOf_ s m args below meth c A 0 0 (QI E below post args s rm_X0_requestsOf_ A) (wFl E a S) 5 [some (.ref (a 0)), some (.int p0), some (.int p1), none, none] 0 [] := by
  intro p0 p1 q  h hq
  unfold M_X0_requestsOf__0 at h
  refine r_iconst (pc := 0) C (v := 0) dX0_requestsOf__0 (by decide) ?_
  refine r_istore_n (pc := 1) C (i := 3) dX0_requestsOf__1 rfl (by decide) rfl ?_
  refine r_iconst (pc := 2) C (v := 0) dX0_requestsOf__2 (by decide) ?_
  refine r_istore (pc := 3) C (i := 4) dX0_requestsOf__3 (by decide) rfl ?_
  refine r_weak (lSub_s (lSub_s (lSub_s (lSub_s (lSub_s lSub_e))))) ?_
  exact N_X0_requestsOf__5 C a k S k p0 p1 (0 : Int32) (0 : Int32) q  h hq
def M_X0_requestsOf_ (k : Nat) (S : Nat → Nat → Int32) (p0 : Int32) (p1 : Int32) : Option (Int32) := M_X0_requestsOf__0 k S p0 p1
set_option maxRecDepth 100000 in
set_option maxHeartbeats 4000000 in
theorem c_X0_requestsOf_ (E : ENV) (l : Launch) (k : Nat) (a : Nat → Nat) (S : Nat → Nat → Int32) (p0 : Int32) (p1 : Int32) {q : Int32} (hm : M_X0_requestsOf_ k S p0 p1 = some q) : CI E l yX0_requestsOf_ cX0_requestsOf_ 5 (some .int) rm_X0_requestsOf_ [.ref (a 0), .int p0, .int p1] (wFl E a S) (fun r w' => r = q ∧ w' = (wFl E a S)) :=
  CI.of 2 (by decide) (Nat.le_of_ble_eq_true rfl) (fun p e s m below meth c A C _ => r_weak (lSub_s (lSub_s (lSub_s (lSub_n (lSub_n lSub_e))))) (N_X0_requestsOf__0 C a k S p0 p1 q  hm ⟨rfl, rfl⟩))
-- ShardGuard$Fleet.done()I
theorem dX0_done_0 : decode cX0_done 0 = .ok (.iconst 0, 1) := by decide +kernel
theorem dX0_done_1 : decode cX0_done 1 = .ok (.istore_n 1, 1) := by decide +kernel
theorem dX0_done_2 : decode cX0_done 2 = .ok (.iconst 0, 1) := by decide +kernel
theorem dX0_done_3 : decode cX0_done 3 = .ok (.istore_n 2, 1) := by decide +kernel
theorem dX0_done_4 : decode cX0_done 4 = .ok (.iload_n 2, 1) := by decide +kernel
theorem dX0_done_5 : decode cX0_done 5 = .ok (.aload_n 0, 1) := by decide +kernel
theorem dX0_done_6 : decode cX0_done 6 = .ok (.getfield 75, 3) := by decide +kernel
theorem dX0_done_9 : decode cX0_done 9 = .ok (.if_icmp .ge 25, 3) := by decide +kernel
theorem dX0_done_12 : decode cX0_done 12 = .ok (.aload_n 0, 1) := by decide +kernel
theorem dX0_done_13 : decode cX0_done 13 = .ok (.getfield 32, 3) := by decide +kernel
theorem dX0_done_16 : decode cX0_done 16 = .ok (.iload_n 2, 1) := by decide +kernel
theorem dX0_done_17 : decode cX0_done 17 = .ok (.iconst 4, 1) := by decide +kernel
theorem dX0_done_18 : decode cX0_done 18 = .ok (.invokevirtual 111, 3) := by decide +kernel
theorem dX0_done_21 : decode cX0_done 21 = .ok (.iconst 2, 1) := by decide +kernel
theorem dX0_done_22 : decode cX0_done 22 = .ok (.if_icmp .ne 6, 3) := by decide +kernel
theorem dX0_done_25 : decode cX0_done 25 = .ok (.iinc 1 1, 3) := by decide +kernel
theorem dX0_done_28 : decode cX0_done 28 = .ok (.iinc 2 1, 3) := by decide +kernel
theorem dX0_done_31 : decode cX0_done 31 = .ok (.goto (-27), 3) := by decide +kernel
theorem dX0_done_34 : decode cX0_done 34 = .ok (.iload_n 1, 1) := by decide +kernel
theorem dX0_done_35 : decode cX0_done 35 = .ok (.ireturn, 1) := by decide +kernel
def rm_X0_done : Room := { frames := 1, cells := 0, slots := 0, locals := 24 }
def M_X0_done_4 (k : Nat) (S : Nat → Nat → Int32) : Nat → (Int32) → (Int32) → Option (Int32)
  | 0, _, _ => none
  | n + 1, x1, x2 => if (S 0 3) ≤ x2 then (some x1) else ((M_X6_at k 60 8 480 (S 4) x2 (4 : Int32)).bind fun q2 => if q2 = (2 : Int32) then (M_X0_done_4 k S n (x1 + 1) (x2 + 1)) else (M_X0_done_4 k S n x1 (x2 + 1)))
theorem M_X0_done_4_s (k : Nat) (S : Nat → Nat → Int32) (n : Nat) (x1 : Int32) (x2 : Int32) : M_X0_done_4 k S (n + 1) x1 x2 = (if (S 0 3) ≤ x2 then (some x1) else ((M_X6_at k 60 8 480 (S 4) x2 (4 : Int32)).bind fun q2 => if q2 = (2 : Int32) then (M_X0_done_4 k S n (x1 + 1) (x2 + 1)) else (M_X0_done_4 k S n x1 (x2 + 1)))) := rfl
set_option maxRecDepth 100000 in
set_option maxHeartbeats 4000000 in
theorem N_X0_done_4 (C : CX E p l s m args meth c cX0_done 3 RX0 (some .int) A) (a : Nat → Nat) (k : Nat) (S : Nat → Nat → Int32) {post : Int32 → va_W → Prop} :
    ∀ (n : Nat) (x1 : Int32) (x2 : Int32) (q : Int32), M_X0_done_4 k S n x1 x2 = some q → post q (wFl E a S) →
      WW E p l e rm_X0_done s m args below meth c A 0 0 (QI E below post args s rm_X0_done A) (wFl E a S) 3 [some (.ref (a 0)), some (.int x1), some (.int x2)] 4 [] := by
  intro n
  induction n with
  | zero => intro x1 x2 q  h _; cases h
  | succ n ih =>
    intro x1 x2 q  h hq
    rw [M_X0_done_4_s] at h
    refine r_iload_n (pc := 4) C (i := 2) dX0_done_4 rfl rfl ?_
    refine r_aload_n (pc := 5) C (i := 0) dX0_done_5 rfl rfl ?_
    refine r_get (pc := 6) C gwX0 0 rfl rfl 3 (by decide) wm_1_101 rfl dX0_done_6 ?_
    refine r_icmp_ge (pc := 9) C (tgt := 34) dX0_done_9 rfl (fun c1 => ?_) (fun c1 => ?_)
    · rw [if_pos c1] at h
      refine r_iload_n (pc := 34) C (i := 1) dX0_done_34 rfl rfl ?_
      cases h
      exact r_ireti (pc := 35) C hq (Nat.zero_le _) (Nat.zero_le _) dX0_done_35
    · rw [if_neg c1] at h
      refine r_aload_n (pc := 12) C (i := 0) dX0_done_12 rfl rfl ?_
      refine r_get (pc := 13) C gwX0 0 rfl rfl 9 (by decide) wm_1_115 rfl dX0_done_13 ?_
      refine r_iload_n (pc := 16) C (i := 2) dX0_done_16 rfl rfl ?_
      refine r_iconst (pc := 17) C (v := 4) dX0_done_17 (by decide) ?_
      obtain ⟨q2, hq2, h⟩ := bnd h
      refine r_callVp_CI (Cn := RX6) (pc := 18) C [.int x2, .int (4 : Int32)] (c_X6_at E l k (fun i => a (i + 7)) 60 8 480 (S 4) x2 (4 : Int32) hq2) [7, 8] (hp_X0_addRequest_0 E a S) (by decide) 0 rfl rfl rfl g_X0_111 hd_X6_at ⟨Nat.le_of_ble_eq_true rfl, Nat.le_of_ble_eq_true rfl⟩ ⟨Nat.zero_le _, Nat.zero_le _⟩ (Nat.le_of_ble_eq_true rfl) rfl dX0_done_18 (fun r hr => ?_)
      have hr := hr.symm
      subst hr
      refine r_iconst (pc := 21) C (v := 2) dX0_done_21 (by decide) ?_
      refine r_icmp_ne (pc := 22) C (tgt := 28) dX0_done_22 rfl (fun c3 => ?_) (fun c3 => ?_)
      · rw [if_neg c3] at h
        refine r_iinc (pc := 28) C (v := (x2 + 1)) dX0_done_28 rfl rfl (by decide) rfl ?_
        refine r_goto (pc := 31) C (tgt := 4) dX0_done_31 rfl ?_
        refine r_weak (lSub_s (lSub_s (lSub_s lSub_e))) ?_
        exact ih x1 (x2 + 1) q  h hq
      · rw [if_pos c3] at h
        refine r_iinc (pc := 25) C (v := (x1 + 1)) dX0_done_25 rfl rfl (by decide) rfl ?_
        refine r_iinc (pc := 28) C (v := (x2 + 1)) dX0_done_28 rfl rfl (by decide) rfl ?_
        refine r_goto (pc := 31) C (tgt := 4) dX0_done_31 rfl ?_
        refine r_weak (lSub_s (lSub_s (lSub_s lSub_e))) ?_
        exact ih (x1 + 1) (x2 + 1) q  h hq
def M_X0_done_0 (k : Nat) (S : Nat → Nat → Int32) : Option (Int32) := M_X0_done_4 k S k (0 : Int32) (0 : Int32)
set_option maxRecDepth 100000 in
set_option maxHeartbeats 4000000 in
theorem N_X0_done_0 (C : CX E p l s m args meth c cX0_done 3 RX0 (some .int) A) (a : Nat → Nat) (k : Nat) (S : Nat → Nat → Int32) {post : Int32 → va_W → Prop} :
    ∀ (q : Int32), M_X0_done_0 k S = some q → post q (wFl E a S) →
      WW E p l e rm_X0_done s m args below meth c A 0 0 (QI E below post args s rm_X0_done A) (wFl E a S) 3 [some (.ref (a 0)), none, none] 0 [] := by
  intro  q  h hq
  unfold M_X0_done_0 at h
  refine r_iconst (pc := 0) C (v := 0) dX0_done_0 (by decide) ?_
  refine r_istore_n (pc := 1) C (i := 1) dX0_done_1 rfl (by decide) rfl ?_
  refine r_iconst (pc := 2) C (v := 0) dX0_done_2 (by decide) ?_
  refine r_istore_n (pc := 3) C (i := 2) dX0_done_3 rfl (by decide) rfl ?_
  refine r_weak (lSub_s (lSub_s (lSub_s lSub_e))) ?_
  exact N_X0_done_4 C a k S k (0 : Int32) (0 : Int32) q  h hq
def M_X0_done (k : Nat) (S : Nat → Nat → Int32) : Option (Int32) := M_X0_done_0 k S
set_option maxRecDepth 100000 in
set_option maxHeartbeats 4000000 in
theorem c_X0_done (E : ENV) (l : Launch) (k : Nat) (a : Nat → Nat) (S : Nat → Nat → Int32) {q : Int32} (hm : M_X0_done k S = some q) : CI E l yX0_done cX0_done 3 (some .int) rm_X0_done [.ref (a 0)] (wFl E a S) (fun r w' => r = q ∧ w' = (wFl E a S)) :=
  CI.of 2 (by decide) (Nat.le_of_ble_eq_true rfl) (fun p e s m below meth c A C _ => r_weak (lSub_s (lSub_n (lSub_n lSub_e))) (N_X0_done_0 C a k S q  hm ⟨rfl, rfl⟩))
theorem g_X0_122 : GoodIn GW (wsV RX0 122 RX5 yX5_at (wsG yX5_at cX5_at 2 (some .int))) := gw_V wm_3_179 wm_2_150 wm_2_151 wm_1_3 wm_2_152
theorem hd_X3_behind : yX3_behind.cls = RX3 ∧ yX3_behind.cls ≠ "java/lang/invoke/MethodHandle" ∧ yX3_behind.cls ≠ "java/lang/invoke/VarHandle" ∧ (parseMethodDescriptor yX3_behind.desc).map (fun d => d.parameters.length) = some 2 := by decide +kernel
theorem g_X0_129 : GoodIn GW (wsV RX0 129 RX3 yX3_behind (wsG yX3_behind cX3_behind 5 (some .int))) := gw_V wm_4_54 wm_4_55 wm_4_56 wm_1_5 wm_4_57
-- ShardGuard$Fleet.countedKills(I)I
set_option maxHeartbeats 8000000 in
theorem hp_X0_countedKills_0 (E : ENV) (a : Nat → Nat) (S : Nat → Nat → Int32) : ([1, 2] : List Nat).map (fun i => (wFl E a S)[i]?) = (wRow E (fun i => a (i + 1)) 5 (S 1)).map some := rfl
theorem dX0_countedKills_0 : decode cX0_countedKills 0 = .ok (.aload_n 0, 1) := by decide +kernel
theorem dX0_countedKills_1 : decode cX0_countedKills 1 = .ok (.getfield 55, 3) := by decide +kernel
theorem dX0_countedKills_4 : decode cX0_countedKills 4 = .ok (.aload_n 0, 1) := by decide +kernel
theorem dX0_countedKills_5 : decode cX0_countedKills 5 = .ok (.getfield 14, 3) := by decide +kernel
theorem dX0_countedKills_8 : decode cX0_countedKills 8 = .ok (.iconst 3, 1) := by decide +kernel
theorem dX0_countedKills_9 : decode cX0_countedKills 9 = .ok (.invokevirtual 122, 3) := by decide +kernel
theorem dX0_countedKills_12 : decode cX0_countedKills 12 = .ok (.isub, 1) := by decide +kernel
theorem dX0_countedKills_13 : decode cX0_countedKills 13 = .ok (.istore_n 2, 1) := by decide +kernel
theorem dX0_countedKills_14 : decode cX0_countedKills 14 = .ok (.aload_n 0, 1) := by decide +kernel
theorem dX0_countedKills_15 : decode cX0_countedKills 15 = .ok (.getfield 38, 3) := by decide +kernel
theorem dX0_countedKills_18 : decode cX0_countedKills 18 = .ok (.iload_n 2, 1) := by decide +kernel
theorem dX0_countedKills_19 : decode cX0_countedKills 19 = .ok (.aload_n 0, 1) := by decide +kernel
theorem dX0_countedKills_20 : decode cX0_countedKills 20 = .ok (.getfield 28, 3) := by decide +kernel
theorem dX0_countedKills_23 : decode cX0_countedKills 23 = .ok (.iload_n 1, 1) := by decide +kernel
theorem dX0_countedKills_24 : decode cX0_countedKills 24 = .ok (.iconst 2, 1) := by decide +kernel
theorem dX0_countedKills_25 : decode cX0_countedKills 25 = .ok (.invokevirtual 111, 3) := by decide +kernel
theorem dX0_countedKills_28 : decode cX0_countedKills 28 = .ok (.invokestatic 124, 3) := by decide +kernel
theorem dX0_countedKills_31 : decode cX0_countedKills 31 = .ok (.iload_n 1, 1) := by decide +kernel
theorem dX0_countedKills_32 : decode cX0_countedKills 32 = .ok (.invokevirtual 129, 3) := by decide +kernel
theorem dX0_countedKills_35 : decode cX0_countedKills 35 = .ok (.ireturn, 1) := by decide +kernel
def rm_X0_countedKills : Room := { frames := 2, cells := 0, slots := 0, locals := 45 }
def M_X0_countedKills_0 (k : Nat) (S : Nat → Nat → Int32) (p0 : Int32) : Option (Int32) := (M_X5_at k 5 (S 1) (3 : Int32)).bind fun q1 => lt ((S 0 4) - q1) fun v2 => (M_X6_at k 12 3 36 (S 3) p0 (2 : Int32)).bind fun q3 => (M_X3_behind k (klF S) (if v2 < q3 then q3 else v2) p0).bind fun q4 => some q4
set_option maxRecDepth 100000 in
set_option maxHeartbeats 4000000 in
theorem N_X0_countedKills_0 (C : CX E p l s m args meth c cX0_countedKills 3 RX0 (some .int) A) (a : Nat → Nat) (k : Nat) (S : Nat → Nat → Int32) {post : Int32 → va_W → Prop} :
    ∀ (p0 : Int32) (q : Int32), M_X0_countedKills_0 k S p0 = some q → post q (wFl E a S) →
      WW E p l e rm_X0_countedKills s m args below meth c A 0 0 (QI E below post args s rm_X0_countedKills A) (wFl E a S) 3 [some (.ref (a 0)), some (.int p0), none] 0 [] := by
  intro p0 q  h hq
  unfold M_X0_countedKills_0 at h
  refine r_aload_n (pc := 0) C (i := 0) dX0_countedKills_0 rfl rfl ?_
  refine r_get (pc := 1) C gwX0 0 rfl rfl 4 (by decide) wm_1_104 rfl dX0_countedKills_1 ?_
  refine r_aload_n (pc := 4) C (i := 0) dX0_countedKills_4 rfl rfl ?_
  refine r_get (pc := 5) C gwX0 0 rfl rfl 6 (by decide) wm_1_108 rfl dX0_countedKills_5 ?_
  refine r_iconst (pc := 8) C (v := 3) dX0_countedKills_8 (by decide) ?_
  obtain ⟨q1, hq1, h⟩ := bnd h
  refine r_callVp_CI (Cn := RX5) (pc := 9) C [.int (3 : Int32)] (c_X5_at E l k (fun i => a (i + 1)) 5 (S 1) (3 : Int32) hq1) [1, 2] (hp_X0_countedKills_0 E a S) (by decide) 0 rfl rfl rfl g_X0_122 hd_X5_at ⟨Nat.le_of_ble_eq_true rfl, Nat.le_of_ble_eq_true rfl⟩ ⟨Nat.zero_le _, Nat.zero_le _⟩ (Nat.le_of_ble_eq_true rfl) rfl dX0_countedKills_9 (fun r hr => ?_)
  have hr := hr.symm
  subst hr
  refine r_isub (pc := 12) C dX0_countedKills_12 ?_
  obtain ⟨v2, hv2, h⟩ := lt_e h
  refine r_topi hv2 ?_
  refine r_istore_n (pc := 13) C (i := 2) dX0_countedKills_13 rfl (by decide) rfl ?_
  refine r_aload_n (pc := 14) C (i := 0) dX0_countedKills_14 rfl rfl ?_
  refine r_get (pc := 15) C gwX0 0 rfl rfl 10 (by decide) wm_1_119 rfl dX0_countedKills_15 ?_
  refine r_iload_n (pc := 18) C (i := 2) dX0_countedKills_18 rfl rfl ?_
  refine r_aload_n (pc := 19) C (i := 0) dX0_countedKills_19 rfl rfl ?_
  refine r_get (pc := 20) C gwX0 0 rfl rfl 8 (by decide) wm_1_113 rfl dX0_countedKills_20 ?_
  refine r_iload_n (pc := 23) C (i := 1) dX0_countedKills_23 rfl rfl ?_
  refine r_iconst (pc := 24) C (v := 2) dX0_countedKills_24 (by decide) ?_
  obtain ⟨q3, hq3, h⟩ := bnd h
  refine r_callVp_CI (Cn := RX6) (pc := 25) C [.int p0, .int (2 : Int32)] (c_X6_at E l k (fun i => a (i + 5)) 12 3 36 (S 3) p0 (2 : Int32) hq3) [5, 6] (hp_X0_forgetRequests_0 E a S) (by decide) 0 rfl rfl rfl g_X0_111 hd_X6_at ⟨Nat.le_of_ble_eq_true rfl, Nat.le_of_ble_eq_true rfl⟩ ⟨Nat.zero_le _, Nat.zero_le _⟩ (Nat.le_of_ble_eq_true rfl) rfl dX0_countedKills_25 (fun r hr => ?_)
  have hr := hr.symm
  subst hr
  refine r_mmax (pc := 28) C wm_2_85 wm_2_86 wm_1_14 wm_2_87 ⟨Nat.le_of_ble_eq_true rfl, Nat.le_of_ble_eq_true rfl, Nat.zero_le _, Nat.zero_le _⟩ (Nat.le_of_ble_eq_true rfl) dX0_countedKills_28 ?_
  refine r_iload_n (pc := 31) C (i := 1) dX0_countedKills_31 rfl rfl ?_
  obtain ⟨q4, hq4, h⟩ := bnd h
  refine r_callVp_CI (Cn := RX3) (pc := 32) C [.int (if v2 < q3 then q3 else v2), .int p0] (c_X3_behind E l k (fun i => a (i + 9)) (klF S) (if v2 < q3 then q3 else v2) p0 hq4) [9, 10, 11, 12, 13, 14, 15] (hp_X0_forgetRequests_1 E a S) (by decide) 0 rfl rfl rfl g_X0_129 hd_X3_behind ⟨Nat.le_of_ble_eq_true rfl, Nat.le_of_ble_eq_true rfl⟩ ⟨Nat.zero_le _, Nat.zero_le _⟩ (Nat.le_of_ble_eq_true rfl) rfl dX0_countedKills_32 (fun r hr => ?_)
  have hr := hr.symm
  subst hr
  cases h
  exact r_ireti (pc := 35) C hq (Nat.zero_le _) (Nat.zero_le _) dX0_countedKills_35
def M_X0_countedKills (k : Nat) (S : Nat → Nat → Int32) (p0 : Int32) : Option (Int32) := M_X0_countedKills_0 k S p0
set_option maxRecDepth 100000 in
set_option maxHeartbeats 4000000 in
theorem c_X0_countedKills (E : ENV) (l : Launch) (k : Nat) (a : Nat → Nat) (S : Nat → Nat → Int32) (p0 : Int32) {q : Int32} (hm : M_X0_countedKills k S p0 = some q) : CI E l yX0_countedKills cX0_countedKills 3 (some .int) rm_X0_countedKills [.ref (a 0), .int p0] (wFl E a S) (fun r w' => r = q ∧ w' = (wFl E a S)) :=
  CI.of 1 (by decide) (Nat.le_of_ble_eq_true rfl) (fun p e s m below meth c A C _ => r_weak (lSub_s (lSub_s (lSub_n lSub_e))) (N_X0_countedKills_0 C a k S p0 q  hm ⟨rfl, rfl⟩))
-- ShardGuard$Fleet.queueLength(I)I
set_option maxHeartbeats 8000000 in
theorem hp_X0_queueLength_0 (E : ENV) (a : Nat → Nat) (S : Nat → Nat → Int32) : ([16, 17] : List Nat).map (fun i => (wFl E a S)[i]?) = (wRow E (fun i => a (i + 16)) 60 (S 5)).map some := rfl
theorem dX0_queueLength_0 : decode cX0_queueLength 0 = .ok (.iconst 0, 1) := by decide +kernel
theorem dX0_queueLength_1 : decode cX0_queueLength 1 = .ok (.istore_n 2, 1) := by decide +kernel
theorem dX0_queueLength_2 : decode cX0_queueLength 2 = .ok (.iconst 0, 1) := by decide +kernel
theorem dX0_queueLength_3 : decode cX0_queueLength 3 = .ok (.istore_n 3, 1) := by decide +kernel
theorem dX0_queueLength_4 : decode cX0_queueLength 4 = .ok (.iload_n 3, 1) := by decide +kernel
theorem dX0_queueLength_5 : decode cX0_queueLength 5 = .ok (.aload_n 0, 1) := by decide +kernel
theorem dX0_queueLength_6 : decode cX0_queueLength 6 = .ok (.getfield 78, 3) := by decide +kernel
theorem dX0_queueLength_9 : decode cX0_queueLength 9 = .ok (.if_icmp .ge 33, 3) := by decide +kernel
theorem dX0_queueLength_12 : decode cX0_queueLength 12 = .ok (.aload_n 0, 1) := by decide +kernel
theorem dX0_queueLength_13 : decode cX0_queueLength 13 = .ok (.getfield 32, 3) := by decide +kernel
theorem dX0_queueLength_16 : decode cX0_queueLength 16 = .ok (.aload_n 0, 1) := by decide +kernel
theorem dX0_queueLength_17 : decode cX0_queueLength 17 = .ok (.getfield 42, 3) := by decide +kernel
theorem dX0_queueLength_20 : decode cX0_queueLength 20 = .ok (.iload_n 3, 1) := by decide +kernel
theorem dX0_queueLength_21 : decode cX0_queueLength 21 = .ok (.invokevirtual 122, 3) := by decide +kernel
theorem dX0_queueLength_24 : decode cX0_queueLength 24 = .ok (.bipush 6, 2) := by decide +kernel
theorem dX0_queueLength_26 : decode cX0_queueLength 26 = .ok (.invokevirtual 111, 3) := by decide +kernel
theorem dX0_queueLength_29 : decode cX0_queueLength 29 = .ok (.iload_n 1, 1) := by decide +kernel
theorem dX0_queueLength_30 : decode cX0_queueLength 30 = .ok (.if_icmp .ne 6, 3) := by decide +kernel
theorem dX0_queueLength_33 : decode cX0_queueLength 33 = .ok (.iinc 2 1, 3) := by decide +kernel
theorem dX0_queueLength_36 : decode cX0_queueLength 36 = .ok (.iinc 3 1, 3) := by decide +kernel
theorem dX0_queueLength_39 : decode cX0_queueLength 39 = .ok (.goto (-35), 3) := by decide +kernel
theorem dX0_queueLength_42 : decode cX0_queueLength 42 = .ok (.iload_n 2, 1) := by decide +kernel
theorem dX0_queueLength_43 : decode cX0_queueLength 43 = .ok (.ireturn, 1) := by decide +kernel
def rm_X0_queueLength : Room := { frames := 1, cells := 0, slots := 0, locals := 24 }
def M_X0_queueLength_4 (k : Nat) (S : Nat → Nat → Int32) : Nat → (Int32) → (Int32) → (Int32) → Option (Int32)
  | 0, _, _, _ => none
  | n + 1, x1, x2, x3 => if (S 0 6) ≤ x3 then (some x2) else ((M_X5_at k 60 (S 5) x3).bind fun q2 => (M_X6_at k 60 8 480 (S 4) q2 (6 : Int32)).bind fun q3 => if q3 = x1 then (M_X0_queueLength_4 k S n x1 (x2 + 1) (x3 + 1)) else (M_X0_queueLength_4 k S n x1 x2 (x3 + 1)))
theorem M_X0_queueLength_4_s (k : Nat) (S : Nat → Nat → Int32) (n : Nat) (x1 : Int32) (x2 : Int32) (x3 : Int32) : M_X0_queueLength_4 k S (n + 1) x1 x2 x3 = (if (S 0 6) ≤ x3 then (some x2) else ((M_X5_at k 60 (S 5) x3).bind fun q2 => (M_X6_at k 60 8 480 (S 4) q2 (6 : Int32)).bind fun q3 => if q3 = x1 then (M_X0_queueLength_4 k S n x1 (x2 + 1) (x3 + 1)) else (M_X0_queueLength_4 k S n x1 x2 (x3 + 1)))) := rfl
set_option maxRecDepth 100000 in
set_option maxHeartbeats 4000000 in
theorem N_X0_queueLength_4 (C : CX E p l s m args meth c cX0_queueLength 4 RX0 (some .int) A) (a : Nat → Nat) (k : Nat) (S : Nat → Nat → Int32) {post : Int32 → va_W → Prop} :
    ∀ (n : Nat) (x1 : Int32) (x2 : Int32) (x3 : Int32) (q : Int32), M_X0_queueLength_4 k S n x1 x2 x3 = some q → post q (wFl E a S) →
      WW E p l e rm_X0_queueLength s m args below meth c A 0 0 (QI E below post args s rm_X0_queueLength A) (wFl E a S) 4 [some (.ref (a 0)), some (.int x1), some (.int x2), some (.int x3)] 4 [] := by
  intro n
  induction n with
  | zero => intro x1 x2 x3 q  h _; cases h
  | succ n ih =>
    intro x1 x2 x3 q  h hq
    rw [M_X0_queueLength_4_s] at h
    refine r_iload_n (pc := 4) C (i := 3) dX0_queueLength_4 rfl rfl ?_
    refine r_aload_n (pc := 5) C (i := 0) dX0_queueLength_5 rfl rfl ?_
    refine r_get (pc := 6) C gwX0 0 rfl rfl 12 (by decide) wm_1_122 rfl dX0_queueLength_6 ?_
    refine r_icmp_ge (pc := 9) C (tgt := 42) dX0_queueLength_9 rfl (fun c1 => ?_) (fun c1 => ?_)
    · rw [if_pos c1] at h
      refine r_iload_n (pc := 42) C (i := 2) dX0_queueLength_42 rfl rfl ?_
      cases h
      exact r_ireti (pc := 43) C hq (Nat.zero_le _) (Nat.zero_le _) dX0_queueLength_43
    · rw [if_neg c1] at h
      refine r_aload_n (pc := 12) C (i := 0) dX0_queueLength_12 rfl rfl ?_
      refine r_get (pc := 13) C gwX0 0 rfl rfl 9 (by decide) wm_1_115 rfl dX0_queueLength_13 ?_
      refine r_aload_n (pc := 16) C (i := 0) dX0_queueLength_16 rfl rfl ?_
      refine r_get (pc := 17) C gwX0 0 rfl rfl 11 (by decide) wm_1_121 rfl dX0_queueLength_17 ?_
      refine r_iload_n (pc := 20) C (i := 3) dX0_queueLength_20 rfl rfl ?_
      obtain ⟨q2, hq2, h⟩ := bnd h
      refine r_callVp_CI (Cn := RX5) (pc := 21) C [.int x3] (c_X5_at E l k (fun i => a (i + 16)) 60 (S 5) x3 hq2) [16, 17] (hp_X0_queueLength_0 E a S) (by decide) 0 rfl rfl rfl g_X0_122 hd_X5_at ⟨Nat.le_of_ble_eq_true rfl, Nat.le_of_ble_eq_true rfl⟩ ⟨Nat.zero_le _, Nat.zero_le _⟩ (Nat.le_of_ble_eq_true rfl) rfl dX0_queueLength_21 (fun r hr => ?_)
      have hr := hr.symm
      subst hr
      refine r_bipush (pc := 24) C (v := 6) dX0_queueLength_24 (by decide) ?_
      obtain ⟨q3, hq3, h⟩ := bnd h
      refine r_callVp_CI (Cn := RX6) (pc := 26) C [.int q2, .int (6 : Int32)] (c_X6_at E l k (fun i => a (i + 7)) 60 8 480 (S 4) q2 (6 : Int32) hq3) [7, 8] (hp_X0_addRequest_0 E a S) (by decide) 0 rfl rfl rfl g_X0_111 hd_X6_at ⟨Nat.le_of_ble_eq_true rfl, Nat.le_of_ble_eq_true rfl⟩ ⟨Nat.zero_le _, Nat.zero_le _⟩ (Nat.le_of_ble_eq_true rfl) rfl dX0_queueLength_26 (fun r hr => ?_)
      have hr := hr.symm
      subst hr
      refine r_iload_n (pc := 29) C (i := 1) dX0_queueLength_29 rfl rfl ?_
      refine r_icmp_ne (pc := 30) C (tgt := 36) dX0_queueLength_30 rfl (fun c4 => ?_) (fun c4 => ?_)
      · rw [if_neg c4] at h
        refine r_iinc (pc := 36) C (v := (x3 + 1)) dX0_queueLength_36 rfl rfl (by decide) rfl ?_
        refine r_goto (pc := 39) C (tgt := 4) dX0_queueLength_39 rfl ?_
        refine r_weak (lSub_s (lSub_s (lSub_s (lSub_s lSub_e)))) ?_
        exact ih x1 x2 (x3 + 1) q  h hq
      · rw [if_pos c4] at h
        refine r_iinc (pc := 33) C (v := (x2 + 1)) dX0_queueLength_33 rfl rfl (by decide) rfl ?_
        refine r_iinc (pc := 36) C (v := (x3 + 1)) dX0_queueLength_36 rfl rfl (by decide) rfl ?_
        refine r_goto (pc := 39) C (tgt := 4) dX0_queueLength_39 rfl ?_
        refine r_weak (lSub_s (lSub_s (lSub_s (lSub_s lSub_e)))) ?_
        exact ih x1 (x2 + 1) (x3 + 1) q  h hq
def M_X0_queueLength_0 (k : Nat) (S : Nat → Nat → Int32) (p0 : Int32) : Option (Int32) := M_X0_queueLength_4 k S k p0 (0 : Int32) (0 : Int32)
set_option maxRecDepth 100000 in
set_option maxHeartbeats 4000000 in
theorem N_X0_queueLength_0 (C : CX E p l s m args meth c cX0_queueLength 4 RX0 (some .int) A) (a : Nat → Nat) (k : Nat) (S : Nat → Nat → Int32) {post : Int32 → va_W → Prop} :
    ∀ (p0 : Int32) (q : Int32), M_X0_queueLength_0 k S p0 = some q → post q (wFl E a S) →
      WW E p l e rm_X0_queueLength s m args below meth c A 0 0 (QI E below post args s rm_X0_queueLength A) (wFl E a S) 4 [some (.ref (a 0)), some (.int p0), none, none] 0 [] := by
  intro p0 q  h hq
  unfold M_X0_queueLength_0 at h
  refine r_iconst (pc := 0) C (v := 0) dX0_queueLength_0 (by decide) ?_
  refine r_istore_n (pc := 1) C (i := 2) dX0_queueLength_1 rfl (by decide) rfl ?_
  refine r_iconst (pc := 2) C (v := 0) dX0_queueLength_2 (by decide) ?_
  refine r_istore_n (pc := 3) C (i := 3) dX0_queueLength_3 rfl (by decide) rfl ?_
  refine r_weak (lSub_s (lSub_s (lSub_s (lSub_s lSub_e)))) ?_
  exact N_X0_queueLength_4 C a k S k p0 (0 : Int32) (0 : Int32) q  h hq
def M_X0_queueLength (k : Nat) (S : Nat → Nat → Int32) (p0 : Int32) : Option (Int32) := M_X0_queueLength_0 k S p0
set_option maxRecDepth 100000 in
set_option maxHeartbeats 4000000 in
theorem c_X0_queueLength (E : ENV) (l : Launch) (k : Nat) (a : Nat → Nat) (S : Nat → Nat → Int32) (p0 : Int32) {q : Int32} (hm : M_X0_queueLength k S p0 = some q) : CI E l yX0_queueLength cX0_queueLength 4 (some .int) rm_X0_queueLength [.ref (a 0), .int p0] (wFl E a S) (fun r w' => r = q ∧ w' = (wFl E a S)) :=
  CI.of 2 (by decide) (Nat.le_of_ble_eq_true rfl) (fun p e s m below meth c A C _ => r_weak (lSub_s (lSub_s (lSub_n (lSub_n lSub_e)))) (N_X0_queueLength_0 C a k S p0 q  hm ⟨rfl, rfl⟩))
end WALKS
