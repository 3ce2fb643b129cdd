section WALKS
variable {E : ENV} {p : Program} {l : Launch} {e : Env} {s : State} {m : MethodId} {args : Array Value} {below : List Frame} {meth : Method} {c : Code} {A : Nat → Prop}
-- ShardGuard$Fleet.placeInLine(I)I
theorem dX0_placeInLine_0 : decode cX0_placeInLine 0 = .ok (.iconst 0, 1) := by decide +kernel
theorem dX0_placeInLine_1 : decode cX0_placeInLine 1 = .ok (.istore_n 2, 1) := by decide +kernel
theorem dX0_placeInLine_2 : decode cX0_placeInLine 2 = .ok (.iload_n 2, 1) := by decide +kernel
theorem dX0_placeInLine_3 : decode cX0_placeInLine 3 = .ok (.aload_n 0, 1) := by decide +kernel
theorem dX0_placeInLine_4 : decode cX0_placeInLine 4 = .ok (.getfield 78, 3) := by decide +kernel
theorem dX0_placeInLine_7 : decode cX0_placeInLine 7 = .ok (.if_icmp .ge 23, 3) := by decide +kernel
theorem dX0_placeInLine_10 : decode cX0_placeInLine 10 = .ok (.aload_n 0, 1) := by decide +kernel
theorem dX0_placeInLine_11 : decode cX0_placeInLine 11 = .ok (.getfield 42, 3) := by decide +kernel
theorem dX0_placeInLine_14 : decode cX0_placeInLine 14 = .ok (.iload_n 2, 1) := by decide +kernel
theorem dX0_placeInLine_15 : decode cX0_placeInLine 15 = .ok (.invokevirtual 122, 3) := by decide +kernel
theorem dX0_placeInLine_18 : decode cX0_placeInLine 18 = .ok (.iload_n 1, 1) := by decide +kernel
theorem dX0_placeInLine_19 : decode cX0_placeInLine 19 = .ok (.if_icmp .ne 5, 3) := by decide +kernel
theorem dX0_placeInLine_22 : decode cX0_placeInLine 22 = .ok (.iload_n 2, 1) := by decide +kernel
theorem dX0_placeInLine_23 : decode cX0_placeInLine 23 = .ok (.ireturn, 1) := by decide +kernel
theorem dX0_placeInLine_24 : decode cX0_placeInLine 24 = .ok (.iinc 2 1, 3) := by decide +kernel
theorem dX0_placeInLine_27 : decode cX0_placeInLine 27 = .ok (.goto (-25), 3) := by decide +kernel
theorem dX0_placeInLine_30 : decode cX0_placeInLine 30 = .ok (.iconst (-1), 1) := by decide +kernel
theorem dX0_placeInLine_31 : decode cX0_placeInLine 31 = .ok (.ireturn, 1) := by decide +kernel
def rm_X0_placeInLine : Room := { frames := 1, cells := 0, slots := 0, locals := 21 }
def M_X0_placeInLine_2 (k : Nat) (S : Nat → Nat → Int32) : Nat → (Int32) → (Int32) → Option (Int32)
  | 0, _, _ => none
  | n + 1, x1, x2 => if (S 0 6) ≤ x2 then (some (-1 : Int32)) else ((M_X5_at k 60 (S 5) x2).bind fun q2 => if q2 = x1 then (some x2) else (M_X0_placeInLine_2 k S n x1 (x2 + 1)))
theorem M_X0_placeInLine_2_s (k : Nat) (S : Nat → Nat → Int32) (n : Nat) (x1 : Int32) (x2 : Int32) : M_X0_placeInLine_2 k S (n + 1) x1 x2 = (if (S 0 6) ≤ x2 then (some (-1 : Int32)) else ((M_X5_at k 60 (S 5) x2).bind fun q2 => if q2 = x1 then (some x2) else (M_X0_placeInLine_2 k S n x1 (x2 + 1)))) := rfl
set_option maxRecDepth 100000 in
set_option maxHeartbeats 4000000 in
theorem N_X0_placeInLine_2 (C : CX E p l s m args meth c cX0_placeInLine 3 RX0 (some .int) A) (a : Nat → Nat) (k : Nat) (S : Nat → Nat → Int32) {post : Int32 → va_W → Prop} :
    ∀ (n : Nat) (x1 : Int32) (x2 : Int32) (q : Int32), M_X0_placeInLine_2 k S n x1 x2 = some q → post q (wFl E a S) →
      WW E p l e rm_X0_placeInLine s m args below meth c A 0 0 (QI E below post args s rm_X0_placeInLine A) (wFl E a S) 3 [some (.ref (a 0)), some (.int x1), some (.int x2)] 2 [] := by
  intro n
  induction n with
  | zero => intro x1 x2 q  h _; cases h
  | succ n ih =>
    intro x1 x2 q  h hq
    rw [M_X0_placeInLine_2_s] at h
    refine r_iload_n (pc := 2) C (i := 2) dX0_placeInLine_2 rfl rfl ?_
    refine r_aload_n (pc := 3) C (i := 0) dX0_placeInLine_3 rfl rfl ?_
    refine r_get (pc := 4) C gwX0 0 rfl rfl 12 (by decide) wm_1_122 rfl dX0_placeInLine_4 ?_
    refine r_icmp_ge (pc := 7) C (tgt := 30) dX0_placeInLine_7 rfl (fun c1 => ?_) (fun c1 => ?_)
    · rw [if_pos c1] at h
      refine r_iconst (pc := 30) C (v := (-1)) dX0_placeInLine_30 (by decide) ?_
      have h := Option.some.inj h
      subst h
      exact r_ireti (pc := 31) C hq (Nat.zero_le _) (Nat.zero_le _) dX0_placeInLine_31
    · rw [if_neg c1] at h
      refine r_aload_n (pc := 10) C (i := 0) dX0_placeInLine_10 rfl rfl ?_
      refine r_get (pc := 11) C gwX0 0 rfl rfl 11 (by decide) wm_1_121 rfl dX0_placeInLine_11 ?_
      refine r_iload_n (pc := 14) C (i := 2) dX0_placeInLine_14 rfl rfl ?_
      obtain ⟨q2, hq2, h⟩ := bnd h
      refine r_callVp_CI (Cn := RX5) (pc := 15) C [.int x2] (c_X5_at E l k (fun i => a (i + 16)) 60 (S 5) x2 hq2) [16, 17] (hp_X0_queueLength_0 E a S) (by decide) 0 rfl rfl rfl g_X0_122 hd_X5_at ⟨Nat.le_of_ble_eq_true rfl, Nat.le_of_ble_eq_true rfl⟩ ⟨Nat.zero_le _, Nat.zero_le _⟩ (Nat.le_of_ble_eq_true rfl) rfl dX0_placeInLine_15 (fun r hr => ?_)
      have hr := hr.symm
      subst hr
      refine r_iload_n (pc := 18) C (i := 1) dX0_placeInLine_18 rfl rfl ?_
      refine r_icmp_ne (pc := 19) C (tgt := 24) dX0_placeInLine_19 rfl (fun c3 => ?_) (fun c3 => ?_)
      · rw [if_neg c3] at h
        refine r_iinc (pc := 24) C (v := (x2 + 1)) dX0_placeInLine_24 rfl rfl (by decide) rfl ?_
        refine r_goto (pc := 27) C (tgt := 2) dX0_placeInLine_27 rfl ?_
        refine r_weak (lSub_s (lSub_s (lSub_s lSub_e))) ?_
        exact ih x1 (x2 + 1) q  h hq
      · rw [if_pos c3] at h
        refine r_iload_n (pc := 22) C (i := 2) dX0_placeInLine_22 rfl rfl ?_
        cases h
        exact r_ireti (pc := 23) C hq (Nat.zero_le _) (Nat.zero_le _) dX0_placeInLine_23
def M_X0_placeInLine_0 (k : Nat) (S : Nat → Nat → Int32) (p0 : Int32) : Option (Int32) := M_X0_placeInLine_2 k S k p0 (0 : Int32)
set_option maxRecDepth 100000 in
set_option maxHeartbeats 4000000 in
theorem N_X0_placeInLine_0 (C : CX E p l s m args meth c cX0_placeInLine 3 RX0 (some .int) A) (a : Nat → Nat) (k : Nat) (S : Nat → Nat → Int32) {post : Int32 → va_W → Prop} :
    ∀ (p0 : Int32) (q : Int32), M_X0_placeInLine_0 k S p0 = some q → post q (wFl E a S) →
      WW E p l e rm_X0_placeInLine s m args below meth c A 0 0 (QI E below post args s rm_X0_placeInLine A) (wFl E a S) 3 [some (.ref (a 0)), some (.int p0), none] 0 [] := by
  intro p0 q  h hq
  unfold M_X0_placeInLine_0 at h
  refine r_iconst (pc := 0) C (v := 0) dX0_placeInLine_0 (by decide) ?_
  refine r_istore_n (pc := 1) C (i := 2) dX0_placeInLine_1 rfl (by decide) rfl ?_
  refine r_weak (lSub_s (lSub_s (lSub_s lSub_e))) ?_
  exact N_X0_placeInLine_2 C a k S k p0 (0 : Int32) q  h hq
def M_X0_placeInLine (k : Nat) (S : Nat → Nat → Int32) (p0 : Int32) : Option (Int32) := M_X0_placeInLine_0 k S p0
set_option maxRecDepth 100000 in
set_option maxHeartbeats 4000000 in
theorem c_X0_placeInLine (E : ENV) (l : Launch) (k : Nat) (a : Nat → Nat) (S : Nat → Nat → Int32) (p0 : Int32) {q : Int32} (hm : M_X0_placeInLine k S p0 = some q) : CI E l yX0_placeInLine cX0_placeInLine 3 (some .int) rm_X0_placeInLine [.ref (a 0), .int p0] (wFl E a S) (fun r w' => r = q ∧ w' = (wFl E a S)) :=
  CI.of 1 (by decide) (Nat.le_of_ble_eq_true rfl) (fun p e s m below meth c A C _ => r_weak (lSub_s (lSub_s (lSub_n lSub_e))) (N_X0_placeInLine_0 C a k S p0 q  hm ⟨rfl, rfl⟩))
theorem hd_X5_closeGap : yX5_closeGap.cls = RX5 ∧ yX5_closeGap.cls ≠ "java/lang/invoke/MethodHandle" ∧ yX5_closeGap.cls ≠ "java/lang/invoke/VarHandle" ∧ (parseMethodDescriptor yX5_closeGap.desc).map (fun d => d.parameters.length) = some 1 := by decide +kernel
theorem g_X0_187 : GoodIn GW (wsV RX0 187 RX5 yX5_closeGap (wsG yX5_closeGap cX5_closeGap 2 none)) := gw_V wm_4_167 wm_4_168 wm_4_169 wm_1_3 wm_4_170
-- ShardGuard$Fleet.leaveLine(I)V
set_option maxHeartbeats 8000000 in
theorem pw_X0_route_0 (E : ENV) (a : Nat → Nat) (S : Nat → Nat → Int32) (X0 : Nat → Int32) : putW (wFl E a S) [16, 17] (wRow E (fun i => a (i + 16)) 60 X0) = some (wFl E a (va_up S 5 X0)) := rfl
theorem dX0_leaveLine_0 : decode cX0_leaveLine 0 = .ok (.iload_n 1, 1) := by decide +kernel
theorem dX0_leaveLine_1 : decode cX0_leaveLine 1 = .ok (.ifCond .lt 29, 3) := by decide +kernel
theorem dX0_leaveLine_4 : decode cX0_leaveLine 4 = .ok (.iload_n 1, 1) := by decide +kernel
theorem dX0_leaveLine_5 : decode cX0_leaveLine 5 = .ok (.aload_n 0, 1) := by decide +kernel
theorem dX0_leaveLine_6 : decode cX0_leaveLine 6 = .ok (.getfield 78, 3) := by decide +kernel
theorem dX0_leaveLine_9 : decode cX0_leaveLine 9 = .ok (.if_icmp .ge 21, 3) := by decide +kernel
theorem dX0_leaveLine_12 : decode cX0_leaveLine 12 = .ok (.aload_n 0, 1) := by decide +kernel
theorem dX0_leaveLine_13 : decode cX0_leaveLine 13 = .ok (.getfield 42, 3) := by decide +kernel
theorem dX0_leaveLine_16 : decode cX0_leaveLine 16 = .ok (.iload_n 1, 1) := by decide +kernel
theorem dX0_leaveLine_17 : decode cX0_leaveLine 17 = .ok (.invokevirtual 187, 3) := by decide +kernel
theorem dX0_leaveLine_20 : decode cX0_leaveLine 20 = .ok (.aload_n 0, 1) := by decide +kernel
theorem dX0_leaveLine_21 : decode cX0_leaveLine 21 = .ok (.dup, 1) := by decide +kernel
theorem dX0_leaveLine_22 : decode cX0_leaveLine 22 = .ok (.getfield 78, 3) := by decide +kernel
theorem dX0_leaveLine_25 : decode cX0_leaveLine 25 = .ok (.iconst 1, 1) := by decide +kernel
theorem dX0_leaveLine_26 : decode cX0_leaveLine 26 = .ok (.isub, 1) := by decide +kernel
theorem dX0_leaveLine_27 : decode cX0_leaveLine 27 = .ok (.putfield 78, 3) := by decide +kernel
theorem dX0_leaveLine_30 : decode cX0_leaveLine 30 = .ok (.return_, 1) := by decide +kernel
def rm_X0_leaveLine : Room := { frames := 2, cells := 0, slots := 0, locals := 101 }
def M_X0_leaveLine_0 (k : Nat) (p0 : Int32) (S : Nat → Nat → Int32) : Option ((Nat → Nat → Int32)) := if p0 < 0 then (some S) else (if (S 0 6) ≤ p0 then (some S) else ((M_X5_closeGap k 60 (S 5) p0).bind fun q3 => lt (va_up S 5 q3) fun F4 => lt (va_up F4 0 (upd (F4 0) 6 ((F4 0 6) - (1 : Int32)))) fun F5 => some F5))
set_option maxRecDepth 100000 in
set_option maxHeartbeats 4000000 in
theorem N_X0_leaveLine_0 (C : CX E p l s m args meth c cX0_leaveLine 2 RX0 none A) (a : Nat → Nat) (k : Nat) {post : va_W → Prop} :
    ∀ (p0 : Int32) (S : Nat → Nat → Int32) (q : (Nat → Nat → Int32)), M_X0_leaveLine_0 k p0 S = some q → post (wFl E a q) →
      WW E p l e rm_X0_leaveLine s m args below meth c A 0 0 (QV E below post args s rm_X0_leaveLine A) (wFl E a S) 2 [some (.ref (a 0)), some (.int p0)] 0 [] := by
  intro p0 S q  h hq
  unfold M_X0_leaveLine_0 at h
  refine r_iload_n (pc := 0) C (i := 1) dX0_leaveLine_0 rfl rfl ?_
  refine r_if_lt (pc := 1) C (tgt := 30) dX0_leaveLine_1 rfl (fun c1 => ?_) (fun c1 => ?_)
  · rw [if_pos c1] at h
    cases h
    exact r_vret (pc := 30) C hq (Nat.zero_le _) (Nat.zero_le _) dX0_leaveLine_30
  · rw [if_neg c1] at h
    refine r_iload_n (pc := 4) C (i := 1) dX0_leaveLine_4 rfl rfl ?_
    refine r_aload_n (pc := 5) C (i := 0) dX0_leaveLine_5 rfl rfl ?_
    refine r_get (pc := 6) C gwX0 0 rfl rfl 12 (by decide) wm_1_122 rfl dX0_leaveLine_6 ?_
    refine r_icmp_ge (pc := 9) C (tgt := 30) dX0_leaveLine_9 rfl (fun c2 => ?_) (fun c2 => ?_)
    · rw [if_pos c2] at h
      cases h
      exact r_vret (pc := 30) C hq (Nat.zero_le _) (Nat.zero_le _) dX0_leaveLine_30
    · rw [if_neg c2] at h
      refine r_aload_n (pc := 12) C (i := 0) dX0_leaveLine_12 rfl rfl ?_
      refine r_get (pc := 13) C gwX0 0 rfl rfl 11 (by decide) wm_1_121 rfl dX0_leaveLine_13 ?_
      refine r_iload_n (pc := 16) C (i := 1) dX0_leaveLine_16 rfl rfl ?_
      obtain ⟨q3, hq3, h⟩ := bnd h
      obtain ⟨F4, hF4, h⟩ := lt_e h
      refine r_callV_CV (Cn := RX5) (pc := 17) C [.int p0] (c_X5_closeGap E l k (fun i => a (i + 16)) 60 (S 5) p0 hq3) [16, 17] (hp_X0_queueLength_0 E a S) (by decide) 0 rfl rfl rfl g_X0_187 hd_X5_closeGap ⟨Nat.le_of_ble_eq_true rfl, Nat.le_of_ble_eq_true rfl⟩ ⟨Nat.zero_le _, Nat.zero_le _⟩ (Nat.le_of_ble_eq_true rfl) rfl dX0_leaveLine_17 (fun w1 hw1 => ?_)
      subst hw1
      refine ⟨(wFl E a F4), by rw [hF4]; exact (pw_X0_route_0 E a S q3), ?_⟩
      refine r_aload_n (pc := 20) C (i := 0) dX0_leaveLine_20 rfl rfl ?_
      refine r_dup (pc := 21) C dX0_leaveLine_21 rfl ?_
      refine r_get (pc := 22) C gwX0 0 rfl rfl 12 (by decide) wm_1_122 rfl dX0_leaveLine_22 ?_
      refine r_iconst (pc := 25) C (v := 1) dX0_leaveLine_25 (by decide) ?_
      refine r_isub (pc := 26) C dX0_leaveLine_26 ?_
      obtain ⟨F5, hF5, h⟩ := lt_e h
      refine r_put (pc := 27) C gwX0 tyX0 tyX0_ok nmX0 0 rfl rfl 12 (by decide) wm_1_122 rfl rfl rfl rfl (Nat.le_of_ble_eq_true rfl) (w' := (wFl E a F5)) (by rw [hF5]; rfl) dX0_leaveLine_27 ?_
      cases h
      exact r_vret (pc := 30) C hq (Nat.zero_le _) (Nat.zero_le _) dX0_leaveLine_30
def M_X0_leaveLine (k : Nat) (S : Nat → Nat → Int32) (p0 : Int32) : Option ((Nat → Nat → Int32)) := M_X0_leaveLine_0 k p0 S
set_option maxRecDepth 100000 in
set_option maxHeartbeats 4000000 in
theorem c_X0_leaveLine (E : ENV) (l : Launch) (k : Nat) (a : Nat → Nat) (S : Nat → Nat → Int32) (p0 : Int32) {q : (Nat → Nat → Int32)} (hm : M_X0_leaveLine k S p0 = some q) : CV E l yX0_leaveLine cX0_leaveLine 2 none rm_X0_leaveLine [.ref (a 0), .int p0] (wFl E a S) (fun w' => w' = (wFl E a q)) :=
  CV.of 0 (by decide) (Nat.le_of_ble_eq_true rfl) (fun p e s m below meth c A C _ => r_weak (lSub_s (lSub_s lSub_e)) (N_X0_leaveLine_0 C a k p0 S q  hm rfl))
theorem hd_J6_bitCount_0f7a4 : yJ6_bitCount_0f7a4.cls = RJ6 ∧ yJ6_bitCount_0f7a4.cls ≠ "java/lang/invoke/MethodHandle" ∧ yJ6_bitCount_0f7a4.cls ≠ "java/lang/invoke/VarHandle" ∧ (parseMethodDescriptor yJ6_bitCount_0f7a4.desc).map (fun d => d.parameters.length) = some 1 := by decide +kernel
theorem g_X0_190 : GoodIn GW (va_wsS RX0 190 yJ6_bitCount_0f7a4 (wsG yJ6_bitCount_0f7a4 cJ6_bitCount_0f7a4 1 (some .int))) := gw_S wm_2_79 wm_2_80 wm_1_22 wm_2_81
-- ShardGuard$Fleet.sharedBy(II)I
theorem dX0_sharedBy_0 : decode cX0_sharedBy 0 = .ok (.aload_n 0, 1) := by decide +kernel
theorem dX0_sharedBy_1 : decode cX0_sharedBy 1 = .ok (.iload_n 1, 1) := by decide +kernel
theorem dX0_sharedBy_2 : decode cX0_sharedBy 2 = .ok (.invokevirtual 115, 3) := by decide +kernel
theorem dX0_sharedBy_5 : decode cX0_sharedBy 5 = .ok (.aload_n 0, 1) := by decide +kernel
theorem dX0_sharedBy_6 : decode cX0_sharedBy 6 = .ok (.iload_n 2, 1) := by decide +kernel
theorem dX0_sharedBy_7 : decode cX0_sharedBy 7 = .ok (.invokevirtual 115, 3) := by decide +kernel
theorem dX0_sharedBy_10 : decode cX0_sharedBy 10 = .ok (.iand, 1) := by decide +kernel
theorem dX0_sharedBy_11 : decode cX0_sharedBy 11 = .ok (.invokestatic 190, 3) := by decide +kernel
theorem dX0_sharedBy_14 : decode cX0_sharedBy 14 = .ok (.ireturn, 1) := by decide +kernel
def rm_X0_sharedBy : Room := { frames := 2, cells := 0, slots := 0, locals := 45 }
def M_X0_sharedBy_0 (k : Nat) (S : Nat → Nat → Int32) (p0 : Int32) (p1 : Int32) : Option (Int32) := (M_X0_shardOf k S p0).bind fun q1 => (M_X0_shardOf k S p1).bind fun q2 => (M_J6_bitCount_0f7a4 k (q1 &&& q2)).bind fun q3 => some q3
set_option maxRecDepth 100000 in
set_option maxHeartbeats 4000000 in
theorem N_X0_sharedBy_0 (C : CX E p l s m args meth c cX0_sharedBy 3 RX0 (some .int) A) (a : Nat → Nat) (k : Nat) (S : Nat → Nat → Int32) {post : Int32 → va_W → Prop} :
    ∀ (p0 : Int32) (p1 : Int32) (q : Int32), M_X0_sharedBy_0 k S p0 p1 = some q → post q (wFl E a S) →
      WW E p l e rm_X0_sharedBy s m args below meth c A 0 0 (QI E below post args s rm_X0_sharedBy A) (wFl E a S) 3 [some (.ref (a 0)), some (.int p0), some (.int p1)] 0 [] := by
  intro p0 p1 q  h hq
  unfold M_X0_sharedBy_0 at h
  refine r_aload_n (pc := 0) C (i := 0) dX0_sharedBy_0 rfl rfl ?_
  refine r_iload_n (pc := 1) C (i := 1) dX0_sharedBy_1 rfl rfl ?_
  obtain ⟨q1, hq1, h⟩ := bnd h
  refine r_callVp_CI (Cn := RX0) (pc := 2) C [.int p0] (c_X0_shardOf E l k a S p0 hq1) [0, 1, 2, 3, 4, 5, 6, 7, 8, 9, 10, 11, 12, 13, 14, 15, 16, 17] (hp_X0_isCutOff_0 E a S) (by decide) 0 rfl rfl rfl g_X0_115 hd_X0_shardOf ⟨Nat.le_of_ble_eq_true rfl, Nat.le_of_ble_eq_true rfl⟩ ⟨Nat.zero_le _, Nat.zero_le _⟩ (Nat.le_of_ble_eq_true rfl) rfl dX0_sharedBy_2 (fun r hr => ?_)
  have hr := hr.symm
  subst hr
  refine r_aload_n (pc := 5) C (i := 0) dX0_sharedBy_5 rfl rfl ?_
  refine r_iload_n (pc := 6) C (i := 2) dX0_sharedBy_6 rfl rfl ?_
  obtain ⟨q2, hq2, h⟩ := bnd h
  refine r_callVp_CI (Cn := RX0) (pc := 7) C [.int p1] (c_X0_shardOf E l k a S p1 hq2) [0, 1, 2, 3, 4, 5, 6, 7, 8, 9, 10, 11, 12, 13, 14, 15, 16, 17] (hp_X0_isCutOff_0 E a S) (by decide) 0 rfl rfl rfl g_X0_115 hd_X0_shardOf ⟨Nat.le_of_ble_eq_true rfl, Nat.le_of_ble_eq_true rfl⟩ ⟨Nat.zero_le _, Nat.zero_le _⟩ (Nat.le_of_ble_eq_true rfl) rfl dX0_sharedBy_7 (fun r hr => ?_)
  have hr := hr.symm
  subst hr
  refine r_iand (pc := 10) C dX0_sharedBy_10 ?_
  obtain ⟨q3, hq3, h⟩ := bnd h
  refine r_callSp_CI (pc := 11) C [.int (q1 &&& q2)] (c_J6_bitCount_0f7a4 E l k (q1 &&& q2) hq3) [] rfl (by decide) g_X0_190 hd_J6_bitCount_0f7a4.2 ⟨Nat.le_of_ble_eq_true rfl, Nat.le_of_ble_eq_true rfl⟩ ⟨Nat.zero_le _, Nat.zero_le _⟩ (Nat.le_of_ble_eq_true rfl) rfl dX0_sharedBy_11 (fun r hr => ?_)
  have hr := hr.symm
  subst hr
  cases h
  exact r_ireti (pc := 14) C hq (Nat.zero_le _) (Nat.zero_le _) dX0_sharedBy_14
def M_X0_sharedBy (k : Nat) (S : Nat → Nat → Int32) (p0 : Int32) (p1 : Int32) : Option (Int32) := M_X0_sharedBy_0 k S p0 p1
set_option maxRecDepth 100000 in
set_option maxHeartbeats 4000000 in
theorem c_X0_sharedBy (E : ENV) (l : Launch) (k : Nat) (a : Nat → Nat) (S : Nat → Nat → Int32) (p0 : Int32) (p1 : Int32) {q : Int32} (hm : M_X0_sharedBy k S p0 p1 = some q) : CI E l yX0_sharedBy cX0_sharedBy 3 (some .int) rm_X0_sharedBy [.ref (a 0), .int p0, .int p1] (wFl E a S) (fun r w' => r = q ∧ w' = (wFl E a S)) :=
  CI.of 0 (by decide) (Nat.le_of_ble_eq_true rfl) (fun p e s m below meth c A C _ => r_weak (lSub_s (lSub_s (lSub_s lSub_e))) (N_X0_sharedBy_0 C a k S p0 p1 q  hm ⟨rfl, rfl⟩))
theorem hd_X0_sharedBy : yX0_sharedBy.cls = RX0 ∧ yX0_sharedBy.cls ≠ "java/lang/invoke/MethodHandle" ∧ yX0_sharedBy.cls ≠ "java/lang/invoke/VarHandle" ∧ (parseMethodDescriptor yX0_sharedBy.desc).map (fun d => d.parameters.length) = some 2 := by decide +kernel
theorem g_X0_195 : GoodIn GW (wsV RX0 195 RX0 yX0_sharedBy (wsG yX0_sharedBy cX0_sharedBy 3 (some .int))) := gw_V wm_2_70 wm_2_71 wm_2_72 wm_1_2 wm_2_73
-- ShardGuard$Fleet.greatestShared()I
theorem dX0_greatestShared_0 : decode cX0_greatestShared 0 = .ok (.iconst 0, 1) := by decide +kernel
theorem dX0_greatestShared_1 : decode cX0_greatestShared 1 = .ok (.istore_n 1, 1) := by decide +kernel
theorem dX0_greatestShared_2 : decode cX0_greatestShared 2 = .ok (.iconst 0, 1) := by decide +kernel
theorem dX0_greatestShared_3 : decode cX0_greatestShared 3 = .ok (.istore_n 2, 1) := by decide +kernel
theorem dX0_greatestShared_4 : decode cX0_greatestShared 4 = .ok (.iload_n 2, 1) := by decide +kernel
theorem dX0_greatestShared_5 : decode cX0_greatestShared 5 = .ok (.aload_n 0, 1) := by decide +kernel
theorem dX0_greatestShared_6 : decode cX0_greatestShared 6 = .ok (.getfield 52, 3) := by decide +kernel
theorem dX0_greatestShared_9 : decode cX0_greatestShared 9 = .ok (.if_icmp .ge 33, 3) := by decide +kernel
theorem dX0_greatestShared_12 : decode cX0_greatestShared 12 = .ok (.iconst 0, 1) := by decide +kernel
theorem dX0_greatestShared_13 : decode cX0_greatestShared 13 = .ok (.istore_n 3, 1) := by decide +kernel
theorem dX0_greatestShared_14 : decode cX0_greatestShared 14 = .ok (.iload_n 3, 1) := by decide +kernel
theorem dX0_greatestShared_15 : decode cX0_greatestShared 15 = .ok (.iload_n 2, 1) := by decide +kernel
theorem dX0_greatestShared_16 : decode cX0_greatestShared 16 = .ok (.if_icmp .ge 20, 3) := by decide +kernel
theorem dX0_greatestShared_19 : decode cX0_greatestShared 19 = .ok (.iload_n 1, 1) := by decide +kernel
theorem dX0_greatestShared_20 : decode cX0_greatestShared 20 = .ok (.aload_n 0, 1) := by decide +kernel
theorem dX0_greatestShared_21 : decode cX0_greatestShared 21 = .ok (.iload_n 2, 1) := by decide +kernel
theorem dX0_greatestShared_22 : decode cX0_greatestShared 22 = .ok (.iload_n 3, 1) := by decide +kernel
theorem dX0_greatestShared_23 : decode cX0_greatestShared 23 = .ok (.invokevirtual 195, 3) := by decide +kernel
theorem dX0_greatestShared_26 : decode cX0_greatestShared 26 = .ok (.invokestatic 124, 3) := by decide +kernel
theorem dX0_greatestShared_29 : decode cX0_greatestShared 29 = .ok (.istore_n 1, 1) := by decide +kernel
theorem dX0_greatestShared_30 : decode cX0_greatestShared 30 = .ok (.iinc 3 1, 3) := by decide +kernel
theorem dX0_greatestShared_33 : decode cX0_greatestShared 33 = .ok (.goto (-19), 3) := by decide +kernel
theorem dX0_greatestShared_36 : decode cX0_greatestShared 36 = .ok (.iinc 2 1, 3) := by decide +kernel
theorem dX0_greatestShared_39 : decode cX0_greatestShared 39 = .ok (.goto (-35), 3) := by decide +kernel
theorem dX0_greatestShared_42 : decode cX0_greatestShared 42 = .ok (.iload_n 1, 1) := by decide +kernel
theorem dX0_greatestShared_43 : decode cX0_greatestShared 43 = .ok (.ireturn, 1) := by decide +kernel
def rm_X0_greatestShared : Room := { frames := 3, cells := 0, slots := 0, locals := 67 }
def M_X0_greatestShared_14 (k : Nat) (S : Nat → Nat → Int32) (κ4 : Int32 → Int32 → Option (Int32)) : Nat → (Int32) → (Int32) → (Int32) → Option (Int32)
  | 0, _, _, _ => none
  | n + 1, x1, x2, x3 => if x2 ≤ x3 then (κ4 x1 (x2 + 1)) else ((M_X0_sharedBy k S x2 x3).bind fun q2 => lt (if x1 < q2 then q2 else x1) fun v3 => M_X0_greatestShared_14 k S κ4 n v3 x2 (x3 + 1))
theorem M_X0_greatestShared_14_s (k : Nat) (S : Nat → Nat → Int32) (κ4 : Int32 → Int32 → Option (Int32)) (n : Nat) (x1 : Int32) (x2 : Int32) (x3 : Int32) : M_X0_greatestShared_14 k S κ4 (n + 1) x1 x2 x3 = (if x2 ≤ x3 then (κ4 x1 (x2 + 1)) else ((M_X0_sharedBy k S x2 x3).bind fun q2 => lt (if x1 < q2 then q2 else x1) fun v3 => M_X0_greatestShared_14 k S κ4 n v3 x2 (x3 + 1))) := rfl
set_option maxRecDepth 100000 in
set_option maxHeartbeats 4000000 in
theorem N_X0_greatestShared_14 (C : CX E p l s m args meth c cX0_greatestShared 4 RX0 (some .int) A) (a : Nat → Nat) (k : Nat) (S : Nat → Nat → Int32) {post : Int32 → va_W → Prop} (κ4 : Int32 → Int32 → Option (Int32)) (hκ4 : ∀ (x1 : Int32) (x2 : Int32) (q : Int32), κ4 x1 x2 = some q → post q (wFl E a S) → WW E p l e rm_X0_greatestShared s m args below meth c A 0 0 (QI E below post args s rm_X0_greatestShared A) (wFl E a S) 4 [some (.ref (a 0)), some (.int x1), some (.int x2), none] 4 []) :
    ∀ (n : Nat) (x1 : Int32) (x2 : Int32) (x3 : Int32) (q : Int32), M_X0_greatestShared_14 k S κ4 n x1 x2 x3 = some q → post q (wFl E a S) →
      WW E p l e rm_X0_greatestShared s m args below meth c A 0 0 (QI E below post args s rm_X0_greatestShared A) (wFl E a S) 4 [some (.ref (a 0)), some (.int x1), some (.int x2), some (.int x3)] 14 [] := by
  intro n
  induction n with
  | zero => intro x1 x2 x3 q  h _; cases h
  | succ n ih =>
    intro x1 x2 x3 q  h hq
    rw [M_X0_greatestShared_14_s] at h
    refine r_iload_n (pc := 14) C (i := 3) dX0_greatestShared_14 rfl rfl ?_
    refine r_iload_n (pc := 15) C (i := 2) dX0_greatestShared_15 rfl rfl ?_
    refine r_icmp_ge (pc := 16) C (tgt := 36) dX0_greatestShared_16 rfl (fun c1 => ?_) (fun c1 => ?_)
    · rw [if_pos c1] at h
      refine r_iinc (pc := 36) C (v := (x2 + 1)) dX0_greatestShared_36 rfl rfl (by decide) rfl ?_
      refine r_goto (pc := 39) C (tgt := 4) dX0_greatestShared_39 rfl ?_
      refine r_weak (lSub_s (lSub_s (lSub_s (lSub_n lSub_e)))) ?_
      exact hκ4 x1 (x2 + 1) q  h hq
    · rw [if_neg c1] at h
      refine r_iload_n (pc := 19) C (i := 1) dX0_greatestShared_19 rfl rfl ?_
      refine r_aload_n (pc := 20) C (i := 0) dX0_greatestShared_20 rfl rfl ?_
      refine r_iload_n (pc := 21) C (i := 2) dX0_greatestShared_21 rfl rfl ?_
      refine r_iload_n (pc := 22) C (i := 3) dX0_greatestShared_22 rfl rfl ?_
      obtain ⟨q2, hq2, h⟩ := bnd h
      refine r_callVp_CI (Cn := RX0) (pc := 23) C [.int x2, .int x3] (c_X0_sharedBy E l k a S x2 x3 hq2) [0, 1, 2, 3, 4, 5, 6, 7, 8, 9, 10, 11, 12, 13, 14, 15, 16, 17] (hp_X0_isCutOff_0 E a S) (by decide) 0 rfl rfl rfl g_X0_195 hd_X0_sharedBy ⟨Nat.le_of_ble_eq_true rfl, Nat.le_of_ble_eq_true rfl⟩ ⟨Nat.zero_le _, Nat.zero_le _⟩ (Nat.le_of_ble_eq_true rfl) rfl dX0_greatestShared_23 (fun r hr => ?_)
      have hr := hr.symm
      subst hr
      refine r_mmax (pc := 26) C wm_2_85 wm_2_86 wm_1_14 wm_2_87 ⟨Nat.le_of_ble_eq_true rfl, Nat.le_of_ble_eq_true rfl, Nat.zero_le _, Nat.zero_le _⟩ (Nat.le_of_ble_eq_true rfl) dX0_greatestShared_26 ?_
      obtain ⟨v3, hv3, h⟩ := lt_e h
      refine r_topi hv3 ?_
      refine r_istore_n (pc := 29) C (i := 1) dX0_greatestShared_29 rfl (by decide) rfl ?_
      refine r_iinc (pc := 30) C (v := (x3 + 1)) dX0_greatestShared_30 rfl rfl (by decide) rfl ?_
      refine r_goto (pc := 33) C (tgt := 14) dX0_greatestShared_33 rfl ?_
      refine r_weak (lSub_s (lSub_s (lSub_s (lSub_s lSub_e)))) ?_
      exact ih v3 x2 (x3 + 1) q  h hq
def M_X0_greatestShared_4 (k : Nat) (S : Nat → Nat → Int32) : Nat → (Int32) → (Int32) → Option (Int32)
  | 0, _, _ => none
  | n + 1, x1, x2 => if (S 0 2) ≤ x2 then (some x1) else (M_X0_greatestShared_14 k S (M_X0_greatestShared_4 k S n) k x1 x2 (0 : Int32))
theorem M_X0_greatestShared_4_s (k : Nat) (S : Nat → Nat → Int32) (n : Nat) (x1 : Int32) (x2 : Int32) : M_X0_greatestShared_4 k S (n + 1) x1 x2 = (if (S 0 2) ≤ x2 then (some x1) else (M_X0_greatestShared_14 k S (M_X0_greatestShared_4 k S n) k x1 x2 (0 : Int32))) := rfl
set_option maxRecDepth 100000 in
set_option maxHeartbeats 4000000 in
theorem N_X0_greatestShared_4 (C : CX E p l s m args meth c cX0_greatestShared 4 RX0 (some .int) A) (a : Nat → Nat) (k : Nat) (S : Nat → Nat → Int32) {post : Int32 → va_W → Prop} :
    ∀ (n : Nat) (x1 : Int32) (x2 : Int32) (q : Int32), M_X0_greatestShared_4 k S n x1 x2 = some q → post q (wFl E a S) →
      WW E p l e rm_X0_greatestShared s m args below meth c A 0 0 (QI E below post args s rm_X0_greatestShared A) (wFl E a S) 4 [some (.ref (a 0)), some (.int x1), some (.int x2), none] 4 [] := by
  intro n
  induction n with
  | zero => intro x1 x2 q  h _; cases h
  | succ n ih =>
    intro x1 x2 q  h hq
    rw [M_X0_greatestShared_4_s] at h
    refine r_iload_n (pc := 4) C (i := 2) dX0_greatestShared_4 rfl rfl ?_
    refine r_aload_n (pc := 5) C (i := 0) dX0_greatestShared_5 rfl rfl ?_
    refine r_get (pc := 6) C gwX0 0 rfl rfl 2 (by decide) wm_1_98 rfl dX0_greatestShared_6 ?_
    refine r_icmp_ge (pc := 9) C (tgt := 42) dX0_greatestShared_9 rfl (fun c4 => ?_) (fun c4 => ?_)
    · rw [if_pos c4] at h
      refine r_iload_n (pc := 42) C (i := 1) dX0_greatestShared_42 rfl rfl ?_
      cases h
      exact r_ireti (pc := 43) C hq (Nat.zero_le _) (Nat.zero_le _) dX0_greatestShared_43
    · rw [if_neg c4] at h
      refine r_iconst (pc := 12) C (v := 0) dX0_greatestShared_12 (by decide) ?_
      refine r_istore_n (pc := 13) C (i := 3) dX0_greatestShared_13 rfl (by decide) rfl ?_
      refine r_weak (lSub_s (lSub_s (lSub_s (lSub_s lSub_e)))) ?_
      exact N_X0_greatestShared_14 C a k S (M_X0_greatestShared_4 k S n) ih k x1 x2 (0 : Int32) q  h hq
def M_X0_greatestShared_0 (k : Nat) (S : Nat → Nat → Int32) : Option (Int32) := M_X0_greatestShared_4 k S k (0 : Int32) (0 : Int32)
set_option maxRecDepth 100000 in
set_option maxHeartbeats 4000000 in
theorem N_X0_greatestShared_0 (C : CX E p l s m args meth c cX0_greatestShared 4 RX0 (some .int) A) (a : Nat → Nat) (k : Nat) (S : Nat → Nat → Int32) {post : Int32 → va_W → Prop} :
    ∀ (q : Int32), M_X0_greatestShared_0 k S = some q → post q (wFl E a S) →
      WW E p l e rm_X0_greatestShared s m args below meth c A 0 0 (QI E below post args s rm_X0_greatestShared A) (wFl E a S) 4 [some (.ref (a 0)), none, none, none] 0 [] := by
  intro  q  h hq
  unfold M_X0_greatestShared_0 at h
  refine r_iconst (pc := 0) C (v := 0) dX0_greatestShared_0 (by decide) ?_
  refine r_istore_n (pc := 1) C (i := 1) dX0_greatestShared_1 rfl (by decide) rfl ?_
  refine r_iconst (pc := 2) C (v := 0) dX0_greatestShared_2 (by decide) ?_
  refine r_istore_n (pc := 3) C (i := 2) dX0_greatestShared_3 rfl (by decide) rfl ?_
  refine r_weak (lSub_s (lSub_s (lSub_s (lSub_n lSub_e)))) ?_
  exact N_X0_greatestShared_4 C a k S k (0 : Int32) (0 : Int32) q  h hq
def M_X0_greatestShared (k : Nat) (S : Nat → Nat → Int32) : Option (Int32) := M_X0_greatestShared_0 k S
set_option maxRecDepth 100000 in
set_option maxHeartbeats 4000000 in
theorem c_X0_greatestShared (E : ENV) (l : Launch) (k : Nat) (a : Nat → Nat) (S : Nat → Nat → Int32) {q : Int32} (hm : M_X0_greatestShared k S = some q) : CI E l yX0_greatestShared cX0_greatestShared 4 (some .int) rm_X0_greatestShared [.ref (a 0)] (wFl E a S) (fun r w' => r = q ∧ w' = (wFl E a S)) :=
  CI.of 3 (by decide) (Nat.le_of_ble_eq_true rfl) (fun p e s m below meth c A C _ => r_weak (lSub_s (lSub_n (lSub_n (lSub_n lSub_e)))) (N_X0_greatestShared_0 C a k S q  hm ⟨rfl, rfl⟩))
-- ShardGuard$Fleet.sharingCost(II)I
theorem dX0_sharingCost_0 : decode cX0_sharingCost 0 = .ok (.iconst 0, 1) := by decide +kernel
theorem dX0_sharingCost_1 : decode cX0_sharingCost 1 = .ok (.istore_n 3, 1) := by decide +kernel
theorem dX0_sharingCost_2 : decode cX0_sharingCost 2 = .ok (.iconst 0, 1) := by decide +kernel
theorem dX0_sharingCost_3 : decode cX0_sharingCost 3 = .ok (.istore 4, 2) := by decide +kernel
theorem dX0_sharingCost_5 : decode cX0_sharingCost 5 = .ok (.iconst 0, 1) := by decide +kernel
theorem dX0_sharingCost_6 : decode cX0_sharingCost 6 = .ok (.istore 5, 2) := by decide +kernel
theorem dX0_sharingCost_8 : decode cX0_sharingCost 8 = .ok (.iload 5, 2) := by decide +kernel
theorem dX0_sharingCost_10 : decode cX0_sharingCost 10 = .ok (.aload_n 0, 1) := by decide +kernel
theorem dX0_sharingCost_11 : decode cX0_sharingCost 11 = .ok (.getfield 52, 3) := by decide +kernel
theorem dX0_sharingCost_14 : decode cX0_sharingCost 14 = .ok (.if_icmp .ge 42, 3) := by decide +kernel
theorem dX0_sharingCost_17 : decode cX0_sharingCost 17 = .ok (.iload 5, 2) := by decide +kernel
theorem dX0_sharingCost_19 : decode cX0_sharingCost 19 = .ok (.iload_n 1, 1) := by decide +kernel
theorem dX0_sharingCost_20 : decode cX0_sharingCost 20 = .ok (.if_icmp .eq 30, 3) := by decide +kernel
theorem dX0_sharingCost_23 : decode cX0_sharingCost 23 = .ok (.iload_n 2, 1) := by decide +kernel
theorem dX0_sharingCost_24 : decode cX0_sharingCost 24 = .ok (.aload_n 0, 1) := by decide +kernel
theorem dX0_sharingCost_25 : decode cX0_sharingCost 25 = .ok (.iload 5, 2) := by decide +kernel
theorem dX0_sharingCost_27 : decode cX0_sharingCost 27 = .ok (.invokevirtual 115, 3) := by decide +kernel
theorem dX0_sharingCost_30 : decode cX0_sharingCost 30 = .ok (.iand, 1) := by decide +kernel
theorem dX0_sharingCost_31 : decode cX0_sharingCost 31 = .ok (.invokestatic 190, 3) := by decide +kernel
theorem dX0_sharingCost_34 : decode cX0_sharingCost 34 = .ok (.istore 6, 2) := by decide +kernel
theorem dX0_sharingCost_36 : decode cX0_sharingCost 36 = .ok (.iload_n 3, 1) := by decide +kernel
theorem dX0_sharingCost_37 : decode cX0_sharingCost 37 = .ok (.iload 6, 2) := by decide +kernel
theorem dX0_sharingCost_39 : decode cX0_sharingCost 39 = .ok (.invokestatic 124, 3) := by decide +kernel
theorem dX0_sharingCost_42 : decode cX0_sharingCost 42 = .ok (.istore_n 3, 1) := by decide +kernel
theorem dX0_sharingCost_43 : decode cX0_sharingCost 43 = .ok (.iload 4, 2) := by decide +kernel
theorem dX0_sharingCost_45 : decode cX0_sharingCost 45 = .ok (.iload 6, 2) := by decide +kernel
theorem dX0_sharingCost_47 : decode cX0_sharingCost 47 = .ok (.iadd, 1) := by decide +kernel
theorem dX0_sharingCost_48 : decode cX0_sharingCost 48 = .ok (.istore 4, 2) := by decide +kernel
theorem dX0_sharingCost_50 : decode cX0_sharingCost 50 = .ok (.iinc 5 1, 3) := by decide +kernel
theorem dX0_sharingCost_53 : decode cX0_sharingCost 53 = .ok (.goto (-45), 3) := by decide +kernel
theorem dX0_sharingCost_56 : decode cX0_sharingCost 56 = .ok (.iload_n 3, 1) := by decide +kernel
theorem dX0_sharingCost_57 : decode cX0_sharingCost 57 = .ok (.bipush 100, 2) := by decide +kernel
theorem dX0_sharingCost_59 : decode cX0_sharingCost 59 = .ok (.imul, 1) := by decide +kernel
theorem dX0_sharingCost_60 : decode cX0_sharingCost 60 = .ok (.iload 4, 2) := by decide +kernel
theorem dX0_sharingCost_62 : decode cX0_sharingCost 62 = .ok (.iadd, 1) := by decide +kernel
theorem dX0_sharingCost_63 : decode cX0_sharingCost 63 = .ok (.ireturn, 1) := by decide +kernel
def rm_X0_sharingCost : Room := { frames := 2, cells := 0, slots := 0, locals := 45 }
def M_X0_sharingCost_8 (k : Nat) (S : Nat → Nat → Int32) : Nat → (Int32) → (Int32) → (Int32) → (Int32) → (Int32) → Option (Int32)
  | 0, _, _, _, _, _ => none
  | n + 1, x1, x2, x3, x4, x5 => if (S 0 2) ≤ x5 then (some ((x3 * (100 : Int32)) + x4)) else (if x5 = x1 then (M_X0_sharingCost_8 k S n x1 x2 x3 x4 (x5 + 1)) else ((M_X0_shardOf k S x5).bind fun q3 => (M_J6_bitCount_0f7a4 k (x2 &&& q3)).bind fun q4 => lt (if x3 < q4 then q4 else x3) fun v5 => lt (x4 + q4) fun v6 => M_X0_sharingCost_8 k S n x1 x2 v5 v6 (x5 + 1)))
theorem M_X0_sharingCost_8_s (k : Nat) (S : Nat → Nat → Int32) (n : Nat) (x1 : Int32) (x2 : Int32) (x3 : Int32) (x4 : Int32) (x5 : Int32) : M_X0_sharingCost_8 k S (n + 1) x1 x2 x3 x4 x5 = (if (S 0 2) ≤ x5 then (some ((x3 * (100 : Int32)) + x4)) else (if x5 = x1 then (M_X0_sharingCost_8 k S n x1 x2 x3 x4 (x5 + 1)) else ((M_X0_shardOf k S x5).bind fun q3 => (M_J6_bitCount_0f7a4 k (x2 &&& q3)).bind fun q4 => lt (if x3 < q4 then q4 else x3) fun v5 => lt (x4 + q4) fun v6 => M_X0_sharingCost_8 k S n x1 x2 v5 v6 (x5 + 1)))) := rfl
set_option maxRecDepth 100000 in
set_option maxHeartbeats 4000000 in
theorem N_X0_sharingCost_8 (C : CX E p l s m args meth c cX0_sharingCost 7 RX0 (some .int) A) (a : Nat → Nat) (k : Nat) (S : Nat → Nat → Int32) {post : Int32 → va_W → Prop} :
    ∀ (n : Nat) (x1 : Int32) (x2 : Int32) (x3 : Int32) (x4 : Int32) (x5 : Int32) (q : Int32), M_X0_sharingCost_8 k S n x1 x2 x3 x4 x5 = some q → post q (wFl E a S) →
      WW E p l e rm_X0_sharingCost s m args below meth c A 0 0 (QI E below post args s rm_X0_sharingCost A) (wFl E a S) 7 [some (.ref (a 0)), some (.int x1), some (.int x2), some (.int x3), some (.int x4), some (.int x5), none] 8 [] := by
  intro n
  induction n with
  | zero => intro x1 x2 x3 x4 x5 q  h _; cases h
  | succ n ih =>
    intro x1 x2 x3 x4 x5 q  h hq
    rw [M_X0_sharingCost_8_s] at h
    refine r_iload (pc := 8) C (i := 5) dX0_sharingCost_8 rfl ?_
    refine r_aload_n (pc := 10) C (i := 0) dX0_sharingCost_10 rfl rfl ?_
    refine r_get (pc := 11) C gwX0 0 rfl rfl 2 (by decide) wm_1_98 rfl dX0_sharingCost_11 ?_
    refine r_icmp_ge (pc := 14) C (tgt := 56) dX0_sharingCost_14 rfl (fun c1 => ?_) (fun c1 => ?_)
    · rw [if_pos c1] at h
      refine r_iload_n (pc := 56) C (i := 3) dX0_sharingCost_56 rfl rfl ?_
      refine r_bipush (pc := 57) C (v := 100) dX0_sharingCost_57 (by decide) ?_
      refine r_imul (pc := 59) C dX0_sharingCost_59 ?_
      refine r_iload (pc := 60) C (i := 4) dX0_sharingCost_60 rfl ?_
      refine r_iadd (pc := 62) C dX0_sharingCost_62 ?_
      cases h
      exact r_ireti (pc := 63) C hq (Nat.zero_le _) (Nat.zero_le _) dX0_sharingCost_63
    · rw [if_neg c1] at h
      refine r_iload (pc := 17) C (i := 5) dX0_sharingCost_17 rfl ?_
      refine r_iload_n (pc := 19) C (i := 1) dX0_sharingCost_19 rfl rfl ?_
      refine r_icmp_eq (pc := 20) C (tgt := 50) dX0_sharingCost_20 rfl (fun c2 => ?_) (fun c2 => ?_)
      · rw [if_pos c2] at h
        refine r_iinc (pc := 50) C (v := (x5 + 1)) dX0_sharingCost_50 rfl rfl (by decide) rfl ?_
        refine r_goto (pc := 53) C (tgt := 8) dX0_sharingCost_53 rfl ?_
        refine r_weak (lSub_s (lSub_s (lSub_s (lSub_s (lSub_s (lSub_s (lSub_n lSub_e))))))) ?_
        exact ih x1 x2 x3 x4 (x5 + 1) q  h hq
      · rw [if_neg c2] at h
        refine r_iload_n (pc := 23) C (i := 2) dX0_sharingCost_23 rfl rfl ?_
        refine r_aload_n (pc := 24) C (i := 0) dX0_sharingCost_24 rfl rfl ?_
        refine r_iload (pc := 25) C (i := 5) dX0_sharingCost_25 rfl ?_
        obtain ⟨q3, hq3, h⟩ := bnd h
        refine r_callVp_CI (Cn := RX0) (pc := 27) C [.int x5] (c_X0_shardOf E l k a S x5 hq3) [0, 1, 2, 3, 4, 5, 6, 7, 8, 9, 10, 11, 12, 13, 14, 15, 16, 17] (hp_X0_isCutOff_0 E a S) (by decide) 0 rfl rfl rfl g_X0_115 hd_X0_shardOf ⟨Nat.le_of_ble_eq_true rfl, Nat.le_of_ble_eq_true rfl⟩ ⟨Nat.zero_le _, Nat.zero_le _⟩ (Nat.le_of_ble_eq_true rfl) rfl dX0_sharingCost_27 (fun r hr => ?_)
        have hr := hr.symm
        subst hr
        refine r_iand (pc := 30) C dX0_sharingCost_30 ?_
        obtain ⟨q4, hq4, h⟩ := bnd h
        refine r_callSp_CI (pc := 31) C [.int (x2 &&& q3)] (c_J6_bitCount_0f7a4 E l k (x2 &&& q3) hq4) [] rfl (by decide) g_X0_190 hd_J6_bitCount_0f7a4.2 ⟨Nat.le_of_ble_eq_true rfl, Nat.le_of_ble_eq_true rfl⟩ ⟨Nat.zero_le _, Nat.zero_le _⟩ (Nat.le_of_ble_eq_true rfl) rfl dX0_sharingCost_31 (fun r hr => ?_)
        have hr := hr.symm
        subst hr
        refine r_istore (pc := 34) C (i := 6) dX0_sharingCost_34 (by decide) rfl ?_
        refine r_iload_n (pc := 36) C (i := 3) dX0_sharingCost_36 rfl rfl ?_
        refine r_iload (pc := 37) C (i := 6) dX0_sharingCost_37 rfl ?_
        refine r_mmax (pc := 39) C wm_2_85 wm_2_86 wm_1_14 wm_2_87 ⟨Nat.le_of_ble_eq_true rfl, Nat.le_of_ble_eq_true rfl, Nat.zero_le _, Nat.zero_le _⟩ (Nat.le_of_ble_eq_true rfl) dX0_sharingCost_39 ?_
        obtain ⟨v5, hv5, h⟩ := lt_e h
        refine r_topi hv5 ?_
        refine r_istore_n (pc := 42) C (i := 3) dX0_sharingCost_42 rfl (by decide) rfl ?_
        refine r_iload (pc := 43) C (i := 4) dX0_sharingCost_43 rfl ?_
        refine r_iload (pc := 45) C (i := 6) dX0_sharingCost_45 rfl ?_
        refine r_iadd (pc := 47) C dX0_sharingCost_47 ?_
        obtain ⟨v6, hv6, h⟩ := lt_e h
        refine r_topi hv6 ?_
        refine r_istore (pc := 48) C (i := 4) dX0_sharingCost_48 (by decide) rfl ?_
        refine r_iinc (pc := 50) C (v := (x5 + 1)) dX0_sharingCost_50 rfl rfl (by decide) rfl ?_
        refine r_goto (pc := 53) C (tgt := 8) dX0_sharingCost_53 rfl ?_
        refine r_weak (lSub_s (lSub_s (lSub_s (lSub_s (lSub_s (lSub_s (lSub_n lSub_e))))))) ?_
        exact ih x1 x2 v5 v6 (x5 + 1) q  h hq
def M_X0_sharingCost_0 (k : Nat) (S : Nat → Nat → Int32) (p0 : Int32) (p1 : Int32) : Option (Int32) := M_X0_sharingCost_8 k S k p0 p1 (0 : Int32) (0 : Int32) (0 : Int32)
set_option maxRecDepth 100000 in
set_option maxHeartbeats 4000000 in
theorem N_X0_sharingCost_0 (C : CX E p l s m args meth c cX0_sharingCost 7 RX0 (some .int) A) (a : Nat → Nat) (k : Nat) (S : Nat → Nat → Int32) {post : Int32 → va_W → Prop} :
    ∀ (p0 : Int32) (p1 : Int32) (q : Int32), M_X0_sharingCost_0 k S p0 p1 = some q → post q (wFl E a S) →
      WW E p l e rm_X0_sharingCost s m args below meth c A 0 0 (QI E below post args s rm_X0_sharingCost A) (wFl E a S) 7 [some (.ref (a 0)), some (.int p0), some (.int p1), none, none, none, none] 0 [] := by
  intro p0 p1 q  h hq
  unfold M_X0_sharingCost_0 at h
  refine r_iconst (pc := 0) C (v := 0) dX0_sharingCost_0 (by decide) ?_
  refine r_istore_n (pc := 1) C (i := 3) dX0_sharingCost_1 rfl (by decide) rfl ?_
  refine r_iconst (pc := 2) C (v := 0) dX0_sharingCost_2 (by decide) ?_
  refine r_istore (pc := 3) C (i := 4) dX0_sharingCost_3 (by decide) rfl ?_
  refine r_iconst (pc := 5) C (v := 0) dX0_sharingCost_5 (by decide) ?_
  refine r_istore (pc := 6) C (i := 5) dX0_sharingCost_6 (by decide) rfl ?_
  refine r_weak (lSub_s (lSub_s (lSub_s (lSub_s (lSub_s (lSub_s (lSub_n lSub_e))))))) ?_
  exact N_X0_sharingCost_8 C a k S k p0 p1 (0 : Int32) (0 : Int32) (0 : Int32) q  h hq
def M_X0_sharingCost (k : Nat) (S : Nat → Nat → Int32) (p0 : Int32) (p1 : Int32) : Option (Int32) := M_X0_sharingCost_0 k S p0 p1
set_option maxRecDepth 100000 in
set_option maxHeartbeats 4000000 in
theorem c_X0_sharingCost (E : ENV) (l : Launch) (k : Nat) (a : Nat → Nat) (S : Nat → Nat → Int32) (p0 : Int32) (p1 : Int32) {q : Int32} (hm : M_X0_sharingCost k S p0 p1 = some q) : CI E l yX0_sharingCost cX0_sharingCost 7 (some .int) rm_X0_sharingCost [.ref (a 0), .int p0, .int p1] (wFl E a S) (fun r w' => r = q ∧ w' = (wFl E a S)) :=
  CI.of 4 (by decide) (Nat.le_of_ble_eq_true rfl) (fun p e s m below meth c A C _ => r_weak (lSub_s (lSub_s (lSub_s (lSub_n (lSub_n (lSub_n (lSub_n lSub_e))))))) (N_X0_sharingCost_0 C a k S p0 p1 q  hm ⟨rfl, rfl⟩))
-- ShardGuard$Fleet.has(II)Z
theorem dX0_has_0 : decode cX0_has 0 = .ok (.iload_n 0, 1) := by decide +kernel
theorem dX0_has_1 : decode cX0_has 1 = .ok (.iload_n 1, 1) := by decide +kernel
theorem dX0_has_2 : decode cX0_has 2 = .ok (.ishr, 1) := by decide +kernel
theorem dX0_has_3 : decode cX0_has 3 = .ok (.iconst 1, 1) := by decide +kernel
theorem dX0_has_4 : decode cX0_has 4 = .ok (.iand, 1) := by decide +kernel
theorem dX0_has_5 : decode cX0_has 5 = .ok (.iconst 1, 1) := by decide +kernel
theorem dX0_has_6 : decode cX0_has 6 = .ok (.if_icmp .ne 7, 3) := by decide +kernel
theorem dX0_has_9 : decode cX0_has 9 = .ok (.iconst 1, 1) := by decide +kernel
theorem dX0_has_10 : decode cX0_has 10 = .ok (.goto 4, 3) := by decide +kernel
theorem dX0_has_13 : decode cX0_has 13 = .ok (.iconst 0, 1) := by decide +kernel
theorem dX0_has_14 : decode cX0_has 14 = .ok (.ireturn, 1) := by decide +kernel
def rm_X0_has : Room := { frames := 0, cells := 0, slots := 0, locals := 0 }
def M_X0_has_0 (k : Nat) (p0 : Int32) (p1 : Int32) : Option (Int32) := if ((p0 >>> (p1 &&& 31)) &&& (1 : Int32)) = (1 : Int32) then (some (1 : Int32)) else (some (0 : Int32))
set_option maxRecDepth 100000 in
set_option maxHeartbeats 4000000 in
theorem N_X0_has_0 (C : CX E p l s m args meth c cX0_has 2 RX0 (some .boolean) A) (k : Nat) {post : Int32 → va_W → Prop} :
    ∀ (p0 : Int32) (p1 : Int32) (q : Int32), M_X0_has_0 k p0 p1 = some q → post q ([] : va_W) →
      WW E p l e rm_X0_has s m args below meth c A 0 0 (QI E below post args s rm_X0_has A) ([] : va_W) 2 [some (.int p0), some (.int p1)] 0 [] := by
  intro p0 p1 q  h hq
  unfold M_X0_has_0 at h
  refine r_iload_n (pc := 0) C (i := 0) dX0_has_0 rfl rfl ?_
  refine r_iload_n (pc := 1) C (i := 1) dX0_has_1 rfl rfl ?_
  refine r_ishr (pc := 2) C dX0_has_2 ?_
  refine r_iconst (pc := 3) C (v := 1) dX0_has_3 (by decide) ?_
  refine r_iand (pc := 4) C dX0_has_4 ?_
  refine r_iconst (pc := 5) C (v := 1) dX0_has_5 (by decide) ?_
  refine r_icmp_ne (pc := 6) C (tgt := 13) dX0_has_6 rfl (fun c1 => ?_) (fun c1 => ?_)
  · rw [if_neg c1] at h
    refine r_iconst (pc := 13) C (v := 0) dX0_has_13 (by decide) ?_
    cases h
    exact r_iretz (pc := 14) C (Or.inl rfl) hq (Nat.zero_le _) (Nat.zero_le _) dX0_has_14
  · rw [if_pos c1] at h
    refine r_iconst (pc := 9) C (v := 1) dX0_has_9 (by decide) ?_
    refine r_goto (pc := 10) C (tgt := 14) dX0_has_10 rfl ?_
    cases h
    exact r_iretz (pc := 14) C (Or.inr rfl) hq (Nat.zero_le _) (Nat.zero_le _) dX0_has_14
def M_X0_has (k : Nat) (p0 : Int32) (p1 : Int32) : Option (Int32) := M_X0_has_0 k p0 p1
set_option maxRecDepth 100000 in
set_option maxHeartbeats 4000000 in
theorem c_X0_has (E : ENV) (l : Launch) (k : Nat) (p0 : Int32) (p1 : Int32) {q : Int32} (hm : M_X0_has k p0 p1 = some q) : CI E l yX0_has cX0_has 2 (some .boolean) rm_X0_has [.int p0, .int p1] ([] : va_W) (fun r w' => r = q ∧ w' = ([] : va_W)) :=
  CI.of 0 (by decide) (Nat.le_of_ble_eq_true rfl) (fun p e s m below meth c A C _ => r_weak (lSub_s (lSub_s lSub_e)) (N_X0_has_0 C k p0 p1 q  hm ⟨rfl, rfl⟩))
theorem hd_X0_forgetRequests : yX0_forgetRequests.cls = RX0 ∧ yX0_forgetRequests.cls ≠ "java/lang/invoke/MethodHandle" ∧ yX0_forgetRequests.cls ≠ "java/lang/invoke/VarHandle" ∧ (parseMethodDescriptor yX0_forgetRequests.desc).map (fun d => d.parameters.length) = some 0 := by decide +kernel
theorem g_X0_72 : GoodIn GW (wsV RX0 72 RX0 yX0_forgetRequests (wsG yX0_forgetRequests cX0_forgetRequests 2 none)) := gw_V wm_1_239 wm_2_0 wm_2_1 wm_1_2 wm_2_2
theorem hd_X0_allWorkers : yX0_allWorkers.cls = RX0 ∧ yX0_allWorkers.cls ≠ "java/lang/invoke/MethodHandle" ∧ yX0_allWorkers.cls ≠ "java/lang/invoke/VarHandle" ∧ (parseMethodDescriptor yX0_allWorkers.desc).map (fun d => d.parameters.length) = some 0 := by decide +kernel
theorem g_X0_58 : GoodIn GW (wsV RX0 58 RX0 yX0_allWorkers (wsG yX0_allWorkers cX0_allWorkers 1 (some .int))) := gw_V wm_1_229 wm_1_230 wm_1_231 wm_1_2 wm_1_232
-- ShardGuard$Fleet.begin(II)V
set_option maxHeartbeats 8000000 in
theorem pw_X0_finish_0 (E : ENV) (a : Nat → Nat) (S : Nat → Nat → Int32) (X0 : Nat → Nat → Int32) : putW (wFl E a S) [0, 1, 2, 3, 4, 5, 6, 7, 8, 9, 10, 11, 12, 13, 14, 15, 16, 17] (wFl E a X0) = some (wFl E a X0) := seg_put1 ([] : va_W) (wFl E a S) (wFl E a X0) ([] : va_W) rfl rfl 18 rfl rfl [0, 1, 2, 3, 4, 5, 6, 7, 8, 9, 10, 11, 12, 13, 14, 15, 16, 17] rfl
set_option maxHeartbeats 8000000 in
theorem pw_X0_begin_0 (E : ENV) (a : Nat → Nat) (S : Nat → Nat → Int32) (X0 : Nat → Int32) : putW (wFl E a S) [1, 2] (wRow E (fun i => a (i + 1)) 5 X0) = some (wFl E a (va_up S 1 X0)) := rfl
theorem dX0_begin_0 : decode cX0_begin 0 = .ok (.aload_n 0, 1) := by decide +kernel
theorem dX0_begin_1 : decode cX0_begin 1 = .ok (.iload_n 1, 1) := by decide +kernel
theorem dX0_begin_2 : decode cX0_begin 2 = .ok (.putfield 45, 3) := by decide +kernel
theorem dX0_begin_5 : decode cX0_begin 5 = .ok (.aload_n 0, 1) := by decide +kernel
theorem dX0_begin_6 : decode cX0_begin 6 = .ok (.iload_n 2, 1) := by decide +kernel
theorem dX0_begin_7 : decode cX0_begin 7 = .ok (.putfield 49, 3) := by decide +kernel
theorem dX0_begin_10 : decode cX0_begin 10 = .ok (.aload_n 0, 1) := by decide +kernel
theorem dX0_begin_11 : decode cX0_begin 11 = .ok (.iconst 0, 1) := by decide +kernel
theorem dX0_begin_12 : decode cX0_begin 12 = .ok (.putfield 52, 3) := by decide +kernel
theorem dX0_begin_15 : decode cX0_begin 15 = .ok (.aload_n 0, 1) := by decide +kernel
theorem dX0_begin_16 : decode cX0_begin 16 = .ok (.iconst 0, 1) := by decide +kernel
theorem dX0_begin_17 : decode cX0_begin 17 = .ok (.putfield 55, 3) := by decide +kernel
theorem dX0_begin_20 : decode cX0_begin 20 = .ok (.aload_n 0, 1) := by decide +kernel
theorem dX0_begin_21 : decode cX0_begin 21 = .ok (.aload_n 0, 1) := by decide +kernel
theorem dX0_begin_22 : decode cX0_begin 22 = .ok (.invokevirtual 58, 3) := by decide +kernel
theorem dX0_begin_25 : decode cX0_begin 25 = .ok (.putfield 62, 3) := by decide +kernel
theorem dX0_begin_28 : decode cX0_begin 28 = .ok (.iconst 0, 1) := by decide +kernel
theorem dX0_begin_29 : decode cX0_begin 29 = .ok (.istore_n 3, 1) := by decide +kernel
theorem dX0_begin_30 : decode cX0_begin 30 = .ok (.iload_n 3, 1) := by decide +kernel
theorem dX0_begin_31 : decode cX0_begin 31 = .ok (.bipush 12, 2) := by decide +kernel
theorem dX0_begin_33 : decode cX0_begin 33 = .ok (.if_icmp .ge 18, 3) := by decide +kernel
theorem dX0_begin_36 : decode cX0_begin 36 = .ok (.aload_n 0, 1) := by decide +kernel
theorem dX0_begin_37 : decode cX0_begin 37 = .ok (.getfield 20, 3) := by decide +kernel
theorem dX0_begin_40 : decode cX0_begin 40 = .ok (.iload_n 3, 1) := by decide +kernel
theorem dX0_begin_41 : decode cX0_begin 41 = .ok (.iconst (-1), 1) := by decide +kernel
theorem dX0_begin_42 : decode cX0_begin 42 = .ok (.invokevirtual 65, 3) := by decide +kernel
theorem dX0_begin_45 : decode cX0_begin 45 = .ok (.iinc 3 1, 3) := by decide +kernel
theorem dX0_begin_48 : decode cX0_begin 48 = .ok (.goto (-18), 3) := by decide +kernel
theorem dX0_begin_51 : decode cX0_begin 51 = .ok (.iconst 0, 1) := by decide +kernel
theorem dX0_begin_52 : decode cX0_begin 52 = .ok (.istore_n 3, 1) := by decide +kernel
theorem dX0_begin_53 : decode cX0_begin 53 = .ok (.iload_n 3, 1) := by decide +kernel
theorem dX0_begin_54 : decode cX0_begin 54 = .ok (.getstatic 68, 3) := by decide +kernel
theorem dX0_begin_57 : decode cX0_begin 57 = .ok (.arraylength, 1) := by decide +kernel
theorem dX0_begin_58 : decode cX0_begin 58 = .ok (.if_icmp .ge 22, 3) := by decide +kernel
theorem dX0_begin_61 : decode cX0_begin 61 = .ok (.aload_n 0, 1) := by decide +kernel
theorem dX0_begin_62 : decode cX0_begin 62 = .ok (.getfield 14, 3) := by decide +kernel
theorem dX0_begin_65 : decode cX0_begin 65 = .ok (.iload_n 3, 1) := by decide +kernel
theorem dX0_begin_66 : decode cX0_begin 66 = .ok (.getstatic 68, 3) := by decide +kernel
theorem dX0_begin_69 : decode cX0_begin 69 = .ok (.iload_n 3, 1) := by decide +kernel
theorem dX0_begin_70 : decode cX0_begin 70 = .ok (.iaload, 1) := by decide +kernel
theorem dX0_begin_71 : decode cX0_begin 71 = .ok (.invokevirtual 65, 3) := by decide +kernel
theorem dX0_begin_74 : decode cX0_begin 74 = .ok (.iinc 3 1, 3) := by decide +kernel
theorem dX0_begin_77 : decode cX0_begin 77 = .ok (.goto (-24), 3) := by decide +kernel
theorem dX0_begin_80 : decode cX0_begin 80 = .ok (.aload_n 0, 1) := by decide +kernel
theorem dX0_begin_81 : decode cX0_begin 81 = .ok (.invokevirtual 72, 3) := by decide +kernel
theorem dX0_begin_84 : decode cX0_begin 84 = .ok (.return_, 1) := by decide +kernel
def rm_X0_begin : Room := { frames := 3, cells := 0, slots := 0, locals := 62 }
def M_X0_begin_53 (k : Nat) : Nat → (Int32) → (Nat → Nat → Int32) → Option ((Nat → Nat → Int32))
  | 0, _, _ => none
  | n + 1, x3, S => if (nI ([5, 2, 3, 20, 50] : List Int32).length) ≤ x3 then ((M_X0_forgetRequests k S).bind fun q3 => some q3) else ((if inb x3 ([5, 2, 3, 20, 50] : List Int32).length = true then (M_X5_put k 5 (S 1) x3 (([5, 2, 3, 20, 50] : List Int32).getD x3.toNatClampNeg 0)).bind fun q6 => lt (va_up S 1 q6) fun F7 => M_X0_begin_53 k n (x3 + 1) F7 else none))
theorem M_X0_begin_53_s (k : Nat) (n : Nat) (x3 : Int32) (S : Nat → Nat → Int32) : M_X0_begin_53 k (n + 1) x3 S = (if (nI ([5, 2, 3, 20, 50] : List Int32).length) ≤ x3 then ((M_X0_forgetRequests k S).bind fun q3 => some q3) else ((if inb x3 ([5, 2, 3, 20, 50] : List Int32).length = true then (M_X5_put k 5 (S 1) x3 (([5, 2, 3, 20, 50] : List Int32).getD x3.toNatClampNeg 0)).bind fun q6 => lt (va_up S 1 q6) fun F7 => M_X0_begin_53 k n (x3 + 1) F7 else none))) := rfl
set_option maxRecDepth 100000 in
set_option maxHeartbeats 4000000 in
theorem N_X0_begin_53 (C : CX E p l s m args meth c cX0_begin 4 RX0 none A) (a : Nat → Nat) (k : Nat) {post : va_W → Prop} :
    ∀ (n : Nat) (x3 : Int32) (S : Nat → Nat → Int32) (q : (Nat → Nat → Int32)), M_X0_begin_53 k n x3 S = some q → post (wFl E a q) →
      WW E p l e rm_X0_begin s m args below meth c A 0 0 (QV E below post args s rm_X0_begin A) (wFl E a S) 4 [some (.ref (a 0)), none, none, some (.int x3)] 53 [] := by
  intro n
  induction n with
  | zero => intro x3 S q  h _; cases h
  | succ n ih =>
    intro x3 S q  h hq
    rw [M_X0_begin_53_s] at h
    refine r_iload_n (pc := 53) C (i := 3) dX0_begin_53 rfl rfl ?_
    refine r_getsSN (pc := 54) C C.2.2.2.2.2.2.1.usual C.2.2.2.2.2.2.1.nestF dX0_begin_54 (fun t1 ht1 => ?_)
    refine r_stlen (pc := 57) C ht1 dX0_begin_57 ?_
    refine r_icmp_ge (pc := 58) C (tgt := 80) dX0_begin_58 rfl (fun c2 => ?_) (fun c2 => ?_)
    · rw [if_pos c2] at h
      refine r_aload_n (pc := 80) C (i := 0) dX0_begin_80 rfl rfl ?_
      obtain ⟨q3, hq3, h⟩ := bnd h
      refine r_callV_CV (Cn := RX0) (pc := 81) C [] (c_X0_forgetRequests E l k a S hq3) [0, 1, 2, 3, 4, 5, 6, 7, 8, 9, 10, 11, 12, 13, 14, 15, 16, 17] (hp_X0_isCutOff_0 E a S) (by decide) 0 rfl rfl rfl g_X0_72 hd_X0_forgetRequests ⟨Nat.le_of_ble_eq_true rfl, Nat.le_of_ble_eq_true rfl⟩ ⟨Nat.zero_le _, Nat.zero_le _⟩ (Nat.le_of_ble_eq_true rfl) rfl dX0_begin_81 (fun w1 hw1 => ?_)
      subst hw1
      refine ⟨(wFl E a q3), by exact (pw_X0_finish_0 E a S q3), ?_⟩
      cases h
      exact r_vret (pc := 84) C hq (Nat.zero_le _) (Nat.zero_le _) dX0_begin_84
    · rw [if_neg c2] at h
      refine r_aload_n (pc := 61) C (i := 0) dX0_begin_61 rfl rfl ?_
      refine r_get (pc := 62) C gwX0 0 rfl rfl 6 (by decide) wm_1_108 rfl dX0_begin_62 ?_
      refine r_iload_n (pc := 65) C (i := 3) dX0_begin_65 rfl rfl ?_
      refine r_getsSN (pc := 66) C C.2.2.2.2.2.2.1.usual C.2.2.2.2.2.2.1.nestF dX0_begin_66 (fun t4 ht4 => ?_)
      refine r_iload_n (pc := 69) C (i := 3) dX0_begin_69 rfl rfl ?_
      obtain ⟨hi5, h⟩ := ifn h
      refine r_stald (pc := 70) C ht4 hi5 dX0_begin_70 ?_
      obtain ⟨q6, hq6, h⟩ := bnd h
      obtain ⟨F7, hF7, h⟩ := lt_e h
      refine r_callV_CV (Cn := RX5) (pc := 71) C [.int x3, .int (([5, 2, 3, 20, 50] : List Int32).getD x3.toNatClampNeg 0)] (c_X5_put E l k (fun i => a (i + 1)) 5 (S 1) x3 (([5, 2, 3, 20, 50] : List Int32).getD x3.toNatClampNeg 0) hq6) [1, 2] (hp_X0_countedKills_0 E a S) (by decide) 0 rfl rfl rfl g_X0_65 hd_X5_put ⟨Nat.le_of_ble_eq_true rfl, Nat.le_of_ble_eq_true rfl⟩ ⟨Nat.zero_le _, Nat.zero_le _⟩ (Nat.le_of_ble_eq_true rfl) rfl dX0_begin_71 (fun w1 hw1 => ?_)
      subst hw1
      refine ⟨(wFl E a F7), by rw [hF7]; exact (pw_X0_begin_0 E a S q6), ?_⟩
      refine r_iinc (pc := 74) C (v := (x3 + 1)) dX0_begin_74 rfl rfl (by decide) rfl ?_
      refine r_goto (pc := 77) C (tgt := 53) dX0_begin_77 rfl ?_
      refine r_weak (lSub_s (lSub_n (lSub_n (lSub_s lSub_e)))) ?_
      exact ih (x3 + 1) F7 q  h hq
def M_X0_begin_30 (k : Nat) : Nat → (Int32) → (Nat → Nat → Int32) → Option ((Nat → Nat → Int32))
  | 0, _, _ => none
  | n + 1, x3, S => if (12 : Int32) ≤ x3 then (M_X0_begin_53 k k (0 : Int32) S) else ((M_X5_put k 12 (S 2) x3 (-1 : Int32)).bind fun q9 => lt (va_up S 2 q9) fun F10 => M_X0_begin_30 k n (x3 + 1) F10)
theorem M_X0_begin_30_s (k : Nat) (n : Nat) (x3 : Int32) (S : Nat → Nat → Int32) : M_X0_begin_30 k (n + 1) x3 S = (if (12 : Int32) ≤ x3 then (M_X0_begin_53 k k (0 : Int32) S) else ((M_X5_put k 12 (S 2) x3 (-1 : Int32)).bind fun q9 => lt (va_up S 2 q9) fun F10 => M_X0_begin_30 k n (x3 + 1) F10)) := rfl
set_option maxRecDepth 100000 in
set_option maxHeartbeats 4000000 in
theorem N_X0_begin_30 (C : CX E p l s m args meth c cX0_begin 4 RX0 none A) (a : Nat → Nat) (k : Nat) {post : va_W → Prop} :
    ∀ (n : Nat) (x3 : Int32) (S : Nat → Nat → Int32) (q : (Nat → Nat → Int32)), M_X0_begin_30 k n x3 S = some q → post (wFl E a q) →
      WW E p l e rm_X0_begin s m args below meth c A 0 0 (QV E below post args s rm_X0_begin A) (wFl E a S) 4 [some (.ref (a 0)), none, none, some (.int x3)] 30 [] := by
  intro n
  induction n with
  | zero => intro x3 S q  h _; cases h
  | succ n ih =>
    intro x3 S q  h hq
    rw [M_X0_begin_30_s] at h
    refine r_iload_n (pc := 30) C (i := 3) dX0_begin_30 rfl rfl ?_
    refine r_bipush (pc := 31) C (v := 12) dX0_begin_31 (by decide) ?_
    refine r_icmp_ge (pc := 33) C (tgt := 51) dX0_begin_33 rfl (fun c8 => ?_) (fun c8 => ?_)
    · rw [if_pos c8] at h
      refine r_iconst (pc := 51) C (v := 0) dX0_begin_51 (by decide) ?_
      refine r_istore_n (pc := 52) C (i := 3) dX0_begin_52 rfl (by decide) rfl ?_
      refine r_weak (lSub_s (lSub_n (lSub_n (lSub_s lSub_e)))) ?_
      exact N_X0_begin_53 C a k k (0 : Int32) S q  h hq
    · rw [if_neg c8] at h
      refine r_aload_n (pc := 36) C (i := 0) dX0_begin_36 rfl rfl ?_
      refine r_get (pc := 37) C gwX0 0 rfl rfl 7 (by decide) wm_1_111 rfl dX0_begin_37 ?_
      refine r_iload_n (pc := 40) C (i := 3) dX0_begin_40 rfl rfl ?_
      refine r_iconst (pc := 41) C (v := (-1)) dX0_begin_41 (by decide) ?_
      obtain ⟨q9, hq9, h⟩ := bnd h
      obtain ⟨F10, hF10, h⟩ := lt_e h
      refine r_callV_CV (Cn := RX5) (pc := 42) C [.int x3, .int (-1 : Int32)] (c_X5_put E l k (fun i => a (i + 3)) 12 (S 2) x3 (-1 : Int32) hq9) [3, 4] (hp_X0_takeDown_0 E a S) (by decide) 0 rfl rfl rfl g_X0_65 hd_X5_put ⟨Nat.le_of_ble_eq_true rfl, Nat.le_of_ble_eq_true rfl⟩ ⟨Nat.zero_le _, Nat.zero_le _⟩ (Nat.le_of_ble_eq_true rfl) rfl dX0_begin_42 (fun w1 hw1 => ?_)
      subst hw1
      refine ⟨(wFl E a F10), by rw [hF10]; exact (pw_X0_takeDown_0 E a S q9), ?_⟩
      refine r_iinc (pc := 45) C (v := (x3 + 1)) dX0_begin_45 rfl rfl (by decide) rfl ?_
      refine r_goto (pc := 48) C (tgt := 30) dX0_begin_48 rfl ?_
      refine r_weak (lSub_s (lSub_n (lSub_n (lSub_s lSub_e)))) ?_
      exact ih (x3 + 1) F10 q  h hq
def M_X0_begin_0 (k : Nat) (p0 : Int32) (p1 : Int32) (S : Nat → Nat → Int32) : Option ((Nat → Nat → Int32)) := lt (va_up S 0 (upd (S 0) 0 p0)) fun F11 => lt (va_up F11 0 (upd (F11 0) 1 p1)) fun F12 => lt (va_up F12 0 (upd (F12 0) 2 (0 : Int32))) fun F13 => lt (va_up F13 0 (upd (F13 0) 4 (0 : Int32))) fun F14 => (M_X0_allWorkers k F14).bind fun q15 => lt (va_up F14 0 (upd (F14 0) 5 q15)) fun F16 => M_X0_begin_30 k k (0 : Int32) F16
set_option maxRecDepth 100000 in
set_option maxHeartbeats 4000000 in
theorem N_X0_begin_0 (C : CX E p l s m args meth c cX0_begin 4 RX0 none A) (a : Nat → Nat) (k : Nat) {post : va_W → Prop} :
    ∀ (p0 : Int32) (p1 : Int32) (S : Nat → Nat → Int32) (q : (Nat → Nat → Int32)), M_X0_begin_0 k p0 p1 S = some q → post (wFl E a q) →
      WW E p l e rm_X0_begin s m args below meth c A 0 0 (QV E below post args s rm_X0_begin A) (wFl E a S) 4 [some (.ref (a 0)), some (.int p0), some (.int p1), none] 0 [] := by
  intro p0 p1 S q  h hq
  unfold M_X0_begin_0 at h
  refine r_aload_n (pc := 0) C (i := 0) dX0_begin_0 rfl rfl ?_
  refine r_iload_n (pc := 1) C (i := 1) dX0_begin_1 rfl rfl ?_
  obtain ⟨F11, hF11, h⟩ := lt_e h
  refine r_put (pc := 2) C gwX0 tyX0 tyX0_ok nmX0 0 rfl rfl 0 (by decide) wm_1_92 rfl rfl rfl rfl (Nat.le_of_ble_eq_true rfl) (w' := (wFl E a F11)) (by rw [hF11]; rfl) dX0_begin_2 ?_
  refine r_aload_n (pc := 5) C (i := 0) dX0_begin_5 rfl rfl ?_
  refine r_iload_n (pc := 6) C (i := 2) dX0_begin_6 rfl rfl ?_
  obtain ⟨F12, hF12, h⟩ := lt_e h
  refine r_put (pc := 7) C gwX0 tyX0 tyX0_ok nmX0 0 rfl rfl 1 (by decide) wm_1_95 rfl rfl rfl rfl (Nat.le_of_ble_eq_true rfl) (w' := (wFl E a F12)) (by rw [hF12]; rfl) dX0_begin_7 ?_
  refine r_aload_n (pc := 10) C (i := 0) dX0_begin_10 rfl rfl ?_
  refine r_iconst (pc := 11) C (v := 0) dX0_begin_11 (by decide) ?_
  obtain ⟨F13, hF13, h⟩ := lt_e h
  refine r_put (pc := 12) C gwX0 tyX0 tyX0_ok nmX0 0 rfl rfl 2 (by decide) wm_1_98 rfl rfl rfl rfl (Nat.le_of_ble_eq_true rfl) (w' := (wFl E a F13)) (by rw [hF13]; rfl) dX0_begin_12 ?_
  refine r_aload_n (pc := 15) C (i := 0) dX0_begin_15 rfl rfl ?_
  refine r_iconst (pc := 16) C (v := 0) dX0_begin_16 (by decide) ?_
  obtain ⟨F14, hF14, h⟩ := lt_e h
  refine r_put (pc := 17) C gwX0 tyX0 tyX0_ok nmX0 0 rfl rfl 4 (by decide) wm_1_104 rfl rfl rfl rfl (Nat.le_of_ble_eq_true rfl) (w' := (wFl E a F14)) (by rw [hF14]; rfl) dX0_begin_17 ?_
  refine r_aload_n (pc := 20) C (i := 0) dX0_begin_20 rfl rfl ?_
  refine r_aload_n (pc := 21) C (i := 0) dX0_begin_21 rfl rfl ?_
  obtain ⟨q15, hq15, h⟩ := bnd h
  refine r_callVp_CI (Cn := RX0) (pc := 22) C [] (c_X0_allWorkers E l k a F14 hq15) [0, 1, 2, 3, 4, 5, 6, 7, 8, 9, 10, 11, 12, 13, 14, 15, 16, 17] (hp_X0_isCutOff_0 E a F14) (by decide) 0 rfl rfl rfl g_X0_58 hd_X0_allWorkers ⟨Nat.le_of_ble_eq_true rfl, Nat.le_of_ble_eq_true rfl⟩ ⟨Nat.zero_le _, Nat.zero_le _⟩ (Nat.le_of_ble_eq_true rfl) rfl dX0_begin_22 (fun r hr => ?_)
  have hr := hr.symm
  subst hr
  obtain ⟨F16, hF16, h⟩ := lt_e h
  refine r_put (pc := 25) C gwX0 tyX0 tyX0_ok nmX0 0 rfl rfl 5 (by decide) wm_1_106 rfl rfl rfl rfl (Nat.le_of_ble_eq_true rfl) (w' := (wFl E a F16)) (by rw [hF16]; rfl) dX0_begin_25 ?_
  refine r_iconst (pc := 28) C (v := 0) dX0_begin_28 (by decide) ?_
  refine r_istore_n (pc := 29) C (i := 3) dX0_begin_29 rfl (by decide) rfl ?_
  refine r_weak (lSub_s (lSub_n (lSub_n (lSub_s lSub_e)))) ?_
  exact N_X0_begin_30 C a k k (0 : Int32) F16 q  h hq
def M_X0_begin (k : Nat) (S : Nat → Nat → Int32) (p0 : Int32) (p1 : Int32) : Option ((Nat → Nat → Int32)) := M_X0_begin_0 k p0 p1 S
set_option maxRecDepth 100000 in
set_option maxHeartbeats 4000000 in
theorem c_X0_begin (E : ENV) (l : Launch) (k : Nat) (a : Nat → Nat) (S : Nat → Nat → Int32) (p0 : Int32) (p1 : Int32) {q : (Nat → Nat → Int32)} (hm : M_X0_begin k S p0 p1 = some q) : CV E l yX0_begin cX0_begin 4 none rm_X0_begin [.ref (a 0), .int p0, .int p1] (wFl E a S) (fun w' => w' = (wFl E a q)) :=
  CV.of 1 (by decide) (Nat.le_of_ble_eq_true rfl) (fun p e s m below meth c A C _ => r_weak (lSub_s (lSub_s (lSub_s (lSub_n lSub_e)))) (N_X0_begin_0 C a k p0 p1 S q  hm rfl))
end WALKS
