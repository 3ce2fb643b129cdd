section WALKS
variable {E : ENV} {p : Program} {l : Launch} {e : Env} {s : State} {m : MethodId} {args : Array Value} {below : List Frame} {meth : Method} {c : Code} {A : Nat → Prop}
theorem hd_X0_has : yX0_has.cls = RX0 ∧ yX0_has.cls ≠ "java/lang/invoke/MethodHandle" ∧ yX0_has.cls ≠ "java/lang/invoke/VarHandle" ∧ (parseMethodDescriptor yX0_has.desc).map (fun d => d.parameters.length) = some 2 := by decide +kernel
theorem g_X0_107 : GoodIn GW (va_wsS RX0 107 yX0_has (wsG yX0_has cX0_has 2 (some .boolean))) := gw_S wm_2_129 wm_2_130 wm_1_2 wm_2_131
-- ShardGuard$Fleet.isUp(I)Z
theorem dX0_isUp_0 : decode cX0_isUp 0 = .ok (.aload_n 0, 1) := by decide +kernel
theorem dX0_isUp_1 : decode cX0_isUp 1 = .ok (.getfield 62, 3) := by decide +kernel
theorem dX0_isUp_4 : decode cX0_isUp 4 = .ok (.iload_n 1, 1) := by decide +kernel
theorem dX0_isUp_5 : decode cX0_isUp 5 = .ok (.invokestatic 107, 3) := by decide +kernel
theorem dX0_isUp_8 : decode cX0_isUp 8 = .ok (.ireturn, 1) := by decide +kernel
def rm_X0_isUp : Room := { frames := 1, cells := 0, slots := 0, locals := 21 }
def M_X0_isUp_0 (k : Nat) (S : Nat → Nat → Int32) (p0 : Int32) : Option (Int32) := (M_X0_has k (S 0 5) p0).bind fun q1 => if q1 = 0 ∨ q1 = 1 then some q1 else none
set_option maxRecDepth 100000 in
set_option maxHeartbeats 4000000 in
theorem N_X0_isUp_0 (C : CX E p l s m args meth c cX0_isUp 2 RX0 (some .boolean) A) (a : Nat → Nat) (k : Nat) (S : Nat → Nat → Int32) {post : Int32 → va_W → Prop} :
    ∀ (p0 : Int32) (q : Int32), M_X0_isUp_0 k S p0 = some q → post q (wFl E a S) →
      WW E p l e rm_X0_isUp s m args below meth c A 0 0 (QI E below post args s rm_X0_isUp A) (wFl E a S) 2 [some (.ref (a 0)), some (.int p0)] 0 [] := by
  intro p0 q  h hq
  unfold M_X0_isUp_0 at h
  refine r_aload_n (pc := 0) C (i := 0) dX0_isUp_0 rfl rfl ?_
  refine r_get (pc := 1) C gwX0 0 rfl rfl 5 (by decide) wm_1_106 rfl dX0_isUp_1 ?_
  refine r_iload_n (pc := 4) C (i := 1) dX0_isUp_4 rfl rfl ?_
  obtain ⟨q1, hq1, h⟩ := bnd h
  refine r_callSp_CI (pc := 5) C [.int (S 0 5), .int p0] (c_X0_has E l k (S 0 5) p0 hq1) [] rfl (by decide) g_X0_107 hd_X0_has.2 ⟨Nat.le_of_ble_eq_true rfl, Nat.le_of_ble_eq_true rfl⟩ ⟨Nat.zero_le _, Nat.zero_le _⟩ (Nat.le_of_ble_eq_true rfl) rfl dX0_isUp_5 (fun r hr => ?_)
  have hr := hr.symm
  subst hr
  obtain ⟨hz2, h⟩ := ifn h
  cases h
  exact r_iretz (pc := 8) C hz2 hq (Nat.zero_le _) (Nat.zero_le _) dX0_isUp_8
def M_X0_isUp (k : Nat) (S : Nat → Nat → Int32) (p0 : Int32) : Option (Int32) := M_X0_isUp_0 k S p0
set_option maxRecDepth 100000 in
set_option maxHeartbeats 4000000 in
theorem c_X0_isUp (E : ENV) (l : Launch) (k : Nat) (a : Nat → Nat) (S : Nat → Nat → Int32) (p0 : Int32) {q : Int32} (hm : M_X0_isUp k S p0 = some q) : CI E l yX0_isUp cX0_isUp 2 (some .boolean) rm_X0_isUp [.ref (a 0), .int p0] (wFl E a S) (fun r w' => r = q ∧ w' = (wFl E a S)) :=
  CI.of 0 (by decide) (Nat.le_of_ble_eq_true rfl) (fun p e s m below meth c A C _ => r_weak (lSub_s (lSub_s lSub_e)) (N_X0_isUp_0 C a k S p0 q  hm ⟨rfl, rfl⟩))
-- ShardGuard$Fleet.tenantsOn(I)I
theorem dX0_tenantsOn_0 : decode cX0_tenantsOn 0 = .ok (.iconst 0, 1) := by decide +kernel
theorem dX0_tenantsOn_1 : decode cX0_tenantsOn 1 = .ok (.istore_n 2, 1) := by decide +kernel
theorem dX0_tenantsOn_2 : decode cX0_tenantsOn 2 = .ok (.iconst 0, 1) := by decide +kernel
theorem dX0_tenantsOn_3 : decode cX0_tenantsOn 3 = .ok (.istore_n 3, 1) := by decide +kernel
theorem dX0_tenantsOn_4 : decode cX0_tenantsOn 4 = .ok (.iload_n 3, 1) := by decide +kernel
theorem dX0_tenantsOn_5 : decode cX0_tenantsOn 5 = .ok (.aload_n 0, 1) := by decide +kernel
theorem dX0_tenantsOn_6 : decode cX0_tenantsOn 6 = .ok (.getfield 52, 3) := by decide +kernel
theorem dX0_tenantsOn_9 : decode cX0_tenantsOn 9 = .ok (.if_icmp .ge 24, 3) := by decide +kernel
theorem dX0_tenantsOn_12 : decode cX0_tenantsOn 12 = .ok (.aload_n 0, 1) := by decide +kernel
theorem dX0_tenantsOn_13 : decode cX0_tenantsOn 13 = .ok (.iload_n 3, 1) := by decide +kernel
theorem dX0_tenantsOn_14 : decode cX0_tenantsOn 14 = .ok (.invokevirtual 115, 3) := by decide +kernel
theorem dX0_tenantsOn_17 : decode cX0_tenantsOn 17 = .ok (.iload_n 1, 1) := by decide +kernel
theorem dX0_tenantsOn_18 : decode cX0_tenantsOn 18 = .ok (.invokestatic 107, 3) := by decide +kernel
theorem dX0_tenantsOn_21 : decode cX0_tenantsOn 21 = .ok (.ifCond .eq 6, 3) := by decide +kernel
theorem dX0_tenantsOn_24 : decode cX0_tenantsOn 24 = .ok (.iinc 2 1, 3) := by decide +kernel
theorem dX0_tenantsOn_27 : decode cX0_tenantsOn 27 = .ok (.iinc 3 1, 3) := by decide +kernel
theorem dX0_tenantsOn_30 : decode cX0_tenantsOn 30 = .ok (.goto (-26), 3) := by decide +kernel
theorem dX0_tenantsOn_33 : decode cX0_tenantsOn 33 = .ok (.iload_n 2, 1) := by decide +kernel
theorem dX0_tenantsOn_34 : decode cX0_tenantsOn 34 = .ok (.ireturn, 1) := by decide +kernel
def rm_X0_tenantsOn : Room := { frames := 2, cells := 0, slots := 0, locals := 45 }
def M_X0_tenantsOn_4 (k : Nat) (S : Nat → Nat → Int32) : Nat → (Int32) → (Int32) → (Int32) → Option (Int32)
  | 0, _, _, _ => none
  | n + 1, x1, x2, x3 => if (S 0 2) ≤ x3 then (some x2) else ((M_X0_shardOf k S x3).bind fun q2 => (M_X0_has k q2 x1).bind fun q3 => if q3 = 0 then (M_X0_tenantsOn_4 k S n x1 x2 (x3 + 1)) else (M_X0_tenantsOn_4 k S n x1 (x2 + 1) (x3 + 1)))
theorem M_X0_tenantsOn_4_s (k : Nat) (S : Nat → Nat → Int32) (n : Nat) (x1 : Int32) (x2 : Int32) (x3 : Int32) : M_X0_tenantsOn_4 k S (n + 1) x1 x2 x3 = (if (S 0 2) ≤ x3 then (some x2) else ((M_X0_shardOf k S x3).bind fun q2 => (M_X0_has k q2 x1).bind fun q3 => if q3 = 0 then (M_X0_tenantsOn_4 k S n x1 x2 (x3 + 1)) else (M_X0_tenantsOn_4 k S n x1 (x2 + 1) (x3 + 1)))) := rfl
set_option maxRecDepth 100000 in
set_option maxHeartbeats 4000000 in
theorem N_X0_tenantsOn_4 (C : CX E p l s m args meth c cX0_tenantsOn 4 RX0 (some .int) A) (a : Nat → Nat) (k : Nat) (S : Nat → Nat → Int32) {post : Int32 → va_W → Prop} :
    ∀ (n : Nat) (x1 : Int32) (x2 : Int32) (x3 : Int32) (q : Int32), M_X0_tenantsOn_4 k S n x1 x2 x3 = some q → post q (wFl E a S) →
      WW E p l e rm_X0_tenantsOn s m args below meth c A 0 0 (QI E below post args s rm_X0_tenantsOn A) (wFl E a S) 4 [some (.ref (a 0)), some (.int x1), some (.int x2), some (.int x3)] 4 [] := by
  intro n
  induction n with
  | zero => intro x1 x2 x3 q  h _; cases h
  | succ n ih =>
    intro x1 x2 x3 q  h hq
    rw [M_X0_tenantsOn_4_s] at h
    refine r_iload_n (pc := 4) C (i := 3) dX0_tenantsOn_4 rfl rfl ?_
    refine r_aload_n (pc := 5) C (i := 0) dX0_tenantsOn_5 rfl rfl ?_
    refine r_get (pc := 6) C gwX0 0 rfl rfl 2 (by decide) wm_1_98 rfl dX0_tenantsOn_6 ?_
    refine r_icmp_ge (pc := 9) C (tgt := 33) dX0_tenantsOn_9 rfl (fun c1 => ?_) (fun c1 => ?_)
    · rw [if_pos c1] at h
      refine r_iload_n (pc := 33) C (i := 2) dX0_tenantsOn_33 rfl rfl ?_
      cases h
      exact r_ireti (pc := 34) C hq (Nat.zero_le _) (Nat.zero_le _) dX0_tenantsOn_34
    · rw [if_neg c1] at h
      refine r_aload_n (pc := 12) C (i := 0) dX0_tenantsOn_12 rfl rfl ?_
      refine r_iload_n (pc := 13) C (i := 3) dX0_tenantsOn_13 rfl rfl ?_
      obtain ⟨q2, hq2, h⟩ := bnd h
      refine r_callVp_CI (Cn := RX0) (pc := 14) C [.int x3] (c_X0_shardOf E l k a S x3 hq2) [0, 1, 2, 3, 4, 5, 6, 7, 8, 9, 10, 11, 12, 13, 14, 15, 16, 17] (hp_X0_isCutOff_0 E a S) (by decide) 0 rfl rfl rfl g_X0_115 hd_X0_shardOf ⟨Nat.le_of_ble_eq_true rfl, Nat.le_of_ble_eq_true rfl⟩ ⟨Nat.zero_le _, Nat.zero_le _⟩ (Nat.le_of_ble_eq_true rfl) rfl dX0_tenantsOn_14 (fun r hr => ?_)
      have hr := hr.symm
      subst hr
      refine r_iload_n (pc := 17) C (i := 1) dX0_tenantsOn_17 rfl rfl ?_
      obtain ⟨q3, hq3, h⟩ := bnd h
      refine r_callSp_CI (pc := 18) C [.int q2, .int x1] (c_X0_has E l k q2 x1 hq3) [] rfl (by decide) g_X0_107 hd_X0_has.2 ⟨Nat.le_of_ble_eq_true rfl, Nat.le_of_ble_eq_true rfl⟩ ⟨Nat.zero_le _, Nat.zero_le _⟩ (Nat.le_of_ble_eq_true rfl) rfl dX0_tenantsOn_18 (fun r hr => ?_)
      have hr := hr.symm
      subst hr
      refine r_if_eq (pc := 21) C (tgt := 27) dX0_tenantsOn_21 rfl (fun c4 => ?_) (fun c4 => ?_)
      · rw [if_pos c4] at h
        refine r_iinc (pc := 27) C (v := (x3 + 1)) dX0_tenantsOn_27 rfl rfl (by decide) rfl ?_
        refine r_goto (pc := 30) C (tgt := 4) dX0_tenantsOn_30 rfl ?_
        refine r_weak (lSub_s (lSub_s (lSub_s (lSub_s lSub_e)))) ?_
        exact ih x1 x2 (x3 + 1) q  h hq
      · rw [if_neg c4] at h
        refine r_iinc (pc := 24) C (v := (x2 + 1)) dX0_tenantsOn_24 rfl rfl (by decide) rfl ?_
        refine r_iinc (pc := 27) C (v := (x3 + 1)) dX0_tenantsOn_27 rfl rfl (by decide) rfl ?_
        refine r_goto (pc := 30) C (tgt := 4) dX0_tenantsOn_30 rfl ?_
        refine r_weak (lSub_s (lSub_s (lSub_s (lSub_s lSub_e)))) ?_
        exact ih x1 (x2 + 1) (x3 + 1) q  h hq
def M_X0_tenantsOn_0 (k : Nat) (S : Nat → Nat → Int32) (p0 : Int32) : Option (Int32) := M_X0_tenantsOn_4 k S k p0 (0 : Int32) (0 : Int32)
set_option maxRecDepth 100000 in
set_option maxHeartbeats 4000000 in
theorem N_X0_tenantsOn_0 (C : CX E p l s m args meth c cX0_tenantsOn 4 RX0 (some .int) A) (a : Nat → Nat) (k : Nat) (S : Nat → Nat → Int32) {post : Int32 → va_W → Prop} :
    ∀ (p0 : Int32) (q : Int32), M_X0_tenantsOn_0 k S p0 = some q → post q (wFl E a S) →
      WW E p l e rm_X0_tenantsOn s m args below meth c A 0 0 (QI E below post args s rm_X0_tenantsOn A) (wFl E a S) 4 [some (.ref (a 0)), some (.int p0), none, none] 0 [] := by
  intro p0 q  h hq
  unfold M_X0_tenantsOn_0 at h
  refine r_iconst (pc := 0) C (v := 0) dX0_tenantsOn_0 (by decide) ?_
  refine r_istore_n (pc := 1) C (i := 2) dX0_tenantsOn_1 rfl (by decide) rfl ?_
  refine r_iconst (pc := 2) C (v := 0) dX0_tenantsOn_2 (by decide) ?_
  refine r_istore_n (pc := 3) C (i := 3) dX0_tenantsOn_3 rfl (by decide) rfl ?_
  refine r_weak (lSub_s (lSub_s (lSub_s (lSub_s lSub_e)))) ?_
  exact N_X0_tenantsOn_4 C a k S k p0 (0 : Int32) (0 : Int32) q  h hq
def M_X0_tenantsOn (k : Nat) (S : Nat → Nat → Int32) (p0 : Int32) : Option (Int32) := M_X0_tenantsOn_0 k S p0
set_option maxRecDepth 100000 in
set_option maxHeartbeats 4000000 in
theorem c_X0_tenantsOn (E : ENV) (l : Launch) (k : Nat) (a : Nat → Nat) (S : Nat → Nat → Int32) (p0 : Int32) {q : Int32} (hm : M_X0_tenantsOn k S p0 = some q) : CI E l yX0_tenantsOn cX0_tenantsOn 4 (some .int) rm_X0_tenantsOn [.ref (a 0), .int p0] (wFl E a S) (fun r w' => r = q ∧ w' = (wFl E a S)) :=
  CI.of 2 (by decide) (Nat.le_of_ble_eq_true rfl) (fun p e s m below meth c A C _ => r_weak (lSub_s (lSub_s (lSub_n (lSub_n lSub_e)))) (N_X0_tenantsOn_0 C a k S p0 q  hm ⟨rfl, rfl⟩))
theorem hd_X0_isUp : yX0_isUp.cls = RX0 ∧ yX0_isUp.cls ≠ "java/lang/invoke/MethodHandle" ∧ yX0_isUp.cls ≠ "java/lang/invoke/VarHandle" ∧ (parseMethodDescriptor yX0_isUp.desc).map (fun d => d.parameters.length) = some 1 := by decide +kernel
theorem g_X0_159 : GoodIn GW (wsV RX0 159 RX0 yX0_isUp (wsG yX0_isUp cX0_isUp 2 (some .boolean))) := gw_V wm_4_158 wm_4_10 wm_4_11 wm_1_2 wm_4_12
-- ShardGuard$Fleet.startWorkers()V
theorem dX0_startWorkers_0 : decode cX0_startWorkers 0 = .ok (.iconst 0, 1) := by decide +kernel
theorem dX0_startWorkers_1 : decode cX0_startWorkers 1 = .ok (.istore_n 1, 1) := by decide +kernel
theorem dX0_startWorkers_2 : decode cX0_startWorkers 2 = .ok (.iload_n 1, 1) := by decide +kernel
theorem dX0_startWorkers_3 : decode cX0_startWorkers 3 = .ok (.aload_n 0, 1) := by decide +kernel
theorem dX0_startWorkers_4 : decode cX0_startWorkers 4 = .ok (.getfield 45, 3) := by decide +kernel
theorem dX0_startWorkers_7 : decode cX0_startWorkers 7 = .ok (.if_icmp .ge 53, 3) := by decide +kernel
theorem dX0_startWorkers_10 : decode cX0_startWorkers 10 = .ok (.aload_n 0, 1) := by decide +kernel
theorem dX0_startWorkers_11 : decode cX0_startWorkers 11 = .ok (.iload_n 1, 1) := by decide +kernel
theorem dX0_startWorkers_12 : decode cX0_startWorkers 12 = .ok (.invokevirtual 159, 3) := by decide +kernel
theorem dX0_startWorkers_15 : decode cX0_startWorkers 15 = .ok (.ifCond .ne 39, 3) := by decide +kernel
theorem dX0_startWorkers_18 : decode cX0_startWorkers 18 = .ok (.aload_n 0, 1) := by decide +kernel
theorem dX0_startWorkers_19 : decode cX0_startWorkers 19 = .ok (.getfield 20, 3) := by decide +kernel
theorem dX0_startWorkers_22 : decode cX0_startWorkers 22 = .ok (.iload_n 1, 1) := by decide +kernel
theorem dX0_startWorkers_23 : decode cX0_startWorkers 23 = .ok (.invokevirtual 122, 3) := by decide +kernel
theorem dX0_startWorkers_26 : decode cX0_startWorkers 26 = .ok (.aload_n 0, 1) := by decide +kernel
theorem dX0_startWorkers_27 : decode cX0_startWorkers 27 = .ok (.getfield 55, 3) := by decide +kernel
theorem dX0_startWorkers_30 : decode cX0_startWorkers 30 = .ok (.if_icmp .gt 24, 3) := by decide +kernel
theorem dX0_startWorkers_33 : decode cX0_startWorkers 33 = .ok (.aload_n 0, 1) := by decide +kernel
theorem dX0_startWorkers_34 : decode cX0_startWorkers 34 = .ok (.dup, 1) := by decide +kernel
theorem dX0_startWorkers_35 : decode cX0_startWorkers 35 = .ok (.getfield 62, 3) := by decide +kernel
theorem dX0_startWorkers_38 : decode cX0_startWorkers 38 = .ok (.iconst 1, 1) := by decide +kernel
theorem dX0_startWorkers_39 : decode cX0_startWorkers 39 = .ok (.iload_n 1, 1) := by decide +kernel
theorem dX0_startWorkers_40 : decode cX0_startWorkers 40 = .ok (.ishl, 1) := by decide +kernel
theorem dX0_startWorkers_41 : decode cX0_startWorkers 41 = .ok (.ior, 1) := by decide +kernel
theorem dX0_startWorkers_42 : decode cX0_startWorkers 42 = .ok (.putfield 62, 3) := by decide +kernel
theorem dX0_startWorkers_45 : decode cX0_startWorkers 45 = .ok (.aload_n 0, 1) := by decide +kernel
theorem dX0_startWorkers_46 : decode cX0_startWorkers 46 = .ok (.getfield 20, 3) := by decide +kernel
theorem dX0_startWorkers_49 : decode cX0_startWorkers 49 = .ok (.iload_n 1, 1) := by decide +kernel
theorem dX0_startWorkers_50 : decode cX0_startWorkers 50 = .ok (.iconst (-1), 1) := by decide +kernel
theorem dX0_startWorkers_51 : decode cX0_startWorkers 51 = .ok (.invokevirtual 65, 3) := by decide +kernel
theorem dX0_startWorkers_54 : decode cX0_startWorkers 54 = .ok (.iinc 1 1, 3) := by decide +kernel
theorem dX0_startWorkers_57 : decode cX0_startWorkers 57 = .ok (.goto (-55), 3) := by decide +kernel
theorem dX0_startWorkers_60 : decode cX0_startWorkers 60 = .ok (.return_, 1) := by decide +kernel
def rm_X0_startWorkers : Room := { frames := 2, cells := 0, slots := 0, locals := 42 }
def M_X0_startWorkers_2 (k : Nat) : Nat → (Int32) → (Nat → Nat → Int32) → Option ((Nat → Nat → Int32))
  | 0, _, _ => none
  | n + 1, x1, S => if (S 0 0) ≤ x1 then (some S) else ((M_X0_isUp k S x1).bind fun q2 => if q2 = 0 then ((M_X5_at k 12 (S 2) x1).bind fun q4 => if (S 0 4) < q4 then (M_X0_startWorkers_2 k n (x1 + 1) S) else (lt (va_up S 0 (upd (S 0) 5 ((S 0 5) ||| ((1 : Int32) <<< (x1 &&& 31))))) fun F6 => (M_X5_put k 12 (F6 2) x1 (-1 : Int32)).bind fun q7 => lt (va_up F6 2 q7) fun F8 => M_X0_startWorkers_2 k n (x1 + 1) F8)) else (M_X0_startWorkers_2 k n (x1 + 1) S))
theorem M_X0_startWorkers_2_s (k : Nat) (n : Nat) (x1 : Int32) (S : Nat → Nat → Int32) : M_X0_startWorkers_2 k (n + 1) x1 S = (if (S 0 0) ≤ x1 then (some S) else ((M_X0_isUp k S x1).bind fun q2 => if q2 = 0 then ((M_X5_at k 12 (S 2) x1).bind fun q4 => if (S 0 4) < q4 then (M_X0_startWorkers_2 k n (x1 + 1) S) else (lt (va_up S 0 (upd (S 0) 5 ((S 0 5) ||| ((1 : Int32) <<< (x1 &&& 31))))) fun F6 => (M_X5_put k 12 (F6 2) x1 (-1 : Int32)).bind fun q7 => lt (va_up F6 2 q7) fun F8 => M_X0_startWorkers_2 k n (x1 + 1) F8)) else (M_X0_startWorkers_2 k n (x1 + 1) S))) := rfl
set_option maxRecDepth 100000 in
set_option maxHeartbeats 4000000 in
theorem N_X0_startWorkers_2 (C : CX E p l s m args meth c cX0_startWorkers 2 RX0 none A) (a : Nat → Nat) (k : Nat) {post : va_W → Prop} :
    ∀ (n : Nat) (x1 : Int32) (S : Nat → Nat → Int32) (q : (Nat → Nat → Int32)), M_X0_startWorkers_2 k n x1 S = some q → post (wFl E a q) →
      WW E p l e rm_X0_startWorkers s m args below meth c A 0 0 (QV E below post args s rm_X0_startWorkers A) (wFl E a S) 2 [some (.ref (a 0)), some (.int x1)] 2 [] := by
  intro n
  induction n with
  | zero => intro x1 S q  h _; cases h
  | succ n ih =>
    intro x1 S q  h hq
    rw [M_X0_startWorkers_2_s] at h
    refine r_iload_n (pc := 2) C (i := 1) dX0_startWorkers_2 rfl rfl ?_
    refine r_aload_n (pc := 3) C (i := 0) dX0_startWorkers_3 rfl rfl ?_
    refine r_get (pc := 4) C gwX0 0 rfl rfl 0 (by decide) wm_1_92 rfl dX0_startWorkers_4 ?_
    refine r_icmp_ge (pc := 7) C (tgt := 60) dX0_startWorkers_7 rfl (fun c1 => ?_) (fun c1 => ?_)
    · rw [if_pos c1] at h
      cases h
      exact r_vret (pc := 60) C hq (Nat.zero_le _) (Nat.zero_le _) dX0_startWorkers_60
    · rw [if_neg c1] at h
      refine r_aload_n (pc := 10) C (i := 0) dX0_startWorkers_10 rfl rfl ?_
      refine r_iload_n (pc := 11) C (i := 1) dX0_startWorkers_11 rfl rfl ?_
      obtain ⟨q2, hq2, h⟩ := bnd h
      refine r_callVp_CI (Cn := RX0) (pc := 12) C [.int x1] (c_X0_isUp E l k a S x1 hq2) [0, 1, 2, 3, 4, 5, 6, 7, 8, 9, 10, 11, 12, 13, 14, 15, 16, 17] (hp_X0_isCutOff_0 E a S) (by decide) 0 rfl rfl rfl g_X0_159 hd_X0_isUp ⟨Nat.le_of_ble_eq_true rfl, Nat.le_of_ble_eq_true rfl⟩ ⟨Nat.zero_le _, Nat.zero_le _⟩ (Nat.le_of_ble_eq_true rfl) rfl dX0_startWorkers_12 (fun r hr => ?_)
      have hr := hr.symm
      subst hr
      refine r_if_ne (pc := 15) C (tgt := 54) dX0_startWorkers_15 rfl (fun c3 => ?_) (fun c3 => ?_)
      · rw [if_neg c3] at h
        refine r_iinc (pc := 54) C (v := (x1 + 1)) dX0_startWorkers_54 rfl rfl (by decide) rfl ?_
        refine r_goto (pc := 57) C (tgt := 2) dX0_startWorkers_57 rfl ?_
        refine r_weak (lSub_s (lSub_s lSub_e)) ?_
        exact ih (x1 + 1) S q  h hq
      · rw [if_pos c3] at h
        refine r_aload_n (pc := 18) C (i := 0) dX0_startWorkers_18 rfl rfl ?_
        refine r_get (pc := 19) C gwX0 0 rfl rfl 7 (by decide) wm_1_111 rfl dX0_startWorkers_19 ?_
        refine r_iload_n (pc := 22) C (i := 1) dX0_startWorkers_22 rfl rfl ?_
        obtain ⟨q4, hq4, h⟩ := bnd h
        refine r_callVp_CI (Cn := RX5) (pc := 23) C [.int x1] (c_X5_at E l k (fun i => a (i + 3)) 12 (S 2) x1 hq4) [3, 4] (hp_X0_takeDown_0 E a S) (by decide) 0 rfl rfl rfl g_X0_122 hd_X5_at ⟨Nat.le_of_ble_eq_true rfl, Nat.le_of_ble_eq_true rfl⟩ ⟨Nat.zero_le _, Nat.zero_le _⟩ (Nat.le_of_ble_eq_true rfl) rfl dX0_startWorkers_23 (fun r hr => ?_)
        have hr := hr.symm
        subst hr
        refine r_aload_n (pc := 26) C (i := 0) dX0_startWorkers_26 rfl rfl ?_
        refine r_get (pc := 27) C gwX0 0 rfl rfl 4 (by decide) wm_1_104 rfl dX0_startWorkers_27 ?_
        refine r_icmp_gt (pc := 30) C (tgt := 54) dX0_startWorkers_30 rfl (fun c5 => ?_) (fun c5 => ?_)
        · rw [if_pos c5] at h
          refine r_iinc (pc := 54) C (v := (x1 + 1)) dX0_startWorkers_54 rfl rfl (by decide) rfl ?_
          refine r_goto (pc := 57) C (tgt := 2) dX0_startWorkers_57 rfl ?_
          refine r_weak (lSub_s (lSub_s lSub_e)) ?_
          exact ih (x1 + 1) S q  h hq
        · rw [if_neg c5] at h
          refine r_aload_n (pc := 33) C (i := 0) dX0_startWorkers_33 rfl rfl ?_
          refine r_dup (pc := 34) C dX0_startWorkers_34 rfl ?_
          refine r_get (pc := 35) C gwX0 0 rfl rfl 5 (by decide) wm_1_106 rfl dX0_startWorkers_35 ?_
          refine r_iconst (pc := 38) C (v := 1) dX0_startWorkers_38 (by decide) ?_
          refine r_iload_n (pc := 39) C (i := 1) dX0_startWorkers_39 rfl rfl ?_
          refine r_ishl (pc := 40) C dX0_startWorkers_40 ?_
          refine r_ior (pc := 41) C dX0_startWorkers_41 ?_
          obtain ⟨F6, hF6, h⟩ := lt_e h
          refine r_put (pc := 42) C gwX0 tyX0 tyX0_ok nmX0 0 rfl rfl 5 (by decide) wm_1_106 rfl rfl rfl rfl (Nat.le_of_ble_eq_true rfl) (w' := (wFl E a F6)) (by rw [hF6]; rfl) dX0_startWorkers_42 ?_
          refine r_aload_n (pc := 45) C (i := 0) dX0_startWorkers_45 rfl rfl ?_
          refine r_get (pc := 46) C gwX0 0 rfl rfl 7 (by decide) wm_1_111 rfl dX0_startWorkers_46 ?_
          refine r_iload_n (pc := 49) C (i := 1) dX0_startWorkers_49 rfl rfl ?_
          refine r_iconst (pc := 50) C (v := (-1)) dX0_startWorkers_50 (by decide) ?_
          obtain ⟨q7, hq7, h⟩ := bnd h
          obtain ⟨F8, hF8, h⟩ := lt_e h
          refine r_callV_CV (Cn := RX5) (pc := 51) C [.int x1, .int (-1 : Int32)] (c_X5_put E l k (fun i => a (i + 3)) 12 (F6 2) x1 (-1 : Int32) hq7) [3, 4] (hp_X0_takeDown_0 E a F6) (by decide) 0 rfl rfl rfl g_X0_65 hd_X5_put ⟨Nat.le_of_ble_eq_true rfl, Nat.le_of_ble_eq_true rfl⟩ ⟨Nat.zero_le _, Nat.zero_le _⟩ (Nat.le_of_ble_eq_true rfl) rfl dX0_startWorkers_51 (fun w1 hw1 => ?_)
          subst hw1
          refine ⟨(wFl E a F8), by rw [hF8]; exact (pw_X0_takeDown_0 E a F6 q7), ?_⟩
          refine r_iinc (pc := 54) C (v := (x1 + 1)) dX0_startWorkers_54 rfl rfl (by decide) rfl ?_
          refine r_goto (pc := 57) C (tgt := 2) dX0_startWorkers_57 rfl ?_
          refine r_weak (lSub_s (lSub_s lSub_e)) ?_
          exact ih (x1 + 1) F8 q  h hq
def M_X0_startWorkers_0 (k : Nat) (S : Nat → Nat → Int32) : Option ((Nat → Nat → Int32)) := M_X0_startWorkers_2 k k (0 : Int32) S
set_option maxRecDepth 100000 in
set_option maxHeartbeats 4000000 in
theorem N_X0_startWorkers_0 (C : CX E p l s m args meth c cX0_startWorkers 2 RX0 none A) (a : Nat → Nat) (k : Nat) {post : va_W → Prop} :
    ∀ (S : Nat → Nat → Int32) (q : (Nat → Nat → Int32)), M_X0_startWorkers_0 k S = some q → post (wFl E a q) →
      WW E p l e rm_X0_startWorkers s m args below meth c A 0 0 (QV E below post args s rm_X0_startWorkers A) (wFl E a S) 2 [some (.ref (a 0)), none] 0 [] := by
  intro S q  h hq
  unfold M_X0_startWorkers_0 at h
  refine r_iconst (pc := 0) C (v := 0) dX0_startWorkers_0 (by decide) ?_
  refine r_istore_n (pc := 1) C (i := 1) dX0_startWorkers_1 rfl (by decide) rfl ?_
  refine r_weak (lSub_s (lSub_s lSub_e)) ?_
  exact N_X0_startWorkers_2 C a k k (0 : Int32) S q  h hq
def M_X0_startWorkers (k : Nat) (S : Nat → Nat → Int32) : Option ((Nat → Nat → Int32)) := M_X0_startWorkers_0 k S
set_option maxRecDepth 100000 in
set_option maxHeartbeats 4000000 in
theorem c_X0_startWorkers (E : ENV) (l : Launch) (k : Nat) (a : Nat → Nat) (S : Nat → Nat → Int32) {q : (Nat → Nat → Int32)} (hm : M_X0_startWorkers k S = some q) : CV E l yX0_startWorkers cX0_startWorkers 2 none rm_X0_startWorkers [.ref (a 0)] (wFl E a S) (fun w' => w' = (wFl E a q)) :=
  CV.of 1 (by decide) (Nat.le_of_ble_eq_true rfl) (fun p e s m below meth c A C _ => r_weak (lSub_s (lSub_n lSub_e)) (N_X0_startWorkers_0 C a k S q  hm rfl))
theorem hd_X3_add : yX3_add.cls = RX3 ∧ yX3_add.cls ≠ "java/lang/invoke/MethodHandle" ∧ yX3_add.cls ≠ "java/lang/invoke/VarHandle" ∧ (parseMethodDescriptor yX3_add.desc).map (fun d => d.parameters.length) = some 3 := by decide +kernel
theorem g_X0_168 : GoodIn GW (wsV RX0 168 RX3 yX3_add (wsG yX3_add cX3_add 4 none)) := gw_V wm_4_185 wm_4_186 wm_4_187 wm_1_5 wm_4_188
theorem hd_X0_takeDown : yX0_takeDown.cls = RX0 ∧ yX0_takeDown.cls ≠ "java/lang/invoke/MethodHandle" ∧ yX0_takeDown.cls ≠ "java/lang/invoke/VarHandle" ∧ (parseMethodDescriptor yX0_takeDown.desc).map (fun d => d.parameters.length) = some 1 := by decide +kernel
theorem g_X0_169 : GoodIn GW (wsV RX0 169 RX0 yX0_takeDown (wsG yX0_takeDown cX0_takeDown 2 none)) := gw_V wm_4_191 wm_4_192 wm_4_193 wm_1_2 wm_4_194
theorem hd_X0_end : yX0_end.cls = RX0 ∧ yX0_end.cls ≠ "java/lang/invoke/MethodHandle" ∧ yX0_end.cls ≠ "java/lang/invoke/VarHandle" ∧ (parseMethodDescriptor yX0_end.desc).map (fun d => d.parameters.length) = some 2 := by decide +kernel
theorem g_X0_101 : GoodIn GW (wsV RX0 101 RX0 yX0_end (wsG yX0_end cX0_end 3 none)) := gw_V wm_3_163 wm_3_165 wm_0_2 wm_1_2 wm_3_166
-- ShardGuard$Fleet.finish(II)Z
theorem dX0_finish_0 : decode cX0_finish 0 = .ok (.aload_n 0, 1) := by decide +kernel
theorem dX0_finish_1 : decode cX0_finish 1 = .ok (.getfield 32, 3) := by decide +kernel
theorem dX0_finish_4 : decode cX0_finish 4 = .ok (.iload_n 1, 1) := by decide +kernel
theorem dX0_finish_5 : decode cX0_finish 5 = .ok (.iconst 3, 1) := by decide +kernel
theorem dX0_finish_6 : decode cX0_finish 6 = .ok (.invokevirtual 111, 3) := by decide +kernel
theorem dX0_finish_9 : decode cX0_finish 9 = .ok (.ifCond .ne 11, 3) := by decide +kernel
theorem dX0_finish_12 : decode cX0_finish 12 = .ok (.aload_n 0, 1) := by decide +kernel
theorem dX0_finish_13 : decode cX0_finish 13 = .ok (.iload_n 1, 1) := by decide +kernel
theorem dX0_finish_14 : decode cX0_finish 14 = .ok (.iconst 2, 1) := by decide +kernel
theorem dX0_finish_15 : decode cX0_finish 15 = .ok (.invokevirtual 101, 3) := by decide +kernel
theorem dX0_finish_18 : decode cX0_finish 18 = .ok (.iconst 1, 1) := by decide +kernel
theorem dX0_finish_19 : decode cX0_finish 19 = .ok (.ireturn, 1) := by decide +kernel
theorem dX0_finish_20 : decode cX0_finish 20 = .ok (.aload_n 0, 1) := by decide +kernel
theorem dX0_finish_21 : decode cX0_finish 21 = .ok (.getfield 38, 3) := by decide +kernel
theorem dX0_finish_24 : decode cX0_finish 24 = .ok (.aload_n 0, 1) := by decide +kernel
theorem dX0_finish_25 : decode cX0_finish 25 = .ok (.getfield 32, 3) := by decide +kernel
theorem dX0_finish_28 : decode cX0_finish 28 = .ok (.iload_n 1, 1) := by decide +kernel
theorem dX0_finish_29 : decode cX0_finish 29 = .ok (.iconst 0, 1) := by decide +kernel
theorem dX0_finish_30 : decode cX0_finish 30 = .ok (.invokevirtual 111, 3) := by decide +kernel
theorem dX0_finish_33 : decode cX0_finish 33 = .ok (.iload_n 2, 1) := by decide +kernel
theorem dX0_finish_34 : decode cX0_finish 34 = .ok (.aload_n 0, 1) := by decide +kernel
theorem dX0_finish_35 : decode cX0_finish 35 = .ok (.getfield 55, 3) := by decide +kernel
theorem dX0_finish_38 : decode cX0_finish 38 = .ok (.invokevirtual 168, 3) := by decide +kernel
theorem dX0_finish_41 : decode cX0_finish 41 = .ok (.aload_n 0, 1) := by decide +kernel
theorem dX0_finish_42 : decode cX0_finish 42 = .ok (.iload_n 2, 1) := by decide +kernel
theorem dX0_finish_43 : decode cX0_finish 43 = .ok (.invokevirtual 169, 3) := by decide +kernel
theorem dX0_finish_46 : decode cX0_finish 46 = .ok (.iconst 0, 1) := by decide +kernel
theorem dX0_finish_47 : decode cX0_finish 47 = .ok (.ireturn, 1) := by decide +kernel
def rm_X0_finish : Room := { frames := 3, cells := 0, slots := 0, locals := 71 }
def M_X0_finish_0 (k : Nat) (p0 : Int32) (p1 : Int32) (S : Nat → Nat → Int32) : Option (Int32 × (Nat → Nat → Int32)) := (M_X6_at k 60 8 480 (S 4) p0 (3 : Int32)).bind fun q1 => if q1 = 0 then ((M_X0_end k S p0 (2 : Int32)).bind fun q7 => some ((1 : Int32), q7)) else ((M_X6_at k 60 8 480 (S 4) p0 (0 : Int32)).bind fun q3 => (M_X3_add k (klF S) q3 p1 (S 0 4)).bind fun q4 => lt (klP S q4) fun F5 => (M_X0_takeDown k F5 p1).bind fun q6 => some ((0 : Int32), q6))
set_option maxRecDepth 100000 in
set_option maxHeartbeats 4000000 in
theorem N_X0_finish_0 (C : CX E p l s m args meth c cX0_finish 3 RX0 (some .boolean) A) (a : Nat → Nat) (k : Nat) {post : Int32 → va_W → Prop} :
    ∀ (p0 : Int32) (p1 : Int32) (S : Nat → Nat → Int32) (q : Int32 × (Nat → Nat → Int32)), M_X0_finish_0 k p0 p1 S = some q → post q.1 (wFl E a q.2) →
      WW E p l e rm_X0_finish s m args below meth c A 0 0 (QI E below post args s rm_X0_finish A) (wFl E a S) 3 [some (.ref (a 0)), some (.int p0), some (.int p1)] 0 [] := by
  intro p0 p1 S q  h hq
  unfold M_X0_finish_0 at h
  refine r_aload_n (pc := 0) C (i := 0) dX0_finish_0 rfl rfl ?_
  refine r_get (pc := 1) C gwX0 0 rfl rfl 9 (by decide) wm_1_115 rfl dX0_finish_1 ?_
  refine r_iload_n (pc := 4) C (i := 1) dX0_finish_4 rfl rfl ?_
  refine r_iconst (pc := 5) C (v := 3) dX0_finish_5 (by decide) ?_
  obtain ⟨q1, hq1, h⟩ := bnd h
  refine r_callVp_CI (Cn := RX6) (pc := 6) C [.int p0, .int (3 : Int32)] (c_X6_at E l k (fun i => a (i + 7)) 60 8 480 (S 4) p0 (3 : Int32) hq1) [7, 8] (hp_X0_addRequest_0 E a S) (by decide) 0 rfl rfl rfl g_X0_111 hd_X6_at ⟨Nat.le_of_ble_eq_true rfl, Nat.le_of_ble_eq_true rfl⟩ ⟨Nat.zero_le _, Nat.zero_le _⟩ (Nat.le_of_ble_eq_true rfl) rfl dX0_finish_6 (fun r hr => ?_)
  have hr := hr.symm
  subst hr
  refine r_if_ne (pc := 9) C (tgt := 20) dX0_finish_9 rfl (fun c2 => ?_) (fun c2 => ?_)
  · rw [if_neg c2] at h
    refine r_aload_n (pc := 20) C (i := 0) dX0_finish_20 rfl rfl ?_
    refine r_get (pc := 21) C gwX0 0 rfl rfl 10 (by decide) wm_1_119 rfl dX0_finish_21 ?_
    refine r_aload_n (pc := 24) C (i := 0) dX0_finish_24 rfl rfl ?_
    refine r_get (pc := 25) C gwX0 0 rfl rfl 9 (by decide) wm_1_115 rfl dX0_finish_25 ?_
    refine r_iload_n (pc := 28) C (i := 1) dX0_finish_28 rfl rfl ?_
    refine r_iconst (pc := 29) C (v := 0) dX0_finish_29 (by decide) ?_
    obtain ⟨q3, hq3, h⟩ := bnd h
    refine r_callVp_CI (Cn := RX6) (pc := 30) C [.int p0, .int (0 : Int32)] (c_X6_at E l k (fun i => a (i + 7)) 60 8 480 (S 4) p0 (0 : Int32) hq3) [7, 8] (hp_X0_addRequest_0 E a S) (by decide) 0 rfl rfl rfl g_X0_111 hd_X6_at ⟨Nat.le_of_ble_eq_true rfl, Nat.le_of_ble_eq_true rfl⟩ ⟨Nat.zero_le _, Nat.zero_le _⟩ (Nat.le_of_ble_eq_true rfl) rfl dX0_finish_30 (fun r hr => ?_)
    have hr := hr.symm
    subst hr
    refine r_iload_n (pc := 33) C (i := 2) dX0_finish_33 rfl rfl ?_
    refine r_aload_n (pc := 34) C (i := 0) dX0_finish_34 rfl rfl ?_
    refine r_get (pc := 35) C gwX0 0 rfl rfl 4 (by decide) wm_1_104 rfl dX0_finish_35 ?_
    obtain ⟨q4, hq4, h⟩ := bnd h
    obtain ⟨F5, hF5, h⟩ := lt_e h
    refine r_callV_CV (Cn := RX3) (pc := 38) C [.int q3, .int p1, .int (S 0 4)] (c_X3_add E l k (fun i => a (i + 9)) (klF S) q3 p1 (S 0 4) hq4) [9, 10, 11, 12, 13, 14, 15] (hp_X0_forgetRequests_1 E a S) (by decide) 0 rfl rfl rfl g_X0_168 hd_X3_add ⟨Nat.le_of_ble_eq_true rfl, Nat.le_of_ble_eq_true rfl⟩ ⟨Nat.zero_le _, Nat.zero_le _⟩ (Nat.le_of_ble_eq_true rfl) rfl dX0_finish_38 (fun w1 hw1 => ?_)
    subst hw1
    refine ⟨(wFl E a F5), by rw [hF5]; exact (pw_X0_forgetRequests_1 E a S q4), ?_⟩
    refine r_aload_n (pc := 41) C (i := 0) dX0_finish_41 rfl rfl ?_
    refine r_iload_n (pc := 42) C (i := 2) dX0_finish_42 rfl rfl ?_
    obtain ⟨q6, hq6, h⟩ := bnd h
    refine r_callV_CV (Cn := RX0) (pc := 43) C [.int p1] (c_X0_takeDown E l k a F5 p1 hq6) [0, 1, 2, 3, 4, 5, 6, 7, 8, 9, 10, 11, 12, 13, 14, 15, 16, 17] (hp_X0_isCutOff_0 E a F5) (by decide) 0 rfl rfl rfl g_X0_169 hd_X0_takeDown ⟨Nat.le_of_ble_eq_true rfl, Nat.le_of_ble_eq_true rfl⟩ ⟨Nat.zero_le _, Nat.zero_le _⟩ (Nat.le_of_ble_eq_true rfl) rfl dX0_finish_43 (fun w1 hw1 => ?_)
    subst hw1
    refine ⟨(wFl E a q6), by exact (pw_X0_finish_0 E a F5 q6), ?_⟩
    refine r_iconst (pc := 46) C (v := 0) dX0_finish_46 (by decide) ?_
    cases h
    exact r_iretz (pc := 47) C (Or.inl rfl) hq (Nat.zero_le _) (Nat.zero_le _) dX0_finish_47
  · rw [if_pos c2] at h
    refine r_aload_n (pc := 12) C (i := 0) dX0_finish_12 rfl rfl ?_
    refine r_iload_n (pc := 13) C (i := 1) dX0_finish_13 rfl rfl ?_
    refine r_iconst (pc := 14) C (v := 2) dX0_finish_14 (by decide) ?_
    obtain ⟨q7, hq7, h⟩ := bnd h
    refine r_callV_CV (Cn := RX0) (pc := 15) C [.int p0, .int (2 : Int32)] (c_X0_end E l k a S p0 (2 : Int32) hq7) [0, 1, 2, 3, 4, 5, 6, 7, 8, 9, 10, 11, 12, 13, 14, 15, 16, 17] (hp_X0_isCutOff_0 E a S) (by decide) 0 rfl rfl rfl g_X0_101 hd_X0_end ⟨Nat.le_of_ble_eq_true rfl, Nat.le_of_ble_eq_true rfl⟩ ⟨Nat.zero_le _, Nat.zero_le _⟩ (Nat.le_of_ble_eq_true rfl) rfl dX0_finish_15 (fun w1 hw1 => ?_)
    subst hw1
    refine ⟨(wFl E a q7), by exact (pw_X0_finish_0 E a S q7), ?_⟩
    refine r_iconst (pc := 18) C (v := 1) dX0_finish_18 (by decide) ?_
    cases h
    exact r_iretz (pc := 19) C (Or.inr rfl) hq (Nat.zero_le _) (Nat.zero_le _) dX0_finish_19
def M_X0_finish (k : Nat) (S : Nat → Nat → Int32) (p0 : Int32) (p1 : Int32) : Option (Int32 × (Nat → Nat → Int32)) := M_X0_finish_0 k p0 p1 S
set_option maxRecDepth 100000 in
set_option maxHeartbeats 4000000 in
theorem c_X0_finish (E : ENV) (l : Launch) (k : Nat) (a : Nat → Nat) (S : Nat → Nat → Int32) (p0 : Int32) (p1 : Int32) {q : Int32 × (Nat → Nat → Int32)} (hm : M_X0_finish k S p0 p1 = some q) : CI E l yX0_finish cX0_finish 3 (some .boolean) rm_X0_finish [.ref (a 0), .int p0, .int p1] (wFl E a S) (fun r w' => r = q.1 ∧ w' = (wFl E a q.2)) :=
  CI.of 0 (by decide) (Nat.le_of_ble_eq_true rfl) (fun p e s m below meth c A C _ => r_weak (lSub_s (lSub_s (lSub_s lSub_e))) (N_X0_finish_0 C a k p0 p1 S q  hm ⟨rfl, rfl⟩))
theorem hd_X0_leaveLine : yX0_leaveLine.cls = RX0 ∧ yX0_leaveLine.cls ≠ "java/lang/invoke/MethodHandle" ∧ yX0_leaveLine.cls ≠ "java/lang/invoke/VarHandle" ∧ (parseMethodDescriptor yX0_leaveLine.desc).map (fun d => d.parameters.length) = some 1 := by decide +kernel
theorem g_X0_156 : GoodIn GW (wsV RX0 156 RX0 yX0_leaveLine (wsG yX0_leaveLine cX0_leaveLine 2 none)) := gw_V wm_4_163 wm_4_165 wm_0_11 wm_1_2 wm_4_166
-- ShardGuard$Fleet.refuseAll(I)V
theorem dX0_refuseAll_0 : decode cX0_refuseAll 0 = .ok (.iconst 0, 1) := by decide +kernel
theorem dX0_refuseAll_1 : decode cX0_refuseAll 1 = .ok (.istore_n 2, 1) := by decide +kernel
theorem dX0_refuseAll_2 : decode cX0_refuseAll 2 = .ok (.aload_n 0, 1) := by decide +kernel
theorem dX0_refuseAll_3 : decode cX0_refuseAll 3 = .ok (.getfield 78, 3) := by decide +kernel
theorem dX0_refuseAll_6 : decode cX0_refuseAll 6 = .ok (.istore_n 3, 1) := by decide +kernel
theorem dX0_refuseAll_7 : decode cX0_refuseAll 7 = .ok (.iload_n 3, 1) := by decide +kernel
theorem dX0_refuseAll_8 : decode cX0_refuseAll 8 = .ok (.ifCond .le 51, 3) := by decide +kernel
theorem dX0_refuseAll_11 : decode cX0_refuseAll 11 = .ok (.aload_n 0, 1) := by decide +kernel
theorem dX0_refuseAll_12 : decode cX0_refuseAll 12 = .ok (.getfield 42, 3) := by decide +kernel
theorem dX0_refuseAll_15 : decode cX0_refuseAll 15 = .ok (.iload_n 2, 1) := by decide +kernel
theorem dX0_refuseAll_16 : decode cX0_refuseAll 16 = .ok (.invokevirtual 122, 3) := by decide +kernel
theorem dX0_refuseAll_19 : decode cX0_refuseAll 19 = .ok (.istore 4, 2) := by decide +kernel
theorem dX0_refuseAll_21 : decode cX0_refuseAll 21 = .ok (.aload_n 0, 1) := by decide +kernel
theorem dX0_refuseAll_22 : decode cX0_refuseAll 22 = .ok (.getfield 32, 3) := by decide +kernel
theorem dX0_refuseAll_25 : decode cX0_refuseAll 25 = .ok (.iload 4, 2) := by decide +kernel
theorem dX0_refuseAll_27 : decode cX0_refuseAll 27 = .ok (.iconst 0, 1) := by decide +kernel
theorem dX0_refuseAll_28 : decode cX0_refuseAll 28 = .ok (.invokevirtual 111, 3) := by decide +kernel
theorem dX0_refuseAll_31 : decode cX0_refuseAll 31 = .ok (.iload_n 1, 1) := by decide +kernel
theorem dX0_refuseAll_32 : decode cX0_refuseAll 32 = .ok (.if_icmp .ne 18, 3) := by decide +kernel
theorem dX0_refuseAll_35 : decode cX0_refuseAll 35 = .ok (.aload_n 0, 1) := by decide +kernel
theorem dX0_refuseAll_36 : decode cX0_refuseAll 36 = .ok (.iload_n 2, 1) := by decide +kernel
theorem dX0_refuseAll_37 : decode cX0_refuseAll 37 = .ok (.invokevirtual 156, 3) := by decide +kernel
theorem dX0_refuseAll_40 : decode cX0_refuseAll 40 = .ok (.aload_n 0, 1) := by decide +kernel
theorem dX0_refuseAll_41 : decode cX0_refuseAll 41 = .ok (.iload 4, 2) := by decide +kernel
theorem dX0_refuseAll_43 : decode cX0_refuseAll 43 = .ok (.iconst 4, 1) := by decide +kernel
theorem dX0_refuseAll_44 : decode cX0_refuseAll 44 = .ok (.invokevirtual 101, 3) := by decide +kernel
theorem dX0_refuseAll_47 : decode cX0_refuseAll 47 = .ok (.goto 6, 3) := by decide +kernel
theorem dX0_refuseAll_50 : decode cX0_refuseAll 50 = .ok (.iinc 2 1, 3) := by decide +kernel
theorem dX0_refuseAll_53 : decode cX0_refuseAll 53 = .ok (.iinc 3 (-1), 3) := by decide +kernel
theorem dX0_refuseAll_56 : decode cX0_refuseAll 56 = .ok (.goto (-49), 3) := by decide +kernel
theorem dX0_refuseAll_59 : decode cX0_refuseAll 59 = .ok (.return_, 1) := by decide +kernel
def rm_X0_refuseAll : Room := { frames := 3, cells := 0, slots := 0, locals := 122 }
def M_X0_refuseAll_7 (k : Nat) : Nat → (Int32) → (Int32) → (Int32) → (Nat → Nat → Int32) → Option ((Nat → Nat → Int32))
  | 0, _, _, _, _ => none
  | n + 1, x1, x2, x3, S => if x3 ≤ 0 then (some S) else ((M_X5_at k 60 (S 5) x2).bind fun q2 => (M_X6_at k 60 8 480 (S 4) q2 (0 : Int32)).bind fun q3 => if q3 = x1 then ((M_X0_leaveLine k S x2).bind fun q5 => (M_X0_end k q5 q2 (4 : Int32)).bind fun q6 => M_X0_refuseAll_7 k n x1 x2 (x3 + (-1)) q6) else (M_X0_refuseAll_7 k n x1 (x2 + 1) (x3 + (-1)) S))
theorem M_X0_refuseAll_7_s (k : Nat) (n : Nat) (x1 : Int32) (x2 : Int32) (x3 : Int32) (S : Nat → Nat → Int32) : M_X0_refuseAll_7 k (n + 1) x1 x2 x3 S = (if x3 ≤ 0 then (some S) else ((M_X5_at k 60 (S 5) x2).bind fun q2 => (M_X6_at k 60 8 480 (S 4) q2 (0 : Int32)).bind fun q3 => if q3 = x1 then ((M_X0_leaveLine k S x2).bind fun q5 => (M_X0_end k q5 q2 (4 : Int32)).bind fun q6 => M_X0_refuseAll_7 k n x1 x2 (x3 + (-1)) q6) else (M_X0_refuseAll_7 k n x1 (x2 + 1) (x3 + (-1)) S))) := rfl
set_option maxRecDepth 100000 in
set_option maxHeartbeats 4000000 in
theorem N_X0_refuseAll_7 (C : CX E p l s m args meth c cX0_refuseAll 5 RX0 none A) (a : Nat → Nat) (k : Nat) {post : va_W → Prop} :
    ∀ (n : Nat) (x1 : Int32) (x2 : Int32) (x3 : Int32) (S : Nat → Nat → Int32) (q : (Nat → Nat → Int32)), M_X0_refuseAll_7 k n x1 x2 x3 S = some q → post (wFl E a q) →
      WW E p l e rm_X0_refuseAll s m args below meth c A 0 0 (QV E below post args s rm_X0_refuseAll A) (wFl E a S) 5 [some (.ref (a 0)), some (.int x1), some (.int x2), some (.int x3), none] 7 [] := by
  intro n
  induction n with
  | zero => intro x1 x2 x3 S q  h _; cases h
  | succ n ih =>
    intro x1 x2 x3 S q  h hq
    rw [M_X0_refuseAll_7_s] at h
    refine r_iload_n (pc := 7) C (i := 3) dX0_refuseAll_7 rfl rfl ?_
    refine r_if_le (pc := 8) C (tgt := 59) dX0_refuseAll_8 rfl (fun c1 => ?_) (fun c1 => ?_)
    · rw [if_pos c1] at h
      cases h
      exact r_vret (pc := 59) C hq (Nat.zero_le _) (Nat.zero_le _) dX0_refuseAll_59
    · rw [if_neg c1] at h
      refine r_aload_n (pc := 11) C (i := 0) dX0_refuseAll_11 rfl rfl ?_
      refine r_get (pc := 12) C gwX0 0 rfl rfl 11 (by decide) wm_1_121 rfl dX0_refuseAll_12 ?_
      refine r_iload_n (pc := 15) C (i := 2) dX0_refuseAll_15 rfl rfl ?_
      obtain ⟨q2, hq2, h⟩ := bnd h
      refine r_callVp_CI (Cn := RX5) (pc := 16) C [.int x2] (c_X5_at E l k (fun i => a (i + 16)) 60 (S 5) x2 hq2) [16, 17] (hp_X0_queueLength_0 E a S) (by decide) 0 rfl rfl rfl g_X0_122 hd_X5_at ⟨Nat.le_of_ble_eq_true rfl, Nat.le_of_ble_eq_true rfl⟩ ⟨Nat.zero_le _, Nat.zero_le _⟩ (Nat.le_of_ble_eq_true rfl) rfl dX0_refuseAll_16 (fun r hr => ?_)
      have hr := hr.symm
      subst hr
      refine r_istore (pc := 19) C (i := 4) dX0_refuseAll_19 (by decide) rfl ?_
      refine r_aload_n (pc := 21) C (i := 0) dX0_refuseAll_21 rfl rfl ?_
      refine r_get (pc := 22) C gwX0 0 rfl rfl 9 (by decide) wm_1_115 rfl dX0_refuseAll_22 ?_
      refine r_iload (pc := 25) C (i := 4) dX0_refuseAll_25 rfl ?_
      refine r_iconst (pc := 27) C (v := 0) dX0_refuseAll_27 (by decide) ?_
      obtain ⟨q3, hq3, h⟩ := bnd h
      refine r_callVp_CI (Cn := RX6) (pc := 28) C [.int q2, .int (0 : Int32)] (c_X6_at E l k (fun i => a (i + 7)) 60 8 480 (S 4) q2 (0 : Int32) hq3) [7, 8] (hp_X0_addRequest_0 E a S) (by decide) 0 rfl rfl rfl g_X0_111 hd_X6_at ⟨Nat.le_of_ble_eq_true rfl, Nat.le_of_ble_eq_true rfl⟩ ⟨Nat.zero_le _, Nat.zero_le _⟩ (Nat.le_of_ble_eq_true rfl) rfl dX0_refuseAll_28 (fun r hr => ?_)
      have hr := hr.symm
      subst hr
      refine r_iload_n (pc := 31) C (i := 1) dX0_refuseAll_31 rfl rfl ?_
      refine r_icmp_ne (pc := 32) C (tgt := 50) dX0_refuseAll_32 rfl (fun c4 => ?_) (fun c4 => ?_)
      · rw [if_neg c4] at h
        refine r_iinc (pc := 50) C (v := (x2 + 1)) dX0_refuseAll_50 rfl rfl (by decide) rfl ?_
        refine r_iinc (pc := 53) C (v := (x3 + (-1))) dX0_refuseAll_53 rfl rfl (by decide) rfl ?_
        refine r_goto (pc := 56) C (tgt := 7) dX0_refuseAll_56 rfl ?_
        refine r_weak (lSub_s (lSub_s (lSub_s (lSub_s (lSub_n lSub_e))))) ?_
        exact ih x1 (x2 + 1) (x3 + (-1)) S q  h hq
      · rw [if_pos c4] at h
        refine r_aload_n (pc := 35) C (i := 0) dX0_refuseAll_35 rfl rfl ?_
        refine r_iload_n (pc := 36) C (i := 2) dX0_refuseAll_36 rfl rfl ?_
        obtain ⟨q5, hq5, h⟩ := bnd h
        refine r_callV_CV (Cn := RX0) (pc := 37) C [.int x2] (c_X0_leaveLine E l k a S x2 hq5) [0, 1, 2, 3, 4, 5, 6, 7, 8, 9, 10, 11, 12, 13, 14, 15, 16, 17] (hp_X0_isCutOff_0 E a S) (by decide) 0 rfl rfl rfl g_X0_156 hd_X0_leaveLine ⟨Nat.le_of_ble_eq_true rfl, Nat.le_of_ble_eq_true rfl⟩ ⟨Nat.zero_le _, Nat.zero_le _⟩ (Nat.le_of_ble_eq_true rfl) rfl dX0_refuseAll_37 (fun w1 hw1 => ?_)
        subst hw1
        refine ⟨(wFl E a q5), by exact (pw_X0_finish_0 E a S q5), ?_⟩
        refine r_aload_n (pc := 40) C (i := 0) dX0_refuseAll_40 rfl rfl ?_
        refine r_iload (pc := 41) C (i := 4) dX0_refuseAll_41 rfl ?_
        refine r_iconst (pc := 43) C (v := 4) dX0_refuseAll_43 (by decide) ?_
        obtain ⟨q6, hq6, h⟩ := bnd h
        refine r_callV_CV (Cn := RX0) (pc := 44) C [.int q2, .int (4 : Int32)] (c_X0_end E l k a q5 q2 (4 : Int32) hq6) [0, 1, 2, 3, 4, 5, 6, 7, 8, 9, 10, 11, 12, 13, 14, 15, 16, 17] (hp_X0_isCutOff_0 E a q5) (by decide) 0 rfl rfl rfl g_X0_101 hd_X0_end ⟨Nat.le_of_ble_eq_true rfl, Nat.le_of_ble_eq_true rfl⟩ ⟨Nat.zero_le _, Nat.zero_le _⟩ (Nat.le_of_ble_eq_true rfl) rfl dX0_refuseAll_44 (fun w1 hw1 => ?_)
        subst hw1
        refine ⟨(wFl E a q6), by exact (pw_X0_finish_0 E a q5 q6), ?_⟩
        refine r_goto (pc := 47) C (tgt := 53) dX0_refuseAll_47 rfl ?_
        refine r_iinc (pc := 53) C (v := (x3 + (-1))) dX0_refuseAll_53 rfl rfl (by decide) rfl ?_
        refine r_goto (pc := 56) C (tgt := 7) dX0_refuseAll_56 rfl ?_
        refine r_weak (lSub_s (lSub_s (lSub_s (lSub_s (lSub_n lSub_e))))) ?_
        exact ih x1 x2 (x3 + (-1)) q6 q  h hq
def M_X0_refuseAll_0 (k : Nat) (p0 : Int32) (S : Nat → Nat → Int32) : Option ((Nat → Nat → Int32)) := lt (S 0 6) fun v7 => M_X0_refuseAll_7 k k p0 (0 : Int32) v7 S
set_option maxRecDepth 100000 in
set_option maxHeartbeats 4000000 in
theorem N_X0_refuseAll_0 (C : CX E p l s m args meth c cX0_refuseAll 5 RX0 none A) (a : Nat → Nat) (k : Nat) {post : va_W → Prop} :
    ∀ (p0 : Int32) (S : Nat → Nat → Int32) (q : (Nat → Nat → Int32)), M_X0_refuseAll_0 k p0 S = some q → post (wFl E a q) →
      WW E p l e rm_X0_refuseAll s m args below meth c A 0 0 (QV E below post args s rm_X0_refuseAll A) (wFl E a S) 5 [some (.ref (a 0)), some (.int p0), none, none, none] 0 [] := by
  intro p0 S q  h hq
  unfold M_X0_refuseAll_0 at h
  refine r_iconst (pc := 0) C (v := 0) dX0_refuseAll_0 (by decide) ?_
  refine r_istore_n (pc := 1) C (i := 2) dX0_refuseAll_1 rfl (by decide) rfl ?_
  refine r_aload_n (pc := 2) C (i := 0) dX0_refuseAll_2 rfl rfl ?_
  refine r_get (pc := 3) C gwX0 0 rfl rfl 12 (by decide) wm_1_122 rfl dX0_refuseAll_3 ?_
  obtain ⟨v7, hv7, h⟩ := lt_e h
  refine r_topi hv7 ?_
  refine r_istore_n (pc := 6) C (i := 3) dX0_refuseAll_6 rfl (by decide) rfl ?_
  refine r_weak (lSub_s (lSub_s (lSub_s (lSub_s (lSub_n lSub_e))))) ?_
  exact N_X0_refuseAll_7 C a k k p0 (0 : Int32) v7 S q  h hq
def M_X0_refuseAll (k : Nat) (S : Nat → Nat → Int32) (p0 : Int32) : Option ((Nat → Nat → Int32)) := M_X0_refuseAll_0 k p0 S
set_option maxRecDepth 100000 in
set_option maxHeartbeats 4000000 in
theorem c_X0_refuseAll (E : ENV) (l : Launch) (k : Nat) (a : Nat → Nat) (S : Nat → Nat → Int32) (p0 : Int32) {q : (Nat → Nat → Int32)} (hm : M_X0_refuseAll k S p0 = some q) : CV E l yX0_refuseAll cX0_refuseAll 5 none rm_X0_refuseAll [.ref (a 0), .int p0] (wFl E a S) (fun w' => w' = (wFl E a q)) :=
  CV.of 3 (by decide) (Nat.le_of_ble_eq_true rfl) (fun p e s m below meth c A C _ => r_weak (lSub_s (lSub_s (lSub_n (lSub_n (lSub_n lSub_e))))) (N_X0_refuseAll_0 C a k p0 S q  hm rfl))
theorem hd_X0_loadOf : yX0_loadOf.cls = RX0 ∧ yX0_loadOf.cls ≠ "java/lang/invoke/MethodHandle" ∧ yX0_loadOf.cls ≠ "java/lang/invoke/VarHandle" ∧ (parseMethodDescriptor yX0_loadOf.desc).map (fun d => d.parameters.length) = some 1 := by decide +kernel
theorem g_X0_184 : GoodIn GW (wsV RX0 184 RX0 yX0_loadOf (wsG yX0_loadOf cX0_loadOf 4 (some .int))) := gw_V wm_3_175 wm_3_176 wm_3_177 wm_1_2 wm_3_178
-- ShardGuard$Fleet.leastLoaded(I)I
theorem dX0_leastLoaded_0 : decode cX0_leastLoaded 0 = .ok (.iconst (-1), 1) := by decide +kernel
theorem dX0_leastLoaded_1 : decode cX0_leastLoaded 1 = .ok (.istore_n 2, 1) := by decide +kernel
theorem dX0_leastLoaded_2 : decode cX0_leastLoaded 2 = .ok (.iconst 0, 1) := by decide +kernel
theorem dX0_leastLoaded_3 : decode cX0_leastLoaded 3 = .ok (.istore_n 3, 1) := by decide +kernel
theorem dX0_leastLoaded_4 : decode cX0_leastLoaded 4 = .ok (.iconst 0, 1) := by decide +kernel
theorem dX0_leastLoaded_5 : decode cX0_leastLoaded 5 = .ok (.istore 4, 2) := by decide +kernel
theorem dX0_leastLoaded_7 : decode cX0_leastLoaded 7 = .ok (.iload 4, 2) := by decide +kernel
theorem dX0_leastLoaded_9 : decode cX0_leastLoaded 9 = .ok (.aload_n 0, 1) := by decide +kernel
theorem dX0_leastLoaded_10 : decode cX0_leastLoaded 10 = .ok (.getfield 45, 3) := by decide +kernel
theorem dX0_leastLoaded_13 : decode cX0_leastLoaded 13 = .ok (.if_icmp .ge 48, 3) := by decide +kernel
theorem dX0_leastLoaded_16 : decode cX0_leastLoaded 16 = .ok (.iload_n 1, 1) := by decide +kernel
theorem dX0_leastLoaded_17 : decode cX0_leastLoaded 17 = .ok (.aload_n 0, 1) := by decide +kernel
theorem dX0_leastLoaded_18 : decode cX0_leastLoaded 18 = .ok (.getfield 62, 3) := by decide +kernel
theorem dX0_leastLoaded_21 : decode cX0_leastLoaded 21 = .ok (.iand, 1) := by decide +kernel
theorem dX0_leastLoaded_22 : decode cX0_leastLoaded 22 = .ok (.iload 4, 2) := by decide +kernel
theorem dX0_leastLoaded_24 : decode cX0_leastLoaded 24 = .ok (.invokestatic 107, 3) := by decide +kernel
theorem dX0_leastLoaded_27 : decode cX0_leastLoaded 27 = .ok (.ifCond .eq 28, 3) := by decide +kernel
theorem dX0_leastLoaded_30 : decode cX0_leastLoaded 30 = .ok (.aload_n 0, 1) := by decide +kernel
theorem dX0_leastLoaded_31 : decode cX0_leastLoaded 31 = .ok (.iload 4, 2) := by decide +kernel
theorem dX0_leastLoaded_33 : decode cX0_leastLoaded 33 = .ok (.invokevirtual 184, 3) := by decide +kernel
theorem dX0_leastLoaded_36 : decode cX0_leastLoaded 36 = .ok (.istore 5, 2) := by decide +kernel
theorem dX0_leastLoaded_38 : decode cX0_leastLoaded 38 = .ok (.iload_n 2, 1) := by decide +kernel
theorem dX0_leastLoaded_39 : decode cX0_leastLoaded 39 = .ok (.iconst (-1), 1) := by decide +kernel
theorem dX0_leastLoaded_40 : decode cX0_leastLoaded 40 = .ok (.if_icmp .eq 9, 3) := by decide +kernel
theorem dX0_leastLoaded_43 : decode cX0_leastLoaded 43 = .ok (.iload 5, 2) := by decide +kernel
theorem dX0_leastLoaded_45 : decode cX0_leastLoaded 45 = .ok (.iload_n 3, 1) := by decide +kernel
theorem dX0_leastLoaded_46 : decode cX0_leastLoaded 46 = .ok (.if_icmp .ge 9, 3) := by decide +kernel
theorem dX0_leastLoaded_49 : decode cX0_leastLoaded 49 = .ok (.iload 4, 2) := by decide +kernel
theorem dX0_leastLoaded_51 : decode cX0_leastLoaded 51 = .ok (.istore_n 2, 1) := by decide +kernel
theorem dX0_leastLoaded_52 : decode cX0_leastLoaded 52 = .ok (.iload 5, 2) := by decide +kernel
theorem dX0_leastLoaded_54 : decode cX0_leastLoaded 54 = .ok (.istore_n 3, 1) := by decide +kernel
theorem dX0_leastLoaded_55 : decode cX0_leastLoaded 55 = .ok (.iinc 4 1, 3) := by decide +kernel
theorem dX0_leastLoaded_58 : decode cX0_leastLoaded 58 = .ok (.goto (-51), 3) := by decide +kernel
theorem dX0_leastLoaded_61 : decode cX0_leastLoaded 61 = .ok (.iload_n 2, 1) := by decide +kernel
theorem dX0_leastLoaded_62 : decode cX0_leastLoaded 62 = .ok (.ireturn, 1) := by decide +kernel
def rm_X0_leastLoaded : Room := { frames := 2, cells := 0, slots := 0, locals := 47 }
def M_X0_leastLoaded_7 (k : Nat) (S : Nat → Nat → Int32) : Nat → (Int32) → (Int32) → (Int32) → (Int32) → Option (Int32)
  | 0, _, _, _, _ => none
  | n + 1, x1, x2, x3, x4 => if (S 0 0) ≤ x4 then (some x2) else ((M_X0_has k (x1 &&& (S 0 5)) x4).bind fun q2 => if q2 = 0 then (M_X0_leastLoaded_7 k S n x1 x2 x3 (x4 + 1)) else ((M_X0_loadOf k S x4).bind fun q4 => if x2 = (-1 : Int32) then (M_X0_leastLoaded_7 k S n x1 x4 q4 (x4 + 1)) else (if x3 ≤ q4 then (M_X0_leastLoaded_7 k S n x1 x2 x3 (x4 + 1)) else (M_X0_leastLoaded_7 k S n x1 x4 q4 (x4 + 1)))))
theorem M_X0_leastLoaded_7_s (k : Nat) (S : Nat → Nat → Int32) (n : Nat) (x1 : Int32) (x2 : Int32) (x3 : Int32) (x4 : Int32) : M_X0_leastLoaded_7 k S (n + 1) x1 x2 x3 x4 = (if (S 0 0) ≤ x4 then (some x2) else ((M_X0_has k (x1 &&& (S 0 5)) x4).bind fun q2 => if q2 = 0 then (M_X0_leastLoaded_7 k S n x1 x2 x3 (x4 + 1)) else ((M_X0_loadOf k S x4).bind fun q4 => if x2 = (-1 : Int32) then (M_X0_leastLoaded_7 k S n x1 x4 q4 (x4 + 1)) else (if x3 ≤ q4 then (M_X0_leastLoaded_7 k S n x1 x2 x3 (x4 + 1)) else (M_X0_leastLoaded_7 k S n x1 x4 q4 (x4 + 1)))))) := rfl
set_option maxRecDepth 100000 in
set_option maxHeartbeats 4000000 in
theorem N_X0_leastLoaded_7 (C : CX E p l s m args meth c cX0_leastLoaded 6 RX0 (some .int) A) (a : Nat → Nat) (k : Nat) (S : Nat → Nat → Int32) {post : Int32 → va_W → Prop} :
    ∀ (n : Nat) (x1 : Int32) (x2 : Int32) (x3 : Int32) (x4 : Int32) (q : Int32), M_X0_leastLoaded_7 k S n x1 x2 x3 x4 = some q → post q (wFl E a S) →
      WW E p l e rm_X0_leastLoaded s m args below meth c A 0 0 (QI E below post args s rm_X0_leastLoaded A) (wFl E a S) 6 [some (.ref (a 0)), some (.int x1), some (.int x2), some (.int x3), some (.int x4), none] 7 [] := by
  intro n
  induction n with
  | zero => intro x1 x2 x3 x4 q  h _; cases h
  | succ n ih =>
    intro x1 x2 x3 x4 q  h hq
    rw [M_X0_leastLoaded_7_s] at h
    refine r_iload (pc := 7) C (i := 4) dX0_leastLoaded_7 rfl ?_
    refine r_aload_n (pc := 9) C (i := 0) dX0_leastLoaded_9 rfl rfl ?_
    refine r_get (pc := 10) C gwX0 0 rfl rfl 0 (by decide) wm_1_92 rfl dX0_leastLoaded_10 ?_
    refine r_icmp_ge (pc := 13) C (tgt := 61) dX0_leastLoaded_13 rfl (fun c1 => ?_) (fun c1 => ?_)
    · rw [if_pos c1] at h
      refine r_iload_n (pc := 61) C (i := 2) dX0_leastLoaded_61 rfl rfl ?_
      cases h
      exact r_ireti (pc := 62) C hq (Nat.zero_le _) (Nat.zero_le _) dX0_leastLoaded_62
    · rw [if_neg c1] at h
      refine r_iload_n (pc := 16) C (i := 1) dX0_leastLoaded_16 rfl rfl ?_
      refine r_aload_n (pc := 17) C (i := 0) dX0_leastLoaded_17 rfl rfl ?_
      refine r_get (pc := 18) C gwX0 0 rfl rfl 5 (by decide) wm_1_106 rfl dX0_leastLoaded_18 ?_
      refine r_iand (pc := 21) C dX0_leastLoaded_21 ?_
      refine r_iload (pc := 22) C (i := 4) dX0_leastLoaded_22 rfl ?_
      obtain ⟨q2, hq2, h⟩ := bnd h
      refine r_callSp_CI (pc := 24) C [.int (x1 &&& (S 0 5)), .int x4] (c_X0_has E l k (x1 &&& (S 0 5)) x4 hq2) [] rfl (by decide) g_X0_107 hd_X0_has.2 ⟨Nat.le_of_ble_eq_true rfl, Nat.le_of_ble_eq_true rfl⟩ ⟨Nat.zero_le _, Nat.zero_le _⟩ (Nat.le_of_ble_eq_true rfl) rfl dX0_leastLoaded_24 (fun r hr => ?_)
      have hr := hr.symm
      subst hr
      refine r_if_eq (pc := 27) C (tgt := 55) dX0_leastLoaded_27 rfl (fun c3 => ?_) (fun c3 => ?_)
      · rw [if_pos c3] at h
        refine r_iinc (pc := 55) C (v := (x4 + 1)) dX0_leastLoaded_55 rfl rfl (by decide) rfl ?_
        refine r_goto (pc := 58) C (tgt := 7) dX0_leastLoaded_58 rfl ?_
        refine r_weak (lSub_s (lSub_s (lSub_s (lSub_s (lSub_s (lSub_n lSub_e)))))) ?_
        exact ih x1 x2 x3 (x4 + 1) q  h hq
      · rw [if_neg c3] at h
        refine r_aload_n (pc := 30) C (i := 0) dX0_leastLoaded_30 rfl rfl ?_
        refine r_iload (pc := 31) C (i := 4) dX0_leastLoaded_31 rfl ?_
        obtain ⟨q4, hq4, h⟩ := bnd h
        refine r_callVp_CI (Cn := RX0) (pc := 33) C [.int x4] (c_X0_loadOf E l k a S x4 hq4) [0, 1, 2, 3, 4, 5, 6, 7, 8, 9, 10, 11, 12, 13, 14, 15, 16, 17] (hp_X0_isCutOff_0 E a S) (by decide) 0 rfl rfl rfl g_X0_184 hd_X0_loadOf ⟨Nat.le_of_ble_eq_true rfl, Nat.le_of_ble_eq_true rfl⟩ ⟨Nat.zero_le _, Nat.zero_le _⟩ (Nat.le_of_ble_eq_true rfl) rfl dX0_leastLoaded_33 (fun r hr => ?_)
        have hr := hr.symm
        subst hr
        refine r_istore (pc := 36) C (i := 5) dX0_leastLoaded_36 (by decide) rfl ?_
        refine r_iload_n (pc := 38) C (i := 2) dX0_leastLoaded_38 rfl rfl ?_
        refine r_iconst (pc := 39) C (v := (-1)) dX0_leastLoaded_39 (by decide) ?_
        refine r_icmp_eq (pc := 40) C (tgt := 49) dX0_leastLoaded_40 rfl (fun c5 => ?_) (fun c5 => ?_)
        · rw [if_pos c5] at h
          refine r_iload (pc := 49) C (i := 4) dX0_leastLoaded_49 rfl ?_
          refine r_istore_n (pc := 51) C (i := 2) dX0_leastLoaded_51 rfl (by decide) rfl ?_
          refine r_iload (pc := 52) C (i := 5) dX0_leastLoaded_52 rfl ?_
          refine r_istore_n (pc := 54) C (i := 3) dX0_leastLoaded_54 rfl (by decide) rfl ?_
          refine r_iinc (pc := 55) C (v := (x4 + 1)) dX0_leastLoaded_55 rfl rfl (by decide) rfl ?_
          refine r_goto (pc := 58) C (tgt := 7) dX0_leastLoaded_58 rfl ?_
          refine r_weak (lSub_s (lSub_s (lSub_s (lSub_s (lSub_s (lSub_n lSub_e)))))) ?_
          exact ih x1 x4 q4 (x4 + 1) q  h hq
        · rw [if_neg c5] at h
          refine r_iload (pc := 43) C (i := 5) dX0_leastLoaded_43 rfl ?_
          refine r_iload_n (pc := 45) C (i := 3) dX0_leastLoaded_45 rfl rfl ?_
          refine r_icmp_ge (pc := 46) C (tgt := 55) dX0_leastLoaded_46 rfl (fun c6 => ?_) (fun c6 => ?_)
          · rw [if_pos c6] at h
            refine r_iinc (pc := 55) C (v := (x4 + 1)) dX0_leastLoaded_55 rfl rfl (by decide) rfl ?_
            refine r_goto (pc := 58) C (tgt := 7) dX0_leastLoaded_58 rfl ?_
            refine r_weak (lSub_s (lSub_s (lSub_s (lSub_s (lSub_s (lSub_n lSub_e)))))) ?_
            exact ih x1 x2 x3 (x4 + 1) q  h hq
          · rw [if_neg c6] at h
            refine r_iload (pc := 49) C (i := 4) dX0_leastLoaded_49 rfl ?_
            refine r_istore_n (pc := 51) C (i := 2) dX0_leastLoaded_51 rfl (by decide) rfl ?_
            refine r_iload (pc := 52) C (i := 5) dX0_leastLoaded_52 rfl ?_
            refine r_istore_n (pc := 54) C (i := 3) dX0_leastLoaded_54 rfl (by decide) rfl ?_
            refine r_iinc (pc := 55) C (v := (x4 + 1)) dX0_leastLoaded_55 rfl rfl (by decide) rfl ?_
            refine r_goto (pc := 58) C (tgt := 7) dX0_leastLoaded_58 rfl ?_
            refine r_weak (lSub_s (lSub_s (lSub_s (lSub_s (lSub_s (lSub_n lSub_e)))))) ?_
            exact ih x1 x4 q4 (x4 + 1) q  h hq
def M_X0_leastLoaded_0 (k : Nat) (S : Nat → Nat → Int32) (p0 : Int32) : Option (Int32) := M_X0_leastLoaded_7 k S k p0 (-1 : Int32) (0 : Int32) (0 : Int32)
set_option maxRecDepth 100000 in
set_option maxHeartbeats 4000000 in
theorem N_X0_leastLoaded_0 (C : CX E p l s m args meth c cX0_leastLoaded 6 RX0 (some .int) A) (a : Nat → Nat) (k : Nat) (S : Nat → Nat → Int32) {post : Int32 → va_W → Prop} :
    ∀ (p0 : Int32) (q : Int32), M_X0_leastLoaded_0 k S p0 = some q → post q (wFl E a S) →
      WW E p l e rm_X0_leastLoaded s m args below meth c A 0 0 (QI E below post args s rm_X0_leastLoaded A) (wFl E a S) 6 [some (.ref (a 0)), some (.int p0), none, none, none, none] 0 [] := by
  intro p0 q  h hq
  unfold M_X0_leastLoaded_0 at h
  refine r_iconst (pc := 0) C (v := (-1)) dX0_leastLoaded_0 (by decide) ?_
  refine r_istore_n (pc := 1) C (i := 2) dX0_leastLoaded_1 rfl (by decide) rfl ?_
  refine r_iconst (pc := 2) C (v := 0) dX0_leastLoaded_2 (by decide) ?_
  refine r_istore_n (pc := 3) C (i := 3) dX0_leastLoaded_3 rfl (by decide) rfl ?_
  refine r_iconst (pc := 4) C (v := 0) dX0_leastLoaded_4 (by decide) ?_
  refine r_istore (pc := 5) C (i := 4) dX0_leastLoaded_5 (by decide) rfl ?_
  refine r_weak (lSub_s (lSub_s (lSub_s (lSub_s (lSub_s (lSub_n lSub_e)))))) ?_
  exact N_X0_leastLoaded_7 C a k S k p0 (-1 : Int32) (0 : Int32) (0 : Int32) q  h hq
def M_X0_leastLoaded (k : Nat) (S : Nat → Nat → Int32) (p0 : Int32) : Option (Int32) := M_X0_leastLoaded_0 k S p0
set_option maxRecDepth 100000 in
set_option maxHeartbeats 4000000 in
theorem c_X0_leastLoaded (E : ENV) (l : Launch) (k : Nat) (a : Nat → Nat) (S : Nat → Nat → Int32) (p0 : Int32) {q : Int32} (hm : M_X0_leastLoaded k S p0 = some q) : CI E l yX0_leastLoaded cX0_leastLoaded 6 (some .int) rm_X0_leastLoaded [.ref (a 0), .int p0] (wFl E a S) (fun r w' => r = q ∧ w' = (wFl E a S)) :=
  CI.of 4 (by decide) (Nat.le_of_ble_eq_true rfl) (fun p e s m below meth c A C _ => r_weak (lSub_s (lSub_s (lSub_n (lSub_n (lSub_n (lSub_n lSub_e)))))) (N_X0_leastLoaded_0 C a k S p0 q  hm ⟨rfl, rfl⟩))
end WALKS
