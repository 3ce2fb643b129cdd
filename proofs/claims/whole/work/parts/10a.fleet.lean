section WALKS
variable {E : ENV} {p : Program} {l : Launch} {e : Env} {s : State} {m : MethodId} {args : Array Value} {below : List Frame} {meth : Method} {c : Code} {A : Nat → Prop}
theorem g_X0_84 : GoodIn GW (wsV RX0 84 RX6 yX6_put (wsG yX6_put cX6_put 6 none)) := gw_V wm_2_11 wm_2_12 wm_2_13 wm_1_4 wm_2_14
theorem hd_X3_clear : yX3_clear.cls = RX3 ∧ yX3_clear.cls ≠ "java/lang/invoke/MethodHandle" ∧ yX3_clear.cls ≠ "java/lang/invoke/VarHandle" ∧ (parseMethodDescriptor yX3_clear.desc).map (fun d => d.parameters.length) = some 0 := by decide +kernel
theorem g_X0_81 : GoodIn GW (wsV RX0 81 RX3 yX3_clear (wsG yX3_clear cX3_clear 1 none)) := gw_V wm_2_3 wm_2_4 wm_2_5 wm_1_5 wm_2_6
-- ShardGuard$Fleet.forgetRequests()V
set_option maxHeartbeats 8000000 in
theorem hp_X0_forgetRequests_0 (E : ENV) (a : Nat → Nat) (S : Nat → Nat → Int32) : ([5, 6] : List Nat).map (fun i => (wFl E a S)[i]?) = (wTab E (fun i => a (i + 5)) 12 3 36 (S 3)).map some := rfl
set_option maxHeartbeats 8000000 in
theorem pw_X0_forgetRequests_0 (E : ENV) (a : Nat → Nat) (S : Nat → Nat → Int32) (X0 : Nat → Int32) : putW (wFl E a S) [5, 6] (wTab E (fun i => a (i + 5)) 12 3 36 X0) = some (wFl E a (va_up S 3 X0)) := rfl
set_option maxHeartbeats 8000000 in
theorem hp_X0_forgetRequests_1 (E : ENV) (a : Nat → Nat) (S : Nat → Nat → Int32) : ([9, 10, 11, 12, 13, 14, 15] : List Nat).map (fun i => (wFl E a S)[i]?) = (wKl E (fun i => a (i + 9)) (klF S)).map some := rfl
set_option maxHeartbeats 8000000 in
theorem pw_X0_forgetRequests_1 (E : ENV) (a : Nat → Nat) (S : Nat → Nat → Int32) (X0 : Nat → Nat → Int32) : putW (wFl E a S) [9, 10, 11, 12, 13, 14, 15] (wKl E (fun i => a (i + 9)) X0) = some (wFl E a (klP S X0)) := rfl
theorem dX0_forgetRequests_0 : decode cX0_forgetRequests 0 = .ok (.aload_n 0, 1) := by decide +kernel
theorem dX0_forgetRequests_1 : decode cX0_forgetRequests 1 = .ok (.iconst 0, 1) := by decide +kernel
theorem dX0_forgetRequests_2 : decode cX0_forgetRequests 2 = .ok (.putfield 75, 3) := by decide +kernel
theorem dX0_forgetRequests_5 : decode cX0_forgetRequests 5 = .ok (.aload_n 0, 1) := by decide +kernel
theorem dX0_forgetRequests_6 : decode cX0_forgetRequests 6 = .ok (.iconst 0, 1) := by decide +kernel
theorem dX0_forgetRequests_7 : decode cX0_forgetRequests 7 = .ok (.putfield 78, 3) := by decide +kernel
theorem dX0_forgetRequests_10 : decode cX0_forgetRequests 10 = .ok (.aload_n 0, 1) := by decide +kernel
theorem dX0_forgetRequests_11 : decode cX0_forgetRequests 11 = .ok (.getfield 38, 3) := by decide +kernel
theorem dX0_forgetRequests_14 : decode cX0_forgetRequests 14 = .ok (.invokevirtual 81, 3) := by decide +kernel
theorem dX0_forgetRequests_17 : decode cX0_forgetRequests 17 = .ok (.iconst 0, 1) := by decide +kernel
theorem dX0_forgetRequests_18 : decode cX0_forgetRequests 18 = .ok (.istore_n 1, 1) := by decide +kernel
theorem dX0_forgetRequests_19 : decode cX0_forgetRequests 19 = .ok (.iload_n 1, 1) := by decide +kernel
theorem dX0_forgetRequests_20 : decode cX0_forgetRequests 20 = .ok (.bipush 12, 2) := by decide +kernel
theorem dX0_forgetRequests_22 : decode cX0_forgetRequests 22 = .ok (.if_icmp .ge 29, 3) := by decide +kernel
theorem dX0_forgetRequests_25 : decode cX0_forgetRequests 25 = .ok (.aload_n 0, 1) := by decide +kernel
theorem dX0_forgetRequests_26 : decode cX0_forgetRequests 26 = .ok (.getfield 28, 3) := by decide +kernel
theorem dX0_forgetRequests_29 : decode cX0_forgetRequests 29 = .ok (.iload_n 1, 1) := by decide +kernel
theorem dX0_forgetRequests_30 : decode cX0_forgetRequests 30 = .ok (.iconst 1, 1) := by decide +kernel
theorem dX0_forgetRequests_31 : decode cX0_forgetRequests 31 = .ok (.iconst (-1), 1) := by decide +kernel
theorem dX0_forgetRequests_32 : decode cX0_forgetRequests 32 = .ok (.invokevirtual 84, 3) := by decide +kernel
theorem dX0_forgetRequests_35 : decode cX0_forgetRequests 35 = .ok (.aload_n 0, 1) := by decide +kernel
theorem dX0_forgetRequests_36 : decode cX0_forgetRequests 36 = .ok (.getfield 28, 3) := by decide +kernel
theorem dX0_forgetRequests_39 : decode cX0_forgetRequests 39 = .ok (.iload_n 1, 1) := by decide +kernel
theorem dX0_forgetRequests_40 : decode cX0_forgetRequests 40 = .ok (.iconst 2, 1) := by decide +kernel
theorem dX0_forgetRequests_41 : decode cX0_forgetRequests 41 = .ok (.iconst 0, 1) := by decide +kernel
theorem dX0_forgetRequests_42 : decode cX0_forgetRequests 42 = .ok (.invokevirtual 84, 3) := by decide +kernel
theorem dX0_forgetRequests_45 : decode cX0_forgetRequests 45 = .ok (.iinc 1 1, 3) := by decide +kernel
theorem dX0_forgetRequests_48 : decode cX0_forgetRequests 48 = .ok (.goto (-29), 3) := by decide +kernel
theorem dX0_forgetRequests_51 : decode cX0_forgetRequests 51 = .ok (.return_, 1) := by decide +kernel
def rm_X0_forgetRequests : Room := { frames := 2, cells := 0, slots := 0, locals := 41 }
def M_X0_forgetRequests_19 (k : Nat) : Nat → (Int32) → (Nat → Nat → Int32) → Option ((Nat → Nat → Int32))
  | 0, _, _ => none
  | n + 1, x1, S => if (12 : Int32) ≤ x1 then (some S) else ((M_X6_put k 12 3 36 (S 3) x1 (1 : Int32) (-1 : Int32)).bind fun q2 => lt (va_up S 3 q2) fun F3 => (M_X6_put k 12 3 36 (F3 3) x1 (2 : Int32) (0 : Int32)).bind fun q4 => lt (va_up F3 3 q4) fun F5 => M_X0_forgetRequests_19 k n (x1 + 1) F5)
theorem M_X0_forgetRequests_19_s (k : Nat) (n : Nat) (x1 : Int32) (S : Nat → Nat → Int32) : M_X0_forgetRequests_19 k (n + 1) x1 S = (if (12 : Int32) ≤ x1 then (some S) else ((M_X6_put k 12 3 36 (S 3) x1 (1 : Int32) (-1 : Int32)).bind fun q2 => lt (va_up S 3 q2) fun F3 => (M_X6_put k 12 3 36 (F3 3) x1 (2 : Int32) (0 : Int32)).bind fun q4 => lt (va_up F3 3 q4) fun F5 => M_X0_forgetRequests_19 k n (x1 + 1) F5)) := rfl
set_option maxRecDepth 100000 in
set_option maxHeartbeats 4000000 in
theorem N_X0_forgetRequests_19 (C : CX E p l s m args meth c cX0_forgetRequests 2 RX0 none A) (a : Nat → Nat) (k : Nat) {post : va_W → Prop} :
    ∀ (n : Nat) (x1 : Int32) (S : Nat → Nat → Int32) (q : (Nat → Nat → Int32)), M_X0_forgetRequests_19 k n x1 S = some q → post (wFl E a q) →
      WW E p l e rm_X0_forgetRequests s m args below meth c A 0 0 (QV E below post args s rm_X0_forgetRequests A) (wFl E a S) 2 [some (.ref (a 0)), some (.int x1)] 19 [] := by
  intro n
  induction n with
  | zero => intro x1 S q  h _; cases h
  | succ n ih =>
    intro x1 S q  h hq
    rw [M_X0_forgetRequests_19_s] at h
    refine r_iload_n (pc := 19) C (i := 1) dX0_forgetRequests_19 rfl rfl ?_
    refine r_bipush (pc := 20) C (v := 12) dX0_forgetRequests_20 (by decide) ?_
    refine r_icmp_ge (pc := 22) C (tgt := 51) dX0_forgetRequests_22 rfl (fun c1 => ?_) (fun c1 => ?_)
    · rw [if_pos c1] at h
      cases h
      exact r_vret (pc := 51) C hq (Nat.zero_le _) (Nat.zero_le _) dX0_forgetRequests_51
    · rw [if_neg c1] at h
      refine r_aload_n (pc := 25) C (i := 0) dX0_forgetRequests_25 rfl rfl ?_
      refine r_get (pc := 26) C gwX0 0 rfl rfl 8 (by decide) wm_1_113 rfl dX0_forgetRequests_26 ?_
      refine r_iload_n (pc := 29) C (i := 1) dX0_forgetRequests_29 rfl rfl ?_
      refine r_iconst (pc := 30) C (v := 1) dX0_forgetRequests_30 (by decide) ?_
      refine r_iconst (pc := 31) C (v := (-1)) dX0_forgetRequests_31 (by decide) ?_
      obtain ⟨q2, hq2, h⟩ := bnd h
      obtain ⟨F3, hF3, h⟩ := lt_e h
      refine r_callV_CV (Cn := RX6) (pc := 32) C [.int x1, .int (1 : Int32), .int (-1 : Int32)] (c_X6_put E l k (fun i => a (i + 5)) 12 3 36 (S 3) x1 (1 : Int32) (-1 : Int32) hq2) [5, 6] (hp_X0_forgetRequests_0 E a S) (by decide) 0 rfl rfl rfl g_X0_84 hd_X6_put ⟨Nat.le_of_ble_eq_true rfl, Nat.le_of_ble_eq_true rfl⟩ ⟨Nat.zero_le _, Nat.zero_le _⟩ (Nat.le_of_ble_eq_true rfl) rfl dX0_forgetRequests_32 (fun w1 hw1 => ?_)
      subst hw1
      refine ⟨(wFl E a F3), by rw [hF3]; exact (pw_X0_forgetRequests_0 E a S q2), ?_⟩
      refine r_aload_n (pc := 35) C (i := 0) dX0_forgetRequests_35 rfl rfl ?_
      refine r_get (pc := 36) C gwX0 0 rfl rfl 8 (by decide) wm_1_113 rfl dX0_forgetRequests_36 ?_
      refine r_iload_n (pc := 39) C (i := 1) dX0_forgetRequests_39 rfl rfl ?_
      refine r_iconst (pc := 40) C (v := 2) dX0_forgetRequests_40 (by decide) ?_
      refine r_iconst (pc := 41) C (v := 0) dX0_forgetRequests_41 (by decide) ?_
      obtain ⟨q4, hq4, h⟩ := bnd h
      obtain ⟨F5, hF5, h⟩ := lt_e h
      refine r_callV_CV (Cn := RX6) (pc := 42) C [.int x1, .int (2 : Int32), .int (0 : Int32)] (c_X6_put E l k (fun i => a (i + 5)) 12 3 36 (F3 3) x1 (2 : Int32) (0 : Int32) hq4) [5, 6] (hp_X0_forgetRequests_0 E a F3) (by decide) 0 rfl rfl rfl g_X0_84 hd_X6_put ⟨Nat.le_of_ble_eq_true rfl, Nat.le_of_ble_eq_true rfl⟩ ⟨Nat.zero_le _, Nat.zero_le _⟩ (Nat.le_of_ble_eq_true rfl) rfl dX0_forgetRequests_42 (fun w1 hw1 => ?_)
      subst hw1
      refine ⟨(wFl E a F5), by rw [hF5]; exact (pw_X0_forgetRequests_0 E a F3 q4), ?_⟩
      refine r_iinc (pc := 45) C (v := (x1 + 1)) dX0_forgetRequests_45 rfl rfl (by decide) rfl ?_
      refine r_goto (pc := 48) C (tgt := 19) dX0_forgetRequests_48 rfl ?_
      refine r_weak (lSub_s (lSub_s lSub_e)) ?_
      exact ih (x1 + 1) F5 q  h hq
def M_X0_forgetRequests_0 (k : Nat) (S : Nat → Nat → Int32) : Option ((Nat → Nat → Int32)) := lt (va_up S 0 (upd (S 0) 3 (0 : Int32))) fun F6 => lt (va_up F6 0 (upd (F6 0) 6 (0 : Int32))) fun F7 => (M_X3_clear k (klF F7)).bind fun q8 => lt (klP F7 q8) fun F9 => M_X0_forgetRequests_19 k k (0 : Int32) F9
set_option maxRecDepth 100000 in
set_option maxHeartbeats 4000000 in
theorem N_X0_forgetRequests_0 (C : CX E p l s m args meth c cX0_forgetRequests 2 RX0 none A) (a : Nat → Nat) (k : Nat) {post : va_W → Prop} :
    ∀ (S : Nat → Nat → Int32) (q : (Nat → Nat → Int32)), M_X0_forgetRequests_0 k S = some q → post (wFl E a q) →
      WW E p l e rm_X0_forgetRequests s m args below meth c A 0 0 (QV E below post args s rm_X0_forgetRequests A) (wFl E a S) 2 [some (.ref (a 0)), none] 0 [] := by
  intro S q  h hq
  unfold M_X0_forgetRequests_0 at h
  refine r_aload_n (pc := 0) C (i := 0) dX0_forgetRequests_0 rfl rfl ?_
  refine r_iconst (pc := 1) C (v := 0) dX0_forgetRequests_1 (by decide) ?_
  obtain ⟨F6, hF6, h⟩ := lt_e h
  refine r_put (pc := 2) C gwX0 tyX0 tyX0_ok nmX0 0 rfl rfl 3 (by decide) wm_1_101 rfl rfl rfl rfl (Nat.le_of_ble_eq_true rfl) (w' := (wFl E a F6)) (by rw [hF6]; rfl) dX0_forgetRequests_2 ?_
  refine r_aload_n (pc := 5) C (i := 0) dX0_forgetRequests_5 rfl rfl ?_
  refine r_iconst (pc := 6) C (v := 0) dX0_forgetRequests_6 (by decide) ?_
  obtain ⟨F7, hF7, h⟩ := lt_e h
  refine r_put (pc := 7) C gwX0 tyX0 tyX0_ok nmX0 0 rfl rfl 12 (by decide) wm_1_122 rfl rfl rfl rfl (Nat.le_of_ble_eq_true rfl) (w' := (wFl E a F7)) (by rw [hF7]; rfl) dX0_forgetRequests_7 ?_
  refine r_aload_n (pc := 10) C (i := 0) dX0_forgetRequests_10 rfl rfl ?_
  refine r_get (pc := 11) C gwX0 0 rfl rfl 10 (by decide) wm_1_119 rfl dX0_forgetRequests_11 ?_
  obtain ⟨q8, hq8, h⟩ := bnd h
  obtain ⟨F9, hF9, h⟩ := lt_e h
  refine r_callV_CV (Cn := RX3) (pc := 14) C [] (c_X3_clear E l k (fun i => a (i + 9)) (klF F7) hq8) [9, 10, 11, 12, 13, 14, 15] (hp_X0_forgetRequests_1 E a F7) (by decide) 0 rfl rfl rfl g_X0_81 hd_X3_clear ⟨Nat.le_of_ble_eq_true rfl, Nat.le_of_ble_eq_true rfl⟩ ⟨Nat.zero_le _, Nat.zero_le _⟩ (Nat.le_of_ble_eq_true rfl) rfl dX0_forgetRequests_14 (fun w1 hw1 => ?_)
  subst hw1
  refine ⟨(wFl E a F9), by rw [hF9]; exact (pw_X0_forgetRequests_1 E a F7 q8), ?_⟩
  refine r_iconst (pc := 17) C (v := 0) dX0_forgetRequests_17 (by decide) ?_
  refine r_istore_n (pc := 18) C (i := 1) dX0_forgetRequests_18 rfl (by decide) rfl ?_
  refine r_weak (lSub_s (lSub_s lSub_e)) ?_
  exact N_X0_forgetRequests_19 C a k k (0 : Int32) F9 q  h hq
def M_X0_forgetRequests (k : Nat) (S : Nat → Nat → Int32) : Option ((Nat → Nat → Int32)) := M_X0_forgetRequests_0 k S
set_option maxRecDepth 100000 in
set_option maxHeartbeats 4000000 in
theorem c_X0_forgetRequests (E : ENV) (l : Launch) (k : Nat) (a : Nat → Nat) (S : Nat → Nat → Int32) {q : (Nat → Nat → Int32)} (hm : M_X0_forgetRequests k S = some q) : CV E l yX0_forgetRequests cX0_forgetRequests 2 none rm_X0_forgetRequests [.ref (a 0)] (wFl E a S) (fun w' => w' = (wFl E a q)) :=
  CV.of 1 (by decide) (Nat.le_of_ble_eq_true rfl) (fun p e s m below meth c A C _ => r_weak (lSub_s (lSub_n lSub_e)) (N_X0_forgetRequests_0 C a k S q  hm rfl))
theorem g_X0_87 : GoodIn GW (wsV RX0 87 RX5 yX5_copyFrom (wsG yX5_copyFrom cX5_copyFrom 2 none)) := gw_V wm_2_96 wm_2_97 wm_2_98 wm_1_3 wm_2_99
theorem g_X0_91 : GoodIn GW (wsV RX0 91 RX6 yX6_copyFrom (wsG yX6_copyFrom cX6_copyFrom 2 none)) := gw_V wm_2_106 wm_2_107 wm_2_108 wm_1_4 wm_2_109
theorem hd_X3_copyFrom : yX3_copyFrom.cls = RX3 ∧ yX3_copyFrom.cls ≠ "java/lang/invoke/MethodHandle" ∧ yX3_copyFrom.cls ≠ "java/lang/invoke/VarHandle" ∧ (parseMethodDescriptor yX3_copyFrom.desc).map (fun d => d.parameters.length) = some 1 := by decide +kernel
theorem g_X0_94 : GoodIn GW (wsV RX0 94 RX3 yX3_copyFrom (wsG yX3_copyFrom cX3_copyFrom 2 none)) := gw_V wm_2_112 wm_2_113 wm_2_114 wm_1_5 wm_2_115
-- ShardGuard$Fleet.copyFrom(LShardGuard$Fleet;)V
set_option maxHeartbeats 8000000 in
theorem hp_X0_copyFrom_0 (E : ENV) (a : Nat → Nat) (b : Nat → Nat) (S : Nat → Nat → Int32) (T : Nat → Nat → Int32) : ([1, 2, 19, 20] : List Nat).map (fun i => (wFl E a S ++ wFl E b T)[i]?) = (wRow E (fun i => a (i + 1)) 5 (S 1) ++ wRow E (fun i => b (i + 1)) 5 (T 1)).map some := rfl
set_option maxHeartbeats 8000000 in
theorem pw_X0_copyFrom_0 (E : ENV) (a : Nat → Nat) (b : Nat → Nat) (S : Nat → Nat → Int32) (T : Nat → Nat → Int32) (X0 : Nat → Int32) : putW (wFl E a S ++ wFl E b T) [1, 2, 19, 20] (wRow E (fun i => a (i + 1)) 5 X0 ++ wRow E (fun i => b (i + 1)) 5 (T 1)) = some (wFl E a (va_up S 1 X0) ++ wFl E b T) := rfl
set_option maxHeartbeats 8000000 in
theorem hp_X0_copyFrom_1 (E : ENV) (a : Nat → Nat) (b : Nat → Nat) (S : Nat → Nat → Int32) (T : Nat → Nat → Int32) : ([3, 4, 21, 22] : List Nat).map (fun i => (wFl E a S ++ wFl E b T)[i]?) = (wRow E (fun i => a (i + 3)) 12 (S 2) ++ wRow E (fun i => b (i + 3)) 12 (T 2)).map some := rfl
set_option maxHeartbeats 8000000 in
theorem pw_X0_copyFrom_1 (E : ENV) (a : Nat → Nat) (b : Nat → Nat) (S : Nat → Nat → Int32) (T : Nat → Nat → Int32) (X0 : Nat → Int32) : putW (wFl E a S ++ wFl E b T) [3, 4, 21, 22] (wRow E (fun i => a (i + 3)) 12 X0 ++ wRow E (fun i => b (i + 3)) 12 (T 2)) = some (wFl E a (va_up S 2 X0) ++ wFl E b T) := rfl
set_option maxHeartbeats 8000000 in
theorem hp_X0_copyFrom_2 (E : ENV) (a : Nat → Nat) (b : Nat → Nat) (S : Nat → Nat → Int32) (T : Nat → Nat → Int32) : ([5, 6, 23, 24] : List Nat).map (fun i => (wFl E a S ++ wFl E b T)[i]?) = (wTab E (fun i => a (i + 5)) 12 3 36 (S 3) ++ wTab E (fun i => b (i + 5)) 12 3 36 (T 3)).map some := rfl
set_option maxHeartbeats 8000000 in
theorem pw_X0_copyFrom_2 (E : ENV) (a : Nat → Nat) (b : Nat → Nat) (S : Nat → Nat → Int32) (T : Nat → Nat → Int32) (X0 : Nat → Int32) : putW (wFl E a S ++ wFl E b T) [5, 6, 23, 24] (wTab E (fun i => a (i + 5)) 12 3 36 X0 ++ wTab E (fun i => b (i + 5)) 12 3 36 (T 3)) = some (wFl E a (va_up S 3 X0) ++ wFl E b T) := rfl
set_option maxHeartbeats 8000000 in
theorem hp_X0_copyFrom_3 (E : ENV) (a : Nat → Nat) (b : Nat → Nat) (S : Nat → Nat → Int32) (T : Nat → Nat → Int32) : ([7, 8, 25, 26] : List Nat).map (fun i => (wFl E a S ++ wFl E b T)[i]?) = (wTab E (fun i => a (i + 7)) 60 8 480 (S 4) ++ wTab E (fun i => b (i + 7)) 60 8 480 (T 4)).map some := rfl
set_option maxHeartbeats 8000000 in
theorem pw_X0_copyFrom_3 (E : ENV) (a : Nat → Nat) (b : Nat → Nat) (S : Nat → Nat → Int32) (T : Nat → Nat → Int32) (X0 : Nat → Int32) : putW (wFl E a S ++ wFl E b T) [7, 8, 25, 26] (wTab E (fun i => a (i + 7)) 60 8 480 X0 ++ wTab E (fun i => b (i + 7)) 60 8 480 (T 4)) = some (wFl E a (va_up S 4 X0) ++ wFl E b T) := rfl
set_option maxHeartbeats 8000000 in
theorem hp_X0_copyFrom_4 (E : ENV) (a : Nat → Nat) (b : Nat → Nat) (S : Nat → Nat → Int32) (T : Nat → Nat → Int32) : ([9, 10, 11, 12, 13, 14, 15, 27, 28, 29, 30, 31, 32, 33] : List Nat).map (fun i => (wFl E a S ++ wFl E b T)[i]?) = (wKl E (fun i => a (i + 9)) (klF S) ++ wKl E (fun i => b (i + 9)) (klF T)).map some := rfl
set_option maxHeartbeats 8000000 in
theorem pw_X0_copyFrom_4 (E : ENV) (a : Nat → Nat) (b : Nat → Nat) (S : Nat → Nat → Int32) (T : Nat → Nat → Int32) (X0 : Nat → Nat → Int32) : putW (wFl E a S ++ wFl E b T) [9, 10, 11, 12, 13, 14, 15, 27, 28, 29, 30, 31, 32, 33] (wKl E (fun i => a (i + 9)) X0 ++ wKl E (fun i => b (i + 9)) (klF T)) = some (wFl E a (klP S X0) ++ wFl E b T) := rfl
set_option maxHeartbeats 8000000 in
theorem hp_X0_copyFrom_5 (E : ENV) (a : Nat → Nat) (b : Nat → Nat) (S : Nat → Nat → Int32) (T : Nat → Nat → Int32) : ([16, 17, 34, 35] : List Nat).map (fun i => (wFl E a S ++ wFl E b T)[i]?) = (wRow E (fun i => a (i + 16)) 60 (S 5) ++ wRow E (fun i => b (i + 16)) 60 (T 5)).map some := rfl
set_option maxHeartbeats 8000000 in
theorem pw_X0_copyFrom_5 (E : ENV) (a : Nat → Nat) (b : Nat → Nat) (S : Nat → Nat → Int32) (T : Nat → Nat → Int32) (X0 : Nat → Int32) : putW (wFl E a S ++ wFl E b T) [16, 17, 34, 35] (wRow E (fun i => a (i + 16)) 60 X0 ++ wRow E (fun i => b (i + 16)) 60 (T 5)) = some (wFl E a (va_up S 5 X0) ++ wFl E b T) := rfl
theorem dX0_copyFrom_0 : decode cX0_copyFrom 0 = .ok (.aload_n 0, 1) := by decide +kernel
theorem dX0_copyFrom_1 : decode cX0_copyFrom 1 = .ok (.aload_n 1, 1) := by decide +kernel
theorem dX0_copyFrom_2 : decode cX0_copyFrom 2 = .ok (.getfield 45, 3) := by decide +kernel
theorem dX0_copyFrom_5 : decode cX0_copyFrom 5 = .ok (.putfield 45, 3) := by decide +kernel
theorem dX0_copyFrom_8 : decode cX0_copyFrom 8 = .ok (.aload_n 0, 1) := by decide +kernel
theorem dX0_copyFrom_9 : decode cX0_copyFrom 9 = .ok (.aload_n 1, 1) := by decide +kernel
theorem dX0_copyFrom_10 : decode cX0_copyFrom 10 = .ok (.getfield 49, 3) := by decide +kernel
theorem dX0_copyFrom_13 : decode cX0_copyFrom 13 = .ok (.putfield 49, 3) := by decide +kernel
theorem dX0_copyFrom_16 : decode cX0_copyFrom 16 = .ok (.aload_n 0, 1) := by decide +kernel
theorem dX0_copyFrom_17 : decode cX0_copyFrom 17 = .ok (.aload_n 1, 1) := by decide +kernel
theorem dX0_copyFrom_18 : decode cX0_copyFrom 18 = .ok (.getfield 52, 3) := by decide +kernel
theorem dX0_copyFrom_21 : decode cX0_copyFrom 21 = .ok (.putfield 52, 3) := by decide +kernel
theorem dX0_copyFrom_24 : decode cX0_copyFrom 24 = .ok (.aload_n 0, 1) := by decide +kernel
theorem dX0_copyFrom_25 : decode cX0_copyFrom 25 = .ok (.aload_n 1, 1) := by decide +kernel
theorem dX0_copyFrom_26 : decode cX0_copyFrom 26 = .ok (.getfield 75, 3) := by decide +kernel
theorem dX0_copyFrom_29 : decode cX0_copyFrom 29 = .ok (.putfield 75, 3) := by decide +kernel
theorem dX0_copyFrom_32 : decode cX0_copyFrom 32 = .ok (.aload_n 0, 1) := by decide +kernel
theorem dX0_copyFrom_33 : decode cX0_copyFrom 33 = .ok (.aload_n 1, 1) := by decide +kernel
theorem dX0_copyFrom_34 : decode cX0_copyFrom 34 = .ok (.getfield 55, 3) := by decide +kernel
theorem dX0_copyFrom_37 : decode cX0_copyFrom 37 = .ok (.putfield 55, 3) := by decide +kernel
theorem dX0_copyFrom_40 : decode cX0_copyFrom 40 = .ok (.aload_n 0, 1) := by decide +kernel
theorem dX0_copyFrom_41 : decode cX0_copyFrom 41 = .ok (.aload_n 1, 1) := by decide +kernel
theorem dX0_copyFrom_42 : decode cX0_copyFrom 42 = .ok (.getfield 62, 3) := by decide +kernel
theorem dX0_copyFrom_45 : decode cX0_copyFrom 45 = .ok (.putfield 62, 3) := by decide +kernel
theorem dX0_copyFrom_48 : decode cX0_copyFrom 48 = .ok (.aload_n 0, 1) := by decide +kernel
theorem dX0_copyFrom_49 : decode cX0_copyFrom 49 = .ok (.getfield 14, 3) := by decide +kernel
theorem dX0_copyFrom_52 : decode cX0_copyFrom 52 = .ok (.aload_n 1, 1) := by decide +kernel
theorem dX0_copyFrom_53 : decode cX0_copyFrom 53 = .ok (.getfield 14, 3) := by decide +kernel
theorem dX0_copyFrom_56 : decode cX0_copyFrom 56 = .ok (.invokevirtual 87, 3) := by decide +kernel
theorem dX0_copyFrom_59 : decode cX0_copyFrom 59 = .ok (.aload_n 0, 1) := by decide +kernel
theorem dX0_copyFrom_60 : decode cX0_copyFrom 60 = .ok (.getfield 20, 3) := by decide +kernel
theorem dX0_copyFrom_63 : decode cX0_copyFrom 63 = .ok (.aload_n 1, 1) := by decide +kernel
theorem dX0_copyFrom_64 : decode cX0_copyFrom 64 = .ok (.getfield 20, 3) := by decide +kernel
theorem dX0_copyFrom_67 : decode cX0_copyFrom 67 = .ok (.invokevirtual 87, 3) := by decide +kernel
theorem dX0_copyFrom_70 : decode cX0_copyFrom 70 = .ok (.aload_n 0, 1) := by decide +kernel
theorem dX0_copyFrom_71 : decode cX0_copyFrom 71 = .ok (.getfield 28, 3) := by decide +kernel
theorem dX0_copyFrom_74 : decode cX0_copyFrom 74 = .ok (.aload_n 1, 1) := by decide +kernel
theorem dX0_copyFrom_75 : decode cX0_copyFrom 75 = .ok (.getfield 28, 3) := by decide +kernel
theorem dX0_copyFrom_78 : decode cX0_copyFrom 78 = .ok (.invokevirtual 91, 3) := by decide +kernel
theorem dX0_copyFrom_81 : decode cX0_copyFrom 81 = .ok (.aload_n 0, 1) := by decide +kernel
theorem dX0_copyFrom_82 : decode cX0_copyFrom 82 = .ok (.getfield 32, 3) := by decide +kernel
theorem dX0_copyFrom_85 : decode cX0_copyFrom 85 = .ok (.aload_n 1, 1) := by decide +kernel
theorem dX0_copyFrom_86 : decode cX0_copyFrom 86 = .ok (.getfield 32, 3) := by decide +kernel
theorem dX0_copyFrom_89 : decode cX0_copyFrom 89 = .ok (.invokevirtual 91, 3) := by decide +kernel
theorem dX0_copyFrom_92 : decode cX0_copyFrom 92 = .ok (.aload_n 0, 1) := by decide +kernel
theorem dX0_copyFrom_93 : decode cX0_copyFrom 93 = .ok (.getfield 38, 3) := by decide +kernel
theorem dX0_copyFrom_96 : decode cX0_copyFrom 96 = .ok (.aload_n 1, 1) := by decide +kernel
theorem dX0_copyFrom_97 : decode cX0_copyFrom 97 = .ok (.getfield 38, 3) := by decide +kernel
theorem dX0_copyFrom_100 : decode cX0_copyFrom 100 = .ok (.invokevirtual 94, 3) := by decide +kernel
theorem dX0_copyFrom_103 : decode cX0_copyFrom 103 = .ok (.aload_n 0, 1) := by decide +kernel
theorem dX0_copyFrom_104 : decode cX0_copyFrom 104 = .ok (.getfield 42, 3) := by decide +kernel
theorem dX0_copyFrom_107 : decode cX0_copyFrom 107 = .ok (.aload_n 1, 1) := by decide +kernel
theorem dX0_copyFrom_108 : decode cX0_copyFrom 108 = .ok (.getfield 42, 3) := by decide +kernel
theorem dX0_copyFrom_111 : decode cX0_copyFrom 111 = .ok (.invokevirtual 87, 3) := by decide +kernel
theorem dX0_copyFrom_114 : decode cX0_copyFrom 114 = .ok (.aload_n 0, 1) := by decide +kernel
theorem dX0_copyFrom_115 : decode cX0_copyFrom 115 = .ok (.aload_n 1, 1) := by decide +kernel
theorem dX0_copyFrom_116 : decode cX0_copyFrom 116 = .ok (.getfield 78, 3) := by decide +kernel
theorem dX0_copyFrom_119 : decode cX0_copyFrom 119 = .ok (.putfield 78, 3) := by decide +kernel
theorem dX0_copyFrom_122 : decode cX0_copyFrom 122 = .ok (.return_, 1) := by decide +kernel
def rm_X0_copyFrom : Room := { frames := 3, cells := 0, slots := 0, locals := 122 }
def M_X0_copyFrom_0 (k : Nat) (T : Nat → Nat → Int32) (S : Nat → Nat → Int32) : Option ((Nat → Nat → Int32)) := lt (va_up S 0 (upd (S 0) 0 (T 0 0))) fun F1 => lt (va_up F1 0 (upd (F1 0) 1 (T 0 1))) fun F2 => lt (va_up F2 0 (upd (F2 0) 2 (T 0 2))) fun F3 => lt (va_up F3 0 (upd (F3 0) 3 (T 0 3))) fun F4 => lt (va_up F4 0 (upd (F4 0) 4 (T 0 4))) fun F5 => lt (va_up F5 0 (upd (F5 0) 5 (T 0 5))) fun F6 => (M_X5_copyFrom k 5 5 (F6 1) (T 1)).bind fun q7 => lt (va_up F6 1 q7) fun F8 => (M_X5_copyFrom k 12 12 (F8 2) (T 2)).bind fun q9 => lt (va_up F8 2 q9) fun F10 => (M_X6_copyFrom k 12 3 36 12 3 36 (F10 3) (T 3)).bind fun q11 => lt (va_up F10 3 q11) fun F12 => (M_X6_copyFrom k 60 8 480 60 8 480 (F12 4) (T 4)).bind fun q13 => lt (va_up F12 4 q13) fun F14 => (M_X3_copyFrom k (klF F14) (klF T)).bind fun q15 => lt (klP F14 q15) fun F16 => (M_X5_copyFrom k 60 60 (F16 5) (T 5)).bind fun q17 => lt (va_up F16 5 q17) fun F18 => lt (va_up F18 0 (upd (F18 0) 6 (T 0 6))) fun F19 => some F19
set_option maxRecDepth 100000 in
set_option maxHeartbeats 4000000 in
theorem N_X0_copyFrom_0 (C : CX E p l s m args meth c cX0_copyFrom 2 RX0 none A) (a : Nat → Nat) (b : Nat → Nat) (k : Nat) (T : Nat → Nat → Int32) {post : va_W → Prop} :
    ∀ (S : Nat → Nat → Int32) (q : (Nat → Nat → Int32)), M_X0_copyFrom_0 k T S = some q → post (wFl E a q ++ wFl E b T) →
      WW E p l e rm_X0_copyFrom s m args below meth c A 0 0 (QV E below post args s rm_X0_copyFrom A) (wFl E a S ++ wFl E b T) 2 [some (.ref (a 0)), some (.ref (b 0))] 0 [] := by
  intro S q  h hq
  unfold M_X0_copyFrom_0 at h
  refine r_aload_n (pc := 0) C (i := 0) dX0_copyFrom_0 rfl rfl ?_
  refine r_aload_n (pc := 1) C (i := 1) dX0_copyFrom_1 rfl rfl ?_
  refine r_get (pc := 2) C gwX0 18 rfl rfl 0 (by decide) wm_1_92 rfl dX0_copyFrom_2 ?_
  obtain ⟨F1, hF1, h⟩ := lt_e h
  refine r_put (pc := 5) C gwX0 tyX0 tyX0_ok nmX0 0 rfl rfl 0 (by decide) wm_1_92 rfl rfl rfl rfl (Nat.le_of_ble_eq_true rfl) (w' := (wFl E a F1 ++ wFl E b T)) (by rw [hF1]; rfl) dX0_copyFrom_5 ?_
  refine r_aload_n (pc := 8) C (i := 0) dX0_copyFrom_8 rfl rfl ?_
  refine r_aload_n (pc := 9) C (i := 1) dX0_copyFrom_9 rfl rfl ?_
  refine r_get (pc := 10) C gwX0 18 rfl rfl 1 (by decide) wm_1_95 rfl dX0_copyFrom_10 ?_
  obtain ⟨F2, hF2, h⟩ := lt_e h
  refine r_put (pc := 13) C gwX0 tyX0 tyX0_ok nmX0 0 rfl rfl 1 (by decide) wm_1_95 rfl rfl rfl rfl (Nat.le_of_ble_eq_true rfl) (w' := (wFl E a F2 ++ wFl E b T)) (by rw [hF2]; rfl) dX0_copyFrom_13 ?_
  refine r_aload_n (pc := 16) C (i := 0) dX0_copyFrom_16 rfl rfl ?_
  refine r_aload_n (pc := 17) C (i := 1) dX0_copyFrom_17 rfl rfl ?_
  refine r_get (pc := 18) C gwX0 18 rfl rfl 2 (by decide) wm_1_98 rfl dX0_copyFrom_18 ?_
  obtain ⟨F3, hF3, h⟩ := lt_e h
  refine r_put (pc := 21) C gwX0 tyX0 tyX0_ok nmX0 0 rfl rfl 2 (by decide) wm_1_98 rfl rfl rfl rfl (Nat.le_of_ble_eq_true rfl) (w' := (wFl E a F3 ++ wFl E b T)) (by rw [hF3]; rfl) dX0_copyFrom_21 ?_
  refine r_aload_n (pc := 24) C (i := 0) dX0_copyFrom_24 rfl rfl ?_
  refine r_aload_n (pc := 25) C (i := 1) dX0_copyFrom_25 rfl rfl ?_
  refine r_get (pc := 26) C gwX0 18 rfl rfl 3 (by decide) wm_1_101 rfl dX0_copyFrom_26 ?_
  obtain ⟨F4, hF4, h⟩ := lt_e h
  refine r_put (pc := 29) C gwX0 tyX0 tyX0_ok nmX0 0 rfl rfl 3 (by decide) wm_1_101 rfl rfl rfl rfl (Nat.le_of_ble_eq_true rfl) (w' := (wFl E a F4 ++ wFl E b T)) (by rw [hF4]; rfl) dX0_copyFrom_29 ?_
  refine r_aload_n (pc := 32) C (i := 0) dX0_copyFrom_32 rfl rfl ?_
  refine r_aload_n (pc := 33) C (i := 1) dX0_copyFrom_33 rfl rfl ?_
  refine r_get (pc := 34) C gwX0 18 rfl rfl 4 (by decide) wm_1_104 rfl dX0_copyFrom_34 ?_
  obtain ⟨F5, hF5, h⟩ := lt_e h
  refine r_put (pc := 37) C gwX0 tyX0 tyX0_ok nmX0 0 rfl rfl 4 (by decide) wm_1_104 rfl rfl rfl rfl (Nat.le_of_ble_eq_true rfl) (w' := (wFl E a F5 ++ wFl E b T)) (by rw [hF5]; rfl) dX0_copyFrom_37 ?_
  refine r_aload_n (pc := 40) C (i := 0) dX0_copyFrom_40 rfl rfl ?_
  refine r_aload_n (pc := 41) C (i := 1) dX0_copyFrom_41 rfl rfl ?_
  refine r_get (pc := 42) C gwX0 18 rfl rfl 5 (by decide) wm_1_106 rfl dX0_copyFrom_42 ?_
  obtain ⟨F6, hF6, h⟩ := lt_e h
  refine r_put (pc := 45) C gwX0 tyX0 tyX0_ok nmX0 0 rfl rfl 5 (by decide) wm_1_106 rfl rfl rfl rfl (Nat.le_of_ble_eq_true rfl) (w' := (wFl E a F6 ++ wFl E b T)) (by rw [hF6]; rfl) dX0_copyFrom_45 ?_
  refine r_aload_n (pc := 48) C (i := 0) dX0_copyFrom_48 rfl rfl ?_
  refine r_get (pc := 49) C gwX0 0 rfl rfl 6 (by decide) wm_1_108 rfl dX0_copyFrom_49 ?_
  refine r_aload_n (pc := 52) C (i := 1) dX0_copyFrom_52 rfl rfl ?_
  refine r_get (pc := 53) C gwX0 18 rfl rfl 6 (by decide) wm_1_108 rfl dX0_copyFrom_53 ?_
  obtain ⟨q7, hq7, h⟩ := bnd h
  obtain ⟨F8, hF8, h⟩ := lt_e h
  refine r_callV_CV (Cn := RX5) (pc := 56) C [.ref (b 1)] (c_X5_copyFrom E l k (fun i => a (i + 1)) (fun i => b (i + 1)) 5 5 (F6 1) (T 1) hq7) [1, 2, 19, 20] (hp_X0_copyFrom_0 E a b F6 T) (by decide) 0 rfl rfl rfl g_X0_87 hd_X5_copyFrom ⟨Nat.le_of_ble_eq_true rfl, Nat.le_of_ble_eq_true rfl⟩ ⟨Nat.zero_le _, Nat.zero_le _⟩ (Nat.le_of_ble_eq_true rfl) rfl dX0_copyFrom_56 (fun w1 hw1 => ?_)
  subst hw1
  refine ⟨(wFl E a F8 ++ wFl E b T), by rw [hF8]; exact (pw_X0_copyFrom_0 E a b F6 T q7), ?_⟩
  refine r_aload_n (pc := 59) C (i := 0) dX0_copyFrom_59 rfl rfl ?_
  refine r_get (pc := 60) C gwX0 0 rfl rfl 7 (by decide) wm_1_111 rfl dX0_copyFrom_60 ?_
  refine r_aload_n (pc := 63) C (i := 1) dX0_copyFrom_63 rfl rfl ?_
  refine r_get (pc := 64) C gwX0 18 rfl rfl 7 (by decide) wm_1_111 rfl dX0_copyFrom_64 ?_
  obtain ⟨q9, hq9, h⟩ := bnd h
  obtain ⟨F10, hF10, h⟩ := lt_e h
  refine r_callV_CV (Cn := RX5) (pc := 67) C [.ref (b 3)] (c_X5_copyFrom E l k (fun i => a (i + 3)) (fun i => b (i + 3)) 12 12 (F8 2) (T 2) hq9) [3, 4, 21, 22] (hp_X0_copyFrom_1 E a b F8 T) (by decide) 0 rfl rfl rfl g_X0_87 hd_X5_copyFrom ⟨Nat.le_of_ble_eq_true rfl, Nat.le_of_ble_eq_true rfl⟩ ⟨Nat.zero_le _, Nat.zero_le _⟩ (Nat.le_of_ble_eq_true rfl) rfl dX0_copyFrom_67 (fun w1 hw1 => ?_)
  subst hw1
  refine ⟨(wFl E a F10 ++ wFl E b T), by rw [hF10]; exact (pw_X0_copyFrom_1 E a b F8 T q9), ?_⟩
  refine r_aload_n (pc := 70) C (i := 0) dX0_copyFrom_70 rfl rfl ?_
  refine r_get (pc := 71) C gwX0 0 rfl rfl 8 (by decide) wm_1_113 rfl dX0_copyFrom_71 ?_
  refine r_aload_n (pc := 74) C (i := 1) dX0_copyFrom_74 rfl rfl ?_
  refine r_get (pc := 75) C gwX0 18 rfl rfl 8 (by decide) wm_1_113 rfl dX0_copyFrom_75 ?_
  obtain ⟨q11, hq11, h⟩ := bnd h
  obtain ⟨F12, hF12, h⟩ := lt_e h
  refine r_callV_CV (Cn := RX6) (pc := 78) C [.ref (b 5)] (c_X6_copyFrom E l k (fun i => a (i + 5)) (fun i => b (i + 5)) 12 3 36 12 3 36 (F10 3) (T 3) hq11) [5, 6, 23, 24] (hp_X0_copyFrom_2 E a b F10 T) (by decide) 0 rfl rfl rfl g_X0_91 hd_X6_copyFrom ⟨Nat.le_of_ble_eq_true rfl, Nat.le_of_ble_eq_true rfl⟩ ⟨Nat.zero_le _, Nat.zero_le _⟩ (Nat.le_of_ble_eq_true rfl) rfl dX0_copyFrom_78 (fun w1 hw1 => ?_)
  subst hw1
  refine ⟨(wFl E a F12 ++ wFl E b T), by rw [hF12]; exact (pw_X0_copyFrom_2 E a b F10 T q11), ?_⟩
  refine r_aload_n (pc := 81) C (i := 0) dX0_copyFrom_81 rfl rfl ?_
  refine r_get (pc := 82) C gwX0 0 rfl rfl 9 (by decide) wm_1_115 rfl dX0_copyFrom_82 ?_
  refine r_aload_n (pc := 85) C (i := 1) dX0_copyFrom_85 rfl rfl ?_
  refine r_get (pc := 86) C gwX0 18 rfl rfl 9 (by decide) wm_1_115 rfl dX0_copyFrom_86 ?_
  obtain ⟨q13, hq13, h⟩ := bnd h
  obtain ⟨F14, hF14, h⟩ := lt_e h
  refine r_callV_CV (Cn := RX6) (pc := 89) C [.ref (b 7)] (c_X6_copyFrom E l k (fun i => a (i + 7)) (fun i => b (i + 7)) 60 8 480 60 8 480 (F12 4) (T 4) hq13) [7, 8, 25, 26] (hp_X0_copyFrom_3 E a b F12 T) (by decide) 0 rfl rfl rfl g_X0_91 hd_X6_copyFrom ⟨Nat.le_of_ble_eq_true rfl, Nat.le_of_ble_eq_true rfl⟩ ⟨Nat.zero_le _, Nat.zero_le _⟩ (Nat.le_of_ble_eq_true rfl) rfl dX0_copyFrom_89 (fun w1 hw1 => ?_)
  subst hw1
  refine ⟨(wFl E a F14 ++ wFl E b T), by rw [hF14]; exact (pw_X0_copyFrom_3 E a b F12 T q13), ?_⟩
  refine r_aload_n (pc := 92) C (i := 0) dX0_copyFrom_92 rfl rfl ?_
  refine r_get (pc := 93) C gwX0 0 rfl rfl 10 (by decide) wm_1_119 rfl dX0_copyFrom_93 ?_
  refine r_aload_n (pc := 96) C (i := 1) dX0_copyFrom_96 rfl rfl ?_
  refine r_get (pc := 97) C gwX0 18 rfl rfl 10 (by decide) wm_1_119 rfl dX0_copyFrom_97 ?_
  obtain ⟨q15, hq15, h⟩ := bnd h
  obtain ⟨F16, hF16, h⟩ := lt_e h
  refine r_callV_CV (Cn := RX3) (pc := 100) C [.ref (b 9)] (c_X3_copyFrom E l k (fun i => a (i + 9)) (fun i => b (i + 9)) (klF F14) (klF T) hq15) [9, 10, 11, 12, 13, 14, 15, 27, 28, 29, 30, 31, 32, 33] (hp_X0_copyFrom_4 E a b F14 T) (by decide) 0 rfl rfl rfl g_X0_94 hd_X3_copyFrom ⟨Nat.le_of_ble_eq_true rfl, Nat.le_of_ble_eq_true rfl⟩ ⟨Nat.zero_le _, Nat.zero_le _⟩ (Nat.le_of_ble_eq_true rfl) rfl dX0_copyFrom_100 (fun w1 hw1 => ?_)
  subst hw1
  refine ⟨(wFl E a F16 ++ wFl E b T), by rw [hF16]; exact (pw_X0_copyFrom_4 E a b F14 T q15), ?_⟩
  refine r_aload_n (pc := 103) C (i := 0) dX0_copyFrom_103 rfl rfl ?_
  refine r_get (pc := 104) C gwX0 0 rfl rfl 11 (by decide) wm_1_121 rfl dX0_copyFrom_104 ?_
  refine r_aload_n (pc := 107) C (i := 1) dX0_copyFrom_107 rfl rfl ?_
  refine r_get (pc := 108) C gwX0 18 rfl rfl 11 (by decide) wm_1_121 rfl dX0_copyFrom_108 ?_
  obtain ⟨q17, hq17, h⟩ := bnd h
  obtain ⟨F18, hF18, h⟩ := lt_e h
  refine r_callV_CV (Cn := RX5) (pc := 111) C [.ref (b 16)] (c_X5_copyFrom E l k (fun i => a (i + 16)) (fun i => b (i + 16)) 60 60 (F16 5) (T 5) hq17) [16, 17, 34, 35] (hp_X0_copyFrom_5 E a b F16 T) (by decide) 0 rfl rfl rfl g_X0_87 hd_X5_copyFrom ⟨Nat.le_of_ble_eq_true rfl, Nat.le_of_ble_eq_true rfl⟩ ⟨Nat.zero_le _, Nat.zero_le _⟩ (Nat.le_of_ble_eq_true rfl) rfl dX0_copyFrom_111 (fun w1 hw1 => ?_)
  subst hw1
  refine ⟨(wFl E a F18 ++ wFl E b T), by rw [hF18]; exact (pw_X0_copyFrom_5 E a b F16 T q17), ?_⟩
  refine r_aload_n (pc := 114) C (i := 0) dX0_copyFrom_114 rfl rfl ?_
  refine r_aload_n (pc := 115) C (i := 1) dX0_copyFrom_115 rfl rfl ?_
  refine r_get (pc := 116) C gwX0 18 rfl rfl 12 (by decide) wm_1_122 rfl dX0_copyFrom_116 ?_
  obtain ⟨F19, hF19, h⟩ := lt_e h
  refine r_put (pc := 119) C gwX0 tyX0 tyX0_ok nmX0 0 rfl rfl 12 (by decide) wm_1_122 rfl rfl rfl rfl (Nat.le_of_ble_eq_true rfl) (w' := (wFl E a F19 ++ wFl E b T)) (by rw [hF19]; rfl) dX0_copyFrom_119 ?_
  cases h
  exact r_vret (pc := 122) C hq (Nat.zero_le _) (Nat.zero_le _) dX0_copyFrom_122
def M_X0_copyFrom (k : Nat) (S : Nat → Nat → Int32) (T : Nat → Nat → Int32) : Option ((Nat → Nat → Int32)) := M_X0_copyFrom_0 k T S
set_option maxRecDepth 100000 in
set_option maxHeartbeats 4000000 in
theorem c_X0_copyFrom (E : ENV) (l : Launch) (k : Nat) (a : Nat → Nat) (b : Nat → Nat) (S : Nat → Nat → Int32) (T : Nat → Nat → Int32) {q : (Nat → Nat → Int32)} (hm : M_X0_copyFrom k S T = some q) : CV E l yX0_copyFrom cX0_copyFrom 2 none rm_X0_copyFrom [.ref (a 0), .ref (b 0)] (wFl E a S ++ wFl E b T) (fun w' => w' = (wFl E a q ++ wFl E b T)) :=
  CV.of 0 (by decide) (Nat.le_of_ble_eq_true rfl) (fun p e s m below meth c A C _ => r_weak (lSub_s (lSub_s lSub_e)) (N_X0_copyFrom_0 C a b k T S q  hm rfl))
-- ShardGuard$Fleet.addTenant(I)V
theorem dX0_addTenant_0 : decode cX0_addTenant 0 = .ok (.aload_n 0, 1) := by decide +kernel
theorem dX0_addTenant_1 : decode cX0_addTenant 1 = .ok (.getfield 28, 3) := by decide +kernel
theorem dX0_addTenant_4 : decode cX0_addTenant 4 = .ok (.aload_n 0, 1) := by decide +kernel
theorem dX0_addTenant_5 : decode cX0_addTenant 5 = .ok (.getfield 52, 3) := by decide +kernel
theorem dX0_addTenant_8 : decode cX0_addTenant 8 = .ok (.iconst 0, 1) := by decide +kernel
theorem dX0_addTenant_9 : decode cX0_addTenant 9 = .ok (.iload_n 1, 1) := by decide +kernel
theorem dX0_addTenant_10 : decode cX0_addTenant 10 = .ok (.invokevirtual 84, 3) := by decide +kernel
theorem dX0_addTenant_13 : decode cX0_addTenant 13 = .ok (.aload_n 0, 1) := by decide +kernel
theorem dX0_addTenant_14 : decode cX0_addTenant 14 = .ok (.dup, 1) := by decide +kernel
theorem dX0_addTenant_15 : decode cX0_addTenant 15 = .ok (.getfield 52, 3) := by decide +kernel
theorem dX0_addTenant_18 : decode cX0_addTenant 18 = .ok (.iconst 1, 1) := by decide +kernel
theorem dX0_addTenant_19 : decode cX0_addTenant 19 = .ok (.iadd, 1) := by decide +kernel
theorem dX0_addTenant_20 : decode cX0_addTenant 20 = .ok (.putfield 52, 3) := by decide +kernel
theorem dX0_addTenant_23 : decode cX0_addTenant 23 = .ok (.return_, 1) := by decide +kernel
def rm_X0_addTenant : Room := { frames := 1, cells := 0, slots := 0, locals := 25 }
def M_X0_addTenant_0 (k : Nat) (p0 : Int32) (S : Nat → Nat → Int32) : Option ((Nat → Nat → Int32)) := (M_X6_put k 12 3 36 (S 3) (S 0 2) (0 : Int32) p0).bind fun q1 => lt (va_up S 3 q1) fun F2 => lt (va_up F2 0 (upd (F2 0) 2 ((F2 0 2) + (1 : Int32)))) fun F3 => some F3
set_option maxRecDepth 100000 in
set_option maxHeartbeats 4000000 in
theorem N_X0_addTenant_0 (C : CX E p l s m args meth c cX0_addTenant 2 RX0 none A) (a : Nat → Nat) (k : Nat) {post : va_W → Prop} :
    ∀ (p0 : Int32) (S : Nat → Nat → Int32) (q : (Nat → Nat → Int32)), M_X0_addTenant_0 k p0 S = some q → post (wFl E a q) →
      WW E p l e rm_X0_addTenant s m args below meth c A 0 0 (QV E below post args s rm_X0_addTenant A) (wFl E a S) 2 [some (.ref (a 0)), some (.int p0)] 0 [] := by
  intro p0 S q  h hq
  unfold M_X0_addTenant_0 at h
  refine r_aload_n (pc := 0) C (i := 0) dX0_addTenant_0 rfl rfl ?_
  refine r_get (pc := 1) C gwX0 0 rfl rfl 8 (by decide) wm_1_113 rfl dX0_addTenant_1 ?_
  refine r_aload_n (pc := 4) C (i := 0) dX0_addTenant_4 rfl rfl ?_
  refine r_get (pc := 5) C gwX0 0 rfl rfl 2 (by decide) wm_1_98 rfl dX0_addTenant_5 ?_
  refine r_iconst (pc := 8) C (v := 0) dX0_addTenant_8 (by decide) ?_
  refine r_iload_n (pc := 9) C (i := 1) dX0_addTenant_9 rfl rfl ?_
  obtain ⟨q1, hq1, h⟩ := bnd h
  obtain ⟨F2, hF2, h⟩ := lt_e h
  refine r_callV_CV (Cn := RX6) (pc := 10) C [.int (S 0 2), .int (0 : Int32), .int p0] (c_X6_put E l k (fun i => a (i + 5)) 12 3 36 (S 3) (S 0 2) (0 : Int32) p0 hq1) [5, 6] (hp_X0_forgetRequests_0 E a S) (by decide) 0 rfl rfl rfl g_X0_84 hd_X6_put ⟨Nat.le_of_ble_eq_true rfl, Nat.le_of_ble_eq_true rfl⟩ ⟨Nat.zero_le _, Nat.zero_le _⟩ (Nat.le_of_ble_eq_true rfl) rfl dX0_addTenant_10 (fun w1 hw1 => ?_)
  subst hw1
  refine ⟨(wFl E a F2), by rw [hF2]; exact (pw_X0_forgetRequests_0 E a S q1), ?_⟩
  refine r_aload_n (pc := 13) C (i := 0) dX0_addTenant_13 rfl rfl ?_
  refine r_dup (pc := 14) C dX0_addTenant_14 rfl ?_
  refine r_get (pc := 15) C gwX0 0 rfl rfl 2 (by decide) wm_1_98 rfl dX0_addTenant_15 ?_
  refine r_iconst (pc := 18) C (v := 1) dX0_addTenant_18 (by decide) ?_
  refine r_iadd (pc := 19) C dX0_addTenant_19 ?_
  obtain ⟨F3, hF3, h⟩ := lt_e h
  refine r_put (pc := 20) C gwX0 tyX0 tyX0_ok nmX0 0 rfl rfl 2 (by decide) wm_1_98 rfl rfl rfl rfl (Nat.le_of_ble_eq_true rfl) (w' := (wFl E a F3)) (by rw [hF3]; rfl) dX0_addTenant_20 ?_
  cases h
  exact r_vret (pc := 23) C hq (Nat.zero_le _) (Nat.zero_le _) dX0_addTenant_23
def M_X0_addTenant (k : Nat) (S : Nat → Nat → Int32) (p0 : Int32) : Option ((Nat → Nat → Int32)) := M_X0_addTenant_0 k p0 S
set_option maxRecDepth 100000 in
set_option maxHeartbeats 4000000 in
theorem c_X0_addTenant (E : ENV) (l : Launch) (k : Nat) (a : Nat → Nat) (S : Nat → Nat → Int32) (p0 : Int32) {q : (Nat → Nat → Int32)} (hm : M_X0_addTenant k S p0 = some q) : CV E l yX0_addTenant cX0_addTenant 2 none rm_X0_addTenant [.ref (a 0), .int p0] (wFl E a S) (fun w' => w' = (wFl E a q)) :=
  CV.of 0 (by decide) (Nat.le_of_ble_eq_true rfl) (fun p e s m below meth c A C _ => r_weak (lSub_s (lSub_s lSub_e)) (N_X0_addTenant_0 C a k p0 S q  hm rfl))
-- ShardGuard$Fleet.allWorkers()I
theorem dX0_allWorkers_0 : decode cX0_allWorkers 0 = .ok (.iconst 1, 1) := by decide +kernel
theorem dX0_allWorkers_1 : decode cX0_allWorkers 1 = .ok (.aload_n 0, 1) := by decide +kernel
theorem dX0_allWorkers_2 : decode cX0_allWorkers 2 = .ok (.getfield 45, 3) := by decide +kernel
theorem dX0_allWorkers_5 : decode cX0_allWorkers 5 = .ok (.ishl, 1) := by decide +kernel
theorem dX0_allWorkers_6 : decode cX0_allWorkers 6 = .ok (.iconst 1, 1) := by decide +kernel
theorem dX0_allWorkers_7 : decode cX0_allWorkers 7 = .ok (.isub, 1) := by decide +kernel
theorem dX0_allWorkers_8 : decode cX0_allWorkers 8 = .ok (.ireturn, 1) := by decide +kernel
def rm_X0_allWorkers : Room := { frames := 0, cells := 0, slots := 0, locals := 0 }
def M_X0_allWorkers_0 (k : Nat) (S : Nat → Nat → Int32) : Option (Int32) := some (((1 : Int32) <<< ((S 0 0) &&& 31)) - (1 : Int32))
set_option maxRecDepth 100000 in
set_option maxHeartbeats 4000000 in
theorem N_X0_allWorkers_0 (C : CX E p l s m args meth c cX0_allWorkers 1 RX0 (some .int) A) (a : Nat → Nat) (k : Nat) (S : Nat → Nat → Int32) {post : Int32 → va_W → Prop} :
    ∀ (q : Int32), M_X0_allWorkers_0 k S = some q → post q (wFl E a S) →
      WW E p l e rm_X0_allWorkers s m args below meth c A 0 0 (QI E below post args s rm_X0_allWorkers A) (wFl E a S) 1 [some (.ref (a 0))] 0 [] := by
  intro  q  h hq
  unfold M_X0_allWorkers_0 at h
  refine r_iconst (pc := 0) C (v := 1) dX0_allWorkers_0 (by decide) ?_
  refine r_aload_n (pc := 1) C (i := 0) dX0_allWorkers_1 rfl rfl ?_
  refine r_get (pc := 2) C gwX0 0 rfl rfl 0 (by decide) wm_1_92 rfl dX0_allWorkers_2 ?_
  refine r_ishl (pc := 5) C dX0_allWorkers_5 ?_
  refine r_iconst (pc := 6) C (v := 1) dX0_allWorkers_6 (by decide) ?_
  refine r_isub (pc := 7) C dX0_allWorkers_7 ?_
  cases h
  exact r_ireti (pc := 8) C hq (Nat.zero_le _) (Nat.zero_le _) dX0_allWorkers_8
def M_X0_allWorkers (k : Nat) (S : Nat → Nat → Int32) : Option (Int32) := M_X0_allWorkers_0 k S
set_option maxRecDepth 100000 in
set_option maxHeartbeats 4000000 in
theorem c_X0_allWorkers (E : ENV) (l : Launch) (k : Nat) (a : Nat → Nat) (S : Nat → Nat → Int32) {q : Int32} (hm : M_X0_allWorkers k S = some q) : CI E l yX0_allWorkers cX0_allWorkers 1 (some .int) rm_X0_allWorkers [.ref (a 0)] (wFl E a S) (fun r w' => r = q ∧ w' = (wFl E a S)) :=
  CI.of 0 (by decide) (Nat.le_of_ble_eq_true rfl) (fun p e s m below meth c A C _ => r_weak (lSub_s lSub_e) (N_X0_allWorkers_0 C a k S q  hm ⟨rfl, rfl⟩))
theorem g_X0_111 : GoodIn GW (wsV RX0 111 RX6 yX6_at (wsG yX6_at cX6_at 5 (some .int))) := gw_V wm_2_78 wm_2_59 wm_2_60 wm_1_4 wm_2_61
-- ShardGuard$Fleet.shardOf(I)I
theorem dX0_shardOf_0 : decode cX0_shardOf 0 = .ok (.aload_n 0, 1) := by decide +kernel
theorem dX0_shardOf_1 : decode cX0_shardOf 1 = .ok (.getfield 28, 3) := by decide +kernel
theorem dX0_shardOf_4 : decode cX0_shardOf 4 = .ok (.iload_n 1, 1) := by decide +kernel
theorem dX0_shardOf_5 : decode cX0_shardOf 5 = .ok (.iconst 0, 1) := by decide +kernel
theorem dX0_shardOf_6 : decode cX0_shardOf 6 = .ok (.invokevirtual 111, 3) := by decide +kernel
theorem dX0_shardOf_9 : decode cX0_shardOf 9 = .ok (.ireturn, 1) := by decide +kernel
def rm_X0_shardOf : Room := { frames := 1, cells := 0, slots := 0, locals := 24 }
def M_X0_shardOf_0 (k : Nat) (S : Nat → Nat → Int32) (p0 : Int32) : Option (Int32) := (M_X6_at k 12 3 36 (S 3) p0 (0 : Int32)).bind fun q1 => some q1
set_option maxRecDepth 100000 in
set_option maxHeartbeats 4000000 in
theorem N_X0_shardOf_0 (C : CX E p l s m args meth c cX0_shardOf 2 RX0 (some .int) A) (a : Nat → Nat) (k : Nat) (S : Nat → Nat → Int32) {post : Int32 → va_W → Prop} :
    ∀ (p0 : Int32) (q : Int32), M_X0_shardOf_0 k S p0 = some q → post q (wFl E a S) →
      WW E p l e rm_X0_shardOf s m args below meth c A 0 0 (QI E below post args s rm_X0_shardOf A) (wFl E a S) 2 [some (.ref (a 0)), some (.int p0)] 0 [] := by
  intro p0 q  h hq
  unfold M_X0_shardOf_0 at h
  refine r_aload_n (pc := 0) C (i := 0) dX0_shardOf_0 rfl rfl ?_
  refine r_get (pc := 1) C gwX0 0 rfl rfl 8 (by decide) wm_1_113 rfl dX0_shardOf_1 ?_
  refine r_iload_n (pc := 4) C (i := 1) dX0_shardOf_4 rfl rfl ?_
  refine r_iconst (pc := 5) C (v := 0) dX0_shardOf_5 (by decide) ?_
  obtain ⟨q1, hq1, h⟩ := bnd h
  refine r_callVp_CI (Cn := RX6) (pc := 6) C [.int p0, .int (0 : Int32)] (c_X6_at E l k (fun i => a (i + 5)) 12 3 36 (S 3) p0 (0 : Int32) hq1) [5, 6] (hp_X0_forgetRequests_0 E a S) (by decide) 0 rfl rfl rfl g_X0_111 hd_X6_at ⟨Nat.le_of_ble_eq_true rfl, Nat.le_of_ble_eq_true rfl⟩ ⟨Nat.zero_le _, Nat.zero_le _⟩ (Nat.le_of_ble_eq_true rfl) rfl dX0_shardOf_6 (fun r hr => ?_)
  have hr := hr.symm
  subst hr
  cases h
  exact r_ireti (pc := 9) C hq (Nat.zero_le _) (Nat.zero_le _) dX0_shardOf_9
def M_X0_shardOf (k : Nat) (S : Nat → Nat → Int32) (p0 : Int32) : Option (Int32) := M_X0_shardOf_0 k S p0
set_option maxRecDepth 100000 in
set_option maxHeartbeats 4000000 in
theorem c_X0_shardOf (E : ENV) (l : Launch) (k : Nat) (a : Nat → Nat) (S : Nat → Nat → Int32) (p0 : Int32) {q : Int32} (hm : M_X0_shardOf k S p0 = some q) : CI E l yX0_shardOf cX0_shardOf 2 (some .int) rm_X0_shardOf [.ref (a 0), .int p0] (wFl E a S) (fun r w' => r = q ∧ w' = (wFl E a S)) :=
  CI.of 0 (by decide) (Nat.le_of_ble_eq_true rfl) (fun p e s m below meth c A C _ => r_weak (lSub_s (lSub_s lSub_e)) (N_X0_shardOf_0 C a k S p0 q  hm ⟨rfl, rfl⟩))
theorem hd_X0_shardOf : yX0_shardOf.cls = RX0 ∧ yX0_shardOf.cls ≠ "java/lang/invoke/MethodHandle" ∧ yX0_shardOf.cls ≠ "java/lang/invoke/VarHandle" ∧ (parseMethodDescriptor yX0_shardOf.desc).map (fun d => d.parameters.length) = some 1 := by decide +kernel
theorem g_X0_115 : GoodIn GW (wsV RX0 115 RX0 yX0_shardOf (wsG yX0_shardOf cX0_shardOf 2 (some .int))) := gw_V wm_2_74 wm_2_75 wm_2_76 wm_1_2 wm_2_77
-- ShardGuard$Fleet.isCutOff(I)Z
set_option maxHeartbeats 8000000 in
theorem hp_X0_isCutOff_0 (E : ENV) (a : Nat → Nat) (S : Nat → Nat → Int32) : ([0, 1, 2, 3, 4, 5, 6, 7, 8, 9, 10, 11, 12, 13, 14, 15, 16, 17] : List Nat).map (fun i => (wFl E a S)[i]?) = (wFl E a S).map some := (seg_mapL ([] : va_W) (wFl E a S) ([] : va_W) rfl 18 rfl [0, 1, 2, 3, 4, 5, 6, 7, 8, 9, 10, 11, 12, 13, 14, 15, 16, 17] rfl)
theorem dX0_isCutOff_0 : decode cX0_isCutOff 0 = .ok (.aload_n 0, 1) := by decide +kernel
theorem dX0_isCutOff_1 : decode cX0_isCutOff 1 = .ok (.iload_n 1, 1) := by decide +kernel
theorem dX0_isCutOff_2 : decode cX0_isCutOff 2 = .ok (.invokevirtual 115, 3) := by decide +kernel
theorem dX0_isCutOff_5 : decode cX0_isCutOff 5 = .ok (.aload_n 0, 1) := by decide +kernel
theorem dX0_isCutOff_6 : decode cX0_isCutOff 6 = .ok (.getfield 62, 3) := by decide +kernel
theorem dX0_isCutOff_9 : decode cX0_isCutOff 9 = .ok (.iand, 1) := by decide +kernel
theorem dX0_isCutOff_10 : decode cX0_isCutOff 10 = .ok (.ifCond .ne 7, 3) := by decide +kernel
theorem dX0_isCutOff_13 : decode cX0_isCutOff 13 = .ok (.iconst 1, 1) := by decide +kernel
theorem dX0_isCutOff_14 : decode cX0_isCutOff 14 = .ok (.goto 4, 3) := by decide +kernel
theorem dX0_isCutOff_17 : decode cX0_isCutOff 17 = .ok (.iconst 0, 1) := by decide +kernel
theorem dX0_isCutOff_18 : decode cX0_isCutOff 18 = .ok (.ireturn, 1) := by decide +kernel
def rm_X0_isCutOff : Room := { frames := 2, cells := 0, slots := 0, locals := 45 }
def M_X0_isCutOff_0 (k : Nat) (S : Nat → Nat → Int32) (p0 : Int32) : Option (Int32) := (M_X0_shardOf k S p0).bind fun q1 => if (q1 &&& (S 0 5)) = 0 then (some (1 : Int32)) else (some (0 : Int32))
set_option maxRecDepth 100000 in
set_option maxHeartbeats 4000000 in
theorem N_X0_isCutOff_0 (C : CX E p l s m args meth c cX0_isCutOff 2 RX0 (some .boolean) A) (a : Nat → Nat) (k : Nat) (S : Nat → Nat → Int32) {post : Int32 → va_W → Prop} :
    ∀ (p0 : Int32) (q : Int32), M_X0_isCutOff_0 k S p0 = some q → post q (wFl E a S) →
      WW E p l e rm_X0_isCutOff s m args below meth c A 0 0 (QI E below post args s rm_X0_isCutOff A) (wFl E a S) 2 [some (.ref (a 0)), some (.int p0)] 0 [] := by
  intro p0 q  h hq
  unfold M_X0_isCutOff_0 at h
  refine r_aload_n (pc := 0) C (i := 0) dX0_isCutOff_0 rfl rfl ?_
  refine r_iload_n (pc := 1) C (i := 1) dX0_isCutOff_1 rfl rfl ?_
  obtain ⟨q1, hq1, h⟩ := bnd h
  refine r_callVp_CI (Cn := RX0) (pc := 2) C [.int p0] (c_X0_shardOf E l k a S p0 hq1) [0, 1, 2, 3, 4, 5, 6, 7, 8, 9, 10, 11, 12, 13, 14, 15, 16, 17] (hp_X0_isCutOff_0 E a S) (by decide) 0 rfl rfl rfl g_X0_115 hd_X0_shardOf ⟨Nat.le_of_ble_eq_true rfl, Nat.le_of_ble_eq_true rfl⟩ ⟨Nat.zero_le _, Nat.zero_le _⟩ (Nat.le_of_ble_eq_true rfl) rfl dX0_isCutOff_2 (fun r hr => ?_)
  have hr := hr.symm
  subst hr
  refine r_aload_n (pc := 5) C (i := 0) dX0_isCutOff_5 rfl rfl ?_
  refine r_get (pc := 6) C gwX0 0 rfl rfl 5 (by decide) wm_1_106 rfl dX0_isCutOff_6 ?_
  refine r_iand (pc := 9) C dX0_isCutOff_9 ?_
  refine r_if_ne (pc := 10) C (tgt := 17) dX0_isCutOff_10 rfl (fun c2 => ?_) (fun c2 => ?_)
  · rw [if_neg c2] at h
    refine r_iconst (pc := 17) C (v := 0) dX0_isCutOff_17 (by decide) ?_
    cases h
    exact r_iretz (pc := 18) C (Or.inl rfl) hq (Nat.zero_le _) (Nat.zero_le _) dX0_isCutOff_18
  · rw [if_pos c2] at h
    refine r_iconst (pc := 13) C (v := 1) dX0_isCutOff_13 (by decide) ?_
    refine r_goto (pc := 14) C (tgt := 18) dX0_isCutOff_14 rfl ?_
    cases h
    exact r_iretz (pc := 18) C (Or.inr rfl) hq (Nat.zero_le _) (Nat.zero_le _) dX0_isCutOff_18
def M_X0_isCutOff (k : Nat) (S : Nat → Nat → Int32) (p0 : Int32) : Option (Int32) := M_X0_isCutOff_0 k S p0
set_option maxRecDepth 100000 in
set_option maxHeartbeats 4000000 in
theorem c_X0_isCutOff (E : ENV) (l : Launch) (k : Nat) (a : Nat → Nat) (S : Nat → Nat → Int32) (p0 : Int32) {q : Int32} (hm : M_X0_isCutOff k S p0 = some q) : CI E l yX0_isCutOff cX0_isCutOff 2 (some .boolean) rm_X0_isCutOff [.ref (a 0), .int p0] (wFl E a S) (fun r w' => r = q ∧ w' = (wFl E a S)) :=
  CI.of 0 (by decide) (Nat.le_of_ble_eq_true rfl) (fun p e s m below meth c A C _ => r_weak (lSub_s (lSub_s lSub_e)) (N_X0_isCutOff_0 C a k S p0 q  hm ⟨rfl, rfl⟩))
-- ShardGuard$Fleet.isQuarantined(I)Z
theorem dX0_isQuarantined_0 : decode cX0_isQuarantined 0 = .ok (.aload_n 0, 1) := by decide +kernel
theorem dX0_isQuarantined_1 : decode cX0_isQuarantined 1 = .ok (.getfield 28, 3) := by decide +kernel
theorem dX0_isQuarantined_4 : decode cX0_isQuarantined 4 = .ok (.iload_n 1, 1) := by decide +kernel
theorem dX0_isQuarantined_5 : decode cX0_isQuarantined 5 = .ok (.iconst 1, 1) := by decide +kernel
theorem dX0_isQuarantined_6 : decode cX0_isQuarantined 6 = .ok (.invokevirtual 111, 3) := by decide +kernel
theorem dX0_isQuarantined_9 : decode cX0_isQuarantined 9 = .ok (.iconst (-1), 1) := by decide +kernel
theorem dX0_isQuarantined_10 : decode cX0_isQuarantined 10 = .ok (.if_icmp .eq 7, 3) := by decide +kernel
theorem dX0_isQuarantined_13 : decode cX0_isQuarantined 13 = .ok (.iconst 1, 1) := by decide +kernel
theorem dX0_isQuarantined_14 : decode cX0_isQuarantined 14 = .ok (.goto 4, 3) := by decide +kernel
theorem dX0_isQuarantined_17 : decode cX0_isQuarantined 17 = .ok (.iconst 0, 1) := by decide +kernel
theorem dX0_isQuarantined_18 : decode cX0_isQuarantined 18 = .ok (.ireturn, 1) := by decide +kernel
def rm_X0_isQuarantined : Room := { frames := 1, cells := 0, slots := 0, locals := 24 }
def M_X0_isQuarantined_0 (k : Nat) (S : Nat → Nat → Int32) (p0 : Int32) : Option (Int32) := (M_X6_at k 12 3 36 (S 3) p0 (1 : Int32)).bind fun q1 => if q1 = (-1 : Int32) then (some (0 : Int32)) else (some (1 : Int32))
set_option maxRecDepth 100000 in
set_option maxHeartbeats 4000000 in
theorem N_X0_isQuarantined_0 (C : CX E p l s m args meth c cX0_isQuarantined 2 RX0 (some .boolean) A) (a : Nat → Nat) (k : Nat) (S : Nat → Nat → Int32) {post : Int32 → va_W → Prop} :
    ∀ (p0 : Int32) (q : Int32), M_X0_isQuarantined_0 k S p0 = some q → post q (wFl E a S) →
      WW E p l e rm_X0_isQuarantined s m args below meth c A 0 0 (QI E below post args s rm_X0_isQuarantined A) (wFl E a S) 2 [some (.ref (a 0)), some (.int p0)] 0 [] := by
  intro p0 q  h hq
  unfold M_X0_isQuarantined_0 at h
  refine r_aload_n (pc := 0) C (i := 0) dX0_isQuarantined_0 rfl rfl ?_
  refine r_get (pc := 1) C gwX0 0 rfl rfl 8 (by decide) wm_1_113 rfl dX0_isQuarantined_1 ?_
  refine r_iload_n (pc := 4) C (i := 1) dX0_isQuarantined_4 rfl rfl ?_
  refine r_iconst (pc := 5) C (v := 1) dX0_isQuarantined_5 (by decide) ?_
  obtain ⟨q1, hq1, h⟩ := bnd h
  refine r_callVp_CI (Cn := RX6) (pc := 6) C [.int p0, .int (1 : Int32)] (c_X6_at E l k (fun i => a (i + 5)) 12 3 36 (S 3) p0 (1 : Int32) hq1) [5, 6] (hp_X0_forgetRequests_0 E a S) (by decide) 0 rfl rfl rfl g_X0_111 hd_X6_at ⟨Nat.le_of_ble_eq_true rfl, Nat.le_of_ble_eq_true rfl⟩ ⟨Nat.zero_le _, Nat.zero_le _⟩ (Nat.le_of_ble_eq_true rfl) rfl dX0_isQuarantined_6 (fun r hr => ?_)
  have hr := hr.symm
  subst hr
  refine r_iconst (pc := 9) C (v := (-1)) dX0_isQuarantined_9 (by decide) ?_
  refine r_icmp_eq (pc := 10) C (tgt := 17) dX0_isQuarantined_10 rfl (fun c2 => ?_) (fun c2 => ?_)
  · rw [if_pos c2] at h
    refine r_iconst (pc := 17) C (v := 0) dX0_isQuarantined_17 (by decide) ?_
    cases h
    exact r_iretz (pc := 18) C (Or.inl rfl) hq (Nat.zero_le _) (Nat.zero_le _) dX0_isQuarantined_18
  · rw [if_neg c2] at h
    refine r_iconst (pc := 13) C (v := 1) dX0_isQuarantined_13 (by decide) ?_
    refine r_goto (pc := 14) C (tgt := 18) dX0_isQuarantined_14 rfl ?_
    cases h
    exact r_iretz (pc := 18) C (Or.inr rfl) hq (Nat.zero_le _) (Nat.zero_le _) dX0_isQuarantined_18
def M_X0_isQuarantined (k : Nat) (S : Nat → Nat → Int32) (p0 : Int32) : Option (Int32) := M_X0_isQuarantined_0 k S p0
set_option maxRecDepth 100000 in
set_option maxHeartbeats 4000000 in
theorem c_X0_isQuarantined (E : ENV) (l : Launch) (k : Nat) (a : Nat → Nat) (S : Nat → Nat → Int32) (p0 : Int32) {q : Int32} (hm : M_X0_isQuarantined k S p0 = some q) : CI E l yX0_isQuarantined cX0_isQuarantined 2 (some .boolean) rm_X0_isQuarantined [.ref (a 0), .int p0] (wFl E a S) (fun r w' => r = q ∧ w' = (wFl E a S)) :=
  CI.of 0 (by decide) (Nat.le_of_ble_eq_true rfl) (fun p e s m below meth c A C _ => r_weak (lSub_s (lSub_s lSub_e)) (N_X0_isQuarantined_0 C a k S p0 q  hm ⟨rfl, rfl⟩))
end WALKS
