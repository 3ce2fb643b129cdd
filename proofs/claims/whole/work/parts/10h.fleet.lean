section WALKS
variable {E : ENV} {p : Program} {l : Launch} {e : Env} {s : State} {m : MethodId} {args : Array Value} {below : List Frame} {meth : Method} {c : Code} {A : Nat → Prop}
theorem hd_X0_route : yX0_route.cls = RX0 ∧ yX0_route.cls ≠ "java/lang/invoke/MethodHandle" ∧ yX0_route.cls ≠ "java/lang/invoke/VarHandle" ∧ (parseMethodDescriptor yX0_route.desc).map (fun d => d.parameters.length) = some 1 := by decide +kernel
theorem g_X0_104 : GoodIn GW (wsV RX0 104 RX0 yX0_route (wsG yX0_route cX0_route 3 none)) := gw_V wm_3_167 wm_3_169 wm_0_3 wm_1_2 wm_3_170
-- ShardGuard$Fleet.addRequest(IIZ)I
theorem dX0_addRequest_0 : decode cX0_addRequest 0 = .ok (.aload_n 0, 1) := by decide +kernel
theorem dX0_addRequest_1 : decode cX0_addRequest 1 = .ok (.getfield 75, 3) := by decide +kernel
theorem dX0_addRequest_4 : decode cX0_addRequest 4 = .ok (.istore 4, 2) := by decide +kernel
theorem dX0_addRequest_6 : decode cX0_addRequest 6 = .ok (.aload_n 0, 1) := by decide +kernel
theorem dX0_addRequest_7 : decode cX0_addRequest 7 = .ok (.dup, 1) := by decide +kernel
theorem dX0_addRequest_8 : decode cX0_addRequest 8 = .ok (.getfield 75, 3) := by decide +kernel
theorem dX0_addRequest_11 : decode cX0_addRequest 11 = .ok (.iconst 1, 1) := by decide +kernel
theorem dX0_addRequest_12 : decode cX0_addRequest 12 = .ok (.iadd, 1) := by decide +kernel
theorem dX0_addRequest_13 : decode cX0_addRequest 13 = .ok (.putfield 75, 3) := by decide +kernel
theorem dX0_addRequest_16 : decode cX0_addRequest 16 = .ok (.aload_n 0, 1) := by decide +kernel
theorem dX0_addRequest_17 : decode cX0_addRequest 17 = .ok (.getfield 32, 3) := by decide +kernel
theorem dX0_addRequest_20 : decode cX0_addRequest 20 = .ok (.iload 4, 2) := by decide +kernel
theorem dX0_addRequest_22 : decode cX0_addRequest 22 = .ok (.iconst 0, 1) := by decide +kernel
theorem dX0_addRequest_23 : decode cX0_addRequest 23 = .ok (.iload_n 1, 1) := by decide +kernel
theorem dX0_addRequest_24 : decode cX0_addRequest 24 = .ok (.invokevirtual 84, 3) := by decide +kernel
theorem dX0_addRequest_27 : decode cX0_addRequest 27 = .ok (.aload_n 0, 1) := by decide +kernel
theorem dX0_addRequest_28 : decode cX0_addRequest 28 = .ok (.getfield 32, 3) := by decide +kernel
theorem dX0_addRequest_31 : decode cX0_addRequest 31 = .ok (.iload 4, 2) := by decide +kernel
theorem dX0_addRequest_33 : decode cX0_addRequest 33 = .ok (.iconst 1, 1) := by decide +kernel
theorem dX0_addRequest_34 : decode cX0_addRequest 34 = .ok (.iload_n 2, 1) := by decide +kernel
theorem dX0_addRequest_35 : decode cX0_addRequest 35 = .ok (.invokevirtual 84, 3) := by decide +kernel
theorem dX0_addRequest_38 : decode cX0_addRequest 38 = .ok (.aload_n 0, 1) := by decide +kernel
theorem dX0_addRequest_39 : decode cX0_addRequest 39 = .ok (.getfield 32, 3) := by decide +kernel
theorem dX0_addRequest_42 : decode cX0_addRequest 42 = .ok (.iload 4, 2) := by decide +kernel
theorem dX0_addRequest_44 : decode cX0_addRequest 44 = .ok (.iconst 2, 1) := by decide +kernel
theorem dX0_addRequest_45 : decode cX0_addRequest 45 = .ok (.iload_n 2, 1) := by decide +kernel
theorem dX0_addRequest_46 : decode cX0_addRequest 46 = .ok (.invokevirtual 84, 3) := by decide +kernel
theorem dX0_addRequest_49 : decode cX0_addRequest 49 = .ok (.aload_n 0, 1) := by decide +kernel
theorem dX0_addRequest_50 : decode cX0_addRequest 50 = .ok (.getfield 32, 3) := by decide +kernel
theorem dX0_addRequest_53 : decode cX0_addRequest 53 = .ok (.iload 4, 2) := by decide +kernel
theorem dX0_addRequest_55 : decode cX0_addRequest 55 = .ok (.iconst 3, 1) := by decide +kernel
theorem dX0_addRequest_56 : decode cX0_addRequest 56 = .ok (.iload_n 3, 1) := by decide +kernel
theorem dX0_addRequest_57 : decode cX0_addRequest 57 = .ok (.ifCond .eq 7, 3) := by decide +kernel
theorem dX0_addRequest_60 : decode cX0_addRequest 60 = .ok (.iconst 1, 1) := by decide +kernel
theorem dX0_addRequest_61 : decode cX0_addRequest 61 = .ok (.goto 4, 3) := by decide +kernel
theorem dX0_addRequest_64 : decode cX0_addRequest 64 = .ok (.iconst 0, 1) := by decide +kernel
theorem dX0_addRequest_65 : decode cX0_addRequest 65 = .ok (.invokevirtual 84, 3) := by decide +kernel
theorem dX0_addRequest_68 : decode cX0_addRequest 68 = .ok (.aload_n 0, 1) := by decide +kernel
theorem dX0_addRequest_69 : decode cX0_addRequest 69 = .ok (.getfield 32, 3) := by decide +kernel
theorem dX0_addRequest_72 : decode cX0_addRequest 72 = .ok (.iload 4, 2) := by decide +kernel
theorem dX0_addRequest_74 : decode cX0_addRequest 74 = .ok (.iconst 5, 1) := by decide +kernel
theorem dX0_addRequest_75 : decode cX0_addRequest 75 = .ok (.iconst 0, 1) := by decide +kernel
theorem dX0_addRequest_76 : decode cX0_addRequest 76 = .ok (.invokevirtual 84, 3) := by decide +kernel
theorem dX0_addRequest_79 : decode cX0_addRequest 79 = .ok (.aload_n 0, 1) := by decide +kernel
theorem dX0_addRequest_80 : decode cX0_addRequest 80 = .ok (.getfield 32, 3) := by decide +kernel
theorem dX0_addRequest_83 : decode cX0_addRequest 83 = .ok (.iload 4, 2) := by decide +kernel
theorem dX0_addRequest_85 : decode cX0_addRequest 85 = .ok (.bipush 7, 2) := by decide +kernel
theorem dX0_addRequest_87 : decode cX0_addRequest 87 = .ok (.iconst (-1), 1) := by decide +kernel
theorem dX0_addRequest_88 : decode cX0_addRequest 88 = .ok (.invokevirtual 84, 3) := by decide +kernel
theorem dX0_addRequest_91 : decode cX0_addRequest 91 = .ok (.aload_n 0, 1) := by decide +kernel
theorem dX0_addRequest_92 : decode cX0_addRequest 92 = .ok (.iload_n 1, 1) := by decide +kernel
theorem dX0_addRequest_93 : decode cX0_addRequest 93 = .ok (.invokevirtual 97, 3) := by decide +kernel
theorem dX0_addRequest_96 : decode cX0_addRequest 96 = .ok (.ifCond .eq 13, 3) := by decide +kernel
theorem dX0_addRequest_99 : decode cX0_addRequest 99 = .ok (.aload_n 0, 1) := by decide +kernel
theorem dX0_addRequest_100 : decode cX0_addRequest 100 = .ok (.iload 4, 2) := by decide +kernel
theorem dX0_addRequest_102 : decode cX0_addRequest 102 = .ok (.iconst 4, 1) := by decide +kernel
theorem dX0_addRequest_103 : decode cX0_addRequest 103 = .ok (.invokevirtual 101, 3) := by decide +kernel
theorem dX0_addRequest_106 : decode cX0_addRequest 106 = .ok (.goto 9, 3) := by decide +kernel
theorem dX0_addRequest_109 : decode cX0_addRequest 109 = .ok (.aload_n 0, 1) := by decide +kernel
theorem dX0_addRequest_110 : decode cX0_addRequest 110 = .ok (.iload 4, 2) := by decide +kernel
theorem dX0_addRequest_112 : decode cX0_addRequest 112 = .ok (.invokevirtual 104, 3) := by decide +kernel
theorem dX0_addRequest_115 : decode cX0_addRequest 115 = .ok (.iload 4, 2) := by decide +kernel
theorem dX0_addRequest_117 : decode cX0_addRequest 117 = .ok (.ireturn, 1) := by decide +kernel
def rm_X0_addRequest : Room := { frames := 4, cells := 0, slots := 0, locals := 94 }
def M_X0_addRequest_65 (k : Nat) (x1 : Int32) (x4 : Int32) (y1 : Int32) (y2 : Int32) (y3 : Int32) (S : Nat → Nat → Int32) : Option (Int32 × (Nat → Nat → Int32)) := (M_X6_put k 60 8 480 (S 4) y1 y2 y3).bind fun q1 => lt (va_up S 4 q1) fun F2 => (M_X6_put k 60 8 480 (F2 4) x4 (5 : Int32) (0 : Int32)).bind fun q3 => lt (va_up F2 4 q3) fun F4 => (M_X6_put k 60 8 480 (F4 4) x4 (7 : Int32) (-1 : Int32)).bind fun q5 => lt (va_up F4 4 q5) fun F6 => (M_X0_isQuarantined k F6 x1).bind fun q7 => if q7 = 0 then ((M_X0_route k F6 x4).bind fun q9 => some (x4, q9)) else ((M_X0_end k F6 x4 (4 : Int32)).bind fun q10 => some (x4, q10))
set_option maxRecDepth 100000 in
set_option maxHeartbeats 4000000 in
theorem N_X0_addRequest_65 (C : CX E p l s m args meth c cX0_addRequest 5 RX0 (some .int) A) (a : Nat → Nat) (k : Nat) {post : Int32 → va_W → Prop} :
    ∀ (x1 : Int32) (x4 : Int32) (y1 : Int32) (y2 : Int32) (y3 : Int32) (S : Nat → Nat → Int32) (q : Int32 × (Nat → Nat → Int32)), M_X0_addRequest_65 k x1 x4 y1 y2 y3 S = some q → post q.1 (wFl E a q.2) →
      WW E p l e rm_X0_addRequest s m args below meth c A 0 0 (QI E below post args s rm_X0_addRequest A) (wFl E a S) 5 [some (.ref (a 0)), some (.int x1), none, none, some (.int x4)] 65 [.int y3, .int y2, .int y1, .ref (a 7)] := by
  intro x1 x4 y1 y2 y3 S q  h hq
  unfold M_X0_addRequest_65 at h
  obtain ⟨q1, hq1, h⟩ := bnd h
  obtain ⟨F2, hF2, h⟩ := lt_e h
  refine r_callV_CV (Cn := RX6) (pc := 65) C [.int y1, .int y2, .int y3] (c_X6_put E l k (fun i => a (i + 7)) 60 8 480 (S 4) y1 y2 y3 hq1) [7, 8] (hp_X0_addRequest_0 E a S) (by decide) 0 rfl rfl rfl g_X0_84 hd_X6_put ⟨Nat.le_of_ble_eq_true rfl, Nat.le_of_ble_eq_true rfl⟩ ⟨Nat.zero_le _, Nat.zero_le _⟩ (Nat.le_of_ble_eq_true rfl) rfl dX0_addRequest_65 (fun w1 hw1 => ?_)
  subst hw1
  refine ⟨(wFl E a F2), by rw [hF2]; exact (pw_X0_addRequest_0 E a S q1), ?_⟩
  refine r_aload_n (pc := 68) C (i := 0) dX0_addRequest_68 rfl rfl ?_
  refine r_get (pc := 69) C gwX0 0 rfl rfl 9 (by decide) wm_1_115 rfl dX0_addRequest_69 ?_
  refine r_iload (pc := 72) C (i := 4) dX0_addRequest_72 rfl ?_
  refine r_iconst (pc := 74) C (v := 5) dX0_addRequest_74 (by decide) ?_
  refine r_iconst (pc := 75) C (v := 0) dX0_addRequest_75 (by decide) ?_
  obtain ⟨q3, hq3, h⟩ := bnd h
  obtain ⟨F4, hF4, h⟩ := lt_e h
  refine r_callV_CV (Cn := RX6) (pc := 76) C [.int x4, .int (5 : Int32), .int (0 : Int32)] (c_X6_put E l k (fun i => a (i + 7)) 60 8 480 (F2 4) x4 (5 : Int32) (0 : Int32) hq3) [7, 8] (hp_X0_addRequest_0 E a F2) (by decide) 0 rfl rfl rfl g_X0_84 hd_X6_put ⟨Nat.le_of_ble_eq_true rfl, Nat.le_of_ble_eq_true rfl⟩ ⟨Nat.zero_le _, Nat.zero_le _⟩ (Nat.le_of_ble_eq_true rfl) rfl dX0_addRequest_76 (fun w1 hw1 => ?_)
  subst hw1
  refine ⟨(wFl E a F4), by rw [hF4]; exact (pw_X0_addRequest_0 E a F2 q3), ?_⟩
  refine r_aload_n (pc := 79) C (i := 0) dX0_addRequest_79 rfl rfl ?_
  refine r_get (pc := 80) C gwX0 0 rfl rfl 9 (by decide) wm_1_115 rfl dX0_addRequest_80 ?_
  refine r_iload (pc := 83) C (i := 4) dX0_addRequest_83 rfl ?_
  refine r_bipush (pc := 85) C (v := 7) dX0_addRequest_85 (by decide) ?_
  refine r_iconst (pc := 87) C (v := (-1)) dX0_addRequest_87 (by decide) ?_
  obtain ⟨q5, hq5, h⟩ := bnd h
  obtain ⟨F6, hF6, h⟩ := lt_e h
  refine r_callV_CV (Cn := RX6) (pc := 88) C [.int x4, .int (7 : Int32), .int (-1 : Int32)] (c_X6_put E l k (fun i => a (i + 7)) 60 8 480 (F4 4) x4 (7 : Int32) (-1 : Int32) hq5) [7, 8] (hp_X0_addRequest_0 E a F4) (by decide) 0 rfl rfl rfl g_X0_84 hd_X6_put ⟨Nat.le_of_ble_eq_true rfl, Nat.le_of_ble_eq_true rfl⟩ ⟨Nat.zero_le _, Nat.zero_le _⟩ (Nat.le_of_ble_eq_true rfl) rfl dX0_addRequest_88 (fun w1 hw1 => ?_)
  subst hw1
  refine ⟨(wFl E a F6), by rw [hF6]; exact (pw_X0_addRequest_0 E a F4 q5), ?_⟩
  refine r_aload_n (pc := 91) C (i := 0) dX0_addRequest_91 rfl rfl ?_
  refine r_iload_n (pc := 92) C (i := 1) dX0_addRequest_92 rfl rfl ?_
  obtain ⟨q7, hq7, h⟩ := bnd h
  refine r_callVp_CI (Cn := RX0) (pc := 93) C [.int x1] (c_X0_isQuarantined E l k a F6 x1 hq7) [0, 1, 2, 3, 4, 5, 6, 7, 8, 9, 10, 11, 12, 13, 14, 15, 16, 17] (hp_X0_isCutOff_0 E a F6) (by decide) 0 rfl rfl rfl g_X0_97 hd_X0_isQuarantined ⟨Nat.le_of_ble_eq_true rfl, Nat.le_of_ble_eq_true rfl⟩ ⟨Nat.zero_le _, Nat.zero_le _⟩ (Nat.le_of_ble_eq_true rfl) rfl dX0_addRequest_93 (fun r hr => ?_)
  have hr := hr.symm
  subst hr
  refine r_if_eq (pc := 96) C (tgt := 109) dX0_addRequest_96 rfl (fun c8 => ?_) (fun c8 => ?_)
  · rw [if_pos c8] at h
    refine r_aload_n (pc := 109) C (i := 0) dX0_addRequest_109 rfl rfl ?_
    refine r_iload (pc := 110) C (i := 4) dX0_addRequest_110 rfl ?_
    obtain ⟨q9, hq9, h⟩ := bnd h
    refine r_callV_CV (Cn := RX0) (pc := 112) C [.int x4] (c_X0_route E l k a F6 x4 hq9) [0, 1, 2, 3, 4, 5, 6, 7, 8, 9, 10, 11, 12, 13, 14, 15, 16, 17] (hp_X0_isCutOff_0 E a F6) (by decide) 0 rfl rfl rfl g_X0_104 hd_X0_route ⟨Nat.le_of_ble_eq_true rfl, Nat.le_of_ble_eq_true rfl⟩ ⟨Nat.zero_le _, Nat.zero_le _⟩ (Nat.le_of_ble_eq_true rfl) rfl dX0_addRequest_112 (fun w1 hw1 => ?_)
    subst hw1
    refine ⟨(wFl E a q9), by exact (pw_X0_finish_0 E a F6 q9), ?_⟩
    refine r_iload (pc := 115) C (i := 4) dX0_addRequest_115 rfl ?_
    cases h
    exact r_ireti (pc := 117) C hq (Nat.zero_le _) (Nat.zero_le _) dX0_addRequest_117
  · rw [if_neg c8] at h
    refine r_aload_n (pc := 99) C (i := 0) dX0_addRequest_99 rfl rfl ?_
    refine r_iload (pc := 100) C (i := 4) dX0_addRequest_100 rfl ?_
    refine r_iconst (pc := 102) C (v := 4) dX0_addRequest_102 (by decide) ?_
    obtain ⟨q10, hq10, h⟩ := bnd h
    refine r_callV_CV (Cn := RX0) (pc := 103) C [.int x4, .int (4 : Int32)] (c_X0_end E l k a F6 x4 (4 : Int32) hq10) [0, 1, 2, 3, 4, 5, 6, 7, 8, 9, 10, 11, 12, 13, 14, 15, 16, 17] (hp_X0_isCutOff_0 E a F6) (by decide) 0 rfl rfl rfl g_X0_101 hd_X0_end ⟨Nat.le_of_ble_eq_true rfl, Nat.le_of_ble_eq_true rfl⟩ ⟨Nat.zero_le _, Nat.zero_le _⟩ (Nat.le_of_ble_eq_true rfl) rfl dX0_addRequest_103 (fun w1 hw1 => ?_)
    subst hw1
    refine ⟨(wFl E a q10), by exact (pw_X0_finish_0 E a F6 q10), ?_⟩
    refine r_goto (pc := 106) C (tgt := 115) dX0_addRequest_106 rfl ?_
    refine r_iload (pc := 115) C (i := 4) dX0_addRequest_115 rfl ?_
    cases h
    exact r_ireti (pc := 117) C hq (Nat.zero_le _) (Nat.zero_le _) dX0_addRequest_117
def M_X0_addRequest_0 (k : Nat) (p0 : Int32) (p1 : Int32) (p2 : Int32) (S : Nat → Nat → Int32) : Option (Int32 × (Nat → Nat → Int32)) := lt (S 0 3) fun v11 => lt (va_up S 0 (upd (S 0) 3 ((S 0 3) + (1 : Int32)))) fun F12 => (M_X6_put k 60 8 480 (F12 4) v11 (0 : Int32) p0).bind fun q13 => lt (va_up F12 4 q13) fun F14 => (M_X6_put k 60 8 480 (F14 4) v11 (1 : Int32) p1).bind fun q15 => lt (va_up F14 4 q15) fun F16 => (M_X6_put k 60 8 480 (F16 4) v11 (2 : Int32) p1).bind fun q17 => lt (va_up F16 4 q17) fun F18 => if p2 = 0 then (M_X0_addRequest_65 k p0 v11 v11 (3 : Int32) (0 : Int32) F18) else (M_X0_addRequest_65 k p0 v11 v11 (3 : Int32) (1 : Int32) F18)
set_option maxRecDepth 100000 in
set_option maxHeartbeats 4000000 in
theorem N_X0_addRequest_0 (C : CX E p l s m args meth c cX0_addRequest 5 RX0 (some .int) A) (a : Nat → Nat) (k : Nat) {post : Int32 → va_W → Prop} :
    ∀ (p0 : Int32) (p1 : Int32) (p2 : Int32) (S : Nat → Nat → Int32) (q : Int32 × (Nat → Nat → Int32)), M_X0_addRequest_0 k p0 p1 p2 S = some q → post q.1 (wFl E a q.2) →
      WW E p l e rm_X0_addRequest s m args below meth c A 0 0 (QI E below post args s rm_X0_addRequest A) (wFl E a S) 5 [some (.ref (a 0)), some (.int p0), some (.int p1), some (.int p2), none] 0 [] := by
  intro p0 p1 p2 S q  h hq
  unfold M_X0_addRequest_0 at h
  refine r_aload_n (pc := 0) C (i := 0) dX0_addRequest_0 rfl rfl ?_
  refine r_get (pc := 1) C gwX0 0 rfl rfl 3 (by decide) wm_1_101 rfl dX0_addRequest_1 ?_
  obtain ⟨v11, hv11, h⟩ := lt_e h
  refine r_topi hv11 ?_
  refine r_istore (pc := 4) C (i := 4) dX0_addRequest_4 (by decide) rfl ?_
  refine r_aload_n (pc := 6) C (i := 0) dX0_addRequest_6 rfl rfl ?_
  refine r_dup (pc := 7) C dX0_addRequest_7 rfl ?_
  refine r_get (pc := 8) C gwX0 0 rfl rfl 3 (by decide) wm_1_101 rfl dX0_addRequest_8 ?_
  refine r_iconst (pc := 11) C (v := 1) dX0_addRequest_11 (by decide) ?_
  refine r_iadd (pc := 12) C dX0_addRequest_12 ?_
  obtain ⟨F12, hF12, h⟩ := lt_e h
  refine r_put (pc := 13) C gwX0 tyX0 tyX0_ok nmX0 0 rfl rfl 3 (by decide) wm_1_101 rfl rfl rfl rfl (Nat.le_of_ble_eq_true rfl) (w' := (wFl E a F12)) (by rw [hF12]; rfl) dX0_addRequest_13 ?_
  refine r_aload_n (pc := 16) C (i := 0) dX0_addRequest_16 rfl rfl ?_
  refine r_get (pc := 17) C gwX0 0 rfl rfl 9 (by decide) wm_1_115 rfl dX0_addRequest_17 ?_
  refine r_iload (pc := 20) C (i := 4) dX0_addRequest_20 rfl ?_
  refine r_iconst (pc := 22) C (v := 0) dX0_addRequest_22 (by decide) ?_
  refine r_iload_n (pc := 23) C (i := 1) dX0_addRequest_23 rfl rfl ?_
  obtain ⟨q13, hq13, h⟩ := bnd h
  obtain ⟨F14, hF14, h⟩ := lt_e h
  refine r_callV_CV (Cn := RX6) (pc := 24) C [.int v11, .int (0 : Int32), .int p0] (c_X6_put E l k (fun i => a (i + 7)) 60 8 480 (F12 4) v11 (0 : Int32) p0 hq13) [7, 8] (hp_X0_addRequest_0 E a F12) (by decide) 0 rfl rfl rfl g_X0_84 hd_X6_put ⟨Nat.le_of_ble_eq_true rfl, Nat.le_of_ble_eq_true rfl⟩ ⟨Nat.zero_le _, Nat.zero_le _⟩ (Nat.le_of_ble_eq_true rfl) rfl dX0_addRequest_24 (fun w1 hw1 => ?_)
  subst hw1
  refine ⟨(wFl E a F14), by rw [hF14]; exact (pw_X0_addRequest_0 E a F12 q13), ?_⟩
  refine r_aload_n (pc := 27) C (i := 0) dX0_addRequest_27 rfl rfl ?_
  refine r_get (pc := 28) C gwX0 0 rfl rfl 9 (by decide) wm_1_115 rfl dX0_addRequest_28 ?_
  refine r_iload (pc := 31) C (i := 4) dX0_addRequest_31 rfl ?_
  refine r_iconst (pc := 33) C (v := 1) dX0_addRequest_33 (by decide) ?_
  refine r_iload_n (pc := 34) C (i := 2) dX0_addRequest_34 rfl rfl ?_
  obtain ⟨q15, hq15, h⟩ := bnd h
  obtain ⟨F16, hF16, h⟩ := lt_e h
  refine r_callV_CV (Cn := RX6) (pc := 35) C [.int v11, .int (1 : Int32), .int p1] (c_X6_put E l k (fun i => a (i + 7)) 60 8 480 (F14 4) v11 (1 : Int32) p1 hq15) [7, 8] (hp_X0_addRequest_0 E a F14) (by decide) 0 rfl rfl rfl g_X0_84 hd_X6_put ⟨Nat.le_of_ble_eq_true rfl, Nat.le_of_ble_eq_true rfl⟩ ⟨Nat.zero_le _, Nat.zero_le _⟩ (Nat.le_of_ble_eq_true rfl) rfl dX0_addRequest_35 (fun w1 hw1 => ?_)
  subst hw1
  refine ⟨(wFl E a F16), by rw [hF16]; exact (pw_X0_addRequest_0 E a F14 q15), ?_⟩
  refine r_aload_n (pc := 38) C (i := 0) dX0_addRequest_38 rfl rfl ?_
  refine r_get (pc := 39) C gwX0 0 rfl rfl 9 (by decide) wm_1_115 rfl dX0_addRequest_39 ?_
  refine r_iload (pc := 42) C (i := 4) dX0_addRequest_42 rfl ?_
  refine r_iconst (pc := 44) C (v := 2) dX0_addRequest_44 (by decide) ?_
  refine r_iload_n (pc := 45) C (i := 2) dX0_addRequest_45 rfl rfl ?_
  obtain ⟨q17, hq17, h⟩ := bnd h
  obtain ⟨F18, hF18, h⟩ := lt_e h
  refine r_callV_CV (Cn := RX6) (pc := 46) C [.int v11, .int (2 : Int32), .int p1] (c_X6_put E l k (fun i => a (i + 7)) 60 8 480 (F16 4) v11 (2 : Int32) p1 hq17) [7, 8] (hp_X0_addRequest_0 E a F16) (by decide) 0 rfl rfl rfl g_X0_84 hd_X6_put ⟨Nat.le_of_ble_eq_true rfl, Nat.le_of_ble_eq_true rfl⟩ ⟨Nat.zero_le _, Nat.zero_le _⟩ (Nat.le_of_ble_eq_true rfl) rfl dX0_addRequest_46 (fun w1 hw1 => ?_)
  subst hw1
  refine ⟨(wFl E a F18), by rw [hF18]; exact (pw_X0_addRequest_0 E a F16 q17), ?_⟩
  refine r_aload_n (pc := 49) C (i := 0) dX0_addRequest_49 rfl rfl ?_
  refine r_get (pc := 50) C gwX0 0 rfl rfl 9 (by decide) wm_1_115 rfl dX0_addRequest_50 ?_
  refine r_iload (pc := 53) C (i := 4) dX0_addRequest_53 rfl ?_
  refine r_iconst (pc := 55) C (v := 3) dX0_addRequest_55 (by decide) ?_
  refine r_iload_n (pc := 56) C (i := 3) dX0_addRequest_56 rfl rfl ?_
  refine r_if_eq (pc := 57) C (tgt := 64) dX0_addRequest_57 rfl (fun c19 => ?_) (fun c19 => ?_)
  · rw [if_pos c19] at h
    refine r_iconst (pc := 64) C (v := 0) dX0_addRequest_64 (by decide) ?_
    refine r_weak (lSub_s (lSub_s (lSub_n (lSub_n (lSub_s lSub_e))))) ?_
    exact N_X0_addRequest_65 C a k p0 v11 v11 (3 : Int32) (0 : Int32) F18 q  h hq
  · rw [if_neg c19] at h
    refine r_iconst (pc := 60) C (v := 1) dX0_addRequest_60 (by decide) ?_
    refine r_goto (pc := 61) C (tgt := 65) dX0_addRequest_61 rfl ?_
    refine r_weak (lSub_s (lSub_s (lSub_n (lSub_n (lSub_s lSub_e))))) ?_
    exact N_X0_addRequest_65 C a k p0 v11 v11 (3 : Int32) (1 : Int32) F18 q  h hq
def M_X0_addRequest (k : Nat) (S : Nat → Nat → Int32) (p0 : Int32) (p1 : Int32) (p2 : Int32) : Option (Int32 × (Nat → Nat → Int32)) := M_X0_addRequest_0 k p0 p1 p2 S
set_option maxRecDepth 100000 in
set_option maxHeartbeats 4000000 in
theorem c_X0_addRequest (E : ENV) (l : Launch) (k : Nat) (a : Nat → Nat) (S : Nat → Nat → Int32) (p0 : Int32) (p1 : Int32) (p2 : Int32) {q : Int32 × (Nat → Nat → Int32)} (hm : M_X0_addRequest k S p0 p1 p2 = some q) : CI E l yX0_addRequest cX0_addRequest 5 (some .int) rm_X0_addRequest [.ref (a 0), .int p0, .int p1, .int p2] (wFl E a S) (fun r w' => r = q.1 ∧ w' = (wFl E a q.2)) :=
  CI.of 1 (by decide) (Nat.le_of_ble_eq_true rfl) (fun p e s m below meth c A C _ => r_weak (lSub_s (lSub_s (lSub_s (lSub_s (lSub_n lSub_e))))) (N_X0_addRequest_0 C a k p0 p1 p2 S q  hm ⟨rfl, rfl⟩))
-- ShardGuard$Fleet.routeQueue(I)V
theorem dX0_routeQueue_0 : decode cX0_routeQueue 0 = .ok (.iconst 0, 1) := by decide +kernel
theorem dX0_routeQueue_1 : decode cX0_routeQueue 1 = .ok (.istore_n 2, 1) := by decide +kernel
theorem dX0_routeQueue_2 : decode cX0_routeQueue 2 = .ok (.aload_n 0, 1) := by decide +kernel
theorem dX0_routeQueue_3 : decode cX0_routeQueue 3 = .ok (.getfield 78, 3) := by decide +kernel
theorem dX0_routeQueue_6 : decode cX0_routeQueue 6 = .ok (.istore_n 3, 1) := by decide +kernel
theorem dX0_routeQueue_7 : decode cX0_routeQueue 7 = .ok (.iload_n 3, 1) := by decide +kernel
theorem dX0_routeQueue_8 : decode cX0_routeQueue 8 = .ok (.ifCond .le 51, 3) := by decide +kernel
theorem dX0_routeQueue_11 : decode cX0_routeQueue 11 = .ok (.aload_n 0, 1) := by decide +kernel
theorem dX0_routeQueue_12 : decode cX0_routeQueue 12 = .ok (.getfield 42, 3) := by decide +kernel
theorem dX0_routeQueue_15 : decode cX0_routeQueue 15 = .ok (.iload_n 2, 1) := by decide +kernel
theorem dX0_routeQueue_16 : decode cX0_routeQueue 16 = .ok (.invokevirtual 122, 3) := by decide +kernel
theorem dX0_routeQueue_19 : decode cX0_routeQueue 19 = .ok (.istore 4, 2) := by decide +kernel
theorem dX0_routeQueue_21 : decode cX0_routeQueue 21 = .ok (.aload_n 0, 1) := by decide +kernel
theorem dX0_routeQueue_22 : decode cX0_routeQueue 22 = .ok (.getfield 32, 3) := by decide +kernel
theorem dX0_routeQueue_25 : decode cX0_routeQueue 25 = .ok (.iload 4, 2) := by decide +kernel
theorem dX0_routeQueue_27 : decode cX0_routeQueue 27 = .ok (.bipush 6, 2) := by decide +kernel
theorem dX0_routeQueue_29 : decode cX0_routeQueue 29 = .ok (.invokevirtual 111, 3) := by decide +kernel
theorem dX0_routeQueue_32 : decode cX0_routeQueue 32 = .ok (.iload_n 1, 1) := by decide +kernel
theorem dX0_routeQueue_33 : decode cX0_routeQueue 33 = .ok (.if_icmp .ne 17, 3) := by decide +kernel
theorem dX0_routeQueue_36 : decode cX0_routeQueue 36 = .ok (.aload_n 0, 1) := by decide +kernel
theorem dX0_routeQueue_37 : decode cX0_routeQueue 37 = .ok (.iload_n 2, 1) := by decide +kernel
theorem dX0_routeQueue_38 : decode cX0_routeQueue 38 = .ok (.invokevirtual 156, 3) := by decide +kernel
theorem dX0_routeQueue_41 : decode cX0_routeQueue 41 = .ok (.aload_n 0, 1) := by decide +kernel
theorem dX0_routeQueue_42 : decode cX0_routeQueue 42 = .ok (.iload 4, 2) := by decide +kernel
theorem dX0_routeQueue_44 : decode cX0_routeQueue 44 = .ok (.invokevirtual 104, 3) := by decide +kernel
theorem dX0_routeQueue_47 : decode cX0_routeQueue 47 = .ok (.goto 6, 3) := by decide +kernel
theorem dX0_routeQueue_50 : decode cX0_routeQueue 50 = .ok (.iinc 2 1, 3) := by decide +kernel
theorem dX0_routeQueue_53 : decode cX0_routeQueue 53 = .ok (.iinc 3 (-1), 3) := by decide +kernel
theorem dX0_routeQueue_56 : decode cX0_routeQueue 56 = .ok (.goto (-49), 3) := by decide +kernel
theorem dX0_routeQueue_59 : decode cX0_routeQueue 59 = .ok (.return_, 1) := by decide +kernel
def rm_X0_routeQueue : Room := { frames := 4, cells := 0, slots := 0, locals := 122 }
def M_X0_routeQueue_7 (k : Nat) : Nat → (Int32) → (Int32) → (Int32) → (Nat → Nat → Int32) → Option ((Nat → Nat → Int32))
  | 0, _, _, _, _ => none
  | n + 1, x1, x2, x3, S => if x3 ≤ 0 then (some S) else ((M_X5_at k 60 (S 5) x2).bind fun q2 => (M_X6_at k 60 8 480 (S 4) q2 (6 : Int32)).bind fun q3 => if q3 = x1 then ((M_X0_leaveLine k S x2).bind fun q5 => (M_X0_route k q5 q2).bind fun q6 => M_X0_routeQueue_7 k n x1 x2 (x3 + (-1)) q6) else (M_X0_routeQueue_7 k n x1 (x2 + 1) (x3 + (-1)) S))
theorem M_X0_routeQueue_7_s (k : Nat) (n : Nat) (x1 : Int32) (x2 : Int32) (x3 : Int32) (S : Nat → Nat → Int32) : M_X0_routeQueue_7 k (n + 1) x1 x2 x3 S = (if x3 ≤ 0 then (some S) else ((M_X5_at k 60 (S 5) x2).bind fun q2 => (M_X6_at k 60 8 480 (S 4) q2 (6 : Int32)).bind fun q3 => if q3 = x1 then ((M_X0_leaveLine k S x2).bind fun q5 => (M_X0_route k q5 q2).bind fun q6 => M_X0_routeQueue_7 k n x1 x2 (x3 + (-1)) q6) else (M_X0_routeQueue_7 k n x1 (x2 + 1) (x3 + (-1)) S))) := rfl
set_option maxRecDepth 100000 in
set_option maxHeartbeats 4000000 in
theorem N_X0_routeQueue_7 (C : CX E p l s m args meth c cX0_routeQueue 5 RX0 none A) (a : Nat → Nat) (k : Nat) {post : va_W → Prop} :
    ∀ (n : Nat) (x1 : Int32) (x2 : Int32) (x3 : Int32) (S : Nat → Nat → Int32) (q : (Nat → Nat → Int32)), M_X0_routeQueue_7 k n x1 x2 x3 S = some q → post (wFl E a q) →
      WW E p l e rm_X0_routeQueue s m args below meth c A 0 0 (QV E below post args s rm_X0_routeQueue A) (wFl E a S) 5 [some (.ref (a 0)), some (.int x1), some (.int x2), some (.int x3), none] 7 [] := by
  intro n
  induction n with
  | zero => intro x1 x2 x3 S q  h _; cases h
  | succ n ih =>
    intro x1 x2 x3 S q  h hq
    rw [M_X0_routeQueue_7_s] at h
    refine r_iload_n (pc := 7) C (i := 3) dX0_routeQueue_7 rfl rfl ?_
    refine r_if_le (pc := 8) C (tgt := 59) dX0_routeQueue_8 rfl (fun c1 => ?_) (fun c1 => ?_)
    · rw [if_pos c1] at h
      cases h
      exact r_vret (pc := 59) C hq (Nat.zero_le _) (Nat.zero_le _) dX0_routeQueue_59
    · rw [if_neg c1] at h
      refine r_aload_n (pc := 11) C (i := 0) dX0_routeQueue_11 rfl rfl ?_
      refine r_get (pc := 12) C gwX0 0 rfl rfl 11 (by decide) wm_1_121 rfl dX0_routeQueue_12 ?_
      refine r_iload_n (pc := 15) C (i := 2) dX0_routeQueue_15 rfl rfl ?_
      obtain ⟨q2, hq2, h⟩ := bnd h
      refine r_callVp_CI (Cn := RX5) (pc := 16) C [.int x2] (c_X5_at E l k (fun i => a (i + 16)) 60 (S 5) x2 hq2) [16, 17] (hp_X0_queueLength_0 E a S) (by decide) 0 rfl rfl rfl g_X0_122 hd_X5_at ⟨Nat.le_of_ble_eq_true rfl, Nat.le_of_ble_eq_true rfl⟩ ⟨Nat.zero_le _, Nat.zero_le _⟩ (Nat.le_of_ble_eq_true rfl) rfl dX0_routeQueue_16 (fun r hr => ?_)
      have hr := hr.symm
      subst hr
      refine r_istore (pc := 19) C (i := 4) dX0_routeQueue_19 (by decide) rfl ?_
      refine r_aload_n (pc := 21) C (i := 0) dX0_routeQueue_21 rfl rfl ?_
      refine r_get (pc := 22) C gwX0 0 rfl rfl 9 (by decide) wm_1_115 rfl dX0_routeQueue_22 ?_
      refine r_iload (pc := 25) C (i := 4) dX0_routeQueue_25 rfl ?_
      refine r_bipush (pc := 27) C (v := 6) dX0_routeQueue_27 (by decide) ?_
      obtain ⟨q3, hq3, h⟩ := bnd h
      refine r_callVp_CI (Cn := RX6) (pc := 29) C [.int q2, .int (6 : Int32)] (c_X6_at E l k (fun i => a (i + 7)) 60 8 480 (S 4) q2 (6 : Int32) hq3) [7, 8] (hp_X0_addRequest_0 E a S) (by decide) 0 rfl rfl rfl g_X0_111 hd_X6_at ⟨Nat.le_of_ble_eq_true rfl, Nat.le_of_ble_eq_true rfl⟩ ⟨Nat.zero_le _, Nat.zero_le _⟩ (Nat.le_of_ble_eq_true rfl) rfl dX0_routeQueue_29 (fun r hr => ?_)
      have hr := hr.symm
      subst hr
      refine r_iload_n (pc := 32) C (i := 1) dX0_routeQueue_32 rfl rfl ?_
      refine r_icmp_ne (pc := 33) C (tgt := 50) dX0_routeQueue_33 rfl (fun c4 => ?_) (fun c4 => ?_)
      · rw [if_neg c4] at h
        refine r_iinc (pc := 50) C (v := (x2 + 1)) dX0_routeQueue_50 rfl rfl (by decide) rfl ?_
        refine r_iinc (pc := 53) C (v := (x3 + (-1))) dX0_routeQueue_53 rfl rfl (by decide) rfl ?_
        refine r_goto (pc := 56) C (tgt := 7) dX0_routeQueue_56 rfl ?_
        refine r_weak (lSub_s (lSub_s (lSub_s (lSub_s (lSub_n lSub_e))))) ?_
        exact ih x1 (x2 + 1) (x3 + (-1)) S q  h hq
      · rw [if_pos c4] at h
        refine r_aload_n (pc := 36) C (i := 0) dX0_routeQueue_36 rfl rfl ?_
        refine r_iload_n (pc := 37) C (i := 2) dX0_routeQueue_37 rfl rfl ?_
        obtain ⟨q5, hq5, h⟩ := bnd h
        refine r_callV_CV (Cn := RX0) (pc := 38) C [.int x2] (c_X0_leaveLine E l k a S x2 hq5) [0, 1, 2, 3, 4, 5, 6, 7, 8, 9, 10, 11, 12, 13, 14, 15, 16, 17] (hp_X0_isCutOff_0 E a S) (by decide) 0 rfl rfl rfl g_X0_156 hd_X0_leaveLine ⟨Nat.le_of_ble_eq_true rfl, Nat.le_of_ble_eq_true rfl⟩ ⟨Nat.zero_le _, Nat.zero_le _⟩ (Nat.le_of_ble_eq_true rfl) rfl dX0_routeQueue_38 (fun w1 hw1 => ?_)
        subst hw1
        refine ⟨(wFl E a q5), by exact (pw_X0_finish_0 E a S q5), ?_⟩
        refine r_aload_n (pc := 41) C (i := 0) dX0_routeQueue_41 rfl rfl ?_
        refine r_iload (pc := 42) C (i := 4) dX0_routeQueue_42 rfl ?_
        obtain ⟨q6, hq6, h⟩ := bnd h
        refine r_callV_CV (Cn := RX0) (pc := 44) C [.int q2] (c_X0_route E l k a q5 q2 hq6) [0, 1, 2, 3, 4, 5, 6, 7, 8, 9, 10, 11, 12, 13, 14, 15, 16, 17] (hp_X0_isCutOff_0 E a q5) (by decide) 0 rfl rfl rfl g_X0_104 hd_X0_route ⟨Nat.le_of_ble_eq_true rfl, Nat.le_of_ble_eq_true rfl⟩ ⟨Nat.zero_le _, Nat.zero_le _⟩ (Nat.le_of_ble_eq_true rfl) rfl dX0_routeQueue_44 (fun w1 hw1 => ?_)
        subst hw1
        refine ⟨(wFl E a q6), by exact (pw_X0_finish_0 E a q5 q6), ?_⟩
        refine r_goto (pc := 47) C (tgt := 53) dX0_routeQueue_47 rfl ?_
        refine r_iinc (pc := 53) C (v := (x3 + (-1))) dX0_routeQueue_53 rfl rfl (by decide) rfl ?_
        refine r_goto (pc := 56) C (tgt := 7) dX0_routeQueue_56 rfl ?_
        refine r_weak (lSub_s (lSub_s (lSub_s (lSub_s (lSub_n lSub_e))))) ?_
        exact ih x1 x2 (x3 + (-1)) q6 q  h hq
def M_X0_routeQueue_0 (k : Nat) (p0 : Int32) (S : Nat → Nat → Int32) : Option ((Nat → Nat → Int32)) := lt (S 0 6) fun v7 => M_X0_routeQueue_7 k k p0 (0 : Int32) v7 S
set_option maxRecDepth 100000 in
set_option maxHeartbeats 4000000 in
theorem N_X0_routeQueue_0 (C : CX E p l s m args meth c cX0_routeQueue 5 RX0 none A) (a : Nat → Nat) (k : Nat) {post : va_W → Prop} :
    ∀ (p0 : Int32) (S : Nat → Nat → Int32) (q : (Nat → Nat → Int32)), M_X0_routeQueue_0 k p0 S = some q → post (wFl E a q) →
      WW E p l e rm_X0_routeQueue s m args below meth c A 0 0 (QV E below post args s rm_X0_routeQueue A) (wFl E a S) 5 [some (.ref (a 0)), some (.int p0), none, none, none] 0 [] := by
  intro p0 S q  h hq
  unfold M_X0_routeQueue_0 at h
  refine r_iconst (pc := 0) C (v := 0) dX0_routeQueue_0 (by decide) ?_
  refine r_istore_n (pc := 1) C (i := 2) dX0_routeQueue_1 rfl (by decide) rfl ?_
  refine r_aload_n (pc := 2) C (i := 0) dX0_routeQueue_2 rfl rfl ?_
  refine r_get (pc := 3) C gwX0 0 rfl rfl 12 (by decide) wm_1_122 rfl dX0_routeQueue_3 ?_
  obtain ⟨v7, hv7, h⟩ := lt_e h
  refine r_topi hv7 ?_
  refine r_istore_n (pc := 6) C (i := 3) dX0_routeQueue_6 rfl (by decide) rfl ?_
  refine r_weak (lSub_s (lSub_s (lSub_s (lSub_s (lSub_n lSub_e))))) ?_
  exact N_X0_routeQueue_7 C a k k p0 (0 : Int32) v7 S q  h hq
def M_X0_routeQueue (k : Nat) (S : Nat → Nat → Int32) (p0 : Int32) : Option ((Nat → Nat → Int32)) := M_X0_routeQueue_0 k p0 S
set_option maxRecDepth 100000 in
set_option maxHeartbeats 4000000 in
theorem c_X0_routeQueue (E : ENV) (l : Launch) (k : Nat) (a : Nat → Nat) (S : Nat → Nat → Int32) (p0 : Int32) {q : (Nat → Nat → Int32)} (hm : M_X0_routeQueue k S p0 = some q) : CV E l yX0_routeQueue cX0_routeQueue 5 none rm_X0_routeQueue [.ref (a 0), .int p0] (wFl E a S) (fun w' => w' = (wFl E a q)) :=
  CV.of 3 (by decide) (Nat.le_of_ble_eq_true rfl) (fun p e s m below meth c A C _ => r_weak (lSub_s (lSub_s (lSub_n (lSub_n (lSub_n lSub_e))))) (N_X0_routeQueue_0 C a k p0 S q  hm rfl))
-- ShardGuard$Fleet.routeParked()V
theorem dX0_routeParked_0 : decode cX0_routeParked 0 = .ok (.iconst 0, 1) := by decide +kernel
theorem dX0_routeParked_1 : decode cX0_routeParked 1 = .ok (.istore_n 1, 1) := by decide +kernel
theorem dX0_routeParked_2 : decode cX0_routeParked 2 = .ok (.aload_n 0, 1) := by decide +kernel
theorem dX0_routeParked_3 : decode cX0_routeParked 3 = .ok (.getfield 78, 3) := by decide +kernel
theorem dX0_routeParked_6 : decode cX0_routeParked 6 = .ok (.istore_n 2, 1) := by decide +kernel
theorem dX0_routeParked_7 : decode cX0_routeParked 7 = .ok (.iload_n 2, 1) := by decide +kernel
theorem dX0_routeParked_8 : decode cX0_routeParked 8 = .ok (.ifCond .le 63, 3) := by decide +kernel
theorem dX0_routeParked_11 : decode cX0_routeParked 11 = .ok (.aload_n 0, 1) := by decide +kernel
theorem dX0_routeParked_12 : decode cX0_routeParked 12 = .ok (.getfield 42, 3) := by decide +kernel
theorem dX0_routeParked_15 : decode cX0_routeParked 15 = .ok (.iload_n 1, 1) := by decide +kernel
theorem dX0_routeParked_16 : decode cX0_routeParked 16 = .ok (.invokevirtual 122, 3) := by decide +kernel
theorem dX0_routeParked_19 : decode cX0_routeParked 19 = .ok (.istore_n 3, 1) := by decide +kernel
theorem dX0_routeParked_20 : decode cX0_routeParked 20 = .ok (.aload_n 0, 1) := by decide +kernel
theorem dX0_routeParked_21 : decode cX0_routeParked 21 = .ok (.getfield 32, 3) := by decide +kernel
theorem dX0_routeParked_24 : decode cX0_routeParked 24 = .ok (.iload_n 3, 1) := by decide +kernel
theorem dX0_routeParked_25 : decode cX0_routeParked 25 = .ok (.iconst 4, 1) := by decide +kernel
theorem dX0_routeParked_26 : decode cX0_routeParked 26 = .ok (.invokevirtual 111, 3) := by decide +kernel
theorem dX0_routeParked_29 : decode cX0_routeParked 29 = .ok (.iconst 1, 1) := by decide +kernel
theorem dX0_routeParked_30 : decode cX0_routeParked 30 = .ok (.if_icmp .ne 32, 3) := by decide +kernel
theorem dX0_routeParked_33 : decode cX0_routeParked 33 = .ok (.aload_n 0, 1) := by decide +kernel
theorem dX0_routeParked_34 : decode cX0_routeParked 34 = .ok (.aload_n 0, 1) := by decide +kernel
theorem dX0_routeParked_35 : decode cX0_routeParked 35 = .ok (.getfield 32, 3) := by decide +kernel
theorem dX0_routeParked_38 : decode cX0_routeParked 38 = .ok (.iload_n 3, 1) := by decide +kernel
theorem dX0_routeParked_39 : decode cX0_routeParked 39 = .ok (.iconst 0, 1) := by decide +kernel
theorem dX0_routeParked_40 : decode cX0_routeParked 40 = .ok (.invokevirtual 111, 3) := by decide +kernel
theorem dX0_routeParked_43 : decode cX0_routeParked 43 = .ok (.invokevirtual 119, 3) := by decide +kernel
theorem dX0_routeParked_46 : decode cX0_routeParked 46 = .ok (.ifCond .ne 16, 3) := by decide +kernel
theorem dX0_routeParked_49 : decode cX0_routeParked 49 = .ok (.aload_n 0, 1) := by decide +kernel
theorem dX0_routeParked_50 : decode cX0_routeParked 50 = .ok (.iload_n 1, 1) := by decide +kernel
theorem dX0_routeParked_51 : decode cX0_routeParked 51 = .ok (.invokevirtual 156, 3) := by decide +kernel
theorem dX0_routeParked_54 : decode cX0_routeParked 54 = .ok (.aload_n 0, 1) := by decide +kernel
theorem dX0_routeParked_55 : decode cX0_routeParked 55 = .ok (.iload_n 3, 1) := by decide +kernel
theorem dX0_routeParked_56 : decode cX0_routeParked 56 = .ok (.invokevirtual 104, 3) := by decide +kernel
theorem dX0_routeParked_59 : decode cX0_routeParked 59 = .ok (.goto 6, 3) := by decide +kernel
theorem dX0_routeParked_62 : decode cX0_routeParked 62 = .ok (.iinc 1 1, 3) := by decide +kernel
theorem dX0_routeParked_65 : decode cX0_routeParked 65 = .ok (.iinc 2 (-1), 3) := by decide +kernel
theorem dX0_routeParked_68 : decode cX0_routeParked 68 = .ok (.goto (-61), 3) := by decide +kernel
theorem dX0_routeParked_71 : decode cX0_routeParked 71 = .ok (.return_, 1) := by decide +kernel
def rm_X0_routeParked : Room := { frames := 4, cells := 0, slots := 0, locals := 122 }
def M_X0_routeParked_7 (k : Nat) : Nat → (Int32) → (Int32) → (Nat → Nat → Int32) → Option ((Nat → Nat → Int32))
  | 0, _, _, _ => none
  | n + 1, x1, x2, S => if x2 ≤ 0 then (some S) else ((M_X5_at k 60 (S 5) x1).bind fun q2 => (M_X6_at k 60 8 480 (S 4) q2 (4 : Int32)).bind fun q3 => if q3 = (1 : Int32) then ((M_X6_at k 60 8 480 (S 4) q2 (0 : Int32)).bind fun q5 => (M_X0_isCutOff k S q5).bind fun q6 => if q6 = 0 then ((M_X0_leaveLine k S x1).bind fun q8 => (M_X0_route k q8 q2).bind fun q9 => M_X0_routeParked_7 k n x1 (x2 + (-1)) q9) else (M_X0_routeParked_7 k n (x1 + 1) (x2 + (-1)) S)) else (M_X0_routeParked_7 k n (x1 + 1) (x2 + (-1)) S))
theorem M_X0_routeParked_7_s (k : Nat) (n : Nat) (x1 : Int32) (x2 : Int32) (S : Nat → Nat → Int32) : M_X0_routeParked_7 k (n + 1) x1 x2 S = (if x2 ≤ 0 then (some S) else ((M_X5_at k 60 (S 5) x1).bind fun q2 => (M_X6_at k 60 8 480 (S 4) q2 (4 : Int32)).bind fun q3 => if q3 = (1 : Int32) then ((M_X6_at k 60 8 480 (S 4) q2 (0 : Int32)).bind fun q5 => (M_X0_isCutOff k S q5).bind fun q6 => if q6 = 0 then ((M_X0_leaveLine k S x1).bind fun q8 => (M_X0_route k q8 q2).bind fun q9 => M_X0_routeParked_7 k n x1 (x2 + (-1)) q9) else (M_X0_routeParked_7 k n (x1 + 1) (x2 + (-1)) S)) else (M_X0_routeParked_7 k n (x1 + 1) (x2 + (-1)) S))) := rfl
set_option maxRecDepth 100000 in
set_option maxHeartbeats 4000000 in
theorem N_X0_routeParked_7 (C : CX E p l s m args meth c cX0_routeParked 4 RX0 none A) (a : Nat → Nat) (k : Nat) {post : va_W → Prop} :
    ∀ (n : Nat) (x1 : Int32) (x2 : Int32) (S : Nat → Nat → Int32) (q : (Nat → Nat → Int32)), M_X0_routeParked_7 k n x1 x2 S = some q → post (wFl E a q) →
      WW E p l e rm_X0_routeParked s m args below meth c A 0 0 (QV E below post args s rm_X0_routeParked A) (wFl E a S) 4 [some (.ref (a 0)), some (.int x1), some (.int x2), none] 7 [] := by
  intro n
  induction n with
  | zero => intro x1 x2 S q  h _; cases h
  | succ n ih =>
    intro x1 x2 S q  h hq
    rw [M_X0_routeParked_7_s] at h
    refine r_iload_n (pc := 7) C (i := 2) dX0_routeParked_7 rfl rfl ?_
    refine r_if_le (pc := 8) C (tgt := 71) dX0_routeParked_8 rfl (fun c1 => ?_) (fun c1 => ?_)
    · rw [if_pos c1] at h
      cases h
      exact r_vret (pc := 71) C hq (Nat.zero_le _) (Nat.zero_le _) dX0_routeParked_71
    · rw [if_neg c1] at h
      refine r_aload_n (pc := 11) C (i := 0) dX0_routeParked_11 rfl rfl ?_
      refine r_get (pc := 12) C gwX0 0 rfl rfl 11 (by decide) wm_1_121 rfl dX0_routeParked_12 ?_
      refine r_iload_n (pc := 15) C (i := 1) dX0_routeParked_15 rfl rfl ?_
      obtain ⟨q2, hq2, h⟩ := bnd h
      refine r_callVp_CI (Cn := RX5) (pc := 16) C [.int x1] (c_X5_at E l k (fun i => a (i + 16)) 60 (S 5) x1 hq2) [16, 17] (hp_X0_queueLength_0 E a S) (by decide) 0 rfl rfl rfl g_X0_122 hd_X5_at ⟨Nat.le_of_ble_eq_true rfl, Nat.le_of_ble_eq_true rfl⟩ ⟨Nat.zero_le _, Nat.zero_le _⟩ (Nat.le_of_ble_eq_true rfl) rfl dX0_routeParked_16 (fun r hr => ?_)
      have hr := hr.symm
      subst hr
      refine r_istore_n (pc := 19) C (i := 3) dX0_routeParked_19 rfl (by decide) rfl ?_
      refine r_aload_n (pc := 20) C (i := 0) dX0_routeParked_20 rfl rfl ?_
      refine r_get (pc := 21) C gwX0 0 rfl rfl 9 (by decide) wm_1_115 rfl dX0_routeParked_21 ?_
      refine r_iload_n (pc := 24) C (i := 3) dX0_routeParked_24 rfl rfl ?_
      refine r_iconst (pc := 25) C (v := 4) dX0_routeParked_25 (by decide) ?_
      obtain ⟨q3, hq3, h⟩ := bnd h
      refine r_callVp_CI (Cn := RX6) (pc := 26) C [.int q2, .int (4 : Int32)] (c_X6_at E l k (fun i => a (i + 7)) 60 8 480 (S 4) q2 (4 : Int32) hq3) [7, 8] (hp_X0_addRequest_0 E a S) (by decide) 0 rfl rfl rfl g_X0_111 hd_X6_at ⟨Nat.le_of_ble_eq_true rfl, Nat.le_of_ble_eq_true rfl⟩ ⟨Nat.zero_le _, Nat.zero_le _⟩ (Nat.le_of_ble_eq_true rfl) rfl dX0_routeParked_26 (fun r hr => ?_)
      have hr := hr.symm
      subst hr
      refine r_iconst (pc := 29) C (v := 1) dX0_routeParked_29 (by decide) ?_
      refine r_icmp_ne (pc := 30) C (tgt := 62) dX0_routeParked_30 rfl (fun c4 => ?_) (fun c4 => ?_)
      · rw [if_neg c4] at h
        refine r_iinc (pc := 62) C (v := (x1 + 1)) dX0_routeParked_62 rfl rfl (by decide) rfl ?_
        refine r_iinc (pc := 65) C (v := (x2 + (-1))) dX0_routeParked_65 rfl rfl (by decide) rfl ?_
        refine r_goto (pc := 68) C (tgt := 7) dX0_routeParked_68 rfl ?_
        refine r_weak (lSub_s (lSub_s (lSub_s (lSub_n lSub_e)))) ?_
        exact ih (x1 + 1) (x2 + (-1)) S q  h hq
      · rw [if_pos c4] at h
        refine r_aload_n (pc := 33) C (i := 0) dX0_routeParked_33 rfl rfl ?_
        refine r_aload_n (pc := 34) C (i := 0) dX0_routeParked_34 rfl rfl ?_
        refine r_get (pc := 35) C gwX0 0 rfl rfl 9 (by decide) wm_1_115 rfl dX0_routeParked_35 ?_
        refine r_iload_n (pc := 38) C (i := 3) dX0_routeParked_38 rfl rfl ?_
        refine r_iconst (pc := 39) C (v := 0) dX0_routeParked_39 (by decide) ?_
        obtain ⟨q5, hq5, h⟩ := bnd h
        refine r_callVp_CI (Cn := RX6) (pc := 40) C [.int q2, .int (0 : Int32)] (c_X6_at E l k (fun i => a (i + 7)) 60 8 480 (S 4) q2 (0 : Int32) hq5) [7, 8] (hp_X0_addRequest_0 E a S) (by decide) 0 rfl rfl rfl g_X0_111 hd_X6_at ⟨Nat.le_of_ble_eq_true rfl, Nat.le_of_ble_eq_true rfl⟩ ⟨Nat.zero_le _, Nat.zero_le _⟩ (Nat.le_of_ble_eq_true rfl) rfl dX0_routeParked_40 (fun r hr => ?_)
        have hr := hr.symm
        subst hr
        obtain ⟨q6, hq6, h⟩ := bnd h
        refine r_callVp_CI (Cn := RX0) (pc := 43) C [.int q5] (c_X0_isCutOff E l k a S q5 hq6) [0, 1, 2, 3, 4, 5, 6, 7, 8, 9, 10, 11, 12, 13, 14, 15, 16, 17] (hp_X0_isCutOff_0 E a S) (by decide) 0 rfl rfl rfl g_X0_119 hd_X0_isCutOff ⟨Nat.le_of_ble_eq_true rfl, Nat.le_of_ble_eq_true rfl⟩ ⟨Nat.zero_le _, Nat.zero_le _⟩ (Nat.le_of_ble_eq_true rfl) rfl dX0_routeParked_43 (fun r hr => ?_)
        have hr := hr.symm
        subst hr
        refine r_if_ne (pc := 46) C (tgt := 62) dX0_routeParked_46 rfl (fun c7 => ?_) (fun c7 => ?_)
        · rw [if_neg c7] at h
          refine r_iinc (pc := 62) C (v := (x1 + 1)) dX0_routeParked_62 rfl rfl (by decide) rfl ?_
          refine r_iinc (pc := 65) C (v := (x2 + (-1))) dX0_routeParked_65 rfl rfl (by decide) rfl ?_
          refine r_goto (pc := 68) C (tgt := 7) dX0_routeParked_68 rfl ?_
          refine r_weak (lSub_s (lSub_s (lSub_s (lSub_n lSub_e)))) ?_
          exact ih (x1 + 1) (x2 + (-1)) S q  h hq
        · rw [if_pos c7] at h
          refine r_aload_n (pc := 49) C (i := 0) dX0_routeParked_49 rfl rfl ?_
          refine r_iload_n (pc := 50) C (i := 1) dX0_routeParked_50 rfl rfl ?_
          obtain ⟨q8, hq8, h⟩ := bnd h
          refine r_callV_CV (Cn := RX0) (pc := 51) C [.int x1] (c_X0_leaveLine E l k a S x1 hq8) [0, 1, 2, 3, 4, 5, 6, 7, 8, 9, 10, 11, 12, 13, 14, 15, 16, 17] (hp_X0_isCutOff_0 E a S) (by decide) 0 rfl rfl rfl g_X0_156 hd_X0_leaveLine ⟨Nat.le_of_ble_eq_true rfl, Nat.le_of_ble_eq_true rfl⟩ ⟨Nat.zero_le _, Nat.zero_le _⟩ (Nat.le_of_ble_eq_true rfl) rfl dX0_routeParked_51 (fun w1 hw1 => ?_)
          subst hw1
          refine ⟨(wFl E a q8), by exact (pw_X0_finish_0 E a S q8), ?_⟩
          refine r_aload_n (pc := 54) C (i := 0) dX0_routeParked_54 rfl rfl ?_
          refine r_iload_n (pc := 55) C (i := 3) dX0_routeParked_55 rfl rfl ?_
          obtain ⟨q9, hq9, h⟩ := bnd h
          refine r_callV_CV (Cn := RX0) (pc := 56) C [.int q2] (c_X0_route E l k a q8 q2 hq9) [0, 1, 2, 3, 4, 5, 6, 7, 8, 9, 10, 11, 12, 13, 14, 15, 16, 17] (hp_X0_isCutOff_0 E a q8) (by decide) 0 rfl rfl rfl g_X0_104 hd_X0_route ⟨Nat.le_of_ble_eq_true rfl, Nat.le_of_ble_eq_true rfl⟩ ⟨Nat.zero_le _, Nat.zero_le _⟩ (Nat.le_of_ble_eq_true rfl) rfl dX0_routeParked_56 (fun w1 hw1 => ?_)
          subst hw1
          refine ⟨(wFl E a q9), by exact (pw_X0_finish_0 E a q8 q9), ?_⟩
          refine r_goto (pc := 59) C (tgt := 65) dX0_routeParked_59 rfl ?_
          refine r_iinc (pc := 65) C (v := (x2 + (-1))) dX0_routeParked_65 rfl rfl (by decide) rfl ?_
          refine r_goto (pc := 68) C (tgt := 7) dX0_routeParked_68 rfl ?_
          refine r_weak (lSub_s (lSub_s (lSub_s (lSub_n lSub_e)))) ?_
          exact ih x1 (x2 + (-1)) q9 q  h hq
def M_X0_routeParked_0 (k : Nat) (S : Nat → Nat → Int32) : Option ((Nat → Nat → Int32)) := lt (S 0 6) fun v10 => M_X0_routeParked_7 k k (0 : Int32) v10 S
set_option maxRecDepth 100000 in
set_option maxHeartbeats 4000000 in
theorem N_X0_routeParked_0 (C : CX E p l s m args meth c cX0_routeParked 4 RX0 none A) (a : Nat → Nat) (k : Nat) {post : va_W → Prop} :
    ∀ (S : Nat → Nat → Int32) (q : (Nat → Nat → Int32)), M_X0_routeParked_0 k S = some q → post (wFl E a q) →
      WW E p l e rm_X0_routeParked s m args below meth c A 0 0 (QV E below post args s rm_X0_routeParked A) (wFl E a S) 4 [some (.ref (a 0)), none, none, none] 0 [] := by
  intro S q  h hq
  unfold M_X0_routeParked_0 at h
  refine r_iconst (pc := 0) C (v := 0) dX0_routeParked_0 (by decide) ?_
  refine r_istore_n (pc := 1) C (i := 1) dX0_routeParked_1 rfl (by decide) rfl ?_
  refine r_aload_n (pc := 2) C (i := 0) dX0_routeParked_2 rfl rfl ?_
  refine r_get (pc := 3) C gwX0 0 rfl rfl 12 (by decide) wm_1_122 rfl dX0_routeParked_3 ?_
  obtain ⟨v10, hv10, h⟩ := lt_e h
  refine r_topi hv10 ?_
  refine r_istore_n (pc := 6) C (i := 2) dX0_routeParked_6 rfl (by decide) rfl ?_
  refine r_weak (lSub_s (lSub_s (lSub_s (lSub_n lSub_e)))) ?_
  exact N_X0_routeParked_7 C a k k (0 : Int32) v10 S q  h hq
def M_X0_routeParked (k : Nat) (S : Nat → Nat → Int32) : Option ((Nat → Nat → Int32)) := M_X0_routeParked_0 k S
set_option maxRecDepth 100000 in
set_option maxHeartbeats 4000000 in
theorem c_X0_routeParked (E : ENV) (l : Launch) (k : Nat) (a : Nat → Nat) (S : Nat → Nat → Int32) {q : (Nat → Nat → Int32)} (hm : M_X0_routeParked k S = some q) : CV E l yX0_routeParked cX0_routeParked 4 none rm_X0_routeParked [.ref (a 0)] (wFl E a S) (fun w' => w' = (wFl E a q)) :=
  CV.of 3 (by decide) (Nat.le_of_ble_eq_true rfl) (fun p e s m below meth c A C _ => r_weak (lSub_s (lSub_n (lSub_n (lSub_n lSub_e)))) (N_X0_routeParked_0 C a k S q  hm rfl))
theorem hd_X0_placeInLine : yX0_placeInLine.cls = RX0 ∧ yX0_placeInLine.cls ≠ "java/lang/invoke/MethodHandle" ∧ yX0_placeInLine.cls ≠ "java/lang/invoke/VarHandle" ∧ (parseMethodDescriptor yX0_placeInLine.desc).map (fun d => d.parameters.length) = some 1 := by decide +kernel
theorem g_X0_172 : GoodIn GW (wsV RX0 172 RX0 yX0_placeInLine (wsG yX0_placeInLine cX0_placeInLine 3 (some .int))) := gw_V wm_4_200 wm_4_202 wm_0_15 wm_1_2 wm_4_203
-- ShardGuard$Fleet.retryKiller(I)V
theorem dX0_retryKiller_0 : decode cX0_retryKiller 0 = .ok (.aload_n 0, 1) := by decide +kernel
theorem dX0_retryKiller_1 : decode cX0_retryKiller 1 = .ok (.aload_n 0, 1) := by decide +kernel
theorem dX0_retryKiller_2 : decode cX0_retryKiller 2 = .ok (.iload_n 1, 1) := by decide +kernel
theorem dX0_retryKiller_3 : decode cX0_retryKiller 3 = .ok (.invokevirtual 172, 3) := by decide +kernel
theorem dX0_retryKiller_6 : decode cX0_retryKiller 6 = .ok (.invokevirtual 156, 3) := by decide +kernel
theorem dX0_retryKiller_9 : decode cX0_retryKiller 9 = .ok (.aload_n 0, 1) := by decide +kernel
theorem dX0_retryKiller_10 : decode cX0_retryKiller 10 = .ok (.getfield 32, 3) := by decide +kernel
theorem dX0_retryKiller_13 : decode cX0_retryKiller 13 = .ok (.iload_n 1, 1) := by decide +kernel
theorem dX0_retryKiller_14 : decode cX0_retryKiller 14 = .ok (.iconst 5, 1) := by decide +kernel
theorem dX0_retryKiller_15 : decode cX0_retryKiller 15 = .ok (.iconst 1, 1) := by decide +kernel
theorem dX0_retryKiller_16 : decode cX0_retryKiller 16 = .ok (.invokevirtual 162, 3) := by decide +kernel
theorem dX0_retryKiller_19 : decode cX0_retryKiller 19 = .ok (.aload_n 0, 1) := by decide +kernel
theorem dX0_retryKiller_20 : decode cX0_retryKiller 20 = .ok (.getfield 32, 3) := by decide +kernel
theorem dX0_retryKiller_23 : decode cX0_retryKiller 23 = .ok (.iload_n 1, 1) := by decide +kernel
theorem dX0_retryKiller_24 : decode cX0_retryKiller 24 = .ok (.iconst 5, 1) := by decide +kernel
theorem dX0_retryKiller_25 : decode cX0_retryKiller 25 = .ok (.invokevirtual 111, 3) := by decide +kernel
theorem dX0_retryKiller_28 : decode cX0_retryKiller 28 = .ok (.aload_n 0, 1) := by decide +kernel
theorem dX0_retryKiller_29 : decode cX0_retryKiller 29 = .ok (.getfield 14, 3) := by decide +kernel
theorem dX0_retryKiller_32 : decode cX0_retryKiller 32 = .ok (.iconst 1, 1) := by decide +kernel
theorem dX0_retryKiller_33 : decode cX0_retryKiller 33 = .ok (.invokevirtual 122, 3) := by decide +kernel
theorem dX0_retryKiller_36 : decode cX0_retryKiller 36 = .ok (.if_icmp .le 12, 3) := by decide +kernel
theorem dX0_retryKiller_39 : decode cX0_retryKiller 39 = .ok (.aload_n 0, 1) := by decide +kernel
theorem dX0_retryKiller_40 : decode cX0_retryKiller 40 = .ok (.iload_n 1, 1) := by decide +kernel
theorem dX0_retryKiller_41 : decode cX0_retryKiller 41 = .ok (.iconst 3, 1) := by decide +kernel
theorem dX0_retryKiller_42 : decode cX0_retryKiller 42 = .ok (.invokevirtual 101, 3) := by decide +kernel
theorem dX0_retryKiller_45 : decode cX0_retryKiller 45 = .ok (.goto 8, 3) := by decide +kernel
theorem dX0_retryKiller_48 : decode cX0_retryKiller 48 = .ok (.aload_n 0, 1) := by decide +kernel
theorem dX0_retryKiller_49 : decode cX0_retryKiller 49 = .ok (.iload_n 1, 1) := by decide +kernel
theorem dX0_retryKiller_50 : decode cX0_retryKiller 50 = .ok (.invokevirtual 104, 3) := by decide +kernel
theorem dX0_retryKiller_53 : decode cX0_retryKiller 53 = .ok (.return_, 1) := by decide +kernel
def rm_X0_retryKiller : Room := { frames := 4, cells := 0, slots := 0, locals := 122 }
def M_X0_retryKiller_0 (k : Nat) (p0 : Int32) (S : Nat → Nat → Int32) : Option ((Nat → Nat → Int32)) := (M_X0_placeInLine k S p0).bind fun q1 => (M_X0_leaveLine k S q1).bind fun q2 => (M_X6_add k 60 8 480 (q2 4) p0 (5 : Int32) (1 : Int32)).bind fun q3 => lt (va_up q2 4 q3) fun F4 => (M_X6_at k 60 8 480 (F4 4) p0 (5 : Int32)).bind fun q5 => (M_X5_at k 5 (F4 1) (1 : Int32)).bind fun q6 => if q5 ≤ q6 then ((M_X0_route k F4 p0).bind fun q8 => some q8) else ((M_X0_end k F4 p0 (3 : Int32)).bind fun q9 => some q9)
set_option maxRecDepth 100000 in
set_option maxHeartbeats 4000000 in
theorem N_X0_retryKiller_0 (C : CX E p l s m args meth c cX0_retryKiller 2 RX0 none A) (a : Nat → Nat) (k : Nat) {post : va_W → Prop} :
    ∀ (p0 : Int32) (S : Nat → Nat → Int32) (q : (Nat → Nat → Int32)), M_X0_retryKiller_0 k p0 S = some q → post (wFl E a q) →
      WW E p l e rm_X0_retryKiller s m args below meth c A 0 0 (QV E below post args s rm_X0_retryKiller A) (wFl E a S) 2 [some (.ref (a 0)), some (.int p0)] 0 [] := by
  intro p0 S q  h hq
  unfold M_X0_retryKiller_0 at h
  refine r_aload_n (pc := 0) C (i := 0) dX0_retryKiller_0 rfl rfl ?_
  refine r_aload_n (pc := 1) C (i := 0) dX0_retryKiller_1 rfl rfl ?_
  refine r_iload_n (pc := 2) C (i := 1) dX0_retryKiller_2 rfl rfl ?_
  obtain ⟨q1, hq1, h⟩ := bnd h
  refine r_callVp_CI (Cn := RX0) (pc := 3) C [.int p0] (c_X0_placeInLine E l k a S p0 hq1) [0, 1, 2, 3, 4, 5, 6, 7, 8, 9, 10, 11, 12, 13, 14, 15, 16, 17] (hp_X0_isCutOff_0 E a S) (by decide) 0 rfl rfl rfl g_X0_172 hd_X0_placeInLine ⟨Nat.le_of_ble_eq_true rfl, Nat.le_of_ble_eq_true rfl⟩ ⟨Nat.zero_le _, Nat.zero_le _⟩ (Nat.le_of_ble_eq_true rfl) rfl dX0_retryKiller_3 (fun r hr => ?_)
  have hr := hr.symm
  subst hr
  obtain ⟨q2, hq2, h⟩ := bnd h
  refine r_callV_CV (Cn := RX0) (pc := 6) C [.int q1] (c_X0_leaveLine E l k a S q1 hq2) [0, 1, 2, 3, 4, 5, 6, 7, 8, 9, 10, 11, 12, 13, 14, 15, 16, 17] (hp_X0_isCutOff_0 E a S) (by decide) 0 rfl rfl rfl g_X0_156 hd_X0_leaveLine ⟨Nat.le_of_ble_eq_true rfl, Nat.le_of_ble_eq_true rfl⟩ ⟨Nat.zero_le _, Nat.zero_le _⟩ (Nat.le_of_ble_eq_true rfl) rfl dX0_retryKiller_6 (fun w1 hw1 => ?_)
  subst hw1
  refine ⟨(wFl E a q2), by exact (pw_X0_finish_0 E a S q2), ?_⟩
  refine r_aload_n (pc := 9) C (i := 0) dX0_retryKiller_9 rfl rfl ?_
  refine r_get (pc := 10) C gwX0 0 rfl rfl 9 (by decide) wm_1_115 rfl dX0_retryKiller_10 ?_
  refine r_iload_n (pc := 13) C (i := 1) dX0_retryKiller_13 rfl rfl ?_
  refine r_iconst (pc := 14) C (v := 5) dX0_retryKiller_14 (by decide) ?_
  refine r_iconst (pc := 15) C (v := 1) dX0_retryKiller_15 (by decide) ?_
  obtain ⟨q3, hq3, h⟩ := bnd h
  obtain ⟨F4, hF4, h⟩ := lt_e h
  refine r_callV_CV (Cn := RX6) (pc := 16) C [.int p0, .int (5 : Int32), .int (1 : Int32)] (c_X6_add E l k (fun i => a (i + 7)) 60 8 480 (q2 4) p0 (5 : Int32) (1 : Int32) hq3) [7, 8] (hp_X0_addRequest_0 E a q2) (by decide) 0 rfl rfl rfl g_X0_162 hd_X6_add ⟨Nat.le_of_ble_eq_true rfl, Nat.le_of_ble_eq_true rfl⟩ ⟨Nat.zero_le _, Nat.zero_le _⟩ (Nat.le_of_ble_eq_true rfl) rfl dX0_retryKiller_16 (fun w1 hw1 => ?_)
  subst hw1
  refine ⟨(wFl E a F4), by rw [hF4]; exact (pw_X0_addRequest_0 E a q2 q3), ?_⟩
  refine r_aload_n (pc := 19) C (i := 0) dX0_retryKiller_19 rfl rfl ?_
  refine r_get (pc := 20) C gwX0 0 rfl rfl 9 (by decide) wm_1_115 rfl dX0_retryKiller_20 ?_
  refine r_iload_n (pc := 23) C (i := 1) dX0_retryKiller_23 rfl rfl ?_
  refine r_iconst (pc := 24) C (v := 5) dX0_retryKiller_24 (by decide) ?_
  obtain ⟨q5, hq5, h⟩ := bnd h
  refine r_callVp_CI (Cn := RX6) (pc := 25) C [.int p0, .int (5 : Int32)] (c_X6_at E l k (fun i => a (i + 7)) 60 8 480 (F4 4) p0 (5 : Int32) hq5) [7, 8] (hp_X0_addRequest_0 E a F4) (by decide) 0 rfl rfl rfl g_X0_111 hd_X6_at ⟨Nat.le_of_ble_eq_true rfl, Nat.le_of_ble_eq_true rfl⟩ ⟨Nat.zero_le _, Nat.zero_le _⟩ (Nat.le_of_ble_eq_true rfl) rfl dX0_retryKiller_25 (fun r hr => ?_)
  have hr := hr.symm
  subst hr
  refine r_aload_n (pc := 28) C (i := 0) dX0_retryKiller_28 rfl rfl ?_
  refine r_get (pc := 29) C gwX0 0 rfl rfl 6 (by decide) wm_1_108 rfl dX0_retryKiller_29 ?_
  refine r_iconst (pc := 32) C (v := 1) dX0_retryKiller_32 (by decide) ?_
  obtain ⟨q6, hq6, h⟩ := bnd h
  refine r_callVp_CI (Cn := RX5) (pc := 33) C [.int (1 : Int32)] (c_X5_at E l k (fun i => a (i + 1)) 5 (F4 1) (1 : Int32) hq6) [1, 2] (hp_X0_countedKills_0 E a F4) (by decide) 0 rfl rfl rfl g_X0_122 hd_X5_at ⟨Nat.le_of_ble_eq_true rfl, Nat.le_of_ble_eq_true rfl⟩ ⟨Nat.zero_le _, Nat.zero_le _⟩ (Nat.le_of_ble_eq_true rfl) rfl dX0_retryKiller_33 (fun r hr => ?_)
  have hr := hr.symm
  subst hr
  refine r_icmp_le (pc := 36) C (tgt := 48) dX0_retryKiller_36 rfl (fun c7 => ?_) (fun c7 => ?_)
  · rw [if_pos c7] at h
    refine r_aload_n (pc := 48) C (i := 0) dX0_retryKiller_48 rfl rfl ?_
    refine r_iload_n (pc := 49) C (i := 1) dX0_retryKiller_49 rfl rfl ?_
    obtain ⟨q8, hq8, h⟩ := bnd h
    refine r_callV_CV (Cn := RX0) (pc := 50) C [.int p0] (c_X0_route E l k a F4 p0 hq8) [0, 1, 2, 3, 4, 5, 6, 7, 8, 9, 10, 11, 12, 13, 14, 15, 16, 17] (hp_X0_isCutOff_0 E a F4) (by decide) 0 rfl rfl rfl g_X0_104 hd_X0_route ⟨Nat.le_of_ble_eq_true rfl, Nat.le_of_ble_eq_true rfl⟩ ⟨Nat.zero_le _, Nat.zero_le _⟩ (Nat.le_of_ble_eq_true rfl) rfl dX0_retryKiller_50 (fun w1 hw1 => ?_)
    subst hw1
    refine ⟨(wFl E a q8), by exact (pw_X0_finish_0 E a F4 q8), ?_⟩
    cases h
    exact r_vret (pc := 53) C hq (Nat.zero_le _) (Nat.zero_le _) dX0_retryKiller_53
  · rw [if_neg c7] at h
    refine r_aload_n (pc := 39) C (i := 0) dX0_retryKiller_39 rfl rfl ?_
    refine r_iload_n (pc := 40) C (i := 1) dX0_retryKiller_40 rfl rfl ?_
    refine r_iconst (pc := 41) C (v := 3) dX0_retryKiller_41 (by decide) ?_
    obtain ⟨q9, hq9, h⟩ := bnd h
    refine r_callV_CV (Cn := RX0) (pc := 42) C [.int p0, .int (3 : Int32)] (c_X0_end E l k a F4 p0 (3 : Int32) hq9) [0, 1, 2, 3, 4, 5, 6, 7, 8, 9, 10, 11, 12, 13, 14, 15, 16, 17] (hp_X0_isCutOff_0 E a F4) (by decide) 0 rfl rfl rfl g_X0_101 hd_X0_end ⟨Nat.le_of_ble_eq_true rfl, Nat.le_of_ble_eq_true rfl⟩ ⟨Nat.zero_le _, Nat.zero_le _⟩ (Nat.le_of_ble_eq_true rfl) rfl dX0_retryKiller_42 (fun w1 hw1 => ?_)
    subst hw1
    refine ⟨(wFl E a q9), by exact (pw_X0_finish_0 E a F4 q9), ?_⟩
    refine r_goto (pc := 45) C (tgt := 53) dX0_retryKiller_45 rfl ?_
    cases h
    exact r_vret (pc := 53) C hq (Nat.zero_le _) (Nat.zero_le _) dX0_retryKiller_53
def M_X0_retryKiller (k : Nat) (S : Nat → Nat → Int32) (p0 : Int32) : Option ((Nat → Nat → Int32)) := M_X0_retryKiller_0 k p0 S
set_option maxRecDepth 100000 in
set_option maxHeartbeats 4000000 in
theorem c_X0_retryKiller (E : ENV) (l : Launch) (k : Nat) (a : Nat → Nat) (S : Nat → Nat → Int32) (p0 : Int32) {q : (Nat → Nat → Int32)} (hm : M_X0_retryKiller k S p0 = some q) : CV E l yX0_retryKiller cX0_retryKiller 2 none rm_X0_retryKiller [.ref (a 0), .int p0] (wFl E a S) (fun w' => w' = (wFl E a q)) :=
  CV.of 0 (by decide) (Nat.le_of_ble_eq_true rfl) (fun p e s m below meth c A C _ => r_weak (lSub_s (lSub_s lSub_e)) (N_X0_retryKiller_0 C a k p0 S q  hm rfl))
end WALKS
