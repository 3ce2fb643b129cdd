section WALKS
variable {E : ENV} {p : Program} {l : Launch} {e : Env} {s : State} {m : MethodId} {args : Array Value} {below : List Frame} {meth : Method} {c : Code} {A : Nat → Prop}
theorem hd_X0_countedKills : yX0_countedKills.cls = RX0 ∧ yX0_countedKills.cls ≠ "java/lang/invoke/MethodHandle" ∧ yX0_countedKills.cls ≠ "java/lang/invoke/VarHandle" ∧ (parseMethodDescriptor yX0_countedKills.desc).map (fun d => d.parameters.length) = some 1 := by decide +kernel
theorem g_X0_175 : GoodIn GW (wsV RX0 175 RX0 yX0_countedKills (wsG yX0_countedKills cX0_countedKills 3 (some .int))) := gw_V wm_4_216 wm_4_51 wm_4_52 wm_1_2 wm_4_53
theorem hd_X0_refuseAll : yX0_refuseAll.cls = RX0 ∧ yX0_refuseAll.cls ≠ "java/lang/invoke/MethodHandle" ∧ yX0_refuseAll.cls ≠ "java/lang/invoke/VarHandle" ∧ (parseMethodDescriptor yX0_refuseAll.desc).map (fun d => d.parameters.length) = some 1 := by decide +kernel
theorem g_X0_178 : GoodIn GW (wsV RX0 178 RX0 yX0_refuseAll (wsG yX0_refuseAll cX0_refuseAll 5 none)) := gw_V wm_4_217 wm_4_219 wm_0_18 wm_1_2 wm_4_220
-- ShardGuard$Fleet.beginQuarantines()V
theorem dX0_beginQuarantines_0 : decode cX0_beginQuarantines 0 = .ok (.iconst 0, 1) := by decide +kernel
theorem dX0_beginQuarantines_1 : decode cX0_beginQuarantines 1 = .ok (.istore_n 1, 1) := by decide +kernel
theorem dX0_beginQuarantines_2 : decode cX0_beginQuarantines 2 = .ok (.iload_n 1, 1) := by decide +kernel
theorem dX0_beginQuarantines_3 : decode cX0_beginQuarantines 3 = .ok (.aload_n 0, 1) := by decide +kernel
theorem dX0_beginQuarantines_4 : decode cX0_beginQuarantines 4 = .ok (.getfield 52, 3) := by decide +kernel
theorem dX0_beginQuarantines_7 : decode cX0_beginQuarantines 7 = .ok (.if_icmp .ge 73, 3) := by decide +kernel
theorem dX0_beginQuarantines_10 : decode cX0_beginQuarantines 10 = .ok (.aload_n 0, 1) := by decide +kernel
theorem dX0_beginQuarantines_11 : decode cX0_beginQuarantines 11 = .ok (.iload_n 1, 1) := by decide +kernel
theorem dX0_beginQuarantines_12 : decode cX0_beginQuarantines 12 = .ok (.invokevirtual 97, 3) := by decide +kernel
theorem dX0_beginQuarantines_15 : decode cX0_beginQuarantines 15 = .ok (.ifCond .ne 59, 3) := by decide +kernel
theorem dX0_beginQuarantines_18 : decode cX0_beginQuarantines 18 = .ok (.aload_n 0, 1) := by decide +kernel
theorem dX0_beginQuarantines_19 : decode cX0_beginQuarantines 19 = .ok (.iload_n 1, 1) := by decide +kernel
theorem dX0_beginQuarantines_20 : decode cX0_beginQuarantines 20 = .ok (.invokevirtual 175, 3) := by decide +kernel
theorem dX0_beginQuarantines_23 : decode cX0_beginQuarantines 23 = .ok (.aload_n 0, 1) := by decide +kernel
theorem dX0_beginQuarantines_24 : decode cX0_beginQuarantines 24 = .ok (.getfield 14, 3) := by decide +kernel
theorem dX0_beginQuarantines_27 : decode cX0_beginQuarantines 27 = .ok (.iconst 2, 1) := by decide +kernel
theorem dX0_beginQuarantines_28 : decode cX0_beginQuarantines 28 = .ok (.invokevirtual 122, 3) := by decide +kernel
theorem dX0_beginQuarantines_31 : decode cX0_beginQuarantines 31 = .ok (.if_icmp .lt 43, 3) := by decide +kernel
theorem dX0_beginQuarantines_34 : decode cX0_beginQuarantines 34 = .ok (.aload_n 0, 1) := by decide +kernel
theorem dX0_beginQuarantines_35 : decode cX0_beginQuarantines 35 = .ok (.getfield 28, 3) := by decide +kernel
theorem dX0_beginQuarantines_38 : decode cX0_beginQuarantines 38 = .ok (.iload_n 1, 1) := by decide +kernel
theorem dX0_beginQuarantines_39 : decode cX0_beginQuarantines 39 = .ok (.iconst 1, 1) := by decide +kernel
theorem dX0_beginQuarantines_40 : decode cX0_beginQuarantines 40 = .ok (.aload_n 0, 1) := by decide +kernel
theorem dX0_beginQuarantines_41 : decode cX0_beginQuarantines 41 = .ok (.getfield 55, 3) := by decide +kernel
theorem dX0_beginQuarantines_44 : decode cX0_beginQuarantines 44 = .ok (.aload_n 0, 1) := by decide +kernel
theorem dX0_beginQuarantines_45 : decode cX0_beginQuarantines 45 = .ok (.getfield 14, 3) := by decide +kernel
theorem dX0_beginQuarantines_48 : decode cX0_beginQuarantines 48 = .ok (.iconst 4, 1) := by decide +kernel
theorem dX0_beginQuarantines_49 : decode cX0_beginQuarantines 49 = .ok (.invokevirtual 122, 3) := by decide +kernel
theorem dX0_beginQuarantines_52 : decode cX0_beginQuarantines 52 = .ok (.iadd, 1) := by decide +kernel
theorem dX0_beginQuarantines_53 : decode cX0_beginQuarantines 53 = .ok (.invokevirtual 84, 3) := by decide +kernel
theorem dX0_beginQuarantines_56 : decode cX0_beginQuarantines 56 = .ok (.aload_n 0, 1) := by decide +kernel
theorem dX0_beginQuarantines_57 : decode cX0_beginQuarantines 57 = .ok (.getfield 28, 3) := by decide +kernel
theorem dX0_beginQuarantines_60 : decode cX0_beginQuarantines 60 = .ok (.iload_n 1, 1) := by decide +kernel
theorem dX0_beginQuarantines_61 : decode cX0_beginQuarantines 61 = .ok (.iconst 2, 1) := by decide +kernel
theorem dX0_beginQuarantines_62 : decode cX0_beginQuarantines 62 = .ok (.aload_n 0, 1) := by decide +kernel
theorem dX0_beginQuarantines_63 : decode cX0_beginQuarantines 63 = .ok (.getfield 55, 3) := by decide +kernel
theorem dX0_beginQuarantines_66 : decode cX0_beginQuarantines 66 = .ok (.invokevirtual 84, 3) := by decide +kernel
theorem dX0_beginQuarantines_69 : decode cX0_beginQuarantines 69 = .ok (.aload_n 0, 1) := by decide +kernel
theorem dX0_beginQuarantines_70 : decode cX0_beginQuarantines 70 = .ok (.iload_n 1, 1) := by decide +kernel
theorem dX0_beginQuarantines_71 : decode cX0_beginQuarantines 71 = .ok (.invokevirtual 178, 3) := by decide +kernel
theorem dX0_beginQuarantines_74 : decode cX0_beginQuarantines 74 = .ok (.iinc 1 1, 3) := by decide +kernel
theorem dX0_beginQuarantines_77 : decode cX0_beginQuarantines 77 = .ok (.goto (-75), 3) := by decide +kernel
theorem dX0_beginQuarantines_80 : decode cX0_beginQuarantines 80 = .ok (.return_, 1) := by decide +kernel
def rm_X0_beginQuarantines : Room := { frames := 4, cells := 0, slots := 0, locals := 146 }
def M_X0_beginQuarantines_2 (k : Nat) : Nat → (Int32) → (Nat → Nat → Int32) → Option ((Nat → Nat → Int32))
  | 0, _, _ => none
  | n + 1, x1, S => if (S 0 2) ≤ x1 then (some S) else ((M_X0_isQuarantined k S x1).bind fun q2 => if q2 = 0 then ((M_X0_countedKills k S x1).bind fun q4 => (M_X5_at k 5 (S 1) (2 : Int32)).bind fun q5 => if q4 < q5 then (M_X0_beginQuarantines_2 k n (x1 + 1) S) else ((M_X5_at k 5 (S 1) (4 : Int32)).bind fun q7 => (M_X6_put k 12 3 36 (S 3) x1 (1 : Int32) ((S 0 4) + q7)).bind fun q8 => lt (va_up S 3 q8) fun F9 => (M_X6_put k 12 3 36 (F9 3) x1 (2 : Int32) (F9 0 4)).bind fun q10 => lt (va_up F9 3 q10) fun F11 => (M_X0_refuseAll k F11 x1).bind fun q12 => M_X0_beginQuarantines_2 k n (x1 + 1) q12)) else (M_X0_beginQuarantines_2 k n (x1 + 1) S))
theorem M_X0_beginQuarantines_2_s (k : Nat) (n : Nat) (x1 : Int32) (S : Nat → Nat → Int32) : M_X0_beginQuarantines_2 k (n + 1) x1 S = (if (S 0 2) ≤ x1 then (some S) else ((M_X0_isQuarantined k S x1).bind fun q2 => if q2 = 0 then ((M_X0_countedKills k S x1).bind fun q4 => (M_X5_at k 5 (S 1) (2 : Int32)).bind fun q5 => if q4 < q5 then (M_X0_beginQuarantines_2 k n (x1 + 1) S) else ((M_X5_at k 5 (S 1) (4 : Int32)).bind fun q7 => (M_X6_put k 12 3 36 (S 3) x1 (1 : Int32) ((S 0 4) + q7)).bind fun q8 => lt (va_up S 3 q8) fun F9 => (M_X6_put k 12 3 36 (F9 3) x1 (2 : Int32) (F9 0 4)).bind fun q10 => lt (va_up F9 3 q10) fun F11 => (M_X0_refuseAll k F11 x1).bind fun q12 => M_X0_beginQuarantines_2 k n (x1 + 1) q12)) else (M_X0_beginQuarantines_2 k n (x1 + 1) S))) := rfl
set_option maxRecDepth 100000 in
set_option maxHeartbeats 4000000 in
theorem N_X0_beginQuarantines_2 (C : CX E p l s m args meth c cX0_beginQuarantines 2 RX0 none A) (a : Nat → Nat) (k : Nat) {post : va_W → Prop} :
    ∀ (n : Nat) (x1 : Int32) (S : Nat → Nat → Int32) (q : (Nat → Nat → Int32)), M_X0_beginQuarantines_2 k n x1 S = some q → post (wFl E a q) →
      WW E p l e rm_X0_beginQuarantines s m args below meth c A 0 0 (QV E below post args s rm_X0_beginQuarantines A) (wFl E a S) 2 [some (.ref (a 0)), some (.int x1)] 2 [] := by
  intro n
  induction n with
  | zero => intro x1 S q  h _; cases h
  | succ n ih =>
    intro x1 S q  h hq
    rw [M_X0_beginQuarantines_2_s] at h
    refine r_iload_n (pc := 2) C (i := 1) dX0_beginQuarantines_2 rfl rfl ?_
    refine r_aload_n (pc := 3) C (i := 0) dX0_beginQuarantines_3 rfl rfl ?_
    refine r_get (pc := 4) C gwX0 0 rfl rfl 2 (by decide) wm_1_98 rfl dX0_beginQuarantines_4 ?_
    refine r_icmp_ge (pc := 7) C (tgt := 80) dX0_beginQuarantines_7 rfl (fun c1 => ?_) (fun c1 => ?_)
    · rw [if_pos c1] at h
      cases h
      exact r_vret (pc := 80) C hq (Nat.zero_le _) (Nat.zero_le _) dX0_beginQuarantines_80
    · rw [if_neg c1] at h
      refine r_aload_n (pc := 10) C (i := 0) dX0_beginQuarantines_10 rfl rfl ?_
      refine r_iload_n (pc := 11) C (i := 1) dX0_beginQuarantines_11 rfl rfl ?_
      obtain ⟨q2, hq2, h⟩ := bnd h
      refine r_callVp_CI (Cn := RX0) (pc := 12) C [.int x1] (c_X0_isQuarantined E l k a S x1 hq2) [0, 1, 2, 3, 4, 5, 6, 7, 8, 9, 10, 11, 12, 13, 14, 15, 16, 17] (hp_X0_isCutOff_0 E a S) (by decide) 0 rfl rfl rfl g_X0_97 hd_X0_isQuarantined ⟨Nat.le_of_ble_eq_true rfl, Nat.le_of_ble_eq_true rfl⟩ ⟨Nat.zero_le _, Nat.zero_le _⟩ (Nat.le_of_ble_eq_true rfl) rfl dX0_beginQuarantines_12 (fun r hr => ?_)
      have hr := hr.symm
      subst hr
      refine r_if_ne (pc := 15) C (tgt := 74) dX0_beginQuarantines_15 rfl (fun c3 => ?_) (fun c3 => ?_)
      · rw [if_neg c3] at h
        refine r_iinc (pc := 74) C (v := (x1 + 1)) dX0_beginQuarantines_74 rfl rfl (by decide) rfl ?_
        refine r_goto (pc := 77) C (tgt := 2) dX0_beginQuarantines_77 rfl ?_
        refine r_weak (lSub_s (lSub_s lSub_e)) ?_
        exact ih (x1 + 1) S q  h hq
      · rw [if_pos c3] at h
        refine r_aload_n (pc := 18) C (i := 0) dX0_beginQuarantines_18 rfl rfl ?_
        refine r_iload_n (pc := 19) C (i := 1) dX0_beginQuarantines_19 rfl rfl ?_
        obtain ⟨q4, hq4, h⟩ := bnd h
        refine r_callVp_CI (Cn := RX0) (pc := 20) C [.int x1] (c_X0_countedKills E l k a S x1 hq4) [0, 1, 2, 3, 4, 5, 6, 7, 8, 9, 10, 11, 12, 13, 14, 15, 16, 17] (hp_X0_isCutOff_0 E a S) (by decide) 0 rfl rfl rfl g_X0_175 hd_X0_countedKills ⟨Nat.le_of_ble_eq_true rfl, Nat.le_of_ble_eq_true rfl⟩ ⟨Nat.zero_le _, Nat.zero_le _⟩ (Nat.le_of_ble_eq_true rfl) rfl dX0_beginQuarantines_20 (fun r hr => ?_)
        have hr := hr.symm
        subst hr
        refine r_aload_n (pc := 23) C (i := 0) dX0_beginQuarantines_23 rfl rfl ?_
        refine r_get (pc := 24) C gwX0 0 rfl rfl 6 (by decide) wm_1_108 rfl dX0_beginQuarantines_24 ?_
        refine r_iconst (pc := 27) C (v := 2) dX0_beginQuarantines_27 (by decide) ?_
        obtain ⟨q5, hq5, h⟩ := bnd h
        refine r_callVp_CI (Cn := RX5) (pc := 28) C [.int (2 : Int32)] (c_X5_at E l k (fun i => a (i + 1)) 5 (S 1) (2 : Int32) hq5) [1, 2] (hp_X0_countedKills_0 E a S) (by decide) 0 rfl rfl rfl g_X0_122 hd_X5_at ⟨Nat.le_of_ble_eq_true rfl, Nat.le_of_ble_eq_true rfl⟩ ⟨Nat.zero_le _, Nat.zero_le _⟩ (Nat.le_of_ble_eq_true rfl) rfl dX0_beginQuarantines_28 (fun r hr => ?_)
        have hr := hr.symm
        subst hr
        refine r_icmp_lt (pc := 31) C (tgt := 74) dX0_beginQuarantines_31 rfl (fun c6 => ?_) (fun c6 => ?_)
        · rw [if_pos c6] at h
          refine r_iinc (pc := 74) C (v := (x1 + 1)) dX0_beginQuarantines_74 rfl rfl (by decide) rfl ?_
          refine r_goto (pc := 77) C (tgt := 2) dX0_beginQuarantines_77 rfl ?_
          refine r_weak (lSub_s (lSub_s lSub_e)) ?_
          exact ih (x1 + 1) S q  h hq
        · rw [if_neg c6] at h
          refine r_aload_n (pc := 34) C (i := 0) dX0_beginQuarantines_34 rfl rfl ?_
          refine r_get (pc := 35) C gwX0 0 rfl rfl 8 (by decide) wm_1_113 rfl dX0_beginQuarantines_35 ?_
          refine r_iload_n (pc := 38) C (i := 1) dX0_beginQuarantines_38 rfl rfl ?_
          refine r_iconst (pc := 39) C (v := 1) dX0_beginQuarantines_39 (by decide) ?_
          refine r_aload_n (pc := 40) C (i := 0) dX0_beginQuarantines_40 rfl rfl ?_
          refine r_get (pc := 41) C gwX0 0 rfl rfl 4 (by decide) wm_1_104 rfl dX0_beginQuarantines_41 ?_
          refine r_aload_n (pc := 44) C (i := 0) dX0_beginQuarantines_44 rfl rfl ?_
          refine r_get (pc := 45) C gwX0 0 rfl rfl 6 (by decide) wm_1_108 rfl dX0_beginQuarantines_45 ?_
          refine r_iconst (pc := 48) C (v := 4) dX0_beginQuarantines_48 (by decide) ?_
          obtain ⟨q7, hq7, h⟩ := bnd h
          refine r_callVp_CI (Cn := RX5) (pc := 49) C [.int (4 : Int32)] (c_X5_at E l k (fun i => a (i + 1)) 5 (S 1) (4 : Int32) hq7) [1, 2] (hp_X0_countedKills_0 E a S) (by decide) 0 rfl rfl rfl g_X0_122 hd_X5_at ⟨Nat.le_of_ble_eq_true rfl, Nat.le_of_ble_eq_true rfl⟩ ⟨Nat.zero_le _, Nat.zero_le _⟩ (Nat.le_of_ble_eq_true rfl) rfl dX0_beginQuarantines_49 (fun r hr => ?_)
          have hr := hr.symm
          subst hr
          refine r_iadd (pc := 52) C dX0_beginQuarantines_52 ?_
          obtain ⟨q8, hq8, h⟩ := bnd h
          obtain ⟨F9, hF9, h⟩ := lt_e h
          refine r_callV_CV (Cn := RX6) (pc := 53) C [.int x1, .int (1 : Int32), .int ((S 0 4) + q7)] (c_X6_put E l k (fun i => a (i + 5)) 12 3 36 (S 3) x1 (1 : Int32) ((S 0 4) + q7) hq8) [5, 6] (hp_X0_forgetRequests_0 E a S) (by decide) 0 rfl rfl rfl g_X0_84 hd_X6_put ⟨Nat.le_of_ble_eq_true rfl, Nat.le_of_ble_eq_true rfl⟩ ⟨Nat.zero_le _, Nat.zero_le _⟩ (Nat.le_of_ble_eq_true rfl) rfl dX0_beginQuarantines_53 (fun w1 hw1 => ?_)
          subst hw1
          refine ⟨(wFl E a F9), by rw [hF9]; exact (pw_X0_forgetRequests_0 E a S q8), ?_⟩
          refine r_aload_n (pc := 56) C (i := 0) dX0_beginQuarantines_56 rfl rfl ?_
          refine r_get (pc := 57) C gwX0 0 rfl rfl 8 (by decide) wm_1_113 rfl dX0_beginQuarantines_57 ?_
          refine r_iload_n (pc := 60) C (i := 1) dX0_beginQuarantines_60 rfl rfl ?_
          refine r_iconst (pc := 61) C (v := 2) dX0_beginQuarantines_61 (by decide) ?_
          refine r_aload_n (pc := 62) C (i := 0) dX0_beginQuarantines_62 rfl rfl ?_
          refine r_get (pc := 63) C gwX0 0 rfl rfl 4 (by decide) wm_1_104 rfl dX0_beginQuarantines_63 ?_
          obtain ⟨q10, hq10, h⟩ := bnd h
          obtain ⟨F11, hF11, h⟩ := lt_e h
          refine r_callV_CV (Cn := RX6) (pc := 66) C [.int x1, .int (2 : Int32), .int (F9 0 4)] (c_X6_put E l k (fun i => a (i + 5)) 12 3 36 (F9 3) x1 (2 : Int32) (F9 0 4) hq10) [5, 6] (hp_X0_forgetRequests_0 E a F9) (by decide) 0 rfl rfl rfl g_X0_84 hd_X6_put ⟨Nat.le_of_ble_eq_true rfl, Nat.le_of_ble_eq_true rfl⟩ ⟨Nat.zero_le _, Nat.zero_le _⟩ (Nat.le_of_ble_eq_true rfl) rfl dX0_beginQuarantines_66 (fun w1 hw1 => ?_)
          subst hw1
          refine ⟨(wFl E a F11), by rw [hF11]; exact (pw_X0_forgetRequests_0 E a F9 q10), ?_⟩
          refine r_aload_n (pc := 69) C (i := 0) dX0_beginQuarantines_69 rfl rfl ?_
          refine r_iload_n (pc := 70) C (i := 1) dX0_beginQuarantines_70 rfl rfl ?_
          obtain ⟨q12, hq12, h⟩ := bnd h
          refine r_callV_CV (Cn := RX0) (pc := 71) C [.int x1] (c_X0_refuseAll E l k a F11 x1 hq12) [0, 1, 2, 3, 4, 5, 6, 7, 8, 9, 10, 11, 12, 13, 14, 15, 16, 17] (hp_X0_isCutOff_0 E a F11) (by decide) 0 rfl rfl rfl g_X0_178 hd_X0_refuseAll ⟨Nat.le_of_ble_eq_true rfl, Nat.le_of_ble_eq_true rfl⟩ ⟨Nat.zero_le _, Nat.zero_le _⟩ (Nat.le_of_ble_eq_true rfl) rfl dX0_beginQuarantines_71 (fun w1 hw1 => ?_)
          subst hw1
          refine ⟨(wFl E a q12), by exact (pw_X0_finish_0 E a F11 q12), ?_⟩
          refine r_iinc (pc := 74) C (v := (x1 + 1)) dX0_beginQuarantines_74 rfl rfl (by decide) rfl ?_
          refine r_goto (pc := 77) C (tgt := 2) dX0_beginQuarantines_77 rfl ?_
          refine r_weak (lSub_s (lSub_s lSub_e)) ?_
          exact ih (x1 + 1) q12 q  h hq
def M_X0_beginQuarantines_0 (k : Nat) (S : Nat → Nat → Int32) : Option ((Nat → Nat → Int32)) := M_X0_beginQuarantines_2 k k (0 : Int32) S
set_option maxRecDepth 100000 in
set_option maxHeartbeats 4000000 in
theorem N_X0_beginQuarantines_0 (C : CX E p l s m args meth c cX0_beginQuarantines 2 RX0 none A) (a : Nat → Nat) (k : Nat) {post : va_W → Prop} :
    ∀ (S : Nat → Nat → Int32) (q : (Nat → Nat → Int32)), M_X0_beginQuarantines_0 k S = some q → post (wFl E a q) →
      WW E p l e rm_X0_beginQuarantines s m args below meth c A 0 0 (QV E below post args s rm_X0_beginQuarantines A) (wFl E a S) 2 [some (.ref (a 0)), none] 0 [] := by
  intro S q  h hq
  unfold M_X0_beginQuarantines_0 at h
  refine r_iconst (pc := 0) C (v := 0) dX0_beginQuarantines_0 (by decide) ?_
  refine r_istore_n (pc := 1) C (i := 1) dX0_beginQuarantines_1 rfl (by decide) rfl ?_
  refine r_weak (lSub_s (lSub_s lSub_e)) ?_
  exact N_X0_beginQuarantines_2 C a k k (0 : Int32) S q  h hq
def M_X0_beginQuarantines (k : Nat) (S : Nat → Nat → Int32) : Option ((Nat → Nat → Int32)) := M_X0_beginQuarantines_0 k S
set_option maxRecDepth 100000 in
set_option maxHeartbeats 4000000 in
theorem c_X0_beginQuarantines (E : ENV) (l : Launch) (k : Nat) (a : Nat → Nat) (S : Nat → Nat → Int32) {q : (Nat → Nat → Int32)} (hm : M_X0_beginQuarantines k S = some q) : CV E l yX0_beginQuarantines cX0_beginQuarantines 2 none rm_X0_beginQuarantines [.ref (a 0)] (wFl E a S) (fun w' => w' = (wFl E a q)) :=
  CV.of 1 (by decide) (Nat.le_of_ble_eq_true rfl) (fun p e s m below meth c A C _ => r_weak (lSub_s (lSub_n lSub_e)) (N_X0_beginQuarantines_0 C a k S q  hm rfl))
theorem hd_X0_leastLoaded : yX0_leastLoaded.cls = RX0 ∧ yX0_leastLoaded.cls ≠ "java/lang/invoke/MethodHandle" ∧ yX0_leastLoaded.cls ≠ "java/lang/invoke/VarHandle" ∧ (parseMethodDescriptor yX0_leastLoaded.desc).map (fun d => d.parameters.length) = some 1 := by decide +kernel
theorem g_X0_181 : GoodIn GW (wsV RX0 181 RX0 yX0_leastLoaded (wsG yX0_leastLoaded cX0_leastLoaded 6 (some .int))) := gw_V wm_3_171 wm_3_173 wm_0_4 wm_1_2 wm_3_174
-- ShardGuard$Fleet.route(I)V
theorem dX0_route_0 : decode cX0_route 0 = .ok (.aload_n 0, 1) := by decide +kernel
theorem dX0_route_1 : decode cX0_route 1 = .ok (.aload_n 0, 1) := by decide +kernel
theorem dX0_route_2 : decode cX0_route 2 = .ok (.aload_n 0, 1) := by decide +kernel
theorem dX0_route_3 : decode cX0_route 3 = .ok (.getfield 32, 3) := by decide +kernel
theorem dX0_route_6 : decode cX0_route 6 = .ok (.iload_n 1, 1) := by decide +kernel
theorem dX0_route_7 : decode cX0_route 7 = .ok (.iconst 0, 1) := by decide +kernel
theorem dX0_route_8 : decode cX0_route 8 = .ok (.invokevirtual 111, 3) := by decide +kernel
theorem dX0_route_11 : decode cX0_route 11 = .ok (.invokevirtual 115, 3) := by decide +kernel
theorem dX0_route_14 : decode cX0_route 14 = .ok (.invokevirtual 181, 3) := by decide +kernel
theorem dX0_route_17 : decode cX0_route 17 = .ok (.istore_n 2, 1) := by decide +kernel
theorem dX0_route_18 : decode cX0_route 18 = .ok (.aload_n 0, 1) := by decide +kernel
theorem dX0_route_19 : decode cX0_route 19 = .ok (.getfield 32, 3) := by decide +kernel
theorem dX0_route_22 : decode cX0_route 22 = .ok (.iload_n 1, 1) := by decide +kernel
theorem dX0_route_23 : decode cX0_route 23 = .ok (.iconst 2, 1) := by decide +kernel
theorem dX0_route_24 : decode cX0_route 24 = .ok (.aload_n 0, 1) := by decide +kernel
theorem dX0_route_25 : decode cX0_route 25 = .ok (.getfield 32, 3) := by decide +kernel
theorem dX0_route_28 : decode cX0_route 28 = .ok (.iload_n 1, 1) := by decide +kernel
theorem dX0_route_29 : decode cX0_route 29 = .ok (.iconst 1, 1) := by decide +kernel
theorem dX0_route_30 : decode cX0_route 30 = .ok (.invokevirtual 111, 3) := by decide +kernel
theorem dX0_route_33 : decode cX0_route 33 = .ok (.invokevirtual 84, 3) := by decide +kernel
theorem dX0_route_36 : decode cX0_route 36 = .ok (.aload_n 0, 1) := by decide +kernel
theorem dX0_route_37 : decode cX0_route 37 = .ok (.getfield 32, 3) := by decide +kernel
theorem dX0_route_40 : decode cX0_route 40 = .ok (.iload_n 1, 1) := by decide +kernel
theorem dX0_route_41 : decode cX0_route 41 = .ok (.iconst 4, 1) := by decide +kernel
theorem dX0_route_42 : decode cX0_route 42 = .ok (.iload_n 2, 1) := by decide +kernel
theorem dX0_route_43 : decode cX0_route 43 = .ok (.iconst (-1), 1) := by decide +kernel
theorem dX0_route_44 : decode cX0_route 44 = .ok (.if_icmp .ne 7, 3) := by decide +kernel
theorem dX0_route_47 : decode cX0_route 47 = .ok (.iconst 1, 1) := by decide +kernel
theorem dX0_route_48 : decode cX0_route 48 = .ok (.goto 4, 3) := by decide +kernel
theorem dX0_route_51 : decode cX0_route 51 = .ok (.iconst 0, 1) := by decide +kernel
theorem dX0_route_52 : decode cX0_route 52 = .ok (.invokevirtual 84, 3) := by decide +kernel
theorem dX0_route_55 : decode cX0_route 55 = .ok (.aload_n 0, 1) := by decide +kernel
theorem dX0_route_56 : decode cX0_route 56 = .ok (.getfield 32, 3) := by decide +kernel
theorem dX0_route_59 : decode cX0_route 59 = .ok (.iload_n 1, 1) := by decide +kernel
theorem dX0_route_60 : decode cX0_route 60 = .ok (.bipush 6, 2) := by decide +kernel
theorem dX0_route_62 : decode cX0_route 62 = .ok (.iload_n 2, 1) := by decide +kernel
theorem dX0_route_63 : decode cX0_route 63 = .ok (.invokevirtual 84, 3) := by decide +kernel
theorem dX0_route_66 : decode cX0_route 66 = .ok (.aload_n 0, 1) := by decide +kernel
theorem dX0_route_67 : decode cX0_route 67 = .ok (.getfield 42, 3) := by decide +kernel
theorem dX0_route_70 : decode cX0_route 70 = .ok (.aload_n 0, 1) := by decide +kernel
theorem dX0_route_71 : decode cX0_route 71 = .ok (.getfield 78, 3) := by decide +kernel
theorem dX0_route_74 : decode cX0_route 74 = .ok (.iload_n 1, 1) := by decide +kernel
theorem dX0_route_75 : decode cX0_route 75 = .ok (.invokevirtual 65, 3) := by decide +kernel
theorem dX0_route_78 : decode cX0_route 78 = .ok (.aload_n 0, 1) := by decide +kernel
theorem dX0_route_79 : decode cX0_route 79 = .ok (.dup, 1) := by decide +kernel
theorem dX0_route_80 : decode cX0_route 80 = .ok (.getfield 78, 3) := by decide +kernel
theorem dX0_route_83 : decode cX0_route 83 = .ok (.iconst 1, 1) := by decide +kernel
theorem dX0_route_84 : decode cX0_route 84 = .ok (.iadd, 1) := by decide +kernel
theorem dX0_route_85 : decode cX0_route 85 = .ok (.putfield 78, 3) := by decide +kernel
theorem dX0_route_88 : decode cX0_route 88 = .ok (.return_, 1) := by decide +kernel
def rm_X0_route : Room := { frames := 3, cells := 0, slots := 0, locals := 72 }
def M_X0_route_52 (k : Nat) (x1 : Int32) (x2 : Int32) (y1 : Int32) (y2 : Int32) (y3 : Int32) (S : Nat → Nat → Int32) : Option ((Nat → Nat → Int32)) := (M_X6_put k 60 8 480 (S 4) y1 y2 y3).bind fun q1 => lt (va_up S 4 q1) fun F2 => (M_X6_put k 60 8 480 (F2 4) x1 (6 : Int32) x2).bind fun q3 => lt (va_up F2 4 q3) fun F4 => (M_X5_put k 60 (F4 5) (F4 0 6) x1).bind fun q5 => lt (va_up F4 5 q5) fun F6 => lt (va_up F6 0 (upd (F6 0) 6 ((F6 0 6) + (1 : Int32)))) fun F7 => some F7
set_option maxRecDepth 100000 in
set_option maxHeartbeats 4000000 in
theorem N_X0_route_52 (C : CX E p l s m args meth c cX0_route 3 RX0 none A) (a : Nat → Nat) (k : Nat) {post : va_W → Prop} :
    ∀ (x1 : Int32) (x2 : Int32) (y1 : Int32) (y2 : Int32) (y3 : Int32) (S : Nat → Nat → Int32) (q : (Nat → Nat → Int32)), M_X0_route_52 k x1 x2 y1 y2 y3 S = some q → post (wFl E a q) →
      WW E p l e rm_X0_route s m args below meth c A 0 0 (QV E below post args s rm_X0_route A) (wFl E a S) 3 [some (.ref (a 0)), some (.int x1), some (.int x2)] 52 [.int y3, .int y2, .int y1, .ref (a 7)] := by
  intro x1 x2 y1 y2 y3 S q  h hq
  unfold M_X0_route_52 at h
  obtain ⟨q1, hq1, h⟩ := bnd h
  obtain ⟨F2, hF2, h⟩ := lt_e h
  refine r_callV_CV (Cn := RX6) (pc := 52) C [.int y1, .int y2, .int y3] (c_X6_put E l k (fun i => a (i + 7)) 60 8 480 (S 4) y1 y2 y3 hq1) [7, 8] (hp_X0_addRequest_0 E a S) (by decide) 0 rfl rfl rfl g_X0_84 hd_X6_put ⟨Nat.le_of_ble_eq_true rfl, Nat.le_of_ble_eq_true rfl⟩ ⟨Nat.zero_le _, Nat.zero_le _⟩ (Nat.le_of_ble_eq_true rfl) rfl dX0_route_52 (fun w1 hw1 => ?_)
  subst hw1
  refine ⟨(wFl E a F2), by rw [hF2]; exact (pw_X0_addRequest_0 E a S q1), ?_⟩
  refine r_aload_n (pc := 55) C (i := 0) dX0_route_55 rfl rfl ?_
  refine r_get (pc := 56) C gwX0 0 rfl rfl 9 (by decide) wm_1_115 rfl dX0_route_56 ?_
  refine r_iload_n (pc := 59) C (i := 1) dX0_route_59 rfl rfl ?_
  refine r_bipush (pc := 60) C (v := 6) dX0_route_60 (by decide) ?_
  refine r_iload_n (pc := 62) C (i := 2) dX0_route_62 rfl rfl ?_
  obtain ⟨q3, hq3, h⟩ := bnd h
  obtain ⟨F4, hF4, h⟩ := lt_e h
  refine r_callV_CV (Cn := RX6) (pc := 63) C [.int x1, .int (6 : Int32), .int x2] (c_X6_put E l k (fun i => a (i + 7)) 60 8 480 (F2 4) x1 (6 : Int32) x2 hq3) [7, 8] (hp_X0_addRequest_0 E a F2) (by decide) 0 rfl rfl rfl g_X0_84 hd_X6_put ⟨Nat.le_of_ble_eq_true rfl, Nat.le_of_ble_eq_true rfl⟩ ⟨Nat.zero_le _, Nat.zero_le _⟩ (Nat.le_of_ble_eq_true rfl) rfl dX0_route_63 (fun w1 hw1 => ?_)
  subst hw1
  refine ⟨(wFl E a F4), by rw [hF4]; exact (pw_X0_addRequest_0 E a F2 q3), ?_⟩
  refine r_aload_n (pc := 66) C (i := 0) dX0_route_66 rfl rfl ?_
  refine r_get (pc := 67) C gwX0 0 rfl rfl 11 (by decide) wm_1_121 rfl dX0_route_67 ?_
  refine r_aload_n (pc := 70) C (i := 0) dX0_route_70 rfl rfl ?_
  refine r_get (pc := 71) C gwX0 0 rfl rfl 12 (by decide) wm_1_122 rfl dX0_route_71 ?_
  refine r_iload_n (pc := 74) C (i := 1) dX0_route_74 rfl rfl ?_
  obtain ⟨q5, hq5, h⟩ := bnd h
  obtain ⟨F6, hF6, h⟩ := lt_e h
  refine r_callV_CV (Cn := RX5) (pc := 75) C [.int (F4 0 6), .int x1] (c_X5_put E l k (fun i => a (i + 16)) 60 (F4 5) (F4 0 6) x1 hq5) [16, 17] (hp_X0_queueLength_0 E a F4) (by decide) 0 rfl rfl rfl g_X0_65 hd_X5_put ⟨Nat.le_of_ble_eq_true rfl, Nat.le_of_ble_eq_true rfl⟩ ⟨Nat.zero_le _, Nat.zero_le _⟩ (Nat.le_of_ble_eq_true rfl) rfl dX0_route_75 (fun w1 hw1 => ?_)
  subst hw1
  refine ⟨(wFl E a F6), by rw [hF6]; exact (pw_X0_route_0 E a F4 q5), ?_⟩
  refine r_aload_n (pc := 78) C (i := 0) dX0_route_78 rfl rfl ?_
  refine r_dup (pc := 79) C dX0_route_79 rfl ?_
  refine r_get (pc := 80) C gwX0 0 rfl rfl 12 (by decide) wm_1_122 rfl dX0_route_80 ?_
  refine r_iconst (pc := 83) C (v := 1) dX0_route_83 (by decide) ?_
  refine r_iadd (pc := 84) C dX0_route_84 ?_
  obtain ⟨F7, hF7, h⟩ := lt_e h
  refine r_put (pc := 85) C gwX0 tyX0 tyX0_ok nmX0 0 rfl rfl 12 (by decide) wm_1_122 rfl rfl rfl rfl (Nat.le_of_ble_eq_true rfl) (w' := (wFl E a F7)) (by rw [hF7]; rfl) dX0_route_85 ?_
  cases h
  exact r_vret (pc := 88) C hq (Nat.zero_le _) (Nat.zero_le _) dX0_route_88
def M_X0_route_0 (k : Nat) (p0 : Int32) (S : Nat → Nat → Int32) : Option ((Nat → Nat → Int32)) := (M_X6_at k 60 8 480 (S 4) p0 (0 : Int32)).bind fun q8 => (M_X0_shardOf k S q8).bind fun q9 => (M_X0_leastLoaded k S q9).bind fun q10 => (M_X6_at k 60 8 480 (S 4) p0 (1 : Int32)).bind fun q11 => (M_X6_put k 60 8 480 (S 4) p0 (2 : Int32) q11).bind fun q12 => lt (va_up S 4 q12) fun F13 => if q10 = (-1 : Int32) then (M_X0_route_52 k p0 q10 p0 (4 : Int32) (1 : Int32) F13) else (M_X0_route_52 k p0 q10 p0 (4 : Int32) (0 : Int32) F13)
set_option maxRecDepth 100000 in
set_option maxHeartbeats 4000000 in
theorem N_X0_route_0 (C : CX E p l s m args meth c cX0_route 3 RX0 none A) (a : Nat → Nat) (k : Nat) {post : va_W → Prop} :
    ∀ (p0 : Int32) (S : Nat → Nat → Int32) (q : (Nat → Nat → Int32)), M_X0_route_0 k p0 S = some q → post (wFl E a q) →
      WW E p l e rm_X0_route s m args below meth c A 0 0 (QV E below post args s rm_X0_route A) (wFl E a S) 3 [some (.ref (a 0)), some (.int p0), none] 0 [] := by
  intro p0 S q  h hq
  unfold M_X0_route_0 at h
  refine r_aload_n (pc := 0) C (i := 0) dX0_route_0 rfl rfl ?_
  refine r_aload_n (pc := 1) C (i := 0) dX0_route_1 rfl rfl ?_
  refine r_aload_n (pc := 2) C (i := 0) dX0_route_2 rfl rfl ?_
  refine r_get (pc := 3) C gwX0 0 rfl rfl 9 (by decide) wm_1_115 rfl dX0_route_3 ?_
  refine r_iload_n (pc := 6) C (i := 1) dX0_route_6 rfl rfl ?_
  refine r_iconst (pc := 7) C (v := 0) dX0_route_7 (by decide) ?_
  obtain ⟨q8, hq8, h⟩ := bnd h
  refine r_callVp_CI (Cn := RX6) (pc := 8) C [.int p0, .int (0 : Int32)] (c_X6_at E l k (fun i => a (i + 7)) 60 8 480 (S 4) p0 (0 : Int32) hq8) [7, 8] (hp_X0_addRequest_0 E a S) (by decide) 0 rfl rfl rfl g_X0_111 hd_X6_at ⟨Nat.le_of_ble_eq_true rfl, Nat.le_of_ble_eq_true rfl⟩ ⟨Nat.zero_le _, Nat.zero_le _⟩ (Nat.le_of_ble_eq_true rfl) rfl dX0_route_8 (fun r hr => ?_)
  have hr := hr.symm
  subst hr
  obtain ⟨q9, hq9, h⟩ := bnd h
  refine r_callVp_CI (Cn := RX0) (pc := 11) C [.int q8] (c_X0_shardOf E l k a S q8 hq9) [0, 1, 2, 3, 4, 5, 6, 7, 8, 9, 10, 11, 12, 13, 14, 15, 16, 17] (hp_X0_isCutOff_0 E a S) (by decide) 0 rfl rfl rfl g_X0_115 hd_X0_shardOf ⟨Nat.le_of_ble_eq_true rfl, Nat.le_of_ble_eq_true rfl⟩ ⟨Nat.zero_le _, Nat.zero_le _⟩ (Nat.le_of_ble_eq_true rfl) rfl dX0_route_11 (fun r hr => ?_)
  have hr := hr.symm
  subst hr
  obtain ⟨q10, hq10, h⟩ := bnd h
  refine r_callVp_CI (Cn := RX0) (pc := 14) C [.int q9] (c_X0_leastLoaded E l k a S q9 hq10) [0, 1, 2, 3, 4, 5, 6, 7, 8, 9, 10, 11, 12, 13, 14, 15, 16, 17] (hp_X0_isCutOff_0 E a S) (by decide) 0 rfl rfl rfl g_X0_181 hd_X0_leastLoaded ⟨Nat.le_of_ble_eq_true rfl, Nat.le_of_ble_eq_true rfl⟩ ⟨Nat.zero_le _, Nat.zero_le _⟩ (Nat.le_of_ble_eq_true rfl) rfl dX0_route_14 (fun r hr => ?_)
  have hr := hr.symm
  subst hr
  refine r_istore_n (pc := 17) C (i := 2) dX0_route_17 rfl (by decide) rfl ?_
  refine r_aload_n (pc := 18) C (i := 0) dX0_route_18 rfl rfl ?_
  refine r_get (pc := 19) C gwX0 0 rfl rfl 9 (by decide) wm_1_115 rfl dX0_route_19 ?_
  refine r_iload_n (pc := 22) C (i := 1) dX0_route_22 rfl rfl ?_
  refine r_iconst (pc := 23) C (v := 2) dX0_route_23 (by decide) ?_
  refine r_aload_n (pc := 24) C (i := 0) dX0_route_24 rfl rfl ?_
  refine r_get (pc := 25) C gwX0 0 rfl rfl 9 (by decide) wm_1_115 rfl dX0_route_25 ?_
  refine r_iload_n (pc := 28) C (i := 1) dX0_route_28 rfl rfl ?_
  refine r_iconst (pc := 29) C (v := 1) dX0_route_29 (by decide) ?_
  obtain ⟨q11, hq11, h⟩ := bnd h
  refine r_callVp_CI (Cn := RX6) (pc := 30) C [.int p0, .int (1 : Int32)] (c_X6_at E l k (fun i => a (i + 7)) 60 8 480 (S 4) p0 (1 : Int32) hq11) [7, 8] (hp_X0_addRequest_0 E a S) (by decide) 0 rfl rfl rfl g_X0_111 hd_X6_at ⟨Nat.le_of_ble_eq_true rfl, Nat.le_of_ble_eq_true rfl⟩ ⟨Nat.zero_le _, Nat.zero_le _⟩ (Nat.le_of_ble_eq_true rfl) rfl dX0_route_30 (fun r hr => ?_)
  have hr := hr.symm
  subst hr
  obtain ⟨q12, hq12, h⟩ := bnd h
  obtain ⟨F13, hF13, h⟩ := lt_e h
  refine r_callV_CV (Cn := RX6) (pc := 33) C [.int p0, .int (2 : Int32), .int q11] (c_X6_put E l k (fun i => a (i + 7)) 60 8 480 (S 4) p0 (2 : Int32) q11 hq12) [7, 8] (hp_X0_addRequest_0 E a S) (by decide) 0 rfl rfl rfl g_X0_84 hd_X6_put ⟨Nat.le_of_ble_eq_true rfl, Nat.le_of_ble_eq_true rfl⟩ ⟨Nat.zero_le _, Nat.zero_le _⟩ (Nat.le_of_ble_eq_true rfl) rfl dX0_route_33 (fun w1 hw1 => ?_)
  subst hw1
  refine ⟨(wFl E a F13), by rw [hF13]; exact (pw_X0_addRequest_0 E a S q12), ?_⟩
  refine r_aload_n (pc := 36) C (i := 0) dX0_route_36 rfl rfl ?_
  refine r_get (pc := 37) C gwX0 0 rfl rfl 9 (by decide) wm_1_115 rfl dX0_route_37 ?_
  refine r_iload_n (pc := 40) C (i := 1) dX0_route_40 rfl rfl ?_
  refine r_iconst (pc := 41) C (v := 4) dX0_route_41 (by decide) ?_
  refine r_iload_n (pc := 42) C (i := 2) dX0_route_42 rfl rfl ?_
  refine r_iconst (pc := 43) C (v := (-1)) dX0_route_43 (by decide) ?_
  refine r_icmp_ne (pc := 44) C (tgt := 51) dX0_route_44 rfl (fun c14 => ?_) (fun c14 => ?_)
  · rw [if_neg c14] at h
    refine r_iconst (pc := 51) C (v := 0) dX0_route_51 (by decide) ?_
    refine r_weak (lSub_s (lSub_s (lSub_s lSub_e))) ?_
    exact N_X0_route_52 C a k p0 q10 p0 (4 : Int32) (0 : Int32) F13 q  h hq
  · rw [if_pos c14] at h
    refine r_iconst (pc := 47) C (v := 1) dX0_route_47 (by decide) ?_
    refine r_goto (pc := 48) C (tgt := 52) dX0_route_48 rfl ?_
    refine r_weak (lSub_s (lSub_s (lSub_s lSub_e))) ?_
    exact N_X0_route_52 C a k p0 q10 p0 (4 : Int32) (1 : Int32) F13 q  h hq
def M_X0_route (k : Nat) (S : Nat → Nat → Int32) (p0 : Int32) : Option ((Nat → Nat → Int32)) := M_X0_route_0 k p0 S
set_option maxRecDepth 100000 in
set_option maxHeartbeats 4000000 in
theorem c_X0_route (E : ENV) (l : Launch) (k : Nat) (a : Nat → Nat) (S : Nat → Nat → Int32) (p0 : Int32) {q : (Nat → Nat → Int32)} (hm : M_X0_route k S p0 = some q) : CV E l yX0_route cX0_route 3 none rm_X0_route [.ref (a 0), .int p0] (wFl E a S) (fun w' => w' = (wFl E a q)) :=
  CV.of 1 (by decide) (Nat.le_of_ble_eq_true rfl) (fun p e s m below meth c A C _ => r_weak (lSub_s (lSub_s (lSub_n lSub_e))) (N_X0_route_0 C a k p0 S q  hm rfl))
theorem hd_X0_freeWorker : yX0_freeWorker.cls = RX0 ∧ yX0_freeWorker.cls ≠ "java/lang/invoke/MethodHandle" ∧ yX0_freeWorker.cls ≠ "java/lang/invoke/VarHandle" ∧ (parseMethodDescriptor yX0_freeWorker.desc).map (fun d => d.parameters.length) = some 2 := by decide +kernel
theorem g_X0_204 : GoodIn GW (wsV RX0 204 RX0 yX0_freeWorker (wsG yX0_freeWorker cX0_freeWorker 6 (some .int))) := gw_V wm_2_125 wm_2_127 wm_0_0 wm_1_2 wm_2_128
-- ShardGuard$Fleet.drawShards(I)V
theorem dX0_drawShards_0 : decode cX0_drawShards 0 = .ok (.iload_n 1, 1) := by decide +kernel
theorem dX0_drawShards_1 : decode cX0_drawShards 1 = .ok (.istore_n 2, 1) := by decide +kernel
theorem dX0_drawShards_2 : decode cX0_drawShards 2 = .ok (.iconst 0, 1) := by decide +kernel
theorem dX0_drawShards_3 : decode cX0_drawShards 3 = .ok (.istore_n 3, 1) := by decide +kernel
theorem dX0_drawShards_4 : decode cX0_drawShards 4 = .ok (.iload_n 3, 1) := by decide +kernel
theorem dX0_drawShards_5 : decode cX0_drawShards 5 = .ok (.aload_n 0, 1) := by decide +kernel
theorem dX0_drawShards_6 : decode cX0_drawShards 6 = .ok (.getfield 52, 3) := by decide +kernel
theorem dX0_drawShards_9 : decode cX0_drawShards 9 = .ok (.if_icmp .ge 68, 3) := by decide +kernel
theorem dX0_drawShards_12 : decode cX0_drawShards 12 = .ok (.iconst 0, 1) := by decide +kernel
theorem dX0_drawShards_13 : decode cX0_drawShards 13 = .ok (.istore 4, 2) := by decide +kernel
theorem dX0_drawShards_15 : decode cX0_drawShards 15 = .ok (.iconst 0, 1) := by decide +kernel
theorem dX0_drawShards_16 : decode cX0_drawShards 16 = .ok (.istore 5, 2) := by decide +kernel
theorem dX0_drawShards_18 : decode cX0_drawShards 18 = .ok (.iload 5, 2) := by decide +kernel
theorem dX0_drawShards_20 : decode cX0_drawShards 20 = .ok (.aload_n 0, 1) := by decide +kernel
theorem dX0_drawShards_21 : decode cX0_drawShards 21 = .ok (.getfield 49, 3) := by decide +kernel
theorem dX0_drawShards_24 : decode cX0_drawShards 24 = .ok (.if_icmp .ge 36, 3) := by decide +kernel
theorem dX0_drawShards_27 : decode cX0_drawShards 27 = .ok (.iload_n 2, 1) := by decide +kernel
theorem dX0_drawShards_28 : decode cX0_drawShards 28 = .ok (.ldc 201, 2) := by decide +kernel
theorem dX0_drawShards_30 : decode cX0_drawShards 30 = .ok (.imul, 1) := by decide +kernel
theorem dX0_drawShards_31 : decode cX0_drawShards 31 = .ok (.sipush 12345, 3) := by decide +kernel
theorem dX0_drawShards_34 : decode cX0_drawShards 34 = .ok (.iadd, 1) := by decide +kernel
theorem dX0_drawShards_35 : decode cX0_drawShards 35 = .ok (.ldc 202, 2) := by decide +kernel
theorem dX0_drawShards_37 : decode cX0_drawShards 37 = .ok (.iand, 1) := by decide +kernel
theorem dX0_drawShards_38 : decode cX0_drawShards 38 = .ok (.istore_n 2, 1) := by decide +kernel
theorem dX0_drawShards_39 : decode cX0_drawShards 39 = .ok (.iload 4, 2) := by decide +kernel
theorem dX0_drawShards_41 : decode cX0_drawShards 41 = .ok (.aload_n 0, 1) := by decide +kernel
theorem dX0_drawShards_42 : decode cX0_drawShards 42 = .ok (.iload 4, 2) := by decide +kernel
theorem dX0_drawShards_44 : decode cX0_drawShards 44 = .ok (.iload_n 2, 1) := by decide +kernel
theorem dX0_drawShards_45 : decode cX0_drawShards 45 = .ok (.ldc 203, 2) := by decide +kernel
theorem dX0_drawShards_47 : decode cX0_drawShards 47 = .ok (.idiv, 1) := by decide +kernel
theorem dX0_drawShards_48 : decode cX0_drawShards 48 = .ok (.invokevirtual 204, 3) := by decide +kernel
theorem dX0_drawShards_51 : decode cX0_drawShards 51 = .ok (.ior, 1) := by decide +kernel
theorem dX0_drawShards_52 : decode cX0_drawShards 52 = .ok (.istore 4, 2) := by decide +kernel
theorem dX0_drawShards_54 : decode cX0_drawShards 54 = .ok (.iinc 5 1, 3) := by decide +kernel
theorem dX0_drawShards_57 : decode cX0_drawShards 57 = .ok (.goto (-39), 3) := by decide +kernel
theorem dX0_drawShards_60 : decode cX0_drawShards 60 = .ok (.aload_n 0, 1) := by decide +kernel
theorem dX0_drawShards_61 : decode cX0_drawShards 61 = .ok (.getfield 28, 3) := by decide +kernel
theorem dX0_drawShards_64 : decode cX0_drawShards 64 = .ok (.iload_n 3, 1) := by decide +kernel
theorem dX0_drawShards_65 : decode cX0_drawShards 65 = .ok (.iconst 0, 1) := by decide +kernel
theorem dX0_drawShards_66 : decode cX0_drawShards 66 = .ok (.iload 4, 2) := by decide +kernel
theorem dX0_drawShards_68 : decode cX0_drawShards 68 = .ok (.invokevirtual 84, 3) := by decide +kernel
theorem dX0_drawShards_71 : decode cX0_drawShards 71 = .ok (.iinc 3 1, 3) := by decide +kernel
theorem dX0_drawShards_74 : decode cX0_drawShards 74 = .ok (.goto (-70), 3) := by decide +kernel
theorem dX0_drawShards_77 : decode cX0_drawShards 77 = .ok (.return_, 1) := by decide +kernel
def rm_X0_drawShards : Room := { frames := 2, cells := 0, slots := 0, locals := 46 }
def M_X0_drawShards_18 (k : Nat) (κ4 : Int32 → Int32 → (Nat → Nat → Int32) → Option ((Nat → Nat → Int32))) : Nat → (Int32) → (Int32) → (Int32) → (Int32) → (Nat → Nat → Int32) → Option ((Nat → Nat → Int32))
  | 0, _, _, _, _, _ => none
  | n + 1, x2, x3, x4, x5, S => if (S 0 1) ≤ x5 then ((M_X6_put k 12 3 36 (S 3) x3 (0 : Int32) x4).bind fun q2 => lt (va_up S 3 q2) fun F3 => κ4 x2 (x3 + 1) F3) else (lt (((x2 * (1103515245 : Int32)) + (12345 : Int32)) &&& (2147483647 : Int32)) fun v4 => (M_X0_freeWorker k S x4 (v4 / (65536 : Int32))).bind fun q5 => lt (x4 ||| q5) fun v6 => M_X0_drawShards_18 k κ4 n v4 x3 v6 (x5 + 1) S)
theorem M_X0_drawShards_18_s (k : Nat) (κ4 : Int32 → Int32 → (Nat → Nat → Int32) → Option ((Nat → Nat → Int32))) (n : Nat) (x2 : Int32) (x3 : Int32) (x4 : Int32) (x5 : Int32) (S : Nat → Nat → Int32) : M_X0_drawShards_18 k κ4 (n + 1) x2 x3 x4 x5 S = (if (S 0 1) ≤ x5 then ((M_X6_put k 12 3 36 (S 3) x3 (0 : Int32) x4).bind fun q2 => lt (va_up S 3 q2) fun F3 => κ4 x2 (x3 + 1) F3) else (lt (((x2 * (1103515245 : Int32)) + (12345 : Int32)) &&& (2147483647 : Int32)) fun v4 => (M_X0_freeWorker k S x4 (v4 / (65536 : Int32))).bind fun q5 => lt (x4 ||| q5) fun v6 => M_X0_drawShards_18 k κ4 n v4 x3 v6 (x5 + 1) S)) := rfl
set_option maxRecDepth 100000 in
set_option maxHeartbeats 4000000 in
theorem N_X0_drawShards_18 (C : CX E p l s m args meth c cX0_drawShards 6 RX0 none A) (a : Nat → Nat) (k : Nat) {post : va_W → Prop} (κ4 : Int32 → Int32 → (Nat → Nat → Int32) → Option ((Nat → Nat → Int32))) (hκ4 : ∀ (x2 : Int32) (x3 : Int32) (S : Nat → Nat → Int32) (q : (Nat → Nat → Int32)), κ4 x2 x3 S = some q → post (wFl E a q) → WW E p l e rm_X0_drawShards s m args below meth c A 0 0 (QV E below post args s rm_X0_drawShards A) (wFl E a S) 6 [some (.ref (a 0)), none, some (.int x2), some (.int x3), none, none] 4 []) :
    ∀ (n : Nat) (x2 : Int32) (x3 : Int32) (x4 : Int32) (x5 : Int32) (S : Nat → Nat → Int32) (q : (Nat → Nat → Int32)), M_X0_drawShards_18 k κ4 n x2 x3 x4 x5 S = some q → post (wFl E a q) →
      WW E p l e rm_X0_drawShards s m args below meth c A 0 0 (QV E below post args s rm_X0_drawShards A) (wFl E a S) 6 [some (.ref (a 0)), none, some (.int x2), some (.int x3), some (.int x4), some (.int x5)] 18 [] := by
  intro n
  induction n with
  | zero => intro x2 x3 x4 x5 S q  h _; cases h
  | succ n ih =>
    intro x2 x3 x4 x5 S q  h hq
    rw [M_X0_drawShards_18_s] at h
    refine r_iload (pc := 18) C (i := 5) dX0_drawShards_18 rfl ?_
    refine r_aload_n (pc := 20) C (i := 0) dX0_drawShards_20 rfl rfl ?_
    refine r_get (pc := 21) C gwX0 0 rfl rfl 1 (by decide) wm_1_95 rfl dX0_drawShards_21 ?_
    refine r_icmp_ge (pc := 24) C (tgt := 60) dX0_drawShards_24 rfl (fun c1 => ?_) (fun c1 => ?_)
    · rw [if_pos c1] at h
      refine r_aload_n (pc := 60) C (i := 0) dX0_drawShards_60 rfl rfl ?_
      refine r_get (pc := 61) C gwX0 0 rfl rfl 8 (by decide) wm_1_113 rfl dX0_drawShards_61 ?_
      refine r_iload_n (pc := 64) C (i := 3) dX0_drawShards_64 rfl rfl ?_
      refine r_iconst (pc := 65) C (v := 0) dX0_drawShards_65 (by decide) ?_
      refine r_iload (pc := 66) C (i := 4) dX0_drawShards_66 rfl ?_
      obtain ⟨q2, hq2, h⟩ := bnd h
      obtain ⟨F3, hF3, h⟩ := lt_e h
      refine r_callV_CV (Cn := RX6) (pc := 68) C [.int x3, .int (0 : Int32), .int x4] (c_X6_put E l k (fun i => a (i + 5)) 12 3 36 (S 3) x3 (0 : Int32) x4 hq2) [5, 6] (hp_X0_forgetRequests_0 E a S) (by decide) 0 rfl rfl rfl g_X0_84 hd_X6_put ⟨Nat.le_of_ble_eq_true rfl, Nat.le_of_ble_eq_true rfl⟩ ⟨Nat.zero_le _, Nat.zero_le _⟩ (Nat.le_of_ble_eq_true rfl) rfl dX0_drawShards_68 (fun w1 hw1 => ?_)
      subst hw1
      refine ⟨(wFl E a F3), by rw [hF3]; exact (pw_X0_forgetRequests_0 E a S q2), ?_⟩
      refine r_iinc (pc := 71) C (v := (x3 + 1)) dX0_drawShards_71 rfl rfl (by decide) rfl ?_
      refine r_goto (pc := 74) C (tgt := 4) dX0_drawShards_74 rfl ?_
      refine r_weak (lSub_s (lSub_n (lSub_s (lSub_s (lSub_n (lSub_n lSub_e)))))) ?_
      exact hκ4 x2 (x3 + 1) F3 q  h hq
    · rw [if_neg c1] at h
      refine r_iload_n (pc := 27) C (i := 2) dX0_drawShards_27 rfl rfl ?_
      refine r_ldc (pc := 28) C (v := 1103515245) wm_2_122 dX0_drawShards_28 ?_
      refine r_imul (pc := 30) C dX0_drawShards_30 ?_
      refine r_sipush (pc := 31) C (v := 12345) dX0_drawShards_31 (by decide) ?_
      refine r_iadd (pc := 34) C dX0_drawShards_34 ?_
      refine r_ldc (pc := 35) C (v := 2147483647) wm_2_123 dX0_drawShards_35 ?_
      refine r_iand (pc := 37) C dX0_drawShards_37 ?_
      obtain ⟨v4, hv4, h⟩ := lt_e h
      refine r_topi hv4 ?_
      refine r_istore_n (pc := 38) C (i := 2) dX0_drawShards_38 rfl (by decide) rfl ?_
      refine r_iload (pc := 39) C (i := 4) dX0_drawShards_39 rfl ?_
      refine r_aload_n (pc := 41) C (i := 0) dX0_drawShards_41 rfl rfl ?_
      refine r_iload (pc := 42) C (i := 4) dX0_drawShards_42 rfl ?_
      refine r_iload_n (pc := 44) C (i := 2) dX0_drawShards_44 rfl rfl ?_
      refine r_ldc (pc := 45) C (v := 65536) wm_2_124 dX0_drawShards_45 ?_
      refine r_idiv (pc := 47) C dX0_drawShards_47 (by decide) ?_
      obtain ⟨q5, hq5, h⟩ := bnd h
      refine r_callVp_CI (Cn := RX0) (pc := 48) C [.int x4, .int (v4 / (65536 : Int32))] (c_X0_freeWorker E l k a S x4 (v4 / (65536 : Int32)) hq5) [0, 1, 2, 3, 4, 5, 6, 7, 8, 9, 10, 11, 12, 13, 14, 15, 16, 17] (hp_X0_isCutOff_0 E a S) (by decide) 0 rfl rfl rfl g_X0_204 hd_X0_freeWorker ⟨Nat.le_of_ble_eq_true rfl, Nat.le_of_ble_eq_true rfl⟩ ⟨Nat.zero_le _, Nat.zero_le _⟩ (Nat.le_of_ble_eq_true rfl) rfl dX0_drawShards_48 (fun r hr => ?_)
      have hr := hr.symm
      subst hr
      refine r_ior (pc := 51) C dX0_drawShards_51 ?_
      obtain ⟨v6, hv6, h⟩ := lt_e h
      refine r_topi hv6 ?_
      refine r_istore (pc := 52) C (i := 4) dX0_drawShards_52 (by decide) rfl ?_
      refine r_iinc (pc := 54) C (v := (x5 + 1)) dX0_drawShards_54 rfl rfl (by decide) rfl ?_
      refine r_goto (pc := 57) C (tgt := 18) dX0_drawShards_57 rfl ?_
      refine r_weak (lSub_s (lSub_n (lSub_s (lSub_s (lSub_s (lSub_s lSub_e)))))) ?_
      exact ih v4 x3 v6 (x5 + 1) S q  h hq
def M_X0_drawShards_4 (k : Nat) : Nat → (Int32) → (Int32) → (Nat → Nat → Int32) → Option ((Nat → Nat → Int32))
  | 0, _, _, _ => none
  | n + 1, x2, x3, S => if (S 0 2) ≤ x3 then (some S) else (M_X0_drawShards_18 k (M_X0_drawShards_4 k n) k x2 x3 (0 : Int32) (0 : Int32) S)
theorem M_X0_drawShards_4_s (k : Nat) (n : Nat) (x2 : Int32) (x3 : Int32) (S : Nat → Nat → Int32) : M_X0_drawShards_4 k (n + 1) x2 x3 S = (if (S 0 2) ≤ x3 then (some S) else (M_X0_drawShards_18 k (M_X0_drawShards_4 k n) k x2 x3 (0 : Int32) (0 : Int32) S)) := rfl
set_option maxRecDepth 100000 in
set_option maxHeartbeats 4000000 in
theorem N_X0_drawShards_4 (C : CX E p l s m args meth c cX0_drawShards 6 RX0 none A) (a : Nat → Nat) (k : Nat) {post : va_W → Prop} :
    ∀ (n : Nat) (x2 : Int32) (x3 : Int32) (S : Nat → Nat → Int32) (q : (Nat → Nat → Int32)), M_X0_drawShards_4 k n x2 x3 S = some q → post (wFl E a q) →
      WW E p l e rm_X0_drawShards s m args below meth c A 0 0 (QV E below post args s rm_X0_drawShards A) (wFl E a S) 6 [some (.ref (a 0)), none, some (.int x2), some (.int x3), none, none] 4 [] := by
  intro n
  induction n with
  | zero => intro x2 x3 S q  h _; cases h
  | succ n ih =>
    intro x2 x3 S q  h hq
    rw [M_X0_drawShards_4_s] at h
    refine r_iload_n (pc := 4) C (i := 3) dX0_drawShards_4 rfl rfl ?_
    refine r_aload_n (pc := 5) C (i := 0) dX0_drawShards_5 rfl rfl ?_
    refine r_get (pc := 6) C gwX0 0 rfl rfl 2 (by decide) wm_1_98 rfl dX0_drawShards_6 ?_
    refine r_icmp_ge (pc := 9) C (tgt := 77) dX0_drawShards_9 rfl (fun c7 => ?_) (fun c7 => ?_)
    · rw [if_pos c7] at h
      cases h
      exact r_vret (pc := 77) C hq (Nat.zero_le _) (Nat.zero_le _) dX0_drawShards_77
    · rw [if_neg c7] at h
      refine r_iconst (pc := 12) C (v := 0) dX0_drawShards_12 (by decide) ?_
      refine r_istore (pc := 13) C (i := 4) dX0_drawShards_13 (by decide) rfl ?_
      refine r_iconst (pc := 15) C (v := 0) dX0_drawShards_15 (by decide) ?_
      refine r_istore (pc := 16) C (i := 5) dX0_drawShards_16 (by decide) rfl ?_
      refine r_weak (lSub_s (lSub_n (lSub_s (lSub_s (lSub_s (lSub_s lSub_e)))))) ?_
      exact N_X0_drawShards_18 C a k (M_X0_drawShards_4 k n) ih k x2 x3 (0 : Int32) (0 : Int32) S q  h hq
def M_X0_drawShards_0 (k : Nat) (p0 : Int32) (S : Nat → Nat → Int32) : Option ((Nat → Nat → Int32)) := M_X0_drawShards_4 k k p0 (0 : Int32) S
set_option maxRecDepth 100000 in
set_option maxHeartbeats 4000000 in
theorem N_X0_drawShards_0 (C : CX E p l s m args meth c cX0_drawShards 6 RX0 none A) (a : Nat → Nat) (k : Nat) {post : va_W → Prop} :
    ∀ (p0 : Int32) (S : Nat → Nat → Int32) (q : (Nat → Nat → Int32)), M_X0_drawShards_0 k p0 S = some q → post (wFl E a q) →
      WW E p l e rm_X0_drawShards s m args below meth c A 0 0 (QV E below post args s rm_X0_drawShards A) (wFl E a S) 6 [some (.ref (a 0)), some (.int p0), none, none, none, none] 0 [] := by
  intro p0 S q  h hq
  unfold M_X0_drawShards_0 at h
  refine r_iload_n (pc := 0) C (i := 1) dX0_drawShards_0 rfl rfl ?_
  refine r_istore_n (pc := 1) C (i := 2) dX0_drawShards_1 rfl (by decide) rfl ?_
  refine r_iconst (pc := 2) C (v := 0) dX0_drawShards_2 (by decide) ?_
  refine r_istore_n (pc := 3) C (i := 3) dX0_drawShards_3 rfl (by decide) rfl ?_
  refine r_weak (lSub_s (lSub_n (lSub_s (lSub_s (lSub_n (lSub_n lSub_e)))))) ?_
  exact N_X0_drawShards_4 C a k k p0 (0 : Int32) S q  h hq
def M_X0_drawShards (k : Nat) (S : Nat → Nat → Int32) (p0 : Int32) : Option ((Nat → Nat → Int32)) := M_X0_drawShards_0 k p0 S
set_option maxRecDepth 100000 in
set_option maxHeartbeats 4000000 in
theorem c_X0_drawShards (E : ENV) (l : Launch) (k : Nat) (a : Nat → Nat) (S : Nat → Nat → Int32) (p0 : Int32) {q : (Nat → Nat → Int32)} (hm : M_X0_drawShards k S p0 = some q) : CV E l yX0_drawShards cX0_drawShards 6 none rm_X0_drawShards [.ref (a 0), .int p0] (wFl E a S) (fun w' => w' = (wFl E a q)) :=
  CV.of 4 (by decide) (Nat.le_of_ble_eq_true rfl) (fun p e s m below meth c A C _ => r_weak (lSub_s (lSub_s (lSub_n (lSub_n (lSub_n (lSub_n lSub_e)))))) (N_X0_drawShards_0 C a k p0 S q  hm rfl))
end WALKS
