section WALKS
variable {E : ENV} {p : Program} {l : Launch} {e : Env} {s : State} {m : MethodId} {args : Array Value} {below : List Frame} {meth : Method} {c : Code} {A : Nat → Prop}
theorem hd_X10_has : yX10_has.cls = RX10 ∧ yX10_has.cls ≠ "java/lang/invoke/MethodHandle" ∧ yX10_has.cls ≠ "java/lang/invoke/VarHandle" ∧ (parseMethodDescriptor yX10_has.desc).map (fun d => d.parameters.length) = some 2 := by decide +kernel
theorem g_X10_133 : GoodIn GW (va_wsS RX10 133 yX10_has (wsG yX10_has cX10_has 2 (some .boolean))) := gw_S wm_6_159 wm_6_160 wm_1_9 wm_6_161
theorem hd_X10_isUp : yX10_isUp.cls = RX10 ∧ yX10_isUp.cls ≠ "java/lang/invoke/MethodHandle" ∧ yX10_isUp.cls ≠ "java/lang/invoke/VarHandle" ∧ (parseMethodDescriptor yX10_isUp.desc).map (fun d => d.parameters.length) = some 1 := by decide +kernel
theorem g_X10_137 : GoodIn GW (wsV RX10 137 RX10 yX10_isUp (wsG yX10_isUp cX10_isUp 2 (some .boolean))) := gw_V wm_6_65 wm_6_67 wm_0_23 wm_1_9 wm_6_68
theorem hd_X10_loadOf : yX10_loadOf.cls = RX10 ∧ yX10_loadOf.cls ≠ "java/lang/invoke/MethodHandle" ∧ yX10_loadOf.cls ≠ "java/lang/invoke/VarHandle" ∧ (parseMethodDescriptor yX10_loadOf.desc).map (fun d => d.parameters.length) = some 1 := by decide +kernel
theorem g_X10_141 : GoodIn GW (wsV RX10 141 RX10 yX10_loadOf (wsG yX10_loadOf cX10_loadOf 4 (some .int))) := gw_V wm_6_143 wm_6_145 wm_0_38 wm_1_9 wm_6_146
-- ShardGuardModel.leastLoaded(I)I
theorem dX10_leastLoaded_0 : decode cX10_leastLoaded 0 = .ok (.iconst (-1), 1) := by decide +kernel
theorem dX10_leastLoaded_1 : decode cX10_leastLoaded 1 = .ok (.istore_n 2, 1) := by decide +kernel
theorem dX10_leastLoaded_2 : decode cX10_leastLoaded 2 = .ok (.iconst 0, 1) := by decide +kernel
theorem dX10_leastLoaded_3 : decode cX10_leastLoaded 3 = .ok (.istore_n 3, 1) := by decide +kernel
theorem dX10_leastLoaded_4 : decode cX10_leastLoaded 4 = .ok (.iload_n 3, 1) := by decide +kernel
theorem dX10_leastLoaded_5 : decode cX10_leastLoaded 5 = .ok (.aload_n 0, 1) := by decide +kernel
theorem dX10_leastLoaded_6 : decode cX10_leastLoaded 6 = .ok (.invokevirtual 106, 3) := by decide +kernel
theorem dX10_leastLoaded_9 : decode cX10_leastLoaded 9 = .ok (.if_icmp .ge 54, 3) := by decide +kernel
theorem dX10_leastLoaded_12 : decode cX10_leastLoaded 12 = .ok (.aload_n 0, 1) := by decide +kernel
theorem dX10_leastLoaded_13 : decode cX10_leastLoaded 13 = .ok (.iload_n 1, 1) := by decide +kernel
theorem dX10_leastLoaded_14 : decode cX10_leastLoaded 14 = .ok (.iconst 0, 1) := by decide +kernel
theorem dX10_leastLoaded_15 : decode cX10_leastLoaded 15 = .ok (.invokevirtual 120, 3) := by decide +kernel
theorem dX10_leastLoaded_18 : decode cX10_leastLoaded 18 = .ok (.iload_n 3, 1) := by decide +kernel
theorem dX10_leastLoaded_19 : decode cX10_leastLoaded 19 = .ok (.invokestatic 133, 3) := by decide +kernel
theorem dX10_leastLoaded_22 : decode cX10_leastLoaded 22 = .ok (.ifCond .eq 35, 3) := by decide +kernel
theorem dX10_leastLoaded_25 : decode cX10_leastLoaded 25 = .ok (.aload_n 0, 1) := by decide +kernel
theorem dX10_leastLoaded_26 : decode cX10_leastLoaded 26 = .ok (.iload_n 3, 1) := by decide +kernel
theorem dX10_leastLoaded_27 : decode cX10_leastLoaded 27 = .ok (.invokevirtual 137, 3) := by decide +kernel
theorem dX10_leastLoaded_30 : decode cX10_leastLoaded 30 = .ok (.ifCond .eq 27, 3) := by decide +kernel
theorem dX10_leastLoaded_33 : decode cX10_leastLoaded 33 = .ok (.iload_n 2, 1) := by decide +kernel
theorem dX10_leastLoaded_34 : decode cX10_leastLoaded 34 = .ok (.iconst (-1), 1) := by decide +kernel
theorem dX10_leastLoaded_35 : decode cX10_leastLoaded 35 = .ok (.if_icmp .eq 16, 3) := by decide +kernel
theorem dX10_leastLoaded_38 : decode cX10_leastLoaded 38 = .ok (.aload_n 0, 1) := by decide +kernel
theorem dX10_leastLoaded_39 : decode cX10_leastLoaded 39 = .ok (.iload_n 3, 1) := by decide +kernel
theorem dX10_leastLoaded_40 : decode cX10_leastLoaded 40 = .ok (.invokevirtual 141, 3) := by decide +kernel
theorem dX10_leastLoaded_43 : decode cX10_leastLoaded 43 = .ok (.aload_n 0, 1) := by decide +kernel
theorem dX10_leastLoaded_44 : decode cX10_leastLoaded 44 = .ok (.iload_n 2, 1) := by decide +kernel
theorem dX10_leastLoaded_45 : decode cX10_leastLoaded 45 = .ok (.invokevirtual 141, 3) := by decide +kernel
theorem dX10_leastLoaded_48 : decode cX10_leastLoaded 48 = .ok (.if_icmp .ge 7, 3) := by decide +kernel
theorem dX10_leastLoaded_51 : decode cX10_leastLoaded 51 = .ok (.iload_n 3, 1) := by decide +kernel
theorem dX10_leastLoaded_52 : decode cX10_leastLoaded 52 = .ok (.goto 4, 3) := by decide +kernel
theorem dX10_leastLoaded_55 : decode cX10_leastLoaded 55 = .ok (.iload_n 2, 1) := by decide +kernel
theorem dX10_leastLoaded_56 : decode cX10_leastLoaded 56 = .ok (.istore_n 2, 1) := by decide +kernel
theorem dX10_leastLoaded_57 : decode cX10_leastLoaded 57 = .ok (.iinc 3 1, 3) := by decide +kernel
theorem dX10_leastLoaded_60 : decode cX10_leastLoaded 60 = .ok (.goto (-56), 3) := by decide +kernel
theorem dX10_leastLoaded_63 : decode cX10_leastLoaded 63 = .ok (.iload_n 2, 1) := by decide +kernel
theorem dX10_leastLoaded_64 : decode cX10_leastLoaded 64 = .ok (.ireturn, 1) := by decide +kernel
def rm_X10_leastLoaded : Room := { frames := 4, cells := 0, slots := 0, locals := 89 }
def M_X10_leastLoaded_4 (k : Nat) (S : Nat → Nat → Int32) : Nat → (Int32) → (Int32) → (Int32) → Option (Int32)
  | 0, _, _, _ => none
  | n + 1, x1, x2, x3 => (M_X10_workers k S).bind fun q1 => if q1 ≤ x3 then (some x2) else ((M_X10_ofTenant k S x1 (0 : Int32)).bind fun q3 => (M_X10_has k q3 x3).bind fun q4 => if q4 = 0 then (M_X10_leastLoaded_4 k S n x1 x2 (x3 + 1)) else ((M_X10_isUp k S x3).bind fun q6 => if q6 = 0 then (M_X10_leastLoaded_4 k S n x1 x2 (x3 + 1)) else (if x2 = (-1 : Int32) then (M_X10_leastLoaded_4 k S n x1 x3 (x3 + 1)) else ((M_X10_loadOf k S x3).bind fun q9 => (M_X10_loadOf k S x2).bind fun q10 => if q10 ≤ q9 then (M_X10_leastLoaded_4 k S n x1 x2 (x3 + 1)) else (M_X10_leastLoaded_4 k S n x1 x3 (x3 + 1))))))
theorem M_X10_leastLoaded_4_s (k : Nat) (S : Nat → Nat → Int32) (n : Nat) (x1 : Int32) (x2 : Int32) (x3 : Int32) : M_X10_leastLoaded_4 k S (n + 1) x1 x2 x3 = ((M_X10_workers k S).bind fun q1 => if q1 ≤ x3 then (some x2) else ((M_X10_ofTenant k S x1 (0 : Int32)).bind fun q3 => (M_X10_has k q3 x3).bind fun q4 => if q4 = 0 then (M_X10_leastLoaded_4 k S n x1 x2 (x3 + 1)) else ((M_X10_isUp k S x3).bind fun q6 => if q6 = 0 then (M_X10_leastLoaded_4 k S n x1 x2 (x3 + 1)) else (if x2 = (-1 : Int32) then (M_X10_leastLoaded_4 k S n x1 x3 (x3 + 1)) else ((M_X10_loadOf k S x3).bind fun q9 => (M_X10_loadOf k S x2).bind fun q10 => if q10 ≤ q9 then (M_X10_leastLoaded_4 k S n x1 x2 (x3 + 1)) else (M_X10_leastLoaded_4 k S n x1 x3 (x3 + 1))))))) := rfl
set_option maxRecDepth 100000 in
set_option maxHeartbeats 4000000 in
theorem N_X10_leastLoaded_4 (C : CX E p l s m args meth c cX10_leastLoaded 4 RX10 (some .int) A) (a : Nat → Nat) (k : Nat) (S : Nat → Nat → Int32) {post : Int32 → va_W → Prop} :
    ∀ (n : Nat) (x1 : Int32) (x2 : Int32) (x3 : Int32) (q : Int32), M_X10_leastLoaded_4 k S n x1 x2 x3 = some q → post q (wMd E a S) →
      WW E p l e rm_X10_leastLoaded s m args below meth c A 0 0 (QI E below post args s rm_X10_leastLoaded A) (wMd E a S) 4 [some (.ref (a 0)), some (.int x1), some (.int x2), some (.int x3)] 4 [] := by
  intro n
  induction n with
  | zero => intro x1 x2 x3 q  h _; cases h
  | succ n ih =>
    intro x1 x2 x3 q  h hq
    rw [M_X10_leastLoaded_4_s] at h
    refine r_iload_n (pc := 4) C (i := 3) dX10_leastLoaded_4 rfl rfl ?_
    refine r_aload_n (pc := 5) C (i := 0) dX10_leastLoaded_5 rfl rfl ?_
    obtain ⟨q1, hq1, h⟩ := bnd h
    refine r_callVp_CI (Cn := RX10) (pc := 6) C [] (c_X10_workers E l k a S hq1) [0, 1, 2, 3, 4, 5, 6, 7, 8, 9, 10, 11, 12] rfl (by decide) 0 rfl rfl rfl g_X10_106 hd_X10_workers ⟨Nat.le_of_ble_eq_true rfl, Nat.le_of_ble_eq_true rfl⟩ ⟨Nat.zero_le _, Nat.zero_le _⟩ (Nat.le_of_ble_eq_true rfl) rfl dX10_leastLoaded_6 (fun r hr => ?_)
    have hr := hr.symm
    subst hr
    refine r_icmp_ge (pc := 9) C (tgt := 63) dX10_leastLoaded_9 rfl (fun c2 => ?_) (fun c2 => ?_)
    · rw [if_pos c2] at h
      refine r_iload_n (pc := 63) C (i := 2) dX10_leastLoaded_63 rfl rfl ?_
      cases h
      exact r_ireti (pc := 64) C hq (Nat.zero_le _) (Nat.zero_le _) dX10_leastLoaded_64
    · rw [if_neg c2] at h
      refine r_aload_n (pc := 12) C (i := 0) dX10_leastLoaded_12 rfl rfl ?_
      refine r_iload_n (pc := 13) C (i := 1) dX10_leastLoaded_13 rfl rfl ?_
      refine r_iconst (pc := 14) C (v := 0) dX10_leastLoaded_14 (by decide) ?_
      obtain ⟨q3, hq3, h⟩ := bnd h
      refine r_callVp_CI (Cn := RX10) (pc := 15) C [.int x1, .int (0 : Int32)] (c_X10_ofTenant E l k a S x1 (0 : Int32) hq3) [0, 1, 2, 3, 4, 5, 6, 7, 8, 9, 10, 11, 12] rfl (by decide) 0 rfl rfl rfl g_X10_120 hd_X10_ofTenant ⟨Nat.le_of_ble_eq_true rfl, Nat.le_of_ble_eq_true rfl⟩ ⟨Nat.zero_le _, Nat.zero_le _⟩ (Nat.le_of_ble_eq_true rfl) rfl dX10_leastLoaded_15 (fun r hr => ?_)
      have hr := hr.symm
      subst hr
      refine r_iload_n (pc := 18) C (i := 3) dX10_leastLoaded_18 rfl rfl ?_
      obtain ⟨q4, hq4, h⟩ := bnd h
      refine r_callSp_CI (pc := 19) C [.int q3, .int x3] (c_X10_has E l k q3 x3 hq4) [] rfl (by decide) g_X10_133 hd_X10_has.2 ⟨Nat.le_of_ble_eq_true rfl, Nat.le_of_ble_eq_true rfl⟩ ⟨Nat.zero_le _, Nat.zero_le _⟩ (Nat.le_of_ble_eq_true rfl) rfl dX10_leastLoaded_19 (fun r hr => ?_)
      have hr := hr.symm
      subst hr
      refine r_if_eq (pc := 22) C (tgt := 57) dX10_leastLoaded_22 rfl (fun c5 => ?_) (fun c5 => ?_)
      · rw [if_pos c5] at h
        refine r_iinc (pc := 57) C (v := (x3 + 1)) dX10_leastLoaded_57 rfl rfl (by decide) rfl ?_
        refine r_goto (pc := 60) C (tgt := 4) dX10_leastLoaded_60 rfl ?_
        refine r_weak (lSub_s (lSub_s (lSub_s (lSub_s lSub_e)))) ?_
        exact ih x1 x2 (x3 + 1) q  h hq
      · rw [if_neg c5] at h
        refine r_aload_n (pc := 25) C (i := 0) dX10_leastLoaded_25 rfl rfl ?_
        refine r_iload_n (pc := 26) C (i := 3) dX10_leastLoaded_26 rfl rfl ?_
        obtain ⟨q6, hq6, h⟩ := bnd h
        refine r_callVp_CI (Cn := RX10) (pc := 27) C [.int x3] (c_X10_isUp E l k a S x3 hq6) [0, 1, 2, 3, 4, 5, 6, 7, 8, 9, 10, 11, 12] rfl (by decide) 0 rfl rfl rfl g_X10_137 hd_X10_isUp ⟨Nat.le_of_ble_eq_true rfl, Nat.le_of_ble_eq_true rfl⟩ ⟨Nat.zero_le _, Nat.zero_le _⟩ (Nat.le_of_ble_eq_true rfl) rfl dX10_leastLoaded_27 (fun r hr => ?_)
        have hr := hr.symm
        subst hr
        refine r_if_eq (pc := 30) C (tgt := 57) dX10_leastLoaded_30 rfl (fun c7 => ?_) (fun c7 => ?_)
        · rw [if_pos c7] at h
          refine r_iinc (pc := 57) C (v := (x3 + 1)) dX10_leastLoaded_57 rfl rfl (by decide) rfl ?_
          refine r_goto (pc := 60) C (tgt := 4) dX10_leastLoaded_60 rfl ?_
          refine r_weak (lSub_s (lSub_s (lSub_s (lSub_s lSub_e)))) ?_
          exact ih x1 x2 (x3 + 1) q  h hq
        · rw [if_neg c7] at h
          refine r_iload_n (pc := 33) C (i := 2) dX10_leastLoaded_33 rfl rfl ?_
          refine r_iconst (pc := 34) C (v := (-1)) dX10_leastLoaded_34 (by decide) ?_
          refine r_icmp_eq (pc := 35) C (tgt := 51) dX10_leastLoaded_35 rfl (fun c8 => ?_) (fun c8 => ?_)
          · rw [if_pos c8] at h
            refine r_iload_n (pc := 51) C (i := 3) dX10_leastLoaded_51 rfl rfl ?_
            refine r_goto (pc := 52) C (tgt := 56) dX10_leastLoaded_52 rfl ?_
            refine r_istore_n (pc := 56) C (i := 2) dX10_leastLoaded_56 rfl (by decide) rfl ?_
            refine r_iinc (pc := 57) C (v := (x3 + 1)) dX10_leastLoaded_57 rfl rfl (by decide) rfl ?_
            refine r_goto (pc := 60) C (tgt := 4) dX10_leastLoaded_60 rfl ?_
            refine r_weak (lSub_s (lSub_s (lSub_s (lSub_s lSub_e)))) ?_
            exact ih x1 x3 (x3 + 1) q  h hq
          · rw [if_neg c8] at h
            refine r_aload_n (pc := 38) C (i := 0) dX10_leastLoaded_38 rfl rfl ?_
            refine r_iload_n (pc := 39) C (i := 3) dX10_leastLoaded_39 rfl rfl ?_
            obtain ⟨q9, hq9, h⟩ := bnd h
            refine r_callVp_CI (Cn := RX10) (pc := 40) C [.int x3] (c_X10_loadOf E l k a S x3 hq9) [0, 1, 2, 3, 4, 5, 6, 7, 8, 9, 10, 11, 12] rfl (by decide) 0 rfl rfl rfl g_X10_141 hd_X10_loadOf ⟨Nat.le_of_ble_eq_true rfl, Nat.le_of_ble_eq_true rfl⟩ ⟨Nat.zero_le _, Nat.zero_le _⟩ (Nat.le_of_ble_eq_true rfl) rfl dX10_leastLoaded_40 (fun r hr => ?_)
            have hr := hr.symm
            subst hr
            refine r_aload_n (pc := 43) C (i := 0) dX10_leastLoaded_43 rfl rfl ?_
            refine r_iload_n (pc := 44) C (i := 2) dX10_leastLoaded_44 rfl rfl ?_
            obtain ⟨q10, hq10, h⟩ := bnd h
            refine r_callVp_CI (Cn := RX10) (pc := 45) C [.int x2] (c_X10_loadOf E l k a S x2 hq10) [0, 1, 2, 3, 4, 5, 6, 7, 8, 9, 10, 11, 12] rfl (by decide) 0 rfl rfl rfl g_X10_141 hd_X10_loadOf ⟨Nat.le_of_ble_eq_true rfl, Nat.le_of_ble_eq_true rfl⟩ ⟨Nat.zero_le _, Nat.zero_le _⟩ (Nat.le_of_ble_eq_true rfl) rfl dX10_leastLoaded_45 (fun r hr => ?_)
            have hr := hr.symm
            subst hr
            refine r_icmp_ge (pc := 48) C (tgt := 55) dX10_leastLoaded_48 rfl (fun c11 => ?_) (fun c11 => ?_)
            · rw [if_pos c11] at h
              refine r_iload_n (pc := 55) C (i := 2) dX10_leastLoaded_55 rfl rfl ?_
              refine r_istore_n (pc := 56) C (i := 2) dX10_leastLoaded_56 rfl (by decide) rfl ?_
              refine r_iinc (pc := 57) C (v := (x3 + 1)) dX10_leastLoaded_57 rfl rfl (by decide) rfl ?_
              refine r_goto (pc := 60) C (tgt := 4) dX10_leastLoaded_60 rfl ?_
              refine r_weak (lSub_s (lSub_s (lSub_s (lSub_s lSub_e)))) ?_
              exact ih x1 x2 (x3 + 1) q  h hq
            · rw [if_neg c11] at h
              refine r_iload_n (pc := 51) C (i := 3) dX10_leastLoaded_51 rfl rfl ?_
              refine r_goto (pc := 52) C (tgt := 56) dX10_leastLoaded_52 rfl ?_
              refine r_istore_n (pc := 56) C (i := 2) dX10_leastLoaded_56 rfl (by decide) rfl ?_
              refine r_iinc (pc := 57) C (v := (x3 + 1)) dX10_leastLoaded_57 rfl rfl (by decide) rfl ?_
              refine r_goto (pc := 60) C (tgt := 4) dX10_leastLoaded_60 rfl ?_
              refine r_weak (lSub_s (lSub_s (lSub_s (lSub_s lSub_e)))) ?_
              exact ih x1 x3 (x3 + 1) q  h hq
def M_X10_leastLoaded_0 (k : Nat) (S : Nat → Nat → Int32) (p0 : Int32) : Option (Int32) := M_X10_leastLoaded_4 k S k p0 (-1 : Int32) (0 : Int32)
set_option maxRecDepth 100000 in
set_option maxHeartbeats 4000000 in
theorem N_X10_leastLoaded_0 (C : CX E p l s m args meth c cX10_leastLoaded 4 RX10 (some .int) A) (a : Nat → Nat) (k : Nat) (S : Nat → Nat → Int32) {post : Int32 → va_W → Prop} :
    ∀ (p0 : Int32) (q : Int32), M_X10_leastLoaded_0 k S p0 = some q → post q (wMd E a S) →
      WW E p l e rm_X10_leastLoaded s m args below meth c A 0 0 (QI E below post args s rm_X10_leastLoaded A) (wMd E a S) 4 [some (.ref (a 0)), some (.int p0), none, none] 0 [] := by
  intro p0 q  h hq
  unfold M_X10_leastLoaded_0 at h
  refine r_iconst (pc := 0) C (v := (-1)) dX10_leastLoaded_0 (by decide) ?_
  refine r_istore_n (pc := 1) C (i := 2) dX10_leastLoaded_1 rfl (by decide) rfl ?_
  refine r_iconst (pc := 2) C (v := 0) dX10_leastLoaded_2 (by decide) ?_
  refine r_istore_n (pc := 3) C (i := 3) dX10_leastLoaded_3 rfl (by decide) rfl ?_
  refine r_weak (lSub_s (lSub_s (lSub_s (lSub_s lSub_e)))) ?_
  exact N_X10_leastLoaded_4 C a k S k p0 (-1 : Int32) (0 : Int32) q  h hq
def M_X10_leastLoaded (k : Nat) (S : Nat → Nat → Int32) (p0 : Int32) : Option (Int32) := M_X10_leastLoaded_0 k S p0
set_option maxRecDepth 100000 in
set_option maxHeartbeats 4000000 in
theorem c_X10_leastLoaded (E : ENV) (l : Launch) (k : Nat) (a : Nat → Nat) (S : Nat → Nat → Int32) (p0 : Int32) {q : Int32} (hm : M_X10_leastLoaded k S p0 = some q) : CI E l yX10_leastLoaded cX10_leastLoaded 4 (some .int) rm_X10_leastLoaded [.ref (a 0), .int p0] (wMd E a S) (fun r w' => r = q ∧ w' = (wMd E a S)) :=
  CI.of 2 (by decide) (Nat.le_of_ble_eq_true rfl) (fun p e s m below meth c A C _ => r_weak (lSub_s (lSub_s (lSub_n (lSub_n lSub_e)))) (N_X10_leastLoaded_0 C a k S p0 q  hm ⟨rfl, rfl⟩))
theorem hd_X10_put : yX10_put.cls = RX10 ∧ yX10_put.cls ≠ "java/lang/invoke/MethodHandle" ∧ yX10_put.cls ≠ "java/lang/invoke/VarHandle" ∧ (parseMethodDescriptor yX10_put.desc).map (fun d => d.parameters.length) = some 3 := by decide +kernel
theorem g_X10_147 : GoodIn GW (wsV RX10 147 RX10 yX10_put (wsG yX10_put cX10_put 4 none)) := gw_V wm_7_43 wm_7_45 wm_0_57 wm_1_9 wm_7_46
theorem hd_X10_leastLoaded : yX10_leastLoaded.cls = RX10 ∧ yX10_leastLoaded.cls ≠ "java/lang/invoke/MethodHandle" ∧ yX10_leastLoaded.cls ≠ "java/lang/invoke/VarHandle" ∧ (parseMethodDescriptor yX10_leastLoaded.desc).map (fun d => d.parameters.length) = some 1 := by decide +kernel
theorem g_X10_144 : GoodIn GW (wsV RX10 144 RX10 yX10_leastLoaded (wsG yX10_leastLoaded cX10_leastLoaded 4 (some .int))) := gw_V wm_7_51 wm_7_53 wm_0_59 wm_1_9 wm_7_54
-- ShardGuardModel.route(I)V
theorem dX10_route_0 : decode cX10_route 0 = .ok (.aload_n 0, 1) := by decide +kernel
theorem dX10_route_1 : decode cX10_route 1 = .ok (.aload_n 0, 1) := by decide +kernel
theorem dX10_route_2 : decode cX10_route 2 = .ok (.iload_n 1, 1) := by decide +kernel
theorem dX10_route_3 : decode cX10_route 3 = .ok (.iconst 0, 1) := by decide +kernel
theorem dX10_route_4 : decode cX10_route 4 = .ok (.invokevirtual 123, 3) := by decide +kernel
theorem dX10_route_7 : decode cX10_route 7 = .ok (.invokevirtual 144, 3) := by decide +kernel
theorem dX10_route_10 : decode cX10_route 10 = .ok (.istore_n 2, 1) := by decide +kernel
theorem dX10_route_11 : decode cX10_route 11 = .ok (.aload_n 0, 1) := by decide +kernel
theorem dX10_route_12 : decode cX10_route 12 = .ok (.iload_n 1, 1) := by decide +kernel
theorem dX10_route_13 : decode cX10_route 13 = .ok (.iconst 2, 1) := by decide +kernel
theorem dX10_route_14 : decode cX10_route 14 = .ok (.aload_n 0, 1) := by decide +kernel
theorem dX10_route_15 : decode cX10_route 15 = .ok (.iload_n 1, 1) := by decide +kernel
theorem dX10_route_16 : decode cX10_route 16 = .ok (.iconst 1, 1) := by decide +kernel
theorem dX10_route_17 : decode cX10_route 17 = .ok (.invokevirtual 123, 3) := by decide +kernel
theorem dX10_route_20 : decode cX10_route 20 = .ok (.invokevirtual 147, 3) := by decide +kernel
theorem dX10_route_23 : decode cX10_route 23 = .ok (.aload_n 0, 1) := by decide +kernel
theorem dX10_route_24 : decode cX10_route 24 = .ok (.iload_n 1, 1) := by decide +kernel
theorem dX10_route_25 : decode cX10_route 25 = .ok (.iconst 4, 1) := by decide +kernel
theorem dX10_route_26 : decode cX10_route 26 = .ok (.iload_n 2, 1) := by decide +kernel
theorem dX10_route_27 : decode cX10_route 27 = .ok (.iconst (-1), 1) := by decide +kernel
theorem dX10_route_28 : decode cX10_route 28 = .ok (.if_icmp .ne 7, 3) := by decide +kernel
theorem dX10_route_31 : decode cX10_route 31 = .ok (.iconst 1, 1) := by decide +kernel
theorem dX10_route_32 : decode cX10_route 32 = .ok (.goto 4, 3) := by decide +kernel
theorem dX10_route_35 : decode cX10_route 35 = .ok (.iconst 0, 1) := by decide +kernel
theorem dX10_route_36 : decode cX10_route 36 = .ok (.invokevirtual 147, 3) := by decide +kernel
theorem dX10_route_39 : decode cX10_route 39 = .ok (.aload_n 0, 1) := by decide +kernel
theorem dX10_route_40 : decode cX10_route 40 = .ok (.iload_n 1, 1) := by decide +kernel
theorem dX10_route_41 : decode cX10_route 41 = .ok (.bipush 6, 2) := by decide +kernel
theorem dX10_route_43 : decode cX10_route 43 = .ok (.iload_n 2, 1) := by decide +kernel
theorem dX10_route_44 : decode cX10_route 44 = .ok (.invokevirtual 147, 3) := by decide +kernel
theorem dX10_route_47 : decode cX10_route 47 = .ok (.aload_n 0, 1) := by decide +kernel
theorem dX10_route_48 : decode cX10_route 48 = .ok (.iload_n 1, 1) := by decide +kernel
theorem dX10_route_49 : decode cX10_route 49 = .ok (.bipush 8, 2) := by decide +kernel
theorem dX10_route_51 : decode cX10_route 51 = .ok (.aload_n 0, 1) := by decide +kernel
theorem dX10_route_52 : decode cX10_route 52 = .ok (.getfield 25, 3) := by decide +kernel
theorem dX10_route_55 : decode cX10_route 55 = .ok (.bipush 10, 2) := by decide +kernel
theorem dX10_route_57 : decode cX10_route 57 = .ok (.iaload, 1) := by decide +kernel
theorem dX10_route_58 : decode cX10_route 58 = .ok (.invokevirtual 147, 3) := by decide +kernel
theorem dX10_route_61 : decode cX10_route 61 = .ok (.aload_n 0, 1) := by decide +kernel
theorem dX10_route_62 : decode cX10_route 62 = .ok (.getfield 25, 3) := by decide +kernel
theorem dX10_route_65 : decode cX10_route 65 = .ok (.bipush 10, 2) := by decide +kernel
theorem dX10_route_67 : decode cX10_route 67 = .ok (.dup2, 1) := by decide +kernel
theorem dX10_route_68 : decode cX10_route 68 = .ok (.iaload, 1) := by decide +kernel
theorem dX10_route_69 : decode cX10_route 69 = .ok (.iconst 1, 1) := by decide +kernel
theorem dX10_route_70 : decode cX10_route 70 = .ok (.iadd, 1) := by decide +kernel
theorem dX10_route_71 : decode cX10_route 71 = .ok (.iastore, 1) := by decide +kernel
theorem dX10_route_72 : decode cX10_route 72 = .ok (.return_, 1) := by decide +kernel
def rm_X10_route : Room := { frames := 5, cells := 0, slots := 0, locals := 112 }
def M_X10_route_36 (k : Nat) (x1 : Int32) (x2 : Int32) (y1 : Int32) (y2 : Int32) (y3 : Int32) (S : Nat → Nat → Int32) : Option ((Nat → Nat → Int32)) := (M_X10_put k S y1 y2 y3).bind fun q1 => (M_X10_put k q1 x1 (6 : Int32) x2).bind fun q2 => lt (gsel q2) fun g3 => (if gokN g3 = true then (if inb (10 : Int32) 1692 = true then (M_X10_put k q2 x1 (8 : Int32) (q2 g3 (10 : Int32).toNatClampNeg)).bind fun q5 => lt (gsel q5) fun g6 => (if gokN g6 = true then (if inb (10 : Int32) 1692 = true then (if inb (10 : Int32) 1692 = true then lt (va_up q5 g6 (upd (q5 g6) (10 : Int32).toNatClampNeg ((q5 g6 (10 : Int32).toNatClampNeg) + (1 : Int32)))) fun F9 => some F9 else none) else none) else none) else none) else none)
set_option maxRecDepth 100000 in
set_option maxHeartbeats 4000000 in
theorem N_X10_route_36 (C : CX E p l s m args meth c cX10_route 3 RX10 none A) (a : Nat → Nat) (k : Nat) {post : va_W → Prop} :
    ∀ (x1 : Int32) (x2 : Int32) (y1 : Int32) (y2 : Int32) (y3 : Int32) (S : Nat → Nat → Int32) (q : (Nat → Nat → Int32)), M_X10_route_36 k x1 x2 y1 y2 y3 S = some q → post (wMd E a q) →
      WW E p l e rm_X10_route s m args below meth c A 0 0 (QV E below post args s rm_X10_route A) (wMd E a S) 3 [some (.ref (a 0)), some (.int x1), some (.int x2)] 36 [.int y3, .int y2, .int y1, .ref (a 0)] := by
  intro x1 x2 y1 y2 y3 S q  h hq
  unfold M_X10_route_36 at h
  obtain ⟨q1, hq1, h⟩ := bnd h
  refine r_callV_CV (Cn := RX10) (pc := 36) C [.int y1, .int y2, .int y3] (c_X10_put E l k a S y1 y2 y3 hq1) [0, 1, 2, 3, 4, 5, 6, 7, 8, 9, 10, 11, 12] rfl (by decide) 0 rfl rfl rfl g_X10_147 hd_X10_put ⟨Nat.le_of_ble_eq_true rfl, Nat.le_of_ble_eq_true rfl⟩ ⟨Nat.zero_le _, Nat.zero_le _⟩ (Nat.le_of_ble_eq_true rfl) rfl dX10_route_36 (fun w1 hw1 => ?_)
  subst hw1
  refine ⟨(wMd E a q1), by rfl, ?_⟩
  refine r_aload_n (pc := 39) C (i := 0) dX10_route_39 rfl rfl ?_
  refine r_iload_n (pc := 40) C (i := 1) dX10_route_40 rfl rfl ?_
  refine r_bipush (pc := 41) C (v := 6) dX10_route_41 (by decide) ?_
  refine r_iload_n (pc := 43) C (i := 2) dX10_route_43 rfl rfl ?_
  obtain ⟨q2, hq2, h⟩ := bnd h
  refine r_callV_CV (Cn := RX10) (pc := 44) C [.int x1, .int (6 : Int32), .int x2] (c_X10_put E l k a q1 x1 (6 : Int32) x2 hq2) [0, 1, 2, 3, 4, 5, 6, 7, 8, 9, 10, 11, 12] rfl (by decide) 0 rfl rfl rfl g_X10_147 hd_X10_put ⟨Nat.le_of_ble_eq_true rfl, Nat.le_of_ble_eq_true rfl⟩ ⟨Nat.zero_le _, Nat.zero_le _⟩ (Nat.le_of_ble_eq_true rfl) rfl dX10_route_44 (fun w1 hw1 => ?_)
  subst hw1
  refine ⟨(wMd E a q2), by rfl, ?_⟩
  refine r_aload_n (pc := 47) C (i := 0) dX10_route_47 rfl rfl ?_
  refine r_iload_n (pc := 48) C (i := 1) dX10_route_48 rfl rfl ?_
  refine r_bipush (pc := 49) C (v := 8) dX10_route_49 (by decide) ?_
  refine r_aload_n (pc := 51) C (i := 0) dX10_route_51 rfl rfl ?_
  obtain ⟨g3, hg3, h⟩ := lt_e h
  obtain ⟨kg3, h⟩ := ifn h
  refine r_get (pc := 52) C gwX10 0 rfl rfl 8 (by decide) wm_5_211 rfl dX10_route_52 ?_
  refine r_topg (a := a) hg3 ?_
  refine r_bipush (pc := 55) C (v := 10) dX10_route_55 (by decide) ?_
  obtain ⟨hi4, h⟩ := ifn h
  refine r_iald (pc := 57) C g3 (wMd_at kg3) hi4 dX10_route_57 ?_
  obtain ⟨q5, hq5, h⟩ := bnd h
  refine r_callV_CV (Cn := RX10) (pc := 58) C [.int x1, .int (8 : Int32), .int (q2 g3 (10 : Int32).toNatClampNeg)] (c_X10_put E l k a q2 x1 (8 : Int32) (q2 g3 (10 : Int32).toNatClampNeg) hq5) [0, 1, 2, 3, 4, 5, 6, 7, 8, 9, 10, 11, 12] rfl (by decide) 0 rfl rfl rfl g_X10_147 hd_X10_put ⟨Nat.le_of_ble_eq_true rfl, Nat.le_of_ble_eq_true rfl⟩ ⟨Nat.zero_le _, Nat.zero_le _⟩ (Nat.le_of_ble_eq_true rfl) rfl dX10_route_58 (fun w1 hw1 => ?_)
  subst hw1
  refine ⟨(wMd E a q5), by rfl, ?_⟩
  refine r_aload_n (pc := 61) C (i := 0) dX10_route_61 rfl rfl ?_
  obtain ⟨g6, hg6, h⟩ := lt_e h
  obtain ⟨kg6, h⟩ := ifn h
  refine r_get (pc := 62) C gwX10 0 rfl rfl 8 (by decide) wm_5_211 rfl dX10_route_62 ?_
  refine r_topg (a := a) hg6 ?_
  refine r_bipush (pc := 65) C (v := 10) dX10_route_65 (by decide) ?_
  refine r_dup2_11 (pc := 67) C dX10_route_67 rfl rfl ?_
  obtain ⟨hi7, h⟩ := ifn h
  refine r_iald (pc := 68) C g6 (wMd_at kg6) hi7 dX10_route_68 ?_
  refine r_iconst (pc := 69) C (v := 1) dX10_route_69 (by decide) ?_
  refine r_iadd (pc := 70) C dX10_route_70 ?_
  obtain ⟨hi8, h⟩ := ifn h
  obtain ⟨F9, hF9, h⟩ := lt_e h
  refine r_iast (pc := 71) C g6 (wMd_at kg6) hi8 (w' := (wMd E a F9)) (by rw [hF9]; exact wMd_set kg6) dX10_route_71 ?_
  cases h
  exact r_vret (pc := 72) C hq (Nat.zero_le _) (Nat.zero_le _) dX10_route_72
def M_X10_route_0 (k : Nat) (p0 : Int32) (S : Nat → Nat → Int32) : Option ((Nat → Nat → Int32)) := (M_X10_of k S p0 (0 : Int32)).bind fun q10 => (M_X10_leastLoaded k S q10).bind fun q11 => (M_X10_of k S p0 (1 : Int32)).bind fun q12 => (M_X10_put k S p0 (2 : Int32) q12).bind fun q13 => if q11 = (-1 : Int32) then (M_X10_route_36 k p0 q11 p0 (4 : Int32) (1 : Int32) q13) else (M_X10_route_36 k p0 q11 p0 (4 : Int32) (0 : Int32) q13)
set_option maxRecDepth 100000 in
set_option maxHeartbeats 4000000 in
theorem N_X10_route_0 (C : CX E p l s m args meth c cX10_route 3 RX10 none A) (a : Nat → Nat) (k : Nat) {post : va_W → Prop} :
    ∀ (p0 : Int32) (S : Nat → Nat → Int32) (q : (Nat → Nat → Int32)), M_X10_route_0 k p0 S = some q → post (wMd E a q) →
      WW E p l e rm_X10_route s m args below meth c A 0 0 (QV E below post args s rm_X10_route A) (wMd E a S) 3 [some (.ref (a 0)), some (.int p0), none] 0 [] := by
  intro p0 S q  h hq
  unfold M_X10_route_0 at h
  refine r_aload_n (pc := 0) C (i := 0) dX10_route_0 rfl rfl ?_
  refine r_aload_n (pc := 1) C (i := 0) dX10_route_1 rfl rfl ?_
  refine r_iload_n (pc := 2) C (i := 1) dX10_route_2 rfl rfl ?_
  refine r_iconst (pc := 3) C (v := 0) dX10_route_3 (by decide) ?_
  obtain ⟨q10, hq10, h⟩ := bnd h
  refine r_callVp_CI (Cn := RX10) (pc := 4) C [.int p0, .int (0 : Int32)] (c_X10_of E l k a S p0 (0 : Int32) hq10) [0, 1, 2, 3, 4, 5, 6, 7, 8, 9, 10, 11, 12] rfl (by decide) 0 rfl rfl rfl g_X10_123 hd_X10_of ⟨Nat.le_of_ble_eq_true rfl, Nat.le_of_ble_eq_true rfl⟩ ⟨Nat.zero_le _, Nat.zero_le _⟩ (Nat.le_of_ble_eq_true rfl) rfl dX10_route_4 (fun r hr => ?_)
  have hr := hr.symm
  subst hr
  obtain ⟨q11, hq11, h⟩ := bnd h
  refine r_callVp_CI (Cn := RX10) (pc := 7) C [.int q10] (c_X10_leastLoaded E l k a S q10 hq11) [0, 1, 2, 3, 4, 5, 6, 7, 8, 9, 10, 11, 12] rfl (by decide) 0 rfl rfl rfl g_X10_144 hd_X10_leastLoaded ⟨Nat.le_of_ble_eq_true rfl, Nat.le_of_ble_eq_true rfl⟩ ⟨Nat.zero_le _, Nat.zero_le _⟩ (Nat.le_of_ble_eq_true rfl) rfl dX10_route_7 (fun r hr => ?_)
  have hr := hr.symm
  subst hr
  refine r_istore_n (pc := 10) C (i := 2) dX10_route_10 rfl (by decide) rfl ?_
  refine r_aload_n (pc := 11) C (i := 0) dX10_route_11 rfl rfl ?_
  refine r_iload_n (pc := 12) C (i := 1) dX10_route_12 rfl rfl ?_
  refine r_iconst (pc := 13) C (v := 2) dX10_route_13 (by decide) ?_
  refine r_aload_n (pc := 14) C (i := 0) dX10_route_14 rfl rfl ?_
  refine r_iload_n (pc := 15) C (i := 1) dX10_route_15 rfl rfl ?_
  refine r_iconst (pc := 16) C (v := 1) dX10_route_16 (by decide) ?_
  obtain ⟨q12, hq12, h⟩ := bnd h
  refine r_callVp_CI (Cn := RX10) (pc := 17) C [.int p0, .int (1 : Int32)] (c_X10_of E l k a S p0 (1 : Int32) hq12) [0, 1, 2, 3, 4, 5, 6, 7, 8, 9, 10, 11, 12] rfl (by decide) 0 rfl rfl rfl g_X10_123 hd_X10_of ⟨Nat.le_of_ble_eq_true rfl, Nat.le_of_ble_eq_true rfl⟩ ⟨Nat.zero_le _, Nat.zero_le _⟩ (Nat.le_of_ble_eq_true rfl) rfl dX10_route_17 (fun r hr => ?_)
  have hr := hr.symm
  subst hr
  obtain ⟨q13, hq13, h⟩ := bnd h
  refine r_callV_CV (Cn := RX10) (pc := 20) C [.int p0, .int (2 : Int32), .int q12] (c_X10_put E l k a S p0 (2 : Int32) q12 hq13) [0, 1, 2, 3, 4, 5, 6, 7, 8, 9, 10, 11, 12] rfl (by decide) 0 rfl rfl rfl g_X10_147 hd_X10_put ⟨Nat.le_of_ble_eq_true rfl, Nat.le_of_ble_eq_true rfl⟩ ⟨Nat.zero_le _, Nat.zero_le _⟩ (Nat.le_of_ble_eq_true rfl) rfl dX10_route_20 (fun w1 hw1 => ?_)
  subst hw1
  refine ⟨(wMd E a q13), by rfl, ?_⟩
  refine r_aload_n (pc := 23) C (i := 0) dX10_route_23 rfl rfl ?_
  refine r_iload_n (pc := 24) C (i := 1) dX10_route_24 rfl rfl ?_
  refine r_iconst (pc := 25) C (v := 4) dX10_route_25 (by decide) ?_
  refine r_iload_n (pc := 26) C (i := 2) dX10_route_26 rfl rfl ?_
  refine r_iconst (pc := 27) C (v := (-1)) dX10_route_27 (by decide) ?_
  refine r_icmp_ne (pc := 28) C (tgt := 35) dX10_route_28 rfl (fun c14 => ?_) (fun c14 => ?_)
  · rw [if_neg c14] at h
    refine r_iconst (pc := 35) C (v := 0) dX10_route_35 (by decide) ?_
    refine r_weak (lSub_s (lSub_s (lSub_s lSub_e))) ?_
    exact N_X10_route_36 C a k p0 q11 p0 (4 : Int32) (0 : Int32) q13 q  h hq
  · rw [if_pos c14] at h
    refine r_iconst (pc := 31) C (v := 1) dX10_route_31 (by decide) ?_
    refine r_goto (pc := 32) C (tgt := 36) dX10_route_32 rfl ?_
    refine r_weak (lSub_s (lSub_s (lSub_s lSub_e))) ?_
    exact N_X10_route_36 C a k p0 q11 p0 (4 : Int32) (1 : Int32) q13 q  h hq
def M_X10_route (k : Nat) (S : Nat → Nat → Int32) (p0 : Int32) : Option ((Nat → Nat → Int32)) := M_X10_route_0 k p0 S
set_option maxRecDepth 100000 in
set_option maxHeartbeats 4000000 in
theorem c_X10_route (E : ENV) (l : Launch) (k : Nat) (a : Nat → Nat) (S : Nat → Nat → Int32) (p0 : Int32) {q : (Nat → Nat → Int32)} (hm : M_X10_route k S p0 = some q) : CV E l yX10_route cX10_route 3 none rm_X10_route [.ref (a 0), .int p0] (wMd E a S) (fun w' => w' = (wMd E a q)) :=
  CV.of 1 (by decide) (Nat.le_of_ble_eq_true rfl) (fun p e s m below meth c A C _ => r_weak (lSub_s (lSub_s (lSub_n lSub_e))) (N_X10_route_0 C a k p0 S q  hm rfl))
-- ShardGuardModel.end(II)V
theorem dX10_end_0 : decode cX10_end 0 = .ok (.aload_n 0, 1) := by decide +kernel
theorem dX10_end_1 : decode cX10_end 1 = .ok (.iload_n 1, 1) := by decide +kernel
theorem dX10_end_2 : decode cX10_end 2 = .ok (.iconst 4, 1) := by decide +kernel
theorem dX10_end_3 : decode cX10_end 3 = .ok (.iload_n 2, 1) := by decide +kernel
theorem dX10_end_4 : decode cX10_end 4 = .ok (.invokevirtual 147, 3) := by decide +kernel
theorem dX10_end_7 : decode cX10_end 7 = .ok (.aload_n 0, 1) := by decide +kernel
theorem dX10_end_8 : decode cX10_end 8 = .ok (.iload_n 1, 1) := by decide +kernel
theorem dX10_end_9 : decode cX10_end 9 = .ok (.bipush 6, 2) := by decide +kernel
theorem dX10_end_11 : decode cX10_end 11 = .ok (.iconst (-1), 1) := by decide +kernel
theorem dX10_end_12 : decode cX10_end 12 = .ok (.invokevirtual 147, 3) := by decide +kernel
theorem dX10_end_15 : decode cX10_end 15 = .ok (.aload_n 0, 1) := by decide +kernel
theorem dX10_end_16 : decode cX10_end 16 = .ok (.iload_n 1, 1) := by decide +kernel
theorem dX10_end_17 : decode cX10_end 17 = .ok (.bipush 7, 2) := by decide +kernel
theorem dX10_end_19 : decode cX10_end 19 = .ok (.aload_n 0, 1) := by decide +kernel
theorem dX10_end_20 : decode cX10_end 20 = .ok (.getfield 25, 3) := by decide +kernel
theorem dX10_end_23 : decode cX10_end 23 = .ok (.iconst 4, 1) := by decide +kernel
theorem dX10_end_24 : decode cX10_end 24 = .ok (.iaload, 1) := by decide +kernel
theorem dX10_end_25 : decode cX10_end 25 = .ok (.invokevirtual 147, 3) := by decide +kernel
theorem dX10_end_28 : decode cX10_end 28 = .ok (.return_, 1) := by decide +kernel
def rm_X10_end : Room := { frames := 2, cells := 0, slots := 0, locals := 44 }
def M_X10_end_0 (k : Nat) (p0 : Int32) (p1 : Int32) (S : Nat → Nat → Int32) : Option ((Nat → Nat → Int32)) := (M_X10_put k S p0 (4 : Int32) p1).bind fun q1 => (M_X10_put k q1 p0 (6 : Int32) (-1 : Int32)).bind fun q2 => lt (gsel q2) fun g3 => (if gokN g3 = true then (if inb (4 : Int32) 1692 = true then (M_X10_put k q2 p0 (7 : Int32) (q2 g3 (4 : Int32).toNatClampNeg)).bind fun q5 => some q5 else none) else none)
set_option maxRecDepth 100000 in
set_option maxHeartbeats 4000000 in
theorem N_X10_end_0 (C : CX E p l s m args meth c cX10_end 3 RX10 none A) (a : Nat → Nat) (k : Nat) {post : va_W → Prop} :
    ∀ (p0 : Int32) (p1 : Int32) (S : Nat → Nat → Int32) (q : (Nat → Nat → Int32)), M_X10_end_0 k p0 p1 S = some q → post (wMd E a q) →
      WW E p l e rm_X10_end s m args below meth c A 0 0 (QV E below post args s rm_X10_end A) (wMd E a S) 3 [some (.ref (a 0)), some (.int p0), some (.int p1)] 0 [] := by
  intro p0 p1 S q  h hq
  unfold M_X10_end_0 at h
  refine r_aload_n (pc := 0) C (i := 0) dX10_end_0 rfl rfl ?_
  refine r_iload_n (pc := 1) C (i := 1) dX10_end_1 rfl rfl ?_
  refine r_iconst (pc := 2) C (v := 4) dX10_end_2 (by decide) ?_
  refine r_iload_n (pc := 3) C (i := 2) dX10_end_3 rfl rfl ?_
  obtain ⟨q1, hq1, h⟩ := bnd h
  refine r_callV_CV (Cn := RX10) (pc := 4) C [.int p0, .int (4 : Int32), .int p1] (c_X10_put E l k a S p0 (4 : Int32) p1 hq1) [0, 1, 2, 3, 4, 5, 6, 7, 8, 9, 10, 11, 12] rfl (by decide) 0 rfl rfl rfl g_X10_147 hd_X10_put ⟨Nat.le_of_ble_eq_true rfl, Nat.le_of_ble_eq_true rfl⟩ ⟨Nat.zero_le _, Nat.zero_le _⟩ (Nat.le_of_ble_eq_true rfl) rfl dX10_end_4 (fun w1 hw1 => ?_)
  subst hw1
  refine ⟨(wMd E a q1), by rfl, ?_⟩
  refine r_aload_n (pc := 7) C (i := 0) dX10_end_7 rfl rfl ?_
  refine r_iload_n (pc := 8) C (i := 1) dX10_end_8 rfl rfl ?_
  refine r_bipush (pc := 9) C (v := 6) dX10_end_9 (by decide) ?_
  refine r_iconst (pc := 11) C (v := (-1)) dX10_end_11 (by decide) ?_
  obtain ⟨q2, hq2, h⟩ := bnd h
  refine r_callV_CV (Cn := RX10) (pc := 12) C [.int p0, .int (6 : Int32), .int (-1 : Int32)] (c_X10_put E l k a q1 p0 (6 : Int32) (-1 : Int32) hq2) [0, 1, 2, 3, 4, 5, 6, 7, 8, 9, 10, 11, 12] rfl (by decide) 0 rfl rfl rfl g_X10_147 hd_X10_put ⟨Nat.le_of_ble_eq_true rfl, Nat.le_of_ble_eq_true rfl⟩ ⟨Nat.zero_le _, Nat.zero_le _⟩ (Nat.le_of_ble_eq_true rfl) rfl dX10_end_12 (fun w1 hw1 => ?_)
  subst hw1
  refine ⟨(wMd E a q2), by rfl, ?_⟩
  refine r_aload_n (pc := 15) C (i := 0) dX10_end_15 rfl rfl ?_
  refine r_iload_n (pc := 16) C (i := 1) dX10_end_16 rfl rfl ?_
  refine r_bipush (pc := 17) C (v := 7) dX10_end_17 (by decide) ?_
  refine r_aload_n (pc := 19) C (i := 0) dX10_end_19 rfl rfl ?_
  obtain ⟨g3, hg3, h⟩ := lt_e h
  obtain ⟨kg3, h⟩ := ifn h
  refine r_get (pc := 20) C gwX10 0 rfl rfl 8 (by decide) wm_5_211 rfl dX10_end_20 ?_
  refine r_topg (a := a) hg3 ?_
  refine r_iconst (pc := 23) C (v := 4) dX10_end_23 (by decide) ?_
  obtain ⟨hi4, h⟩ := ifn h
  refine r_iald (pc := 24) C g3 (wMd_at kg3) hi4 dX10_end_24 ?_
  obtain ⟨q5, hq5, h⟩ := bnd h
  refine r_callV_CV (Cn := RX10) (pc := 25) C [.int p0, .int (7 : Int32), .int (q2 g3 (4 : Int32).toNatClampNeg)] (c_X10_put E l k a q2 p0 (7 : Int32) (q2 g3 (4 : Int32).toNatClampNeg) hq5) [0, 1, 2, 3, 4, 5, 6, 7, 8, 9, 10, 11, 12] rfl (by decide) 0 rfl rfl rfl g_X10_147 hd_X10_put ⟨Nat.le_of_ble_eq_true rfl, Nat.le_of_ble_eq_true rfl⟩ ⟨Nat.zero_le _, Nat.zero_le _⟩ (Nat.le_of_ble_eq_true rfl) rfl dX10_end_25 (fun w1 hw1 => ?_)
  subst hw1
  refine ⟨(wMd E a q5), by rfl, ?_⟩
  cases h
  exact r_vret (pc := 28) C hq (Nat.zero_le _) (Nat.zero_le _) dX10_end_28
def M_X10_end (k : Nat) (S : Nat → Nat → Int32) (p0 : Int32) (p1 : Int32) : Option ((Nat → Nat → Int32)) := M_X10_end_0 k p0 p1 S
set_option maxRecDepth 100000 in
set_option maxHeartbeats 4000000 in
theorem c_X10_end (E : ENV) (l : Launch) (k : Nat) (a : Nat → Nat) (S : Nat → Nat → Int32) (p0 : Int32) (p1 : Int32) {q : (Nat → Nat → Int32)} (hm : M_X10_end k S p0 p1 = some q) : CV E l yX10_end cX10_end 3 none rm_X10_end [.ref (a 0), .int p0, .int p1] (wMd E a S) (fun w' => w' = (wMd E a q)) :=
  CV.of 0 (by decide) (Nat.le_of_ble_eq_true rfl) (fun p e s m below meth c A C _ => r_weak (lSub_s (lSub_s (lSub_s lSub_e))) (N_X10_end_0 C a k p0 p1 S q  hm rfl))
theorem hd_X10_next : yX10_next.cls = RX10 ∧ yX10_next.cls ≠ "java/lang/invoke/MethodHandle" ∧ yX10_next.cls ≠ "java/lang/invoke/VarHandle" ∧ (parseMethodDescriptor yX10_next.desc).map (fun d => d.parameters.length) = some 3 := by decide +kernel
theorem g_X10_154 : GoodIn GW (wsV RX10 154 RX10 yX10_next (wsG yX10_next cX10_next 7 (some .int))) := gw_V wm_7_67 wm_7_69 wm_0_63 wm_1_9 wm_7_70
theorem hd_X10_route : yX10_route.cls = RX10 ∧ yX10_route.cls ≠ "java/lang/invoke/MethodHandle" ∧ yX10_route.cls ≠ "java/lang/invoke/VarHandle" ∧ (parseMethodDescriptor yX10_route.desc).map (fun d => d.parameters.length) = some 1 := by decide +kernel
theorem g_X10_158 : GoodIn GW (wsV RX10 158 RX10 yX10_route (wsG yX10_route cX10_route 3 none)) := gw_V wm_7_47 wm_7_49 wm_0_58 wm_1_9 wm_7_50
theorem hd_X10_countIn : yX10_countIn.cls = RX10 ∧ yX10_countIn.cls ≠ "java/lang/invoke/MethodHandle" ∧ yX10_countIn.cls ≠ "java/lang/invoke/VarHandle" ∧ (parseMethodDescriptor yX10_countIn.desc).map (fun d => d.parameters.length) = some 2 := by decide +kernel
theorem g_X10_151 : GoodIn GW (wsV RX10 151 RX10 yX10_countIn (wsG yX10_countIn cX10_countIn 5 (some .int))) := gw_V wm_6_135 wm_6_137 wm_0_36 wm_1_9 wm_6_138
-- ShardGuardModel.routeAll(I)V
theorem dX10_routeAll_0 : decode cX10_routeAll 0 = .ok (.aload_n 0, 1) := by decide +kernel
theorem dX10_routeAll_1 : decode cX10_routeAll 1 = .ok (.iconst 0, 1) := by decide +kernel
theorem dX10_routeAll_2 : decode cX10_routeAll 2 = .ok (.iload_n 1, 1) := by decide +kernel
theorem dX10_routeAll_3 : decode cX10_routeAll 3 = .ok (.invokevirtual 151, 3) := by decide +kernel
theorem dX10_routeAll_6 : decode cX10_routeAll 6 = .ok (.istore_n 2, 1) := by decide +kernel
theorem dX10_routeAll_7 : decode cX10_routeAll 7 = .ok (.iconst 0, 1) := by decide +kernel
theorem dX10_routeAll_8 : decode cX10_routeAll 8 = .ok (.istore_n 3, 1) := by decide +kernel
theorem dX10_routeAll_9 : decode cX10_routeAll 9 = .ok (.iload_n 3, 1) := by decide +kernel
theorem dX10_routeAll_10 : decode cX10_routeAll 10 = .ok (.iload_n 2, 1) := by decide +kernel
theorem dX10_routeAll_11 : decode cX10_routeAll 11 = .ok (.if_icmp .ge 20, 3) := by decide +kernel
theorem dX10_routeAll_14 : decode cX10_routeAll 14 = .ok (.aload_n 0, 1) := by decide +kernel
theorem dX10_routeAll_15 : decode cX10_routeAll 15 = .ok (.aload_n 0, 1) := by decide +kernel
theorem dX10_routeAll_16 : decode cX10_routeAll 16 = .ok (.iconst 0, 1) := by decide +kernel
theorem dX10_routeAll_17 : decode cX10_routeAll 17 = .ok (.iload_n 1, 1) := by decide +kernel
theorem dX10_routeAll_18 : decode cX10_routeAll 18 = .ok (.iconst 0, 1) := by decide +kernel
theorem dX10_routeAll_19 : decode cX10_routeAll 19 = .ok (.invokevirtual 154, 3) := by decide +kernel
theorem dX10_routeAll_22 : decode cX10_routeAll 22 = .ok (.invokevirtual 158, 3) := by decide +kernel
theorem dX10_routeAll_25 : decode cX10_routeAll 25 = .ok (.iinc 3 1, 3) := by decide +kernel
theorem dX10_routeAll_28 : decode cX10_routeAll 28 = .ok (.goto (-19), 3) := by decide +kernel
theorem dX10_routeAll_31 : decode cX10_routeAll 31 = .ok (.return_, 1) := by decide +kernel
def rm_X10_routeAll : Room := { frames := 6, cells := 0, slots := 0, locals := 134 }
def M_X10_routeAll_9 (k : Nat) : Nat → (Int32) → (Int32) → (Int32) → (Nat → Nat → Int32) → Option ((Nat → Nat → Int32))
  | 0, _, _, _, _ => none
  | n + 1, x1, x2, x3, S => if x2 ≤ x3 then (some S) else ((M_X10_next k S (0 : Int32) x1 (0 : Int32)).bind fun q2 => (M_X10_route k S q2).bind fun q3 => M_X10_routeAll_9 k n x1 x2 (x3 + 1) q3)
theorem M_X10_routeAll_9_s (k : Nat) (n : Nat) (x1 : Int32) (x2 : Int32) (x3 : Int32) (S : Nat → Nat → Int32) : M_X10_routeAll_9 k (n + 1) x1 x2 x3 S = (if x2 ≤ x3 then (some S) else ((M_X10_next k S (0 : Int32) x1 (0 : Int32)).bind fun q2 => (M_X10_route k S q2).bind fun q3 => M_X10_routeAll_9 k n x1 x2 (x3 + 1) q3)) := rfl
set_option maxRecDepth 100000 in
set_option maxHeartbeats 4000000 in
theorem N_X10_routeAll_9 (C : CX E p l s m args meth c cX10_routeAll 4 RX10 none A) (a : Nat → Nat) (k : Nat) {post : va_W → Prop} :
    ∀ (n : Nat) (x1 : Int32) (x2 : Int32) (x3 : Int32) (S : Nat → Nat → Int32) (q : (Nat → Nat → Int32)), M_X10_routeAll_9 k n x1 x2 x3 S = some q → post (wMd E a q) →
      WW E p l e rm_X10_routeAll s m args below meth c A 0 0 (QV E below post args s rm_X10_routeAll A) (wMd E a S) 4 [some (.ref (a 0)), some (.int x1), some (.int x2), some (.int x3)] 9 [] := by
  intro n
  induction n with
  | zero => intro x1 x2 x3 S q  h _; cases h
  | succ n ih =>
    intro x1 x2 x3 S q  h hq
    rw [M_X10_routeAll_9_s] at h
    refine r_iload_n (pc := 9) C (i := 3) dX10_routeAll_9 rfl rfl ?_
    refine r_iload_n (pc := 10) C (i := 2) dX10_routeAll_10 rfl rfl ?_
    refine r_icmp_ge (pc := 11) C (tgt := 31) dX10_routeAll_11 rfl (fun c1 => ?_) (fun c1 => ?_)
    · rw [if_pos c1] at h
      cases h
      exact r_vret (pc := 31) C hq (Nat.zero_le _) (Nat.zero_le _) dX10_routeAll_31
    · rw [if_neg c1] at h
      refine r_aload_n (pc := 14) C (i := 0) dX10_routeAll_14 rfl rfl ?_
      refine r_aload_n (pc := 15) C (i := 0) dX10_routeAll_15 rfl rfl ?_
      refine r_iconst (pc := 16) C (v := 0) dX10_routeAll_16 (by decide) ?_
      refine r_iload_n (pc := 17) C (i := 1) dX10_routeAll_17 rfl rfl ?_
      refine r_iconst (pc := 18) C (v := 0) dX10_routeAll_18 (by decide) ?_
      obtain ⟨q2, hq2, h⟩ := bnd h
      refine r_callVp_CI (Cn := RX10) (pc := 19) C [.int (0 : Int32), .int x1, .int (0 : Int32)] (c_X10_next E l k a S (0 : Int32) x1 (0 : Int32) hq2) [0, 1, 2, 3, 4, 5, 6, 7, 8, 9, 10, 11, 12] rfl (by decide) 0 rfl rfl rfl g_X10_154 hd_X10_next ⟨Nat.le_of_ble_eq_true rfl, Nat.le_of_ble_eq_true rfl⟩ ⟨Nat.zero_le _, Nat.zero_le _⟩ (Nat.le_of_ble_eq_true rfl) rfl dX10_routeAll_19 (fun r hr => ?_)
      have hr := hr.symm
      subst hr
      obtain ⟨q3, hq3, h⟩ := bnd h
      refine r_callV_CV (Cn := RX10) (pc := 22) C [.int q2] (c_X10_route E l k a S q2 hq3) [0, 1, 2, 3, 4, 5, 6, 7, 8, 9, 10, 11, 12] rfl (by decide) 0 rfl rfl rfl g_X10_158 hd_X10_route ⟨Nat.le_of_ble_eq_true rfl, Nat.le_of_ble_eq_true rfl⟩ ⟨Nat.zero_le _, Nat.zero_le _⟩ (Nat.le_of_ble_eq_true rfl) rfl dX10_routeAll_22 (fun w1 hw1 => ?_)
      subst hw1
      refine ⟨(wMd E a q3), by rfl, ?_⟩
      refine r_iinc (pc := 25) C (v := (x3 + 1)) dX10_routeAll_25 rfl rfl (by decide) rfl ?_
      refine r_goto (pc := 28) C (tgt := 9) dX10_routeAll_28 rfl ?_
      refine r_weak (lSub_s (lSub_s (lSub_s (lSub_s lSub_e)))) ?_
      exact ih x1 x2 (x3 + 1) q3 q  h hq
def M_X10_routeAll_0 (k : Nat) (p0 : Int32) (S : Nat → Nat → Int32) : Option ((Nat → Nat → Int32)) := (M_X10_countIn k S (0 : Int32) p0).bind fun q4 => M_X10_routeAll_9 k k p0 q4 (0 : Int32) S
set_option maxRecDepth 100000 in
set_option maxHeartbeats 4000000 in
theorem N_X10_routeAll_0 (C : CX E p l s m args meth c cX10_routeAll 4 RX10 none A) (a : Nat → Nat) (k : Nat) {post : va_W → Prop} :
    ∀ (p0 : Int32) (S : Nat → Nat → Int32) (q : (Nat → Nat → Int32)), M_X10_routeAll_0 k p0 S = some q → post (wMd E a q) →
      WW E p l e rm_X10_routeAll s m args below meth c A 0 0 (QV E below post args s rm_X10_routeAll A) (wMd E a S) 4 [some (.ref (a 0)), some (.int p0), none, none] 0 [] := by
  intro p0 S q  h hq
  unfold M_X10_routeAll_0 at h
  refine r_aload_n (pc := 0) C (i := 0) dX10_routeAll_0 rfl rfl ?_
  refine r_iconst (pc := 1) C (v := 0) dX10_routeAll_1 (by decide) ?_
  refine r_iload_n (pc := 2) C (i := 1) dX10_routeAll_2 rfl rfl ?_
  obtain ⟨q4, hq4, h⟩ := bnd h
  refine r_callVp_CI (Cn := RX10) (pc := 3) C [.int (0 : Int32), .int p0] (c_X10_countIn E l k a S (0 : Int32) p0 hq4) [0, 1, 2, 3, 4, 5, 6, 7, 8, 9, 10, 11, 12] rfl (by decide) 0 rfl rfl rfl g_X10_151 hd_X10_countIn ⟨Nat.le_of_ble_eq_true rfl, Nat.le_of_ble_eq_true rfl⟩ ⟨Nat.zero_le _, Nat.zero_le _⟩ (Nat.le_of_ble_eq_true rfl) rfl dX10_routeAll_3 (fun r hr => ?_)
  have hr := hr.symm
  subst hr
  refine r_istore_n (pc := 6) C (i := 2) dX10_routeAll_6 rfl (by decide) rfl ?_
  refine r_iconst (pc := 7) C (v := 0) dX10_routeAll_7 (by decide) ?_
  refine r_istore_n (pc := 8) C (i := 3) dX10_routeAll_8 rfl (by decide) rfl ?_
  refine r_weak (lSub_s (lSub_s (lSub_s (lSub_s lSub_e)))) ?_
  exact N_X10_routeAll_9 C a k k p0 q4 (0 : Int32) S q  h hq
def M_X10_routeAll (k : Nat) (S : Nat → Nat → Int32) (p0 : Int32) : Option ((Nat → Nat → Int32)) := M_X10_routeAll_0 k p0 S
set_option maxRecDepth 100000 in
set_option maxHeartbeats 4000000 in
theorem c_X10_routeAll (E : ENV) (l : Launch) (k : Nat) (a : Nat → Nat) (S : Nat → Nat → Int32) (p0 : Int32) {q : (Nat → Nat → Int32)} (hm : M_X10_routeAll k S p0 = some q) : CV E l yX10_routeAll cX10_routeAll 4 none rm_X10_routeAll [.ref (a 0), .int p0] (wMd E a S) (fun w' => w' = (wMd E a q)) :=
  CV.of 2 (by decide) (Nat.le_of_ble_eq_true rfl) (fun p e s m below meth c A C _ => r_weak (lSub_s (lSub_s (lSub_n (lSub_n lSub_e)))) (N_X10_routeAll_0 C a k p0 S q  hm rfl))
theorem hd_X10_told : yX10_told.cls = RX10 ∧ yX10_told.cls ≠ "java/lang/invoke/MethodHandle" ∧ yX10_told.cls ≠ "java/lang/invoke/VarHandle" ∧ (parseMethodDescriptor yX10_told.desc).map (fun d => d.parameters.length) = some 1 := by decide +kernel
theorem g_X10_162 : GoodIn GW (wsV RX10 162 RX10 yX10_told (wsG yX10_told cX10_told 2 (some .int))) := gw_V wm_6_123 wm_6_125 wm_0_34 wm_1_9 wm_6_126
-- ShardGuardModel.takeDown(I)V
theorem dX10_takeDown_0 : decode cX10_takeDown 0 = .ok (.aload_n 0, 1) := by decide +kernel
theorem dX10_takeDown_1 : decode cX10_takeDown 1 = .ok (.getfield 25, 3) := by decide +kernel
theorem dX10_takeDown_4 : decode cX10_takeDown 4 = .ok (.iload_n 1, 1) := by decide +kernel
theorem dX10_takeDown_5 : decode cX10_takeDown 5 = .ok (.iconst 0, 1) := by decide +kernel
theorem dX10_takeDown_6 : decode cX10_takeDown 6 = .ok (.invokestatic 96, 3) := by decide +kernel
theorem dX10_takeDown_9 : decode cX10_takeDown 9 = .ok (.iconst 0, 1) := by decide +kernel
theorem dX10_takeDown_10 : decode cX10_takeDown 10 = .ok (.iastore, 1) := by decide +kernel
theorem dX10_takeDown_11 : decode cX10_takeDown 11 = .ok (.aload_n 0, 1) := by decide +kernel
theorem dX10_takeDown_12 : decode cX10_takeDown 12 = .ok (.getfield 25, 3) := by decide +kernel
theorem dX10_takeDown_15 : decode cX10_takeDown 15 = .ok (.iload_n 1, 1) := by decide +kernel
theorem dX10_takeDown_16 : decode cX10_takeDown 16 = .ok (.iconst 1, 1) := by decide +kernel
theorem dX10_takeDown_17 : decode cX10_takeDown 17 = .ok (.invokestatic 96, 3) := by decide +kernel
theorem dX10_takeDown_20 : decode cX10_takeDown 20 = .ok (.aload_n 0, 1) := by decide +kernel
theorem dX10_takeDown_21 : decode cX10_takeDown 21 = .ok (.getfield 25, 3) := by decide +kernel
theorem dX10_takeDown_24 : decode cX10_takeDown 24 = .ok (.iconst 4, 1) := by decide +kernel
theorem dX10_takeDown_25 : decode cX10_takeDown 25 = .ok (.iaload, 1) := by decide +kernel
theorem dX10_takeDown_26 : decode cX10_takeDown 26 = .ok (.aload_n 0, 1) := by decide +kernel
theorem dX10_takeDown_27 : decode cX10_takeDown 27 = .ok (.iconst 0, 1) := by decide +kernel
theorem dX10_takeDown_28 : decode cX10_takeDown 28 = .ok (.invokevirtual 162, 3) := by decide +kernel
theorem dX10_takeDown_31 : decode cX10_takeDown 31 = .ok (.iadd, 1) := by decide +kernel
theorem dX10_takeDown_32 : decode cX10_takeDown 32 = .ok (.iastore, 1) := by decide +kernel
theorem dX10_takeDown_33 : decode cX10_takeDown 33 = .ok (.return_, 1) := by decide +kernel
def rm_X10_takeDown : Room := { frames := 1, cells := 0, slots := 0, locals := 21 }
def M_X10_takeDown_0 (k : Nat) (p0 : Int32) (S : Nat → Nat → Int32) : Option ((Nat → Nat → Int32)) := lt (gsel S) fun g1 => (if gokN g1 = true then (M_X10_workerAt k p0 (0 : Int32)).bind fun q2 => (if inb q2 1692 = true then lt (va_up S g1 (upd (S g1) q2.toNatClampNeg (0 : Int32))) fun F4 => lt (gsel F4) fun g5 => (if gokN g5 = true then (M_X10_workerAt k p0 (1 : Int32)).bind fun q6 => lt (gsel F4) fun g7 => (if gokN g7 = true then (if inb (4 : Int32) 1692 = true then (M_X10_told k F4 (0 : Int32)).bind fun q9 => (if inb q6 1692 = true then lt (va_up F4 g5 (upd (F4 g5) q6.toNatClampNeg ((F4 g7 (4 : Int32).toNatClampNeg) + q9))) fun F11 => some F11 else none) else none) else none) else none) else none) else none)
set_option maxRecDepth 100000 in
set_option maxHeartbeats 4000000 in
theorem N_X10_takeDown_0 (C : CX E p l s m args meth c cX10_takeDown 2 RX10 none A) (a : Nat → Nat) (k : Nat) {post : va_W → Prop} :
    ∀ (p0 : Int32) (S : Nat → Nat → Int32) (q : (Nat → Nat → Int32)), M_X10_takeDown_0 k p0 S = some q → post (wMd E a q) →
      WW E p l e rm_X10_takeDown s m args below meth c A 0 0 (QV E below post args s rm_X10_takeDown A) (wMd E a S) 2 [some (.ref (a 0)), some (.int p0)] 0 [] := by
  intro p0 S q  h hq
  unfold M_X10_takeDown_0 at h
  refine r_aload_n (pc := 0) C (i := 0) dX10_takeDown_0 rfl rfl ?_
  obtain ⟨g1, hg1, h⟩ := lt_e h
  obtain ⟨kg1, h⟩ := ifn h
  refine r_get (pc := 1) C gwX10 0 rfl rfl 8 (by decide) wm_5_211 rfl dX10_takeDown_1 ?_
  refine r_topg (a := a) hg1 ?_
  refine r_iload_n (pc := 4) C (i := 1) dX10_takeDown_4 rfl rfl ?_
  refine r_iconst (pc := 5) C (v := 0) dX10_takeDown_5 (by decide) ?_
  obtain ⟨q2, hq2, h⟩ := bnd h
  refine r_callSp_CI (pc := 6) C [.int p0, .int (0 : Int32)] (c_X10_workerAt E l k p0 (0 : Int32) hq2) [] rfl (by decide) g_X10_96 hd_X10_workerAt.2 ⟨Nat.le_of_ble_eq_true rfl, Nat.le_of_ble_eq_true rfl⟩ ⟨Nat.zero_le _, Nat.zero_le _⟩ (Nat.le_of_ble_eq_true rfl) rfl dX10_takeDown_6 (fun r hr => ?_)
  have hr := hr.symm
  subst hr
  refine r_iconst (pc := 9) C (v := 0) dX10_takeDown_9 (by decide) ?_
  obtain ⟨hi3, h⟩ := ifn h
  obtain ⟨F4, hF4, h⟩ := lt_e h
  refine r_iast (pc := 10) C g1 (wMd_at kg1) hi3 (w' := (wMd E a F4)) (by rw [hF4]; exact wMd_set kg1) dX10_takeDown_10 ?_
  refine r_aload_n (pc := 11) C (i := 0) dX10_takeDown_11 rfl rfl ?_
  obtain ⟨g5, hg5, h⟩ := lt_e h
  obtain ⟨kg5, h⟩ := ifn h
  refine r_get (pc := 12) C gwX10 0 rfl rfl 8 (by decide) wm_5_211 rfl dX10_takeDown_12 ?_
  refine r_topg (a := a) hg5 ?_
  refine r_iload_n (pc := 15) C (i := 1) dX10_takeDown_15 rfl rfl ?_
  refine r_iconst (pc := 16) C (v := 1) dX10_takeDown_16 (by decide) ?_
  obtain ⟨q6, hq6, h⟩ := bnd h
  refine r_callSp_CI (pc := 17) C [.int p0, .int (1 : Int32)] (c_X10_workerAt E l k p0 (1 : Int32) hq6) [] rfl (by decide) g_X10_96 hd_X10_workerAt.2 ⟨Nat.le_of_ble_eq_true rfl, Nat.le_of_ble_eq_true rfl⟩ ⟨Nat.zero_le _, Nat.zero_le _⟩ (Nat.le_of_ble_eq_true rfl) rfl dX10_takeDown_17 (fun r hr => ?_)
  have hr := hr.symm
  subst hr
  refine r_aload_n (pc := 20) C (i := 0) dX10_takeDown_20 rfl rfl ?_
  obtain ⟨g7, hg7, h⟩ := lt_e h
  obtain ⟨kg7, h⟩ := ifn h
  refine r_get (pc := 21) C gwX10 0 rfl rfl 8 (by decide) wm_5_211 rfl dX10_takeDown_21 ?_
  refine r_topg (a := a) hg7 ?_
  refine r_iconst (pc := 24) C (v := 4) dX10_takeDown_24 (by decide) ?_
  obtain ⟨hi8, h⟩ := ifn h
  refine r_iald (pc := 25) C g7 (wMd_at kg7) hi8 dX10_takeDown_25 ?_
  refine r_aload_n (pc := 26) C (i := 0) dX10_takeDown_26 rfl rfl ?_
  refine r_iconst (pc := 27) C (v := 0) dX10_takeDown_27 (by decide) ?_
  obtain ⟨q9, hq9, h⟩ := bnd h
  refine r_callVp_CI (Cn := RX10) (pc := 28) C [.int (0 : Int32)] (c_X10_told E l k a F4 (0 : Int32) hq9) [0, 1, 2, 3, 4, 5, 6, 7, 8, 9, 10, 11, 12] rfl (by decide) 0 rfl rfl rfl g_X10_162 hd_X10_told ⟨Nat.le_of_ble_eq_true rfl, Nat.le_of_ble_eq_true rfl⟩ ⟨Nat.zero_le _, Nat.zero_le _⟩ (Nat.le_of_ble_eq_true rfl) rfl dX10_takeDown_28 (fun r hr => ?_)
  have hr := hr.symm
  subst hr
  refine r_iadd (pc := 31) C dX10_takeDown_31 ?_
  obtain ⟨hi10, h⟩ := ifn h
  obtain ⟨F11, hF11, h⟩ := lt_e h
  refine r_iast (pc := 32) C g5 (wMd_at kg5) hi10 (w' := (wMd E a F11)) (by rw [hF11]; exact wMd_set kg5) dX10_takeDown_32 ?_
  cases h
  exact r_vret (pc := 33) C hq (Nat.zero_le _) (Nat.zero_le _) dX10_takeDown_33
def M_X10_takeDown (k : Nat) (S : Nat → Nat → Int32) (p0 : Int32) : Option ((Nat → Nat → Int32)) := M_X10_takeDown_0 k p0 S
set_option maxRecDepth 100000 in
set_option maxHeartbeats 4000000 in
theorem c_X10_takeDown (E : ENV) (l : Launch) (k : Nat) (a : Nat → Nat) (S : Nat → Nat → Int32) (p0 : Int32) {q : (Nat → Nat → Int32)} (hm : M_X10_takeDown k S p0 = some q) : CV E l yX10_takeDown cX10_takeDown 2 none rm_X10_takeDown [.ref (a 0), .int p0] (wMd E a S) (fun w' => w' = (wMd E a q)) :=
  CV.of 0 (by decide) (Nat.le_of_ble_eq_true rfl) (fun p e s m below meth c A C _ => r_weak (lSub_s (lSub_s lSub_e)) (N_X10_takeDown_0 C a k p0 S q  hm rfl))
end WALKS
