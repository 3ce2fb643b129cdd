section WALKS
variable {E : ENV} {p : Program} {l : Launch} {e : Env} {s : State} {m : MethodId} {args : Array Value} {below : List Frame} {meth : Method} {c : Code} {A : Nat → Prop}
-- ShardGuardModel.routeParked()V
theorem dX10_routeParked_0 : decode cX10_routeParked 0 = .ok (.aload_n 0, 1) := by decide +kernel
theorem dX10_routeParked_1 : decode cX10_routeParked 1 = .ok (.getfield 25, 3) := by decide +kernel
theorem dX10_routeParked_4 : decode cX10_routeParked 4 = .ok (.bipush 10, 2) := by decide +kernel
theorem dX10_routeParked_6 : decode cX10_routeParked 6 = .ok (.iaload, 1) := by decide +kernel
theorem dX10_routeParked_7 : decode cX10_routeParked 7 = .ok (.istore_n 1, 1) := by decide +kernel
theorem dX10_routeParked_8 : decode cX10_routeParked 8 = .ok (.aload_n 0, 1) := by decide +kernel
theorem dX10_routeParked_9 : decode cX10_routeParked 9 = .ok (.iconst 1, 1) := by decide +kernel
theorem dX10_routeParked_10 : decode cX10_routeParked 10 = .ok (.iconst (-1), 1) := by decide +kernel
theorem dX10_routeParked_11 : decode cX10_routeParked 11 = .ok (.iconst 0, 1) := by decide +kernel
theorem dX10_routeParked_12 : decode cX10_routeParked 12 = .ok (.invokevirtual 154, 3) := by decide +kernel
theorem dX10_routeParked_15 : decode cX10_routeParked 15 = .ok (.istore_n 2, 1) := by decide +kernel
theorem dX10_routeParked_16 : decode cX10_routeParked 16 = .ok (.iload_n 2, 1) := by decide +kernel
theorem dX10_routeParked_17 : decode cX10_routeParked 17 = .ok (.iconst (-1), 1) := by decide +kernel
theorem dX10_routeParked_18 : decode cX10_routeParked 18 = .ok (.if_icmp .eq 54, 3) := by decide +kernel
theorem dX10_routeParked_21 : decode cX10_routeParked 21 = .ok (.aload_n 0, 1) := by decide +kernel
theorem dX10_routeParked_22 : decode cX10_routeParked 22 = .ok (.iload_n 2, 1) := by decide +kernel
theorem dX10_routeParked_23 : decode cX10_routeParked 23 = .ok (.bipush 8, 2) := by decide +kernel
theorem dX10_routeParked_25 : decode cX10_routeParked 25 = .ok (.invokevirtual 123, 3) := by decide +kernel
theorem dX10_routeParked_28 : decode cX10_routeParked 28 = .ok (.iload_n 1, 1) := by decide +kernel
theorem dX10_routeParked_29 : decode cX10_routeParked 29 = .ok (.if_icmp .ge 43, 3) := by decide +kernel
theorem dX10_routeParked_32 : decode cX10_routeParked 32 = .ok (.aload_n 0, 1) := by decide +kernel
theorem dX10_routeParked_33 : decode cX10_routeParked 33 = .ok (.iload_n 2, 1) := by decide +kernel
theorem dX10_routeParked_34 : decode cX10_routeParked 34 = .ok (.bipush 8, 2) := by decide +kernel
theorem dX10_routeParked_36 : decode cX10_routeParked 36 = .ok (.invokevirtual 123, 3) := by decide +kernel
theorem dX10_routeParked_39 : decode cX10_routeParked 39 = .ok (.istore_n 3, 1) := by decide +kernel
theorem dX10_routeParked_40 : decode cX10_routeParked 40 = .ok (.aload_n 0, 1) := by decide +kernel
theorem dX10_routeParked_41 : decode cX10_routeParked 41 = .ok (.aload_n 0, 1) := by decide +kernel
theorem dX10_routeParked_42 : decode cX10_routeParked 42 = .ok (.iload_n 2, 1) := by decide +kernel
theorem dX10_routeParked_43 : decode cX10_routeParked 43 = .ok (.iconst 0, 1) := by decide +kernel
theorem dX10_routeParked_44 : decode cX10_routeParked 44 = .ok (.invokevirtual 123, 3) := by decide +kernel
theorem dX10_routeParked_47 : decode cX10_routeParked 47 = .ok (.invokevirtual 144, 3) := by decide +kernel
theorem dX10_routeParked_50 : decode cX10_routeParked 50 = .ok (.iconst (-1), 1) := by decide +kernel
theorem dX10_routeParked_51 : decode cX10_routeParked 51 = .ok (.if_icmp .eq 8, 3) := by decide +kernel
theorem dX10_routeParked_54 : decode cX10_routeParked 54 = .ok (.aload_n 0, 1) := by decide +kernel
theorem dX10_routeParked_55 : decode cX10_routeParked 55 = .ok (.iload_n 2, 1) := by decide +kernel
theorem dX10_routeParked_56 : decode cX10_routeParked 56 = .ok (.invokevirtual 158, 3) := by decide +kernel
theorem dX10_routeParked_59 : decode cX10_routeParked 59 = .ok (.aload_n 0, 1) := by decide +kernel
theorem dX10_routeParked_60 : decode cX10_routeParked 60 = .ok (.iconst 1, 1) := by decide +kernel
theorem dX10_routeParked_61 : decode cX10_routeParked 61 = .ok (.iconst (-1), 1) := by decide +kernel
theorem dX10_routeParked_62 : decode cX10_routeParked 62 = .ok (.iload_n 3, 1) := by decide +kernel
theorem dX10_routeParked_63 : decode cX10_routeParked 63 = .ok (.iconst 1, 1) := by decide +kernel
theorem dX10_routeParked_64 : decode cX10_routeParked 64 = .ok (.iadd, 1) := by decide +kernel
theorem dX10_routeParked_65 : decode cX10_routeParked 65 = .ok (.invokevirtual 154, 3) := by decide +kernel
theorem dX10_routeParked_68 : decode cX10_routeParked 68 = .ok (.istore_n 2, 1) := by decide +kernel
theorem dX10_routeParked_69 : decode cX10_routeParked 69 = .ok (.goto (-53), 3) := by decide +kernel
theorem dX10_routeParked_72 : decode cX10_routeParked 72 = .ok (.return_, 1) := by decide +kernel
def rm_X10_routeParked : Room := { frames := 6, cells := 0, slots := 0, locals := 134 }
def M_X10_routeParked_16 (k : Nat) : Nat → (Int32) → (Int32) → (Nat → Nat → Int32) → Option ((Nat → Nat → Int32))
  | 0, _, _, _ => none
  | n + 1, x1, x2, S => if x2 = (-1 : Int32) then (some S) else ((M_X10_of k S x2 (8 : Int32)).bind fun q2 => if x1 ≤ q2 then (some S) else ((M_X10_of k S x2 (8 : Int32)).bind fun q4 => (M_X10_of k S x2 (0 : Int32)).bind fun q5 => (M_X10_leastLoaded k S q5).bind fun q6 => if q6 = (-1 : Int32) then ((M_X10_next k S (1 : Int32) (-1 : Int32) (q4 + (1 : Int32))).bind fun q8 => M_X10_routeParked_16 k n x1 q8 S) else ((M_X10_route k S x2).bind fun q9 => (M_X10_next k q9 (1 : Int32) (-1 : Int32) (q4 + (1 : Int32))).bind fun q10 => M_X10_routeParked_16 k n x1 q10 q9)))
theorem M_X10_routeParked_16_s (k : Nat) (n : Nat) (x1 : Int32) (x2 : Int32) (S : Nat → Nat → Int32) : M_X10_routeParked_16 k (n + 1) x1 x2 S = (if x2 = (-1 : Int32) then (some S) else ((M_X10_of k S x2 (8 : Int32)).bind fun q2 => if x1 ≤ q2 then (some S) else ((M_X10_of k S x2 (8 : Int32)).bind fun q4 => (M_X10_of k S x2 (0 : Int32)).bind fun q5 => (M_X10_leastLoaded k S q5).bind fun q6 => if q6 = (-1 : Int32) then ((M_X10_next k S (1 : Int32) (-1 : Int32) (q4 + (1 : Int32))).bind fun q8 => M_X10_routeParked_16 k n x1 q8 S) else ((M_X10_route k S x2).bind fun q9 => (M_X10_next k q9 (1 : Int32) (-1 : Int32) (q4 + (1 : Int32))).bind fun q10 => M_X10_routeParked_16 k n x1 q10 q9)))) := rfl
set_option maxRecDepth 100000 in
set_option maxHeartbeats 4000000 in
theorem N_X10_routeParked_16 (C : CX E p l s m args meth c cX10_routeParked 4 RX10 none A) (a : Nat → Nat) (k : Nat) {post : va_W → Prop} :
    ∀ (n : Nat) (x1 : Int32) (x2 : Int32) (S : Nat → Nat → Int32) (q : (Nat → Nat → Int32)), M_X10_routeParked_16 k n x1 x2 S = some q → post (wMd E a q) →
      WW E p l e rm_X10_routeParked s m args below meth c A 0 0 (QV E below post args s rm_X10_routeParked A) (wMd E a S) 4 [some (.ref (a 0)), some (.int x1), some (.int x2), none] 16 [] := by
  intro n
  induction n with
  | zero => intro x1 x2 S q  h _; cases h
  | succ n ih =>
    intro x1 x2 S q  h hq
    rw [M_X10_routeParked_16_s] at h
    refine r_iload_n (pc := 16) C (i := 2) dX10_routeParked_16 rfl rfl ?_
    refine r_iconst (pc := 17) C (v := (-1)) dX10_routeParked_17 (by decide) ?_
    refine r_icmp_eq (pc := 18) C (tgt := 72) dX10_routeParked_18 rfl (fun c1 => ?_) (fun c1 => ?_)
    · rw [if_pos c1] at h
      cases h
      exact r_vret (pc := 72) C hq (Nat.zero_le _) (Nat.zero_le _) dX10_routeParked_72
    · rw [if_neg c1] at h
      refine r_aload_n (pc := 21) C (i := 0) dX10_routeParked_21 rfl rfl ?_
      refine r_iload_n (pc := 22) C (i := 2) dX10_routeParked_22 rfl rfl ?_
      refine r_bipush (pc := 23) C (v := 8) dX10_routeParked_23 (by decide) ?_
      obtain ⟨q2, hq2, h⟩ := bnd h
      refine r_callVp_CI (Cn := RX10) (pc := 25) C [.int x2, .int (8 : Int32)] (c_X10_of E l k a S x2 (8 : Int32) hq2) [0, 1, 2, 3, 4, 5, 6, 7, 8, 9, 10, 11, 12] rfl (by decide) 0 rfl rfl rfl g_X10_123 hd_X10_of ⟨Nat.le_of_ble_eq_true rfl, Nat.le_of_ble_eq_true rfl⟩ ⟨Nat.zero_le _, Nat.zero_le _⟩ (Nat.le_of_ble_eq_true rfl) rfl dX10_routeParked_25 (fun r hr => ?_)
      have hr := hr.symm
      subst hr
      refine r_iload_n (pc := 28) C (i := 1) dX10_routeParked_28 rfl rfl ?_
      refine r_icmp_ge (pc := 29) C (tgt := 72) dX10_routeParked_29 rfl (fun c3 => ?_) (fun c3 => ?_)
      · rw [if_pos c3] at h
        cases h
        exact r_vret (pc := 72) C hq (Nat.zero_le _) (Nat.zero_le _) dX10_routeParked_72
      · rw [if_neg c3] at h
        refine r_aload_n (pc := 32) C (i := 0) dX10_routeParked_32 rfl rfl ?_
        refine r_iload_n (pc := 33) C (i := 2) dX10_routeParked_33 rfl rfl ?_
        refine r_bipush (pc := 34) C (v := 8) dX10_routeParked_34 (by decide) ?_
        obtain ⟨q4, hq4, h⟩ := bnd h
        refine r_callVp_CI (Cn := RX10) (pc := 36) C [.int x2, .int (8 : Int32)] (c_X10_of E l k a S x2 (8 : Int32) hq4) [0, 1, 2, 3, 4, 5, 6, 7, 8, 9, 10, 11, 12] rfl (by decide) 0 rfl rfl rfl g_X10_123 hd_X10_of ⟨Nat.le_of_ble_eq_true rfl, Nat.le_of_ble_eq_true rfl⟩ ⟨Nat.zero_le _, Nat.zero_le _⟩ (Nat.le_of_ble_eq_true rfl) rfl dX10_routeParked_36 (fun r hr => ?_)
        have hr := hr.symm
        subst hr
        refine r_istore_n (pc := 39) C (i := 3) dX10_routeParked_39 rfl (by decide) rfl ?_
        refine r_aload_n (pc := 40) C (i := 0) dX10_routeParked_40 rfl rfl ?_
        refine r_aload_n (pc := 41) C (i := 0) dX10_routeParked_41 rfl rfl ?_
        refine r_iload_n (pc := 42) C (i := 2) dX10_routeParked_42 rfl rfl ?_
        refine r_iconst (pc := 43) C (v := 0) dX10_routeParked_43 (by decide) ?_
        obtain ⟨q5, hq5, h⟩ := bnd h
        refine r_callVp_CI (Cn := RX10) (pc := 44) C [.int x2, .int (0 : Int32)] (c_X10_of E l k a S x2 (0 : Int32) hq5) [0, 1, 2, 3, 4, 5, 6, 7, 8, 9, 10, 11, 12] rfl (by decide) 0 rfl rfl rfl g_X10_123 hd_X10_of ⟨Nat.le_of_ble_eq_true rfl, Nat.le_of_ble_eq_true rfl⟩ ⟨Nat.zero_le _, Nat.zero_le _⟩ (Nat.le_of_ble_eq_true rfl) rfl dX10_routeParked_44 (fun r hr => ?_)
        have hr := hr.symm
        subst hr
        obtain ⟨q6, hq6, h⟩ := bnd h
        refine r_callVp_CI (Cn := RX10) (pc := 47) C [.int q5] (c_X10_leastLoaded E l k a S q5 hq6) [0, 1, 2, 3, 4, 5, 6, 7, 8, 9, 10, 11, 12] rfl (by decide) 0 rfl rfl rfl g_X10_144 hd_X10_leastLoaded ⟨Nat.le_of_ble_eq_true rfl, Nat.le_of_ble_eq_true rfl⟩ ⟨Nat.zero_le _, Nat.zero_le _⟩ (Nat.le_of_ble_eq_true rfl) rfl dX10_routeParked_47 (fun r hr => ?_)
        have hr := hr.symm
        subst hr
        refine r_iconst (pc := 50) C (v := (-1)) dX10_routeParked_50 (by decide) ?_
        refine r_icmp_eq (pc := 51) C (tgt := 59) dX10_routeParked_51 rfl (fun c7 => ?_) (fun c7 => ?_)
        · rw [if_pos c7] at h
          refine r_aload_n (pc := 59) C (i := 0) dX10_routeParked_59 rfl rfl ?_
          refine r_iconst (pc := 60) C (v := 1) dX10_routeParked_60 (by decide) ?_
          refine r_iconst (pc := 61) C (v := (-1)) dX10_routeParked_61 (by decide) ?_
          refine r_iload_n (pc := 62) C (i := 3) dX10_routeParked_62 rfl rfl ?_
          refine r_iconst (pc := 63) C (v := 1) dX10_routeParked_63 (by decide) ?_
          refine r_iadd (pc := 64) C dX10_routeParked_64 ?_
          obtain ⟨q8, hq8, h⟩ := bnd h
          refine r_callVp_CI (Cn := RX10) (pc := 65) C [.int (1 : Int32), .int (-1 : Int32), .int (q4 + (1 : Int32))] (c_X10_next E l k a S (1 : Int32) (-1 : Int32) (q4 + (1 : Int32)) hq8) [0, 1, 2, 3, 4, 5, 6, 7, 8, 9, 10, 11, 12] rfl (by decide) 0 rfl rfl rfl g_X10_154 hd_X10_next ⟨Nat.le_of_ble_eq_true rfl, Nat.le_of_ble_eq_true rfl⟩ ⟨Nat.zero_le _, Nat.zero_le _⟩ (Nat.le_of_ble_eq_true rfl) rfl dX10_routeParked_65 (fun r hr => ?_)
          have hr := hr.symm
          subst hr
          refine r_istore_n (pc := 68) C (i := 2) dX10_routeParked_68 rfl (by decide) rfl ?_
          refine r_goto (pc := 69) C (tgt := 16) dX10_routeParked_69 rfl ?_
          refine r_weak (lSub_s (lSub_s (lSub_s (lSub_n lSub_e)))) ?_
          exact ih x1 q8 S q  h hq
        · rw [if_neg c7] at h
          refine r_aload_n (pc := 54) C (i := 0) dX10_routeParked_54 rfl rfl ?_
          refine r_iload_n (pc := 55) C (i := 2) dX10_routeParked_55 rfl rfl ?_
          obtain ⟨q9, hq9, h⟩ := bnd h
          refine r_callV_CV (Cn := RX10) (pc := 56) C [.int x2] (c_X10_route E l k a S x2 hq9) [0, 1, 2, 3, 4, 5, 6, 7, 8, 9, 10, 11, 12] rfl (by decide) 0 rfl rfl rfl g_X10_158 hd_X10_route ⟨Nat.le_of_ble_eq_true rfl, Nat.le_of_ble_eq_true rfl⟩ ⟨Nat.zero_le _, Nat.zero_le _⟩ (Nat.le_of_ble_eq_true rfl) rfl dX10_routeParked_56 (fun w1 hw1 => ?_)
          subst hw1
          refine ⟨(wMd E a q9), by rfl, ?_⟩
          refine r_aload_n (pc := 59) C (i := 0) dX10_routeParked_59 rfl rfl ?_
          refine r_iconst (pc := 60) C (v := 1) dX10_routeParked_60 (by decide) ?_
          refine r_iconst (pc := 61) C (v := (-1)) dX10_routeParked_61 (by decide) ?_
          refine r_iload_n (pc := 62) C (i := 3) dX10_routeParked_62 rfl rfl ?_
          refine r_iconst (pc := 63) C (v := 1) dX10_routeParked_63 (by decide) ?_
          refine r_iadd (pc := 64) C dX10_routeParked_64 ?_
          obtain ⟨q10, hq10, h⟩ := bnd h
          refine r_callVp_CI (Cn := RX10) (pc := 65) C [.int (1 : Int32), .int (-1 : Int32), .int (q4 + (1 : Int32))] (c_X10_next E l k a q9 (1 : Int32) (-1 : Int32) (q4 + (1 : Int32)) hq10) [0, 1, 2, 3, 4, 5, 6, 7, 8, 9, 10, 11, 12] rfl (by decide) 0 rfl rfl rfl g_X10_154 hd_X10_next ⟨Nat.le_of_ble_eq_true rfl, Nat.le_of_ble_eq_true rfl⟩ ⟨Nat.zero_le _, Nat.zero_le _⟩ (Nat.le_of_ble_eq_true rfl) rfl dX10_routeParked_65 (fun r hr => ?_)
          have hr := hr.symm
          subst hr
          refine r_istore_n (pc := 68) C (i := 2) dX10_routeParked_68 rfl (by decide) rfl ?_
          refine r_goto (pc := 69) C (tgt := 16) dX10_routeParked_69 rfl ?_
          refine r_weak (lSub_s (lSub_s (lSub_s (lSub_n lSub_e)))) ?_
          exact ih x1 q10 q9 q  h hq
def M_X10_routeParked_0 (k : Nat) (S : Nat → Nat → Int32) : Option ((Nat → Nat → Int32)) := lt (gsel S) fun g11 => (if gokN g11 = true then (if inb (10 : Int32) 1692 = true then lt (S g11 (10 : Int32).toNatClampNeg) fun v13 => (M_X10_next k S (1 : Int32) (-1 : Int32) (0 : Int32)).bind fun q14 => M_X10_routeParked_16 k k v13 q14 S else none) else none)
set_option maxRecDepth 100000 in
set_option maxHeartbeats 4000000 in
theorem N_X10_routeParked_0 (C : CX E p l s m args meth c cX10_routeParked 4 RX10 none A) (a : Nat → Nat) (k : Nat) {post : va_W → Prop} :
    ∀ (S : Nat → Nat → Int32) (q : (Nat → Nat → Int32)), M_X10_routeParked_0 k S = some q → post (wMd E a q) →
      WW E p l e rm_X10_routeParked s m args below meth c A 0 0 (QV E below post args s rm_X10_routeParked A) (wMd E a S) 4 [some (.ref (a 0)), none, none, none] 0 [] := by
  intro S q  h hq
  unfold M_X10_routeParked_0 at h
  refine r_aload_n (pc := 0) C (i := 0) dX10_routeParked_0 rfl rfl ?_
  obtain ⟨g11, hg11, h⟩ := lt_e h
  obtain ⟨kg11, h⟩ := ifn h
  refine r_get (pc := 1) C gwX10 0 rfl rfl 8 (by decide) wm_5_211 rfl dX10_routeParked_1 ?_
  refine r_topg (a := a) hg11 ?_
  refine r_bipush (pc := 4) C (v := 10) dX10_routeParked_4 (by decide) ?_
  obtain ⟨hi12, h⟩ := ifn h
  refine r_iald (pc := 6) C g11 (wMd_at kg11) hi12 dX10_routeParked_6 ?_
  obtain ⟨v13, hv13, h⟩ := lt_e h
  refine r_topi hv13 ?_
  refine r_istore_n (pc := 7) C (i := 1) dX10_routeParked_7 rfl (by decide) rfl ?_
  refine r_aload_n (pc := 8) C (i := 0) dX10_routeParked_8 rfl rfl ?_
  refine r_iconst (pc := 9) C (v := 1) dX10_routeParked_9 (by decide) ?_
  refine r_iconst (pc := 10) C (v := (-1)) dX10_routeParked_10 (by decide) ?_
  refine r_iconst (pc := 11) C (v := 0) dX10_routeParked_11 (by decide) ?_
  obtain ⟨q14, hq14, h⟩ := bnd h
  refine r_callVp_CI (Cn := RX10) (pc := 12) C [.int (1 : Int32), .int (-1 : Int32), .int (0 : Int32)] (c_X10_next E l k a S (1 : Int32) (-1 : Int32) (0 : Int32) hq14) [0, 1, 2, 3, 4, 5, 6, 7, 8, 9, 10, 11, 12] rfl (by decide) 0 rfl rfl rfl g_X10_154 hd_X10_next ⟨Nat.le_of_ble_eq_true rfl, Nat.le_of_ble_eq_true rfl⟩ ⟨Nat.zero_le _, Nat.zero_le _⟩ (Nat.le_of_ble_eq_true rfl) rfl dX10_routeParked_12 (fun r hr => ?_)
  have hr := hr.symm
  subst hr
  refine r_istore_n (pc := 15) C (i := 2) dX10_routeParked_15 rfl (by decide) rfl ?_
  refine r_weak (lSub_s (lSub_s (lSub_s (lSub_n lSub_e)))) ?_
  exact N_X10_routeParked_16 C a k k v13 q14 S q  h hq
def M_X10_routeParked (k : Nat) (S : Nat → Nat → Int32) : Option ((Nat → Nat → Int32)) := M_X10_routeParked_0 k S
set_option maxRecDepth 100000 in
set_option maxHeartbeats 4000000 in
theorem c_X10_routeParked (E : ENV) (l : Launch) (k : Nat) (a : Nat → Nat) (S : Nat → Nat → Int32) {q : (Nat → Nat → Int32)} (hm : M_X10_routeParked k S = some q) : CV E l yX10_routeParked cX10_routeParked 4 none rm_X10_routeParked [.ref (a 0)] (wMd E a S) (fun w' => w' = (wMd E a q)) :=
  CV.of 3 (by decide) (Nat.le_of_ble_eq_true rfl) (fun p e s m below meth c A C _ => r_weak (lSub_s (lSub_n (lSub_n (lSub_n lSub_e)))) (N_X10_routeParked_0 C a k S q  hm rfl))
theorem hd_X10_takeDown : yX10_takeDown.cls = RX10 ∧ yX10_takeDown.cls ≠ "java/lang/invoke/MethodHandle" ∧ yX10_takeDown.cls ≠ "java/lang/invoke/VarHandle" ∧ (parseMethodDescriptor yX10_takeDown.desc).map (fun d => d.parameters.length) = some 1 := by decide +kernel
theorem g_X10_175 : GoodIn GW (wsV RX10 175 RX10 yX10_takeDown (wsG yX10_takeDown cX10_takeDown 2 none)) := gw_V wm_7_83 wm_7_85 wm_0_67 wm_1_9 wm_7_86
theorem hd_X10_end : yX10_end.cls = RX10 ∧ yX10_end.cls ≠ "java/lang/invoke/MethodHandle" ∧ yX10_end.cls ≠ "java/lang/invoke/VarHandle" ∧ (parseMethodDescriptor yX10_end.desc).map (fun d => d.parameters.length) = some 2 := by decide +kernel
theorem g_X10_172 : GoodIn GW (wsV RX10 172 RX10 yX10_end (wsG yX10_end cX10_end 3 none)) := gw_V wm_7_79 wm_7_81 wm_0_66 wm_1_9 wm_7_82
-- ShardGuardModel.finish(II)V
theorem dX10_finish_0 : decode cX10_finish 0 = .ok (.aload_n 0, 1) := by decide +kernel
theorem dX10_finish_1 : decode cX10_finish 1 = .ok (.iload_n 2, 1) := by decide +kernel
theorem dX10_finish_2 : decode cX10_finish 2 = .ok (.iconst 2, 1) := by decide +kernel
theorem dX10_finish_3 : decode cX10_finish 3 = .ok (.invokevirtual 123, 3) := by decide +kernel
theorem dX10_finish_6 : decode cX10_finish 6 = .ok (.ifCond .le 4, 3) := by decide +kernel
theorem dX10_finish_9 : decode cX10_finish 9 = .ok (.return_, 1) := by decide +kernel
theorem dX10_finish_10 : decode cX10_finish 10 = .ok (.aload_n 0, 1) := by decide +kernel
theorem dX10_finish_11 : decode cX10_finish 11 = .ok (.iload_n 2, 1) := by decide +kernel
theorem dX10_finish_12 : decode cX10_finish 12 = .ok (.iconst 3, 1) := by decide +kernel
theorem dX10_finish_13 : decode cX10_finish 13 = .ok (.invokevirtual 123, 3) := by decide +kernel
theorem dX10_finish_16 : decode cX10_finish 16 = .ok (.ifCond .ne 10, 3) := by decide +kernel
theorem dX10_finish_19 : decode cX10_finish 19 = .ok (.aload_n 0, 1) := by decide +kernel
theorem dX10_finish_20 : decode cX10_finish 20 = .ok (.iload_n 2, 1) := by decide +kernel
theorem dX10_finish_21 : decode cX10_finish 21 = .ok (.iconst 2, 1) := by decide +kernel
theorem dX10_finish_22 : decode cX10_finish 22 = .ok (.invokevirtual 172, 3) := by decide +kernel
theorem dX10_finish_25 : decode cX10_finish 25 = .ok (.return_, 1) := by decide +kernel
theorem dX10_finish_26 : decode cX10_finish 26 = .ok (.aload_n 0, 1) := by decide +kernel
theorem dX10_finish_27 : decode cX10_finish 27 = .ok (.iload_n 1, 1) := by decide +kernel
theorem dX10_finish_28 : decode cX10_finish 28 = .ok (.invokevirtual 175, 3) := by decide +kernel
theorem dX10_finish_31 : decode cX10_finish 31 = .ok (.aload_n 0, 1) := by decide +kernel
theorem dX10_finish_32 : decode cX10_finish 32 = .ok (.getfield 28, 3) := by decide +kernel
theorem dX10_finish_35 : decode cX10_finish 35 = .ok (.iload_n 1, 1) := by decide +kernel
theorem dX10_finish_36 : decode cX10_finish 36 = .ok (.iload_n 2, 1) := by decide +kernel
theorem dX10_finish_37 : decode cX10_finish 37 = .ok (.iastore, 1) := by decide +kernel
theorem dX10_finish_38 : decode cX10_finish 38 = .ok (.return_, 1) := by decide +kernel
def rm_X10_finish : Room := { frames := 3, cells := 0, slots := 0, locals := 66 }
def M_X10_finish_0 (k : Nat) (p0 : Int32) (p1 : Int32) (S : Nat → Nat → Int32) : Option ((Nat → Nat → Int32)) := (M_X10_of k S p1 (2 : Int32)).bind fun q1 => if q1 ≤ 0 then ((M_X10_of k S p1 (3 : Int32)).bind fun q3 => if q3 = 0 then ((M_X10_end k S p1 (2 : Int32)).bind fun q8 => some q8) else ((M_X10_takeDown k S p0).bind fun q5 => (if inb p0 12 = true then lt (va_up q5 6 (upd (q5 6) p0.toNatClampNeg p1)) fun F7 => some F7 else none))) else (some S)
set_option maxRecDepth 100000 in
set_option maxHeartbeats 4000000 in
theorem N_X10_finish_0 (C : CX E p l s m args meth c cX10_finish 3 RX10 none A) (a : Nat → Nat) (k : Nat) {post : va_W → Prop} :
    ∀ (p0 : Int32) (p1 : Int32) (S : Nat → Nat → Int32) (q : (Nat → Nat → Int32)), M_X10_finish_0 k p0 p1 S = some q → post (wMd E a q) →
      WW E p l e rm_X10_finish s m args below meth c A 0 0 (QV E below post args s rm_X10_finish A) (wMd E a S) 3 [some (.ref (a 0)), some (.int p0), some (.int p1)] 0 [] := by
  intro p0 p1 S q  h hq
  unfold M_X10_finish_0 at h
  refine r_aload_n (pc := 0) C (i := 0) dX10_finish_0 rfl rfl ?_
  refine r_iload_n (pc := 1) C (i := 2) dX10_finish_1 rfl rfl ?_
  refine r_iconst (pc := 2) C (v := 2) dX10_finish_2 (by decide) ?_
  obtain ⟨q1, hq1, h⟩ := bnd h
  refine r_callVp_CI (Cn := RX10) (pc := 3) C [.int p1, .int (2 : Int32)] (c_X10_of E l k a S p1 (2 : Int32) hq1) [0, 1, 2, 3, 4, 5, 6, 7, 8, 9, 10, 11, 12] rfl (by decide) 0 rfl rfl rfl g_X10_123 hd_X10_of ⟨Nat.le_of_ble_eq_true rfl, Nat.le_of_ble_eq_true rfl⟩ ⟨Nat.zero_le _, Nat.zero_le _⟩ (Nat.le_of_ble_eq_true rfl) rfl dX10_finish_3 (fun r hr => ?_)
  have hr := hr.symm
  subst hr
  refine r_if_le (pc := 6) C (tgt := 10) dX10_finish_6 rfl (fun c2 => ?_) (fun c2 => ?_)
  · rw [if_pos c2] at h
    refine r_aload_n (pc := 10) C (i := 0) dX10_finish_10 rfl rfl ?_
    refine r_iload_n (pc := 11) C (i := 2) dX10_finish_11 rfl rfl ?_
    refine r_iconst (pc := 12) C (v := 3) dX10_finish_12 (by decide) ?_
    obtain ⟨q3, hq3, h⟩ := bnd h
    refine r_callVp_CI (Cn := RX10) (pc := 13) C [.int p1, .int (3 : Int32)] (c_X10_of E l k a S p1 (3 : Int32) hq3) [0, 1, 2, 3, 4, 5, 6, 7, 8, 9, 10, 11, 12] rfl (by decide) 0 rfl rfl rfl g_X10_123 hd_X10_of ⟨Nat.le_of_ble_eq_true rfl, Nat.le_of_ble_eq_true rfl⟩ ⟨Nat.zero_le _, Nat.zero_le _⟩ (Nat.le_of_ble_eq_true rfl) rfl dX10_finish_13 (fun r hr => ?_)
    have hr := hr.symm
    subst hr
    refine r_if_ne (pc := 16) C (tgt := 26) dX10_finish_16 rfl (fun c4 => ?_) (fun c4 => ?_)
    · rw [if_neg c4] at h
      refine r_aload_n (pc := 26) C (i := 0) dX10_finish_26 rfl rfl ?_
      refine r_iload_n (pc := 27) C (i := 1) dX10_finish_27 rfl rfl ?_
      obtain ⟨q5, hq5, h⟩ := bnd h
      refine r_callV_CV (Cn := RX10) (pc := 28) C [.int p0] (c_X10_takeDown E l k a S p0 hq5) [0, 1, 2, 3, 4, 5, 6, 7, 8, 9, 10, 11, 12] rfl (by decide) 0 rfl rfl rfl g_X10_175 hd_X10_takeDown ⟨Nat.le_of_ble_eq_true rfl, Nat.le_of_ble_eq_true rfl⟩ ⟨Nat.zero_le _, Nat.zero_le _⟩ (Nat.le_of_ble_eq_true rfl) rfl dX10_finish_28 (fun w1 hw1 => ?_)
      subst hw1
      refine ⟨(wMd E a q5), by rfl, ?_⟩
      refine r_aload_n (pc := 31) C (i := 0) dX10_finish_31 rfl rfl ?_
      refine r_get (pc := 32) C gwX10 0 rfl rfl 9 (by decide) wm_5_212 rfl dX10_finish_32 ?_
      refine r_iload_n (pc := 35) C (i := 1) dX10_finish_35 rfl rfl ?_
      refine r_iload_n (pc := 36) C (i := 2) dX10_finish_36 rfl rfl ?_
      obtain ⟨hi6, h⟩ := ifn h
      obtain ⟨F7, hF7, h⟩ := lt_e h
      refine r_iast (pc := 37) C 6 rfl hi6 (w' := (wMd E a F7)) (by rw [hF7]; rfl) dX10_finish_37 ?_
      cases h
      exact r_vret (pc := 38) C hq (Nat.zero_le _) (Nat.zero_le _) dX10_finish_38
    · rw [if_pos c4] at h
      refine r_aload_n (pc := 19) C (i := 0) dX10_finish_19 rfl rfl ?_
      refine r_iload_n (pc := 20) C (i := 2) dX10_finish_20 rfl rfl ?_
      refine r_iconst (pc := 21) C (v := 2) dX10_finish_21 (by decide) ?_
      obtain ⟨q8, hq8, h⟩ := bnd h
      refine r_callV_CV (Cn := RX10) (pc := 22) C [.int p1, .int (2 : Int32)] (c_X10_end E l k a S p1 (2 : Int32) hq8) [0, 1, 2, 3, 4, 5, 6, 7, 8, 9, 10, 11, 12] rfl (by decide) 0 rfl rfl rfl g_X10_172 hd_X10_end ⟨Nat.le_of_ble_eq_true rfl, Nat.le_of_ble_eq_true rfl⟩ ⟨Nat.zero_le _, Nat.zero_le _⟩ (Nat.le_of_ble_eq_true rfl) rfl dX10_finish_22 (fun w1 hw1 => ?_)
      subst hw1
      refine ⟨(wMd E a q8), by rfl, ?_⟩
      cases h
      exact r_vret (pc := 25) C hq (Nat.zero_le _) (Nat.zero_le _) dX10_finish_25
  · rw [if_neg c2] at h
    cases h
    exact r_vret (pc := 9) C hq (Nat.zero_le _) (Nat.zero_le _) dX10_finish_9
def M_X10_finish (k : Nat) (S : Nat → Nat → Int32) (p0 : Int32) (p1 : Int32) : Option ((Nat → Nat → Int32)) := M_X10_finish_0 k p0 p1 S
set_option maxRecDepth 100000 in
set_option maxHeartbeats 4000000 in
theorem c_X10_finish (E : ENV) (l : Launch) (k : Nat) (a : Nat → Nat) (S : Nat → Nat → Int32) (p0 : Int32) (p1 : Int32) {q : (Nat → Nat → Int32)} (hm : M_X10_finish k S p0 p1 = some q) : CV E l yX10_finish cX10_finish 3 none rm_X10_finish [.ref (a 0), .int p0, .int p1] (wMd E a S) (fun w' => w' = (wMd E a q)) :=
  CV.of 0 (by decide) (Nat.le_of_ble_eq_true rfl) (fun p e s m below meth c A C _ => r_weak (lSub_s (lSub_s (lSub_s lSub_e))) (N_X10_finish_0 C a k p0 p1 S q  hm rfl))
theorem hd_X10_noteKill : yX10_noteKill.cls = RX10 ∧ yX10_noteKill.cls ≠ "java/lang/invoke/MethodHandle" ∧ yX10_noteKill.cls ≠ "java/lang/invoke/VarHandle" ∧ (parseMethodDescriptor yX10_noteKill.desc).map (fun d => d.parameters.length) = some 2 := by decide +kernel
theorem g_X10_178 : GoodIn GW (wsV RX10 178 RX10 yX10_noteKill (wsG yX10_noteKill cX10_noteKill 4 none)) := gw_V wm_7_91 wm_7_93 wm_0_69 wm_1_9 wm_7_94
theorem hd_X10_routeAll : yX10_routeAll.cls = RX10 ∧ yX10_routeAll.cls ≠ "java/lang/invoke/MethodHandle" ∧ yX10_routeAll.cls ≠ "java/lang/invoke/VarHandle" ∧ (parseMethodDescriptor yX10_routeAll.desc).map (fun d => d.parameters.length) = some 1 := by decide +kernel
theorem g_X10_181 : GoodIn GW (wsV RX10 181 RX10 yX10_routeAll (wsG yX10_routeAll cX10_routeAll 4 none)) := gw_V wm_7_95 wm_7_97 wm_0_70 wm_1_9 wm_7_98
-- ShardGuardModel.clearUp()V
theorem dX10_clearUp_0 : decode cX10_clearUp 0 = .ok (.iconst 0, 1) := by decide +kernel
theorem dX10_clearUp_1 : decode cX10_clearUp 1 = .ok (.istore_n 1, 1) := by decide +kernel
theorem dX10_clearUp_2 : decode cX10_clearUp 2 = .ok (.iload_n 1, 1) := by decide +kernel
theorem dX10_clearUp_3 : decode cX10_clearUp 3 = .ok (.aload_n 0, 1) := by decide +kernel
theorem dX10_clearUp_4 : decode cX10_clearUp 4 = .ok (.invokevirtual 106, 3) := by decide +kernel
theorem dX10_clearUp_7 : decode cX10_clearUp 7 = .ok (.if_icmp .ge 82, 3) := by decide +kernel
theorem dX10_clearUp_10 : decode cX10_clearUp 10 = .ok (.aload_n 0, 1) := by decide +kernel
theorem dX10_clearUp_11 : decode cX10_clearUp 11 = .ok (.getfield 28, 3) := by decide +kernel
theorem dX10_clearUp_14 : decode cX10_clearUp 14 = .ok (.iload_n 1, 1) := by decide +kernel
theorem dX10_clearUp_15 : decode cX10_clearUp 15 = .ok (.iaload, 1) := by decide +kernel
theorem dX10_clearUp_16 : decode cX10_clearUp 16 = .ok (.istore_n 2, 1) := by decide +kernel
theorem dX10_clearUp_17 : decode cX10_clearUp 17 = .ok (.iload_n 2, 1) := by decide +kernel
theorem dX10_clearUp_18 : decode cX10_clearUp 18 = .ok (.iconst (-1), 1) := by decide +kernel
theorem dX10_clearUp_19 : decode cX10_clearUp 19 = .ok (.if_icmp .ne 6, 3) := by decide +kernel
theorem dX10_clearUp_22 : decode cX10_clearUp 22 = .ok (.goto 61, 3) := by decide +kernel
theorem dX10_clearUp_25 : decode cX10_clearUp 25 = .ok (.aload_n 0, 1) := by decide +kernel
theorem dX10_clearUp_26 : decode cX10_clearUp 26 = .ok (.aload_n 0, 1) := by decide +kernel
theorem dX10_clearUp_27 : decode cX10_clearUp 27 = .ok (.iload_n 2, 1) := by decide +kernel
theorem dX10_clearUp_28 : decode cX10_clearUp 28 = .ok (.iconst 0, 1) := by decide +kernel
theorem dX10_clearUp_29 : decode cX10_clearUp 29 = .ok (.invokevirtual 123, 3) := by decide +kernel
theorem dX10_clearUp_32 : decode cX10_clearUp 32 = .ok (.iload_n 1, 1) := by decide +kernel
theorem dX10_clearUp_33 : decode cX10_clearUp 33 = .ok (.invokevirtual 178, 3) := by decide +kernel
theorem dX10_clearUp_36 : decode cX10_clearUp 36 = .ok (.aload_n 0, 1) := by decide +kernel
theorem dX10_clearUp_37 : decode cX10_clearUp 37 = .ok (.iload_n 2, 1) := by decide +kernel
theorem dX10_clearUp_38 : decode cX10_clearUp 38 = .ok (.iconst 5, 1) := by decide +kernel
theorem dX10_clearUp_39 : decode cX10_clearUp 39 = .ok (.aload_n 0, 1) := by decide +kernel
theorem dX10_clearUp_40 : decode cX10_clearUp 40 = .ok (.iload_n 2, 1) := by decide +kernel
theorem dX10_clearUp_41 : decode cX10_clearUp 41 = .ok (.iconst 5, 1) := by decide +kernel
theorem dX10_clearUp_42 : decode cX10_clearUp 42 = .ok (.invokevirtual 123, 3) := by decide +kernel
theorem dX10_clearUp_45 : decode cX10_clearUp 45 = .ok (.iconst 1, 1) := by decide +kernel
theorem dX10_clearUp_46 : decode cX10_clearUp 46 = .ok (.iadd, 1) := by decide +kernel
theorem dX10_clearUp_47 : decode cX10_clearUp 47 = .ok (.invokevirtual 147, 3) := by decide +kernel
theorem dX10_clearUp_50 : decode cX10_clearUp 50 = .ok (.aload_n 0, 1) := by decide +kernel
theorem dX10_clearUp_51 : decode cX10_clearUp 51 = .ok (.iload_n 2, 1) := by decide +kernel
theorem dX10_clearUp_52 : decode cX10_clearUp 52 = .ok (.iconst 5, 1) := by decide +kernel
theorem dX10_clearUp_53 : decode cX10_clearUp 53 = .ok (.invokevirtual 123, 3) := by decide +kernel
theorem dX10_clearUp_56 : decode cX10_clearUp 56 = .ok (.aload_n 0, 1) := by decide +kernel
theorem dX10_clearUp_57 : decode cX10_clearUp 57 = .ok (.iconst 1, 1) := by decide +kernel
theorem dX10_clearUp_58 : decode cX10_clearUp 58 = .ok (.invokevirtual 162, 3) := by decide +kernel
theorem dX10_clearUp_61 : decode cX10_clearUp 61 = .ok (.if_icmp .le 12, 3) := by decide +kernel
theorem dX10_clearUp_64 : decode cX10_clearUp 64 = .ok (.aload_n 0, 1) := by decide +kernel
theorem dX10_clearUp_65 : decode cX10_clearUp 65 = .ok (.iload_n 2, 1) := by decide +kernel
theorem dX10_clearUp_66 : decode cX10_clearUp 66 = .ok (.iconst 3, 1) := by decide +kernel
theorem dX10_clearUp_67 : decode cX10_clearUp 67 = .ok (.invokevirtual 172, 3) := by decide +kernel
theorem dX10_clearUp_70 : decode cX10_clearUp 70 = .ok (.goto 8, 3) := by decide +kernel
theorem dX10_clearUp_73 : decode cX10_clearUp 73 = .ok (.aload_n 0, 1) := by decide +kernel
theorem dX10_clearUp_74 : decode cX10_clearUp 74 = .ok (.iload_n 2, 1) := by decide +kernel
theorem dX10_clearUp_75 : decode cX10_clearUp 75 = .ok (.invokevirtual 158, 3) := by decide +kernel
theorem dX10_clearUp_78 : decode cX10_clearUp 78 = .ok (.aload_n 0, 1) := by decide +kernel
theorem dX10_clearUp_79 : decode cX10_clearUp 79 = .ok (.iload_n 1, 1) := by decide +kernel
theorem dX10_clearUp_80 : decode cX10_clearUp 80 = .ok (.invokevirtual 181, 3) := by decide +kernel
theorem dX10_clearUp_83 : decode cX10_clearUp 83 = .ok (.iinc 1 1, 3) := by decide +kernel
theorem dX10_clearUp_86 : decode cX10_clearUp 86 = .ok (.goto (-84), 3) := by decide +kernel
theorem dX10_clearUp_89 : decode cX10_clearUp 89 = .ok (.return_, 1) := by decide +kernel
def rm_X10_clearUp : Room := { frames := 7, cells := 0, slots := 0, locals := 157 }
def M_X10_clearUp_2 (k : Nat) : Nat → (Int32) → (Nat → Nat → Int32) → Option ((Nat → Nat → Int32))
  | 0, _, _ => none
  | n + 1, x1, S => (M_X10_workers k S).bind fun q1 => if q1 ≤ x1 then (some S) else ((if inb x1 12 = true then lt ((S 6) x1.toNatClampNeg) fun v4 => if v4 = (-1 : Int32) then (M_X10_clearUp_2 k n (x1 + 1) S) else ((M_X10_of k S v4 (0 : Int32)).bind fun q6 => (M_X10_noteKill k S q6 x1).bind fun q7 => (M_X10_of k q7 v4 (5 : Int32)).bind fun q8 => (M_X10_put k q7 v4 (5 : Int32) (q8 + (1 : Int32))).bind fun q9 => (M_X10_of k q9 v4 (5 : Int32)).bind fun q10 => (M_X10_told k q9 (1 : Int32)).bind fun q11 => if q10 ≤ q11 then ((M_X10_route k q9 v4).bind fun q13 => (M_X10_routeAll k q13 x1).bind fun q14 => M_X10_clearUp_2 k n (x1 + 1) q14) else ((M_X10_end k q9 v4 (3 : Int32)).bind fun q15 => (M_X10_routeAll k q15 x1).bind fun q16 => M_X10_clearUp_2 k n (x1 + 1) q16)) else none))
theorem M_X10_clearUp_2_s (k : Nat) (n : Nat) (x1 : Int32) (S : Nat → Nat → Int32) : M_X10_clearUp_2 k (n + 1) x1 S = ((M_X10_workers k S).bind fun q1 => if q1 ≤ x1 then (some S) else ((if inb x1 12 = true then lt ((S 6) x1.toNatClampNeg) fun v4 => if v4 = (-1 : Int32) then (M_X10_clearUp_2 k n (x1 + 1) S) else ((M_X10_of k S v4 (0 : Int32)).bind fun q6 => (M_X10_noteKill k S q6 x1).bind fun q7 => (M_X10_of k q7 v4 (5 : Int32)).bind fun q8 => (M_X10_put k q7 v4 (5 : Int32) (q8 + (1 : Int32))).bind fun q9 => (M_X10_of k q9 v4 (5 : Int32)).bind fun q10 => (M_X10_told k q9 (1 : Int32)).bind fun q11 => if q10 ≤ q11 then ((M_X10_route k q9 v4).bind fun q13 => (M_X10_routeAll k q13 x1).bind fun q14 => M_X10_clearUp_2 k n (x1 + 1) q14) else ((M_X10_end k q9 v4 (3 : Int32)).bind fun q15 => (M_X10_routeAll k q15 x1).bind fun q16 => M_X10_clearUp_2 k n (x1 + 1) q16)) else none))) := rfl
set_option maxRecDepth 100000 in
set_option maxHeartbeats 4000000 in
theorem N_X10_clearUp_2 (C : CX E p l s m args meth c cX10_clearUp 3 RX10 none A) (a : Nat → Nat) (k : Nat) {post : va_W → Prop} :
    ∀ (n : Nat) (x1 : Int32) (S : Nat → Nat → Int32) (q : (Nat → Nat → Int32)), M_X10_clearUp_2 k n x1 S = some q → post (wMd E a q) →
      WW E p l e rm_X10_clearUp s m args below meth c A 0 0 (QV E below post args s rm_X10_clearUp A) (wMd E a S) 3 [some (.ref (a 0)), some (.int x1), none] 2 [] := by
  intro n
  induction n with
  | zero => intro x1 S q  h _; cases h
  | succ n ih =>
    intro x1 S q  h hq
    rw [M_X10_clearUp_2_s] at h
    refine r_iload_n (pc := 2) C (i := 1) dX10_clearUp_2 rfl rfl ?_
    refine r_aload_n (pc := 3) C (i := 0) dX10_clearUp_3 rfl rfl ?_
    obtain ⟨q1, hq1, h⟩ := bnd h
    refine r_callVp_CI (Cn := RX10) (pc := 4) C [] (c_X10_workers E l k a S hq1) [0, 1, 2, 3, 4, 5, 6, 7, 8, 9, 10, 11, 12] rfl (by decide) 0 rfl rfl rfl g_X10_106 hd_X10_workers ⟨Nat.le_of_ble_eq_true rfl, Nat.le_of_ble_eq_true rfl⟩ ⟨Nat.zero_le _, Nat.zero_le _⟩ (Nat.le_of_ble_eq_true rfl) rfl dX10_clearUp_4 (fun r hr => ?_)
    have hr := hr.symm
    subst hr
    refine r_icmp_ge (pc := 7) C (tgt := 89) dX10_clearUp_7 rfl (fun c2 => ?_) (fun c2 => ?_)
    · rw [if_pos c2] at h
      cases h
      exact r_vret (pc := 89) C hq (Nat.zero_le _) (Nat.zero_le _) dX10_clearUp_89
    · rw [if_neg c2] at h
      refine r_aload_n (pc := 10) C (i := 0) dX10_clearUp_10 rfl rfl ?_
      refine r_get (pc := 11) C gwX10 0 rfl rfl 9 (by decide) wm_5_212 rfl dX10_clearUp_11 ?_
      refine r_iload_n (pc := 14) C (i := 1) dX10_clearUp_14 rfl rfl ?_
      obtain ⟨hi3, h⟩ := ifn h
      refine r_iald (pc := 15) C 6 rfl hi3 dX10_clearUp_15 ?_
      obtain ⟨v4, hv4, h⟩ := lt_e h
      refine r_topi hv4 ?_
      refine r_istore_n (pc := 16) C (i := 2) dX10_clearUp_16 rfl (by decide) rfl ?_
      refine r_iload_n (pc := 17) C (i := 2) dX10_clearUp_17 rfl rfl ?_
      refine r_iconst (pc := 18) C (v := (-1)) dX10_clearUp_18 (by decide) ?_
      refine r_icmp_ne (pc := 19) C (tgt := 25) dX10_clearUp_19 rfl (fun c5 => ?_) (fun c5 => ?_)
      · rw [if_neg c5] at h
        refine r_aload_n (pc := 25) C (i := 0) dX10_clearUp_25 rfl rfl ?_
        refine r_aload_n (pc := 26) C (i := 0) dX10_clearUp_26 rfl rfl ?_
        refine r_iload_n (pc := 27) C (i := 2) dX10_clearUp_27 rfl rfl ?_
        refine r_iconst (pc := 28) C (v := 0) dX10_clearUp_28 (by decide) ?_
        obtain ⟨q6, hq6, h⟩ := bnd h
        refine r_callVp_CI (Cn := RX10) (pc := 29) C [.int v4, .int (0 : Int32)] (c_X10_of E l k a S v4 (0 : Int32) hq6) [0, 1, 2, 3, 4, 5, 6, 7, 8, 9, 10, 11, 12] rfl (by decide) 0 rfl rfl rfl g_X10_123 hd_X10_of ⟨Nat.le_of_ble_eq_true rfl, Nat.le_of_ble_eq_true rfl⟩ ⟨Nat.zero_le _, Nat.zero_le _⟩ (Nat.le_of_ble_eq_true rfl) rfl dX10_clearUp_29 (fun r hr => ?_)
        have hr := hr.symm
        subst hr
        refine r_iload_n (pc := 32) C (i := 1) dX10_clearUp_32 rfl rfl ?_
        obtain ⟨q7, hq7, h⟩ := bnd h
        refine r_callV_CV (Cn := RX10) (pc := 33) C [.int q6, .int x1] (c_X10_noteKill E l k a S q6 x1 hq7) [0, 1, 2, 3, 4, 5, 6, 7, 8, 9, 10, 11, 12] rfl (by decide) 0 rfl rfl rfl g_X10_178 hd_X10_noteKill ⟨Nat.le_of_ble_eq_true rfl, Nat.le_of_ble_eq_true rfl⟩ ⟨Nat.zero_le _, Nat.zero_le _⟩ (Nat.le_of_ble_eq_true rfl) rfl dX10_clearUp_33 (fun w1 hw1 => ?_)
        subst hw1
        refine ⟨(wMd E a q7), by rfl, ?_⟩
        refine r_aload_n (pc := 36) C (i := 0) dX10_clearUp_36 rfl rfl ?_
        refine r_iload_n (pc := 37) C (i := 2) dX10_clearUp_37 rfl rfl ?_
        refine r_iconst (pc := 38) C (v := 5) dX10_clearUp_38 (by decide) ?_
        refine r_aload_n (pc := 39) C (i := 0) dX10_clearUp_39 rfl rfl ?_
        refine r_iload_n (pc := 40) C (i := 2) dX10_clearUp_40 rfl rfl ?_
        refine r_iconst (pc := 41) C (v := 5) dX10_clearUp_41 (by decide) ?_
        obtain ⟨q8, hq8, h⟩ := bnd h
        refine r_callVp_CI (Cn := RX10) (pc := 42) C [.int v4, .int (5 : Int32)] (c_X10_of E l k a q7 v4 (5 : Int32) hq8) [0, 1, 2, 3, 4, 5, 6, 7, 8, 9, 10, 11, 12] rfl (by decide) 0 rfl rfl rfl g_X10_123 hd_X10_of ⟨Nat.le_of_ble_eq_true rfl, Nat.le_of_ble_eq_true rfl⟩ ⟨Nat.zero_le _, Nat.zero_le _⟩ (Nat.le_of_ble_eq_true rfl) rfl dX10_clearUp_42 (fun r hr => ?_)
        have hr := hr.symm
        subst hr
        refine r_iconst (pc := 45) C (v := 1) dX10_clearUp_45 (by decide) ?_
        refine r_iadd (pc := 46) C dX10_clearUp_46 ?_
        obtain ⟨q9, hq9, h⟩ := bnd h
        refine r_callV_CV (Cn := RX10) (pc := 47) C [.int v4, .int (5 : Int32), .int (q8 + (1 : Int32))] (c_X10_put E l k a q7 v4 (5 : Int32) (q8 + (1 : Int32)) hq9) [0, 1, 2, 3, 4, 5, 6, 7, 8, 9, 10, 11, 12] rfl (by decide) 0 rfl rfl rfl g_X10_147 hd_X10_put ⟨Nat.le_of_ble_eq_true rfl, Nat.le_of_ble_eq_true rfl⟩ ⟨Nat.zero_le _, Nat.zero_le _⟩ (Nat.le_of_ble_eq_true rfl) rfl dX10_clearUp_47 (fun w1 hw1 => ?_)
        subst hw1
        refine ⟨(wMd E a q9), by rfl, ?_⟩
        refine r_aload_n (pc := 50) C (i := 0) dX10_clearUp_50 rfl rfl ?_
        refine r_iload_n (pc := 51) C (i := 2) dX10_clearUp_51 rfl rfl ?_
        refine r_iconst (pc := 52) C (v := 5) dX10_clearUp_52 (by decide) ?_
        obtain ⟨q10, hq10, h⟩ := bnd h
        refine r_callVp_CI (Cn := RX10) (pc := 53) C [.int v4, .int (5 : Int32)] (c_X10_of E l k a q9 v4 (5 : Int32) hq10) [0, 1, 2, 3, 4, 5, 6, 7, 8, 9, 10, 11, 12] rfl (by decide) 0 rfl rfl rfl g_X10_123 hd_X10_of ⟨Nat.le_of_ble_eq_true rfl, Nat.le_of_ble_eq_true rfl⟩ ⟨Nat.zero_le _, Nat.zero_le _⟩ (Nat.le_of_ble_eq_true rfl) rfl dX10_clearUp_53 (fun r hr => ?_)
        have hr := hr.symm
        subst hr
        refine r_aload_n (pc := 56) C (i := 0) dX10_clearUp_56 rfl rfl ?_
        refine r_iconst (pc := 57) C (v := 1) dX10_clearUp_57 (by decide) ?_
        obtain ⟨q11, hq11, h⟩ := bnd h
        refine r_callVp_CI (Cn := RX10) (pc := 58) C [.int (1 : Int32)] (c_X10_told E l k a q9 (1 : Int32) hq11) [0, 1, 2, 3, 4, 5, 6, 7, 8, 9, 10, 11, 12] rfl (by decide) 0 rfl rfl rfl g_X10_162 hd_X10_told ⟨Nat.le_of_ble_eq_true rfl, Nat.le_of_ble_eq_true rfl⟩ ⟨Nat.zero_le _, Nat.zero_le _⟩ (Nat.le_of_ble_eq_true rfl) rfl dX10_clearUp_58 (fun r hr => ?_)
        have hr := hr.symm
        subst hr
        refine r_icmp_le (pc := 61) C (tgt := 73) dX10_clearUp_61 rfl (fun c12 => ?_) (fun c12 => ?_)
        · rw [if_pos c12] at h
          refine r_aload_n (pc := 73) C (i := 0) dX10_clearUp_73 rfl rfl ?_
          refine r_iload_n (pc := 74) C (i := 2) dX10_clearUp_74 rfl rfl ?_
          obtain ⟨q13, hq13, h⟩ := bnd h
          refine r_callV_CV (Cn := RX10) (pc := 75) C [.int v4] (c_X10_route E l k a q9 v4 hq13) [0, 1, 2, 3, 4, 5, 6, 7, 8, 9, 10, 11, 12] rfl (by decide) 0 rfl rfl rfl g_X10_158 hd_X10_route ⟨Nat.le_of_ble_eq_true rfl, Nat.le_of_ble_eq_true rfl⟩ ⟨Nat.zero_le _, Nat.zero_le _⟩ (Nat.le_of_ble_eq_true rfl) rfl dX10_clearUp_75 (fun w1 hw1 => ?_)
          subst hw1
          refine ⟨(wMd E a q13), by rfl, ?_⟩
          refine r_aload_n (pc := 78) C (i := 0) dX10_clearUp_78 rfl rfl ?_
          refine r_iload_n (pc := 79) C (i := 1) dX10_clearUp_79 rfl rfl ?_
          obtain ⟨q14, hq14, h⟩ := bnd h
          refine r_callV_CV (Cn := RX10) (pc := 80) C [.int x1] (c_X10_routeAll E l k a q13 x1 hq14) [0, 1, 2, 3, 4, 5, 6, 7, 8, 9, 10, 11, 12] rfl (by decide) 0 rfl rfl rfl g_X10_181 hd_X10_routeAll ⟨Nat.le_of_ble_eq_true rfl, Nat.le_of_ble_eq_true rfl⟩ ⟨Nat.zero_le _, Nat.zero_le _⟩ (Nat.le_of_ble_eq_true rfl) rfl dX10_clearUp_80 (fun w1 hw1 => ?_)
          subst hw1
          refine ⟨(wMd E a q14), by rfl, ?_⟩
          refine r_iinc (pc := 83) C (v := (x1 + 1)) dX10_clearUp_83 rfl rfl (by decide) rfl ?_
          refine r_goto (pc := 86) C (tgt := 2) dX10_clearUp_86 rfl ?_
          refine r_weak (lSub_s (lSub_s (lSub_n lSub_e))) ?_
          exact ih (x1 + 1) q14 q  h hq
        · rw [if_neg c12] at h
          refine r_aload_n (pc := 64) C (i := 0) dX10_clearUp_64 rfl rfl ?_
          refine r_iload_n (pc := 65) C (i := 2) dX10_clearUp_65 rfl rfl ?_
          refine r_iconst (pc := 66) C (v := 3) dX10_clearUp_66 (by decide) ?_
          obtain ⟨q15, hq15, h⟩ := bnd h
          refine r_callV_CV (Cn := RX10) (pc := 67) C [.int v4, .int (3 : Int32)] (c_X10_end E l k a q9 v4 (3 : Int32) hq15) [0, 1, 2, 3, 4, 5, 6, 7, 8, 9, 10, 11, 12] rfl (by decide) 0 rfl rfl rfl g_X10_172 hd_X10_end ⟨Nat.le_of_ble_eq_true rfl, Nat.le_of_ble_eq_true rfl⟩ ⟨Nat.zero_le _, Nat.zero_le _⟩ (Nat.le_of_ble_eq_true rfl) rfl dX10_clearUp_67 (fun w1 hw1 => ?_)
          subst hw1
          refine ⟨(wMd E a q15), by rfl, ?_⟩
          refine r_goto (pc := 70) C (tgt := 78) dX10_clearUp_70 rfl ?_
          refine r_aload_n (pc := 78) C (i := 0) dX10_clearUp_78 rfl rfl ?_
          refine r_iload_n (pc := 79) C (i := 1) dX10_clearUp_79 rfl rfl ?_
          obtain ⟨q16, hq16, h⟩ := bnd h
          refine r_callV_CV (Cn := RX10) (pc := 80) C [.int x1] (c_X10_routeAll E l k a q15 x1 hq16) [0, 1, 2, 3, 4, 5, 6, 7, 8, 9, 10, 11, 12] rfl (by decide) 0 rfl rfl rfl g_X10_181 hd_X10_routeAll ⟨Nat.le_of_ble_eq_true rfl, Nat.le_of_ble_eq_true rfl⟩ ⟨Nat.zero_le _, Nat.zero_le _⟩ (Nat.le_of_ble_eq_true rfl) rfl dX10_clearUp_80 (fun w1 hw1 => ?_)
          subst hw1
          refine ⟨(wMd E a q16), by rfl, ?_⟩
          refine r_iinc (pc := 83) C (v := (x1 + 1)) dX10_clearUp_83 rfl rfl (by decide) rfl ?_
          refine r_goto (pc := 86) C (tgt := 2) dX10_clearUp_86 rfl ?_
          refine r_weak (lSub_s (lSub_s (lSub_n lSub_e))) ?_
          exact ih (x1 + 1) q16 q  h hq
      · rw [if_pos c5] at h
        refine r_goto (pc := 22) C (tgt := 83) dX10_clearUp_22 rfl ?_
        refine r_iinc (pc := 83) C (v := (x1 + 1)) dX10_clearUp_83 rfl rfl (by decide) rfl ?_
        refine r_goto (pc := 86) C (tgt := 2) dX10_clearUp_86 rfl ?_
        refine r_weak (lSub_s (lSub_s (lSub_n lSub_e))) ?_
        exact ih (x1 + 1) S q  h hq
def M_X10_clearUp_0 (k : Nat) (S : Nat → Nat → Int32) : Option ((Nat → Nat → Int32)) := M_X10_clearUp_2 k k (0 : Int32) S
set_option maxRecDepth 100000 in
set_option maxHeartbeats 4000000 in
theorem N_X10_clearUp_0 (C : CX E p l s m args meth c cX10_clearUp 3 RX10 none A) (a : Nat → Nat) (k : Nat) {post : va_W → Prop} :
    ∀ (S : Nat → Nat → Int32) (q : (Nat → Nat → Int32)), M_X10_clearUp_0 k S = some q → post (wMd E a q) →
      WW E p l e rm_X10_clearUp s m args below meth c A 0 0 (QV E below post args s rm_X10_clearUp A) (wMd E a S) 3 [some (.ref (a 0)), none, none] 0 [] := by
  intro S q  h hq
  unfold M_X10_clearUp_0 at h
  refine r_iconst (pc := 0) C (v := 0) dX10_clearUp_0 (by decide) ?_
  refine r_istore_n (pc := 1) C (i := 1) dX10_clearUp_1 rfl (by decide) rfl ?_
  refine r_weak (lSub_s (lSub_s (lSub_n lSub_e))) ?_
  exact N_X10_clearUp_2 C a k k (0 : Int32) S q  h hq
def M_X10_clearUp (k : Nat) (S : Nat → Nat → Int32) : Option ((Nat → Nat → Int32)) := M_X10_clearUp_0 k S
set_option maxRecDepth 100000 in
set_option maxHeartbeats 4000000 in
theorem c_X10_clearUp (E : ENV) (l : Launch) (k : Nat) (a : Nat → Nat) (S : Nat → Nat → Int32) {q : (Nat → Nat → Int32)} (hm : M_X10_clearUp k S = some q) : CV E l yX10_clearUp cX10_clearUp 3 none rm_X10_clearUp [.ref (a 0)] (wMd E a S) (fun w' => w' = (wMd E a q)) :=
  CV.of 2 (by decide) (Nat.le_of_ble_eq_true rfl) (fun p e s m below meth c A C _ => r_weak (lSub_s (lSub_n (lSub_n lSub_e))) (N_X10_clearUp_0 C a k S q  hm rfl))
-- ShardGuardModel.refuseAll(I)V
theorem dX10_refuseAll_0 : decode cX10_refuseAll 0 = .ok (.iconst 0, 1) := by decide +kernel
theorem dX10_refuseAll_1 : decode cX10_refuseAll 1 = .ok (.istore_n 2, 1) := by decide +kernel
theorem dX10_refuseAll_2 : decode cX10_refuseAll 2 = .ok (.iload_n 2, 1) := by decide +kernel
theorem dX10_refuseAll_3 : decode cX10_refuseAll 3 = .ok (.aload_n 0, 1) := by decide +kernel
theorem dX10_refuseAll_4 : decode cX10_refuseAll 4 = .ok (.invokevirtual 117, 3) := by decide +kernel
theorem dX10_refuseAll_7 : decode cX10_refuseAll 7 = .ok (.if_icmp .ge 35, 3) := by decide +kernel
theorem dX10_refuseAll_10 : decode cX10_refuseAll 10 = .ok (.aload_n 0, 1) := by decide +kernel
theorem dX10_refuseAll_11 : decode cX10_refuseAll 11 = .ok (.iload_n 2, 1) := by decide +kernel
theorem dX10_refuseAll_12 : decode cX10_refuseAll 12 = .ok (.iconst 0, 1) := by decide +kernel
theorem dX10_refuseAll_13 : decode cX10_refuseAll 13 = .ok (.invokevirtual 123, 3) := by decide +kernel
theorem dX10_refuseAll_16 : decode cX10_refuseAll 16 = .ok (.iload_n 1, 1) := by decide +kernel
theorem dX10_refuseAll_17 : decode cX10_refuseAll 17 = .ok (.if_icmp .ne 19, 3) := by decide +kernel
theorem dX10_refuseAll_20 : decode cX10_refuseAll 20 = .ok (.aload_n 0, 1) := by decide +kernel
theorem dX10_refuseAll_21 : decode cX10_refuseAll 21 = .ok (.iload_n 2, 1) := by decide +kernel
theorem dX10_refuseAll_22 : decode cX10_refuseAll 22 = .ok (.iconst 4, 1) := by decide +kernel
theorem dX10_refuseAll_23 : decode cX10_refuseAll 23 = .ok (.invokevirtual 123, 3) := by decide +kernel
theorem dX10_refuseAll_26 : decode cX10_refuseAll 26 = .ok (.iconst 1, 1) := by decide +kernel
theorem dX10_refuseAll_27 : decode cX10_refuseAll 27 = .ok (.if_icmp .gt 9, 3) := by decide +kernel
theorem dX10_refuseAll_30 : decode cX10_refuseAll 30 = .ok (.aload_n 0, 1) := by decide +kernel
theorem dX10_refuseAll_31 : decode cX10_refuseAll 31 = .ok (.iload_n 2, 1) := by decide +kernel
theorem dX10_refuseAll_32 : decode cX10_refuseAll 32 = .ok (.iconst 4, 1) := by decide +kernel
theorem dX10_refuseAll_33 : decode cX10_refuseAll 33 = .ok (.invokevirtual 172, 3) := by decide +kernel
theorem dX10_refuseAll_36 : decode cX10_refuseAll 36 = .ok (.iinc 2 1, 3) := by decide +kernel
theorem dX10_refuseAll_39 : decode cX10_refuseAll 39 = .ok (.goto (-37), 3) := by decide +kernel
theorem dX10_refuseAll_42 : decode cX10_refuseAll 42 = .ok (.return_, 1) := by decide +kernel
def rm_X10_refuseAll : Room := { frames := 3, cells := 0, slots := 0, locals := 66 }
def M_X10_refuseAll_2 (k : Nat) : Nat → (Int32) → (Int32) → (Nat → Nat → Int32) → Option ((Nat → Nat → Int32))
  | 0, _, _, _ => none
  | n + 1, x1, x2, S => (M_X10_requests k S).bind fun q1 => if q1 ≤ x2 then (some S) else ((M_X10_of k S x2 (0 : Int32)).bind fun q3 => if q3 = x1 then ((M_X10_of k S x2 (4 : Int32)).bind fun q5 => if (1 : Int32) < q5 then (M_X10_refuseAll_2 k n x1 (x2 + 1) S) else ((M_X10_end k S x2 (4 : Int32)).bind fun q7 => M_X10_refuseAll_2 k n x1 (x2 + 1) q7)) else (M_X10_refuseAll_2 k n x1 (x2 + 1) S))
theorem M_X10_refuseAll_2_s (k : Nat) (n : Nat) (x1 : Int32) (x2 : Int32) (S : Nat → Nat → Int32) : M_X10_refuseAll_2 k (n + 1) x1 x2 S = ((M_X10_requests k S).bind fun q1 => if q1 ≤ x2 then (some S) else ((M_X10_of k S x2 (0 : Int32)).bind fun q3 => if q3 = x1 then ((M_X10_of k S x2 (4 : Int32)).bind fun q5 => if (1 : Int32) < q5 then (M_X10_refuseAll_2 k n x1 (x2 + 1) S) else ((M_X10_end k S x2 (4 : Int32)).bind fun q7 => M_X10_refuseAll_2 k n x1 (x2 + 1) q7)) else (M_X10_refuseAll_2 k n x1 (x2 + 1) S))) := rfl
set_option maxRecDepth 100000 in
set_option maxHeartbeats 4000000 in
theorem N_X10_refuseAll_2 (C : CX E p l s m args meth c cX10_refuseAll 3 RX10 none A) (a : Nat → Nat) (k : Nat) {post : va_W → Prop} :
    ∀ (n : Nat) (x1 : Int32) (x2 : Int32) (S : Nat → Nat → Int32) (q : (Nat → Nat → Int32)), M_X10_refuseAll_2 k n x1 x2 S = some q → post (wMd E a q) →
      WW E p l e rm_X10_refuseAll s m args below meth c A 0 0 (QV E below post args s rm_X10_refuseAll A) (wMd E a S) 3 [some (.ref (a 0)), some (.int x1), some (.int x2)] 2 [] := by
  intro n
  induction n with
  | zero => intro x1 x2 S q  h _; cases h
  | succ n ih =>
    intro x1 x2 S q  h hq
    rw [M_X10_refuseAll_2_s] at h
    refine r_iload_n (pc := 2) C (i := 2) dX10_refuseAll_2 rfl rfl ?_
    refine r_aload_n (pc := 3) C (i := 0) dX10_refuseAll_3 rfl rfl ?_
    obtain ⟨q1, hq1, h⟩ := bnd h
    refine r_callVp_CI (Cn := RX10) (pc := 4) C [] (c_X10_requests E l k a S hq1) [0, 1, 2, 3, 4, 5, 6, 7, 8, 9, 10, 11, 12] rfl (by decide) 0 rfl rfl rfl g_X10_117 hd_X10_requests ⟨Nat.le_of_ble_eq_true rfl, Nat.le_of_ble_eq_true rfl⟩ ⟨Nat.zero_le _, Nat.zero_le _⟩ (Nat.le_of_ble_eq_true rfl) rfl dX10_refuseAll_4 (fun r hr => ?_)
    have hr := hr.symm
    subst hr
    refine r_icmp_ge (pc := 7) C (tgt := 42) dX10_refuseAll_7 rfl (fun c2 => ?_) (fun c2 => ?_)
    · rw [if_pos c2] at h
      cases h
      exact r_vret (pc := 42) C hq (Nat.zero_le _) (Nat.zero_le _) dX10_refuseAll_42
    · rw [if_neg c2] at h
      refine r_aload_n (pc := 10) C (i := 0) dX10_refuseAll_10 rfl rfl ?_
      refine r_iload_n (pc := 11) C (i := 2) dX10_refuseAll_11 rfl rfl ?_
      refine r_iconst (pc := 12) C (v := 0) dX10_refuseAll_12 (by decide) ?_
      obtain ⟨q3, hq3, h⟩ := bnd h
      refine r_callVp_CI (Cn := RX10) (pc := 13) C [.int x2, .int (0 : Int32)] (c_X10_of E l k a S x2 (0 : Int32) hq3) [0, 1, 2, 3, 4, 5, 6, 7, 8, 9, 10, 11, 12] rfl (by decide) 0 rfl rfl rfl g_X10_123 hd_X10_of ⟨Nat.le_of_ble_eq_true rfl, Nat.le_of_ble_eq_true rfl⟩ ⟨Nat.zero_le _, Nat.zero_le _⟩ (Nat.le_of_ble_eq_true rfl) rfl dX10_refuseAll_13 (fun r hr => ?_)
      have hr := hr.symm
      subst hr
      refine r_iload_n (pc := 16) C (i := 1) dX10_refuseAll_16 rfl rfl ?_
      refine r_icmp_ne (pc := 17) C (tgt := 36) dX10_refuseAll_17 rfl (fun c4 => ?_) (fun c4 => ?_)
      · rw [if_neg c4] at h
        refine r_iinc (pc := 36) C (v := (x2 + 1)) dX10_refuseAll_36 rfl rfl (by decide) rfl ?_
        refine r_goto (pc := 39) C (tgt := 2) dX10_refuseAll_39 rfl ?_
        refine r_weak (lSub_s (lSub_s (lSub_s lSub_e))) ?_
        exact ih x1 (x2 + 1) S q  h hq
      · rw [if_pos c4] at h
        refine r_aload_n (pc := 20) C (i := 0) dX10_refuseAll_20 rfl rfl ?_
        refine r_iload_n (pc := 21) C (i := 2) dX10_refuseAll_21 rfl rfl ?_
        refine r_iconst (pc := 22) C (v := 4) dX10_refuseAll_22 (by decide) ?_
        obtain ⟨q5, hq5, h⟩ := bnd h
        refine r_callVp_CI (Cn := RX10) (pc := 23) C [.int x2, .int (4 : Int32)] (c_X10_of E l k a S x2 (4 : Int32) hq5) [0, 1, 2, 3, 4, 5, 6, 7, 8, 9, 10, 11, 12] rfl (by decide) 0 rfl rfl rfl g_X10_123 hd_X10_of ⟨Nat.le_of_ble_eq_true rfl, Nat.le_of_ble_eq_true rfl⟩ ⟨Nat.zero_le _, Nat.zero_le _⟩ (Nat.le_of_ble_eq_true rfl) rfl dX10_refuseAll_23 (fun r hr => ?_)
        have hr := hr.symm
        subst hr
        refine r_iconst (pc := 26) C (v := 1) dX10_refuseAll_26 (by decide) ?_
        refine r_icmp_gt (pc := 27) C (tgt := 36) dX10_refuseAll_27 rfl (fun c6 => ?_) (fun c6 => ?_)
        · rw [if_pos c6] at h
          refine r_iinc (pc := 36) C (v := (x2 + 1)) dX10_refuseAll_36 rfl rfl (by decide) rfl ?_
          refine r_goto (pc := 39) C (tgt := 2) dX10_refuseAll_39 rfl ?_
          refine r_weak (lSub_s (lSub_s (lSub_s lSub_e))) ?_
          exact ih x1 (x2 + 1) S q  h hq
        · rw [if_neg c6] at h
          refine r_aload_n (pc := 30) C (i := 0) dX10_refuseAll_30 rfl rfl ?_
          refine r_iload_n (pc := 31) C (i := 2) dX10_refuseAll_31 rfl rfl ?_
          refine r_iconst (pc := 32) C (v := 4) dX10_refuseAll_32 (by decide) ?_
          obtain ⟨q7, hq7, h⟩ := bnd h
          refine r_callV_CV (Cn := RX10) (pc := 33) C [.int x2, .int (4 : Int32)] (c_X10_end E l k a S x2 (4 : Int32) hq7) [0, 1, 2, 3, 4, 5, 6, 7, 8, 9, 10, 11, 12] rfl (by decide) 0 rfl rfl rfl g_X10_172 hd_X10_end ⟨Nat.le_of_ble_eq_true rfl, Nat.le_of_ble_eq_true rfl⟩ ⟨Nat.zero_le _, Nat.zero_le _⟩ (Nat.le_of_ble_eq_true rfl) rfl dX10_refuseAll_33 (fun w1 hw1 => ?_)
          subst hw1
          refine ⟨(wMd E a q7), by rfl, ?_⟩
          refine r_iinc (pc := 36) C (v := (x2 + 1)) dX10_refuseAll_36 rfl rfl (by decide) rfl ?_
          refine r_goto (pc := 39) C (tgt := 2) dX10_refuseAll_39 rfl ?_
          refine r_weak (lSub_s (lSub_s (lSub_s lSub_e))) ?_
          exact ih x1 (x2 + 1) q7 q  h hq
def M_X10_refuseAll_0 (k : Nat) (p0 : Int32) (S : Nat → Nat → Int32) : Option ((Nat → Nat → Int32)) := M_X10_refuseAll_2 k k p0 (0 : Int32) S
set_option maxRecDepth 100000 in
set_option maxHeartbeats 4000000 in
theorem N_X10_refuseAll_0 (C : CX E p l s m args meth c cX10_refuseAll 3 RX10 none A) (a : Nat → Nat) (k : Nat) {post : va_W → Prop} :
    ∀ (p0 : Int32) (S : Nat → Nat → Int32) (q : (Nat → Nat → Int32)), M_X10_refuseAll_0 k p0 S = some q → post (wMd E a q) →
      WW E p l e rm_X10_refuseAll s m args below meth c A 0 0 (QV E below post args s rm_X10_refuseAll A) (wMd E a S) 3 [some (.ref (a 0)), some (.int p0), none] 0 [] := by
  intro p0 S q  h hq
  unfold M_X10_refuseAll_0 at h
  refine r_iconst (pc := 0) C (v := 0) dX10_refuseAll_0 (by decide) ?_
  refine r_istore_n (pc := 1) C (i := 2) dX10_refuseAll_1 rfl (by decide) rfl ?_
  refine r_weak (lSub_s (lSub_s (lSub_s lSub_e))) ?_
  exact N_X10_refuseAll_2 C a k k p0 (0 : Int32) S q  h hq
def M_X10_refuseAll (k : Nat) (S : Nat → Nat → Int32) (p0 : Int32) : Option ((Nat → Nat → Int32)) := M_X10_refuseAll_0 k p0 S
set_option maxRecDepth 100000 in
set_option maxHeartbeats 4000000 in
theorem c_X10_refuseAll (E : ENV) (l : Launch) (k : Nat) (a : Nat → Nat) (S : Nat → Nat → Int32) (p0 : Int32) {q : (Nat → Nat → Int32)} (hm : M_X10_refuseAll k S p0 = some q) : CV E l yX10_refuseAll cX10_refuseAll 3 none rm_X10_refuseAll [.ref (a 0), .int p0] (wMd E a S) (fun w' => w' = (wMd E a q)) :=
  CV.of 1 (by decide) (Nat.le_of_ble_eq_true rfl) (fun p e s m below meth c A C _ => r_weak (lSub_s (lSub_s (lSub_n lSub_e))) (N_X10_refuseAll_0 C a k p0 S q  hm rfl))
end WALKS
